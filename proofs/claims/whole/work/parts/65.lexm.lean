/-! tokens of the reference -/
def bA (B : Nat → Nat) (T p : Nat) : Int32 := if T ≤ p then -n3 4 else n3 (B p)
def MT (B : Nat → Nat) (T p : Nat) (μ : fm_M) : Prop := TM B T μ ∧ μ.1 232 15 = n3 0 ∧ μ.1 232 17 = n3 (lxE B T p) ∧ μ.1 232 18 = n3 (lxS B T p) ∧ μ.1 232 19 = n3 (lxK B T p) ∧ (lxK B T p = 2 → μ.1 232 20 = n3 (lxV B T p))
def nvM (B : Nat → Nat) (st p : Nat) (x : Int32) : Prop := (p = st → x = n3 0) ∧ (p = st + 1 → x = n3 (B st - 48)) ∧ (st + 2 ≤ p → x = n3 (10 * (B st - 48) + (B (st + 1) - 48)))
section VS65
variable {F : Nat} {μ ν : fm_M} {a b : Nat → Nat} {w : Nat} {B : Nat → Nat} {T p : Nat}
theorem m_byte (hT : T ≤ 160) (hp : p ≤ T) (ht : TM B T μ) : f_X9_byteAt F (n3 p) μ = some (bA B T p, μ) := by
  unfold f_X9_byteAt bA
  rw [ht.1]
  by_cases c : T ≤ p
  · rw [if_pos (by rw [n3_le (by omega) (by omega)]; exact c), if_pos c, n3_k4]
  · rw [if_neg (by rw [n3_le (by omega) (by omega)]; exact c), if_neg c, if_pos (n3_in (by omega) (by omega)), n3_cl (by omega), ht.2 p (by omega)]
theorem m_inB {l u : Nat} (hB : ∀ i, i < T → B i < 128) (hl : l < 1000) (hu : u < 1000) : f_X9_in F (bA B T p).toInt64 (Int64.ofNat l) (Int64.ofNat u) μ = some (n3 (bi (decide (p < T ∧ l ≤ B p ∧ B p ≤ u))), μ) := by
  unfold bA
  by_cases c : T ≤ p
  · rw [if_pos c, decide_eq_false (by omega)]
    refine m_in0 (.inl ?_)
    rw [Int32.toInt_toInt64, nn_int (by omega), l_of (by omega)]; omega
  · have hb := hB p (by omega)
    rw [if_neg c]
    by_cases c2 : l ≤ B p ∧ B p ≤ u
    · rw [decide_eq_true (by omega)]; exact m_inT c2.1 c2.2 (by omega)
    · rw [decide_eq_false (by omega)]; exact m_inF (by omega) (by omega) (by omega) (by omega)
theorem bA_n {c : Nat} (hB : ∀ i, i < T → B i < 128) (hc : c < 1000) : (bA B T p = n3 c) = (p < T ∧ B p = c) := by
  unfold bA
  by_cases h : T ≤ p
  · rw [if_pos h, nn_eq (by omega) (by omega) (by omega)]
    exact (eq_false (by omega)).symm
  · have hb := hB p (by omega)
    rw [if_neg h, n3_eq (by omega) (by omega), eq_iff_iff]
    constructor
    · intro q; exact ⟨by omega, q⟩
    · intro q; exact q.2
theorem bA_4 (hB : ∀ i, i < T → B i < 128) : (bA B T p = -4) = (T ≤ p) := by
  unfold bA
  rw [show (-4 : Int32) = -n3 4 by decide]
  by_cases h : T ≤ p
  · rw [if_pos h]; exact (eq_self _).trans (eq_true h).symm
  · have hb := hB p (by omega)
    rw [if_neg h, nn_qe (by omega) (by omega) (by omega)]; exact (eq_false h).symm
theorem m_blanks (hT : T ≤ 160) (hB : ∀ i, i < T → B i < 128) : ∀ (k p f : Nat) (μ : fm_M), p + k = T → k < f → TM B T μ → μ.1 232 17 = n3 p → ∃ ν f', g_X9_step F f 8 μ = g_X9_step F (f' + 1) 8 ν ∧ f ≤ f' + 1 + k ∧ ν.1 232 17 = n3 (rn isB B T k p) ∧ Ch (fun q j => q = 232 ∧ j = 17) noA μ ν
  | 0, p, f + 1, μ, hk, _, ht, h17 => ⟨μ, f, rfl, by omega, h17, Ch.refl _ _ μ⟩
  | k + 1, p, f + 1, μ, hk, hf, ht, h17 => by
    rw [rn]
    by_cases c : B p = 32
    · have c1 : Ch (fun q j => q = 232 ∧ j = 17) noA μ (fm_sI μ 232 17 (n3 (p + 1))) := (Ch.refl _ _ μ).sI ⟨rfl, rfl⟩
      obtain ⟨ν, f', r1, r2, r3, r4⟩ := m_blanks hT hB k (p + 1) f (fm_sI μ 232 17 (n3 (p + 1))) (by omega) (by omega) (ht.ch c1 (by omega) (fun _ => id)) (fm_sI_eq ⟨rfl, rfl⟩)
      refine ⟨ν, f', ?_, by omega, by rw [if_pos ⟨by omega, decide_eq_true c⟩]; exact r3, c1.trans r4⟩
      rw [← r1, g_X9_step, if_pos rfl, b_X9_step_8, h17, m_byte hT (by omega) ht, Option.bind_some, show (32 : Int32) = n3 32 from n3_lit 32]
      dsimp only
      rw [if_neg (by rw [bA_n hB (by omega)]; exact fun q => q ⟨by omega, c⟩), h17, Option.bind_some, n3_one, n3_add]
    · exact ⟨μ, f, rfl, by omega, by rw [if_neg (fun q => c (of_decide_eq_true q.2))]; exact h17, Ch.refl _ _ μ⟩
theorem m_letters (hT : T ≤ 160) (hB : ∀ i, i < T → B i < 128) : ∀ (k p f : Nat) (μ : fm_M), p + k = T → k < f → TM B T μ → μ.1 232 17 = n3 p → ∃ ν, g_X9_step F f 84 μ = some ((), ν) ∧ ν.1 232 17 = n3 (rn isL B T k p) ∧ ν.1 232 19 = n3 1 ∧ Ch (fun q j => q = 232 ∧ (j = 17 ∨ j = 19)) noA μ ν := by
  have stop : ∀ (p f : Nat) (μ : fm_M), p ≤ T → TM B T μ → μ.1 232 17 = n3 p → ¬ (p < T ∧ isL (B p) = true) → ∃ ν, g_X9_step F (f + 1) 84 μ = some ((), ν) ∧ ν.1 232 17 = n3 p ∧ ν.1 232 19 = n3 1 ∧ Ch (fun q j => q = 232 ∧ (j = 17 ∨ j = 19)) noA μ ν := by
    intro p f μ hp ht h17 hn
    refine ⟨fm_sI μ 232 19 (n3 1), ?_, by rw [fm_sI_ne (by omega)]; exact h17, fm_sI_eq ⟨rfl, rfl⟩, (Ch.refl _ _ μ).sI (by omega)⟩
    rw [g_X9_step, if_neg (by decide), if_pos rfl, b_X9_step_84, h17, m_byte hT hp ht, Option.bind_some]
    dsimp only
    rw [m_inB hB (by omega) (by omega), Option.bind_some, decide_eq_false (fun q => hn ⟨q.1, decide_eq_true q.2⟩)]
    dsimp only
    rw [if_pos (show n3 (bi false) = 0 by decide), n3_one]
    rfl
  intro k
  induction k with
  | zero =>
    intro p f μ hk hf ht h17
    obtain ⟨f, rfl⟩ : ∃ q, f = q + 1 := ⟨f - 1, by omega⟩
    exact stop p f μ (by omega) ht h17 (by omega)
  | succ k ih =>
    intro p f μ hk hf ht h17
    obtain ⟨f, rfl⟩ : ∃ q, f = q + 1 := ⟨f - 1, by omega⟩
    by_cases c : isL (B p) = true
    · have er : rn isL B T (k + 1) p = rn isL B T k (p + 1) := by rw [rn, if_pos ⟨by omega, c⟩]
      have c1 : Ch (fun q j => q = 232 ∧ (j = 17 ∨ j = 19)) noA μ (fm_sI μ 232 17 (n3 (p + 1))) := (Ch.refl _ _ μ).sI (by omega)
      obtain ⟨ν, r1, r2, r3, r4⟩ := ih (p + 1) f (fm_sI μ 232 17 (n3 (p + 1))) (by omega) (by omega) (ht.ch c1 (by omega) (fun _ => id)) (fm_sI_eq ⟨rfl, rfl⟩)
      refine ⟨ν, ?_, by rw [er]; exact r2, r3, c1.trans r4⟩
      rw [← r1, g_X9_step, if_neg (by decide), if_pos rfl, b_X9_step_84, h17, m_byte hT (by omega) ht, Option.bind_some]
      dsimp only
      rw [m_inB hB (by omega) (by omega), Option.bind_some, decide_eq_true (show p < T ∧ 97 ≤ B p ∧ B p ≤ 122 from ⟨by omega, of_decide_eq_true c⟩)]
      dsimp only
      rw [if_neg (show ¬ n3 (bi true) = 0 by decide), h17, Option.bind_some, n3_one, n3_add]
    · have er : rn isL B T (k + 1) p = p := by rw [rn, if_neg (fun q => c q.2)]
      rw [er]
      exact stop p f μ (by omega) ht h17 (fun q => c q.2)
theorem m_figures {st : Nat} (hT : T ≤ 160) (hB : ∀ i, i < T → B i < 128) : ∀ (k p f : Nat) (μ : fm_M), p + k = T → k < f → st ≤ p → (∀ i, st ≤ i → i < p → isF (B i) = true) → TM B T μ → μ.1 232 15 = n3 0 → μ.1 232 17 = n3 p → μ.1 232 18 = n3 st → nvM B st p (μ.1 232 20) → ∃ ν, g_X9_step F f 140 μ = some ((), ν) ∧ ν.1 232 17 = n3 (rn isF B T k p) ∧ ν.1 232 19 = n3 2 ∧ nvM B st (rn isF B T k p) (ν.1 232 20) ∧ (rn isF B T k p - st ≤ 2 → ν.1 232 15 = n3 0) ∧ (2 < rn isF B T k p - st → ν.1 232 15 = n3 1 ∧ ν.1 232 16 = n3 st) ∧ Ch (fun q j => q = 232 ∧ (j = 15 ∨ j = 16 ∨ j = 17 ∨ j = 19 ∨ j = 20)) noA μ ν := by
  have stop : ∀ (p f : Nat) (μ : fm_M), p ≤ T → st ≤ p → TM B T μ → μ.1 232 15 = n3 0 → μ.1 232 17 = n3 p → μ.1 232 18 = n3 st → nvM B st p (μ.1 232 20) → ¬ (p < T ∧ isF (B p) = true) → ∃ ν, g_X9_step F (f + 1) 140 μ = some ((), ν) ∧ ν.1 232 17 = n3 p ∧ ν.1 232 19 = n3 2 ∧ nvM B st p (ν.1 232 20) ∧ (p - st ≤ 2 → ν.1 232 15 = n3 0) ∧ (2 < p - st → ν.1 232 15 = n3 1 ∧ ν.1 232 16 = n3 st) ∧ Ch (fun q j => q = 232 ∧ (j = 15 ∨ j = 16 ∨ j = 17 ∨ j = 19 ∨ j = 20)) noA μ ν := by
    intro p f μ hp hs ht h15 h17 h18 h20 hn
    have start : g_X9_step F (f + 1) 140 μ = (if n3 (p - st) ≤ n3 2 then some ((), fm_sI μ 232 19 (n3 2)) else (Option.bind (f_X9_fails F 1 (fm_sI μ 232 19 (n3 2))) (fun q45 => some ((), q45.2)))) := by
      rw [g_X9_step, if_neg (by decide), if_neg (by decide), if_pos rfl, b_X9_step_140, h17, m_byte hT hp ht, Option.bind_some]
      dsimp only
      rw [m_inB hB (by omega) (by omega), Option.bind_some, decide_eq_false (fun q => hn ⟨q.1, decide_eq_true q.2⟩)]
      dsimp only
      rw [if_pos (show n3 (bi false) = 0 by decide), Option.bind_some, fm_sI_ne (by omega), fm_sI_ne (by omega), h17, h18, n3_sub hs, n3_k2]
    rw [start]
    by_cases c : p - st ≤ 2
    · refine ⟨_, if_pos (by rw [n3_le (by omega) (by omega)]; exact c), ?_, ?_, ?_, fun _ => ?_, fun q => by omega, (Ch.refl _ _ μ).sI (by omega)⟩
      · rw [fm_sI_ne (by omega)]; exact h17
      · exact fm_sI_eq ⟨rfl, rfl⟩
      · rw [fm_sI_ne (by omega)]; exact h20
      · rw [fm_sI_ne (by omega)]; exact h15
    · refine ⟨fm_sI (fm_sI (fm_sI μ 232 19 (n3 2)) 232 15 (n3 1)) 232 16 (n3 st), ?_, ?_, ?_, ?_, fun q => by omega, fun _ => ⟨?_, ?_⟩, (((Ch.refl _ _ μ).sI (by omega)).sI (by omega)).sI (by omega)⟩
      · rw [if_neg (by rw [n3_le (by omega) (by omega)]; exact c)]
        unfold f_X9_fails
        rw [fm_sI_ne (by omega), h15, if_neg (fun q => q rfl), Option.bind_some, fm_sI_ne (by omega), fm_sI_ne (by omega), h18, n3_one]
        rfl
      · simp (disch := omega) only [fm_sI_ne, fm_sI_eq, h17]
      · simp (disch := omega) only [fm_sI_ne, fm_sI_eq]
      · rw [fm_sI_ne (by omega), fm_sI_ne (by omega), fm_sI_ne (by omega)]; exact h20
      · simp (disch := omega) only [fm_sI_ne, fm_sI_eq]
      · simp (disch := omega) only [fm_sI_ne, fm_sI_eq]
  intro k
  induction k with
  | zero =>
    intro p f μ hk hf hs hF ht h15 h17 h18 h20
    obtain ⟨f, rfl⟩ : ∃ q, f = q + 1 := ⟨f - 1, by omega⟩
    exact stop p f μ (by omega) hs ht h15 h17 h18 h20 (by omega)
  | succ k ih =>
    intro p f μ hk hf hs hF ht h15 h17 h18 h20
    obtain ⟨f, rfl⟩ : ∃ q, f = q + 1 := ⟨f - 1, by omega⟩
    by_cases c : isF (B p) = true
    · have er : rn isF B T (k + 1) p = rn isF B T k (p + 1) := by rw [rn, if_pos ⟨by omega, c⟩]
      have cf := of_decide_eq_true c
      rw [er]
      have hFp : ∀ i, st ≤ i → i < p + 1 → isF (B i) = true := fun i h1 h2 => by
        by_cases e : i = p
        · rw [e]; exact c
        · exact hF i h1 (by omega)
      have start : g_X9_step F (f + 1) 140 μ = (if n3 2 ≤ n3 (p - st) then g_X9_step F f 140 (fm_sI (fm_sI μ 232 20 (μ.1 232 20)) 232 17 (n3 (p + 1))) else g_X9_step F f 140 (fm_sI (fm_sI μ 232 20 (n3 10 * μ.1 232 20 + bA B T p - n3 48)) 232 17 (n3 (p + 1)))) := by
        rw [g_X9_step, if_neg (by decide), if_neg (by decide), if_pos rfl, b_X9_step_140, h17, m_byte hT (by omega) ht, Option.bind_some]
        dsimp only
        rw [m_inB hB (by omega) (by omega), Option.bind_some, decide_eq_true (show p < T ∧ 48 ≤ B p ∧ B p ≤ 57 from ⟨by omega, cf⟩)]
        dsimp only
        rw [if_neg (show ¬ n3 (bi true) = 0 by decide), h17, h18, n3_sub hs, n3_k2, m_byte hT (by omega) ht, Option.bind_some, Option.bind_some, Option.bind_some, Option.bind_some, Option.bind_some]
        dsimp only
        rw [fm_sI_ne (by omega), fm_sI_ne (by omega), h17, n3_one, n3_add, n3_k10, show (48 : Int32) = n3 48 from n3_lit 48]
      rw [start]
      have go : ∀ x, nvM B st (p + 1) x → ∃ ν, g_X9_step F f 140 (fm_sI (fm_sI μ 232 20 x) 232 17 (n3 (p + 1))) = some ((), ν) ∧ ν.1 232 17 = n3 (rn isF B T k (p + 1)) ∧ ν.1 232 19 = n3 2 ∧ nvM B st (rn isF B T k (p + 1)) (ν.1 232 20) ∧ (rn isF B T k (p + 1) - st ≤ 2 → ν.1 232 15 = n3 0) ∧ (2 < rn isF B T k (p + 1) - st → ν.1 232 15 = n3 1 ∧ ν.1 232 16 = n3 st) ∧ Ch (fun q j => q = 232 ∧ (j = 15 ∨ j = 16 ∨ j = 17 ∨ j = 19 ∨ j = 20)) noA μ ν := by
        intro x hx
        have c1 : Ch (fun q j => q = 232 ∧ (j = 15 ∨ j = 16 ∨ j = 17 ∨ j = 19 ∨ j = 20)) noA μ (fm_sI (fm_sI μ 232 20 x) 232 17 (n3 (p + 1))) := ((Ch.refl _ _ μ).sI (by omega)).sI (by omega)
        obtain ⟨ν, r1, r2, r3, r4, r5, r6, r7⟩ := ih (p + 1) f (fm_sI (fm_sI μ 232 20 x) 232 17 (n3 (p + 1))) (by omega) (by omega) (by omega) hFp (ht.ch c1 (by omega) (fun _ => id)) (by simp (disch := omega) only [fm_sI_ne, h15]) (fm_sI_eq ⟨rfl, rfl⟩) (by simp (disch := omega) only [fm_sI_ne, h18]) (by rw [fm_sI_ne (by omega), fm_sI_eq ⟨rfl, rfl⟩]; exact hx)
        exact ⟨ν, r1, r2, r3, r4, r5, r6, c1.trans r7⟩
      by_cases c2 : 2 ≤ p - st
      · rw [if_pos (by rw [n3_le (by omega) (by omega)]; exact c2)]
        exact go _ ⟨fun q => by omega, fun q => by omega, fun q => h20.2.2 (by omega)⟩
      · rw [if_neg (by rw [n3_le (by omega) (by omega)]; exact c2)]
        refine go _ ⟨fun q => by omega, fun q => ?_, fun q => ?_⟩
        · have e : bA B T p = n3 (B p) := if_neg (by omega)
          rw [e, h20.1 (by omega), n3_mul, n3_add, n3_sub (by omega), show p = st by omega]
          congr 1
          omega
        · have e : bA B T p = n3 (B p) := if_neg (by omega)
          rw [e, h20.2.1 (by omega), n3_mul, n3_add, n3_sub (by omega), show p = st + 1 by omega]
          congr 1
          have := of_decide_eq_true (hFp (st + 1) (by omega) (by omega))
          omega
    · have er : rn isF B T (k + 1) p = p := by rw [rn, if_neg (fun q => c q.2)]
      rw [er]
      exact stop p f μ (by omega) hs ht h15 h17 h18 h20 (fun q => c q.2)
theorem m_step (hT : T ≤ 160) (hB : ∀ i, i < T → B i < 128) (hp : p ≤ T) (ht : TM B T μ) (h15 : μ.1 232 15 = n3 0) (h17 : μ.1 232 17 = n3 p) (hF : 1000 < F) : ∃ ν, f_X9_step F μ = some ((), ν) ∧ (¬ lxF B T p → MT B T p ν) ∧ (lxF B T p → ν.1 232 15 = n3 1 ∧ ν.1 232 16 = n3 (lxS B T p)) ∧ Ch tkM noA μ ν := by
  obtain ⟨m1, f', q1, q2, q3, q4⟩ := m_blanks (F := F) hT hB (T - p) p F μ (by omega) (by omega) ht h17
  have q3 : m1.1 232 17 = n3 (lxS B T p) := q3
  have sl := lxS_le (B := B) hp
  have c1 : Ch tkM noA μ m1 := q4.weak (fun q j c => by unfold tkM; omega) (fun _ _ c => c)
  have t1 : TM B T m1 := ht.ch c1 (by unfold tkM; omega) (fun _ => id)
  have n32 : ¬ bA B T (lxS B T p) = n3 32 := by
    rw [bA_n hB (by omega)]
    intro q
    exact rn_stop isB B T (T - p) p (by omega) ⟨q.1, decide_eq_true q.2⟩
  generalize hm2 : fm_sI (fm_sI m1 232 18 (n3 (lxS B T p))) 232 20 (n3 0) = m2
  have c2 : Ch tkM noA m1 m2 := by rw [← hm2]; exact ((Ch.refl _ _ m1).sI (by unfold tkM; omega)).sI (by unfold tkM; omega)
  have t2 : TM B T m2 := t1.ch c2 (by unfold tkM; omega) (fun _ => id)
  have f15 : m2.1 232 15 = n3 0 := by rw [← hm2, fm_sI_ne (by omega), fm_sI_ne (by omega), q4.1 232 15 (by omega)]; exact h15
  have f17 : m2.1 232 17 = n3 (lxS B T p) := by rw [← hm2, fm_sI_ne (by omega), fm_sI_ne (by omega)]; exact q3
  have f18 : m2.1 232 18 = n3 (lxS B T p) := by rw [← hm2, fm_sI_ne (by omega)]; exact fm_sI_eq ⟨rfl, rfl⟩
  have f20 : m2.1 232 20 = n3 0 := by rw [← hm2]; exact fm_sI_eq ⟨rfl, rfl⟩
  have start : f_X9_step F μ = (if ¬ bA B T (lxS B T p) = (-4) then (Option.bind (f_X9_in F ((bA B T (lxS B T p)).toInt64) (Int64.ofNat 97) (Int64.ofNat 122) m2) (fun q11 => (if q11.1 = 0 then (Option.bind (f_X9_in F ((bA B T (lxS B T p)).toInt64) (Int64.ofNat 48) (Int64.ofNat 57) q11.2) (fun q14 => (if q14.1 = 0 then (Option.bind (some (fm_sI q14.2 232 19 3)) (fun m17 => (Option.bind (some (fm_sI m17 232 17 ((m17.1 232 17) + 1))) (fun m19 => (if bA B T (lxS B T p) = 59 then some ((), m19) else (Option.bind (f_X9_fails F 1 m19) (fun q22 => some ((), q22.2)))))))) else g_X9_step F f' 140 q14.2))) else g_X9_step F f' 84 q11.2))) else (Option.bind (some (fm_sI m2 232 19 0)) (fun m24 => some ((), m24)))) := by
    unfold f_X9_step
    rw [if_pos (by rw [h15]; decide), q1, g_X9_step, if_pos rfl, b_X9_step_8, q3, m_byte hT sl t1, Option.bind_some, show (32 : Int32) = n3 32 from n3_lit 32, if_pos n32]
    dsimp only
    rw [q3, Option.bind_some, fm_sI_ne (by omega), q3, m_byte hT sl (t1.ch ((Ch.refl tkM noA m1).sI (by unfold tkM; omega)) (by unfold tkM; omega) (fun _ => id)), Option.bind_some]
    dsimp only
    rw [n3_k0, hm2, Option.bind_some]
  rw [start]
  by_cases c0 : T ≤ lxS B T p
  · obtain ⟨k1, k2, k3⟩ := lx0 c0
    rw [if_neg (by rw [bA_4 hB]; exact fun q => q c0), Option.bind_some]
    refine ⟨_, rfl, fun _ => ⟨t2.ch ((Ch.refl tkM noA m2).sI (by unfold tkM; omega)) (by unfold tkM; omega) (fun _ => id), ?_, ?_, ?_, ?_, fun q => by omega⟩, fun q => absurd q k3, (c1.trans c2).sI (by unfold tkM; omega)⟩
    · simp (disch := omega) only [fm_sI_ne, f15]
    · rw [fm_sI_ne (by omega), k2]; exact f17
    · simp (disch := omega) only [fm_sI_ne, f18]
    · rw [k1]; exact fm_sI_eq ⟨rfl, rfl⟩
  · have hb := hB (lxS B T p) (by omega)
    rw [if_pos (by rw [bA_4 hB]; exact c0), m_inB hB (by omega) (by omega), Option.bind_some]
    dsimp only
    by_cases cL : isL (B (lxS B T p)) = true
    · obtain ⟨k1, k2, k3⟩ := lx1 c0 cL
      rw [decide_eq_true (show lxS B T p < T ∧ 97 ≤ B (lxS B T p) ∧ B (lxS B T p) ≤ 122 from ⟨by omega, of_decide_eq_true cL⟩), if_neg (show ¬ n3 (bi true) = 0 by decide)]
      obtain ⟨m4, r1, r2, r3, r4⟩ := m_letters (F := F) hT hB (T - lxS B T p) (lxS B T p) f' m2 (by omega) (by omega) t2 f17
      have r4' : Ch tkM noA m2 m4 := r4.weak (fun q j c => by unfold tkM; omega) (fun _ _ c => c)
      refine ⟨m4, r1, fun _ => ⟨t2.ch r4' (by unfold tkM; omega) (fun _ => id), ?_, ?_, ?_, ?_, fun q => by omega⟩, fun q => absurd q k3, (c1.trans c2).trans r4'⟩
      · rw [r4.1 232 15 (by omega)]; exact f15
      · rw [r2, k2]
      · rw [r4.1 232 18 (by omega)]; exact f18
      · rw [r3, k1]
    · rw [decide_eq_false (fun q => cL (decide_eq_true q.2)), if_pos (show n3 (bi false) = 0 by decide), m_inB hB (by omega) (by omega), Option.bind_some]
      dsimp only
      by_cases cF : isF (B (lxS B T p)) = true
      · obtain ⟨k1, k2, k3⟩ := lx2 c0 cL cF
        rw [decide_eq_true (show lxS B T p < T ∧ 48 ≤ B (lxS B T p) ∧ B (lxS B T p) ≤ 57 from ⟨by omega, of_decide_eq_true cF⟩), if_neg (show ¬ n3 (bi true) = 0 by decide)]
        obtain ⟨m4, r1, r2, r3, r4, r5, r6, r7⟩ := m_figures (F := F) (st := lxS B T p) hT hB (T - lxS B T p) (lxS B T p) f' m2 (by omega) (by omega) (Nat.le_refl _) (fun i h1 h2 => by omega) t2 f15 f17 f18 ⟨fun _ => f20, fun q => by omega, fun q => by omega⟩
        rw [← k2] at r2 r4 r5 r6
        have r7' : Ch tkM noA m2 m4 := r7.weak (fun q j c => by unfold tkM; omega) (fun _ _ c => c)
        have gt := lxE_gt (B := B) (T := T) (p := p) (by omega)
        refine ⟨m4, r1, fun q => ?_, fun q => r6 (k3.mp q), (c1.trans c2).trans r7'⟩
        have le2 : lxE B T p - lxS B T p ≤ 2 := by
          by_cases z : 2 < lxE B T p - lxS B T p
          · exact absurd (k3.mpr z) q
          · omega
        refine ⟨t2.ch r7' (by unfold tkM; omega) (fun _ => id), r5 le2, r2, ?_, ?_, fun _ => ?_⟩
        · rw [r7.1 232 18 (by omega)]; exact f18
        · rw [r3, k1]
        · unfold lxV
          by_cases z : lxE B T p - lxS B T p = 1
          · rw [if_pos z]; exact r4.2.1 (by omega)
          · rw [if_neg z]; exact r4.2.2 (by omega)
      · obtain ⟨k1, k2, k3⟩ := lx3 c0 cL cF
        rw [decide_eq_false (fun q => cF (decide_eq_true q.2)), if_pos (show n3 (bi false) = 0 by decide), Option.bind_some, fm_sI_ne (by omega), f17, Option.bind_some, n3_one, n3_add, show (59 : Int32) = n3 59 from n3_lit 59]
        have c3 : Ch tkM noA m2 (fm_sI (fm_sI m2 232 19 3) 232 17 (n3 (lxS B T p + 1))) := ((Ch.refl _ _ m2).sI (by unfold tkM; omega)).sI (by unfold tkM; omega)
        by_cases cS : B (lxS B T p) = 59
        · rw [if_pos (by rw [bA_n hB (by omega)]; exact ⟨by omega, cS⟩)]
          refine ⟨_, rfl, fun _ => ⟨t2.ch c3 (by unfold tkM; omega) (fun _ => id), ?_, ?_, ?_, ?_, fun q => by omega⟩, fun q => absurd cS (k3.mp q), (c1.trans c2).trans c3⟩
          · simp (disch := omega) only [fm_sI_ne, f15]
          · rw [k2]; exact fm_sI_eq ⟨rfl, rfl⟩
          · simp (disch := omega) only [fm_sI_ne, f18]
          · rw [fm_sI_ne (by omega), k1]; exact fm_sI_eq ⟨rfl, rfl⟩
        · rw [if_neg (by rw [bA_n hB (by omega)]; exact fun q => cS q.2)]
          refine ⟨fm_sI (fm_sI (fm_sI (fm_sI m2 232 19 3) 232 17 (n3 (lxS B T p + 1))) 232 15 (n3 1)) 232 16 (n3 (lxS B T p)), ?_, fun q => absurd (k3.mpr cS) q, fun _ => ⟨?_, ?_⟩, (((c1.trans c2).trans c3).sI (by unfold tkM; omega)).sI (by unfold tkM; omega)⟩
          · unfold f_X9_fails
            rw [fm_sI_ne (by omega), fm_sI_ne (by omega), f15, if_neg (fun q => q rfl), Option.bind_some, fm_sI_ne (by omega), fm_sI_ne (by omega), fm_sI_ne (by omega), f18]
            rfl
          · simp (disch := omega) only [fm_sI_ne, fm_sI_eq]
          · simp (disch := omega) only [fm_sI_ne, fm_sI_eq]
end VS65
