/-! names -/
def nl (n : Nat) : Nat := cutsL.getD (n + 1) 0 - cutsL.getD n 0
def ltr (n k : Nat) : Nat := lettersL.getD (cutsL.getD n 0 + k) 0
def alq (B : Nat → Nat) (s n : Nat) : Nat → Nat → Bool
  | 0, _ => true
  | K + 1, k => decide (B (s + k) = ltr n k) && alq B s n K (k + 1)
def mt (B : Nat → Nat) (T p n : Nat) : Bool := decide (lxK B T p = 1 ∧ lxE B T p - lxS B T p = nl n) && alq B (lxS B T p) n (nl n) 0
def mp (i : Nat) : Nat := ([0, 1, 2, 3, 4, 6, 7, 8, 5] : List Nat).getD i 0
def nmF (B : Nat → Nat) (T p n : Nat) : Option Nat := if mt B T p n = true then some n else none
def nmI (B : Nat → Nat) (T p : Nat) : Option Nat := frs (nmF B T p) 9 0
theorem v_nam : ((List.range 9).all fun i => decide (ab_slen.getD i 0 = nl (mp i) ∧ nl (mp i) ≤ 5 ∧ mp i < 9 ∧ ((List.range 5).all fun k => decide (nl (mp i) ≤ k ∨ ((ab_strs.getD i []).getD k 0 = n3 (ltr (mp i) k) ∧ ltr (mp i) k < 128))) = true)) = true := by decide +kernel
theorem v_nam' {i : Nat} (h : i < 9) : ab_slen.getD i 0 = nl (mp i) ∧ nl (mp i) ≤ 5 ∧ mp i < 9 ∧ ∀ k, k < nl (mp i) → (ab_strs.getD i []).getD k 0 = n3 (ltr (mp i) k) ∧ ltr (mp i) k < 128 := by
  obtain ⟨h1, h2, h3, h4⟩ := of_decide_eq_true (List.all_eq_true.mp v_nam i (List.mem_range.mpr h))
  exact ⟨h1, h2, h3, fun k hk => (of_decide_eq_true (List.all_eq_true.mp h4 k (List.mem_range.mpr (by omega)))).resolve_left (by omega)⟩
theorem v_nref : ((List.range 9).all fun n => decide (cutsL.getD n 0 + nl n = cutsL.getD (n + 1) 0 ∧ cutsL.getD (n + 1) 0 ≤ 39 ∧ nl n ≤ 5)) = true := by decide +kernel
theorem v_nref' {n : Nat} (h : n < 9) : cutsL.getD n 0 + nl n = cutsL.getD (n + 1) 0 ∧ cutsL.getD (n + 1) 0 ≤ 39 ∧ nl n ≤ 5 := of_decide_eq_true (List.all_eq_true.mp v_nref n (List.mem_range.mpr h))
theorem v_let : ((List.range 39).all fun i => decide (lettersL.getD i 0 < 128)) = true := by decide +kernel
theorem v_dif : ((List.range 9).all fun n => (List.range 9).all fun m => decide (n = m ∨ ¬ nl n = nl m ∨ ((List.range 5).any fun k => decide (k < nl n ∧ ¬ ltr n k = ltr m k)) = true)) = true := by decide +kernel
theorem alq_at (B : Nat → Nat) (s n : Nat) : ∀ K k i, alq B s n K k = true → k ≤ i → i < k + K → B (s + i) = ltr n i
  | 0, k, i, _, h1, h2 => by omega
  | K + 1, k, i, h, h1, h2 => by
    rw [alq, Bool.and_eq_true] at h
    by_cases c : i = k
    · rw [c]; exact of_decide_eq_true h.1
    · exact alq_at B s n K (k + 1) i h.2 (by omega) (by omega)
theorem mt_uniq {B : Nat → Nat} {T p n m : Nat} (hn : n < 9) (hm : m < 9) (h1 : mt B T p n = true) (h2 : mt B T p m = true) : n = m := by
  unfold mt at h1 h2
  rw [Bool.and_eq_true] at h1 h2
  have e1 := of_decide_eq_true h1.1
  have e2 := of_decide_eq_true h2.1
  rcases of_decide_eq_true (List.all_eq_true.mp (List.all_eq_true.mp v_dif n (List.mem_range.mpr hn)) m (List.mem_range.mpr hm)) with c | c | c
  · exact c
  · omega
  · obtain ⟨k, -, hk⟩ := List.any_eq_true.mp c
    obtain ⟨k1, k2⟩ := of_decide_eq_true hk
    have q1 := alq_at B _ n _ 0 k h1.2 (by omega) (by omega)
    have q2 := alq_at B _ m _ 0 k h2.2 (by omega) (by omega)
    omega
theorem nmI_some {B : Nat → Nat} {T p n : Nat} (h : nmI B T p = some n) : n < 9 ∧ mt B T p n = true ∧ ∀ m, m < 9 → m ≠ n → mt B T p m = false := by
  obtain ⟨j, j1, j2, j3⟩ := frs_some _ _ h
  unfold nmF at j3
  split at j3
  · rename_i c
    cases j3
    refine ⟨by omega, c, fun m hm hne => ?_⟩
    cases hq : mt B T p m with
    | false => rfl
    | true => exact absurd (mt_uniq hm (by omega) hq c) hne
  · cases j3
theorem frs_no {α : Type} {f : Nat → Option α} : ∀ (k i : Nat), frs f k i = none → ∀ j, i ≤ j → j < i + k → f j = none
  | 0, i, _, j, h1, h2 => by omega
  | k + 1, i, h, j, h1, h2 => by
    rw [frs] at h
    cases hf : f i with
    | some r => rw [hf] at h; cases h
    | none =>
      rw [hf] at h
      by_cases c : j = i
      · rw [c]; exact hf
      · exact frs_no k (i + 1) h j (by omega) (by omega)
theorem nmI_none {B : Nat → Nat} {T p : Nat} (h : nmI B T p = none) : ∀ m, m < 9 → mt B T p m = false := by
  intro m hm
  have := frs_no 9 0 h m (by omega) (by omega)
  unfold nmF at this
  split at this
  · cases this
  · rename_i c
    cases hq : mt B T p m with
    | false => rfl
    | true => exact absurd hq c
section VS67
variable {F : Nat} {μ ν : fm_M} {a b : Nat → Nat} {w : Nat} {B : Nat → Nat} {T p : Nat}
theorem c_len {i : Nat} (h : i < 9) : f_J0_length_8abf5 F (10 + i) μ = some (n3 (nl (mp i)), μ) := by
  unfold f_J0_length_8abf5
  rw [if_pos (by omega), show 10 + i - 10 = i by omega, (v_nam' h).1]
  rfl
theorem c_chr {i k : Nat} (h : i < 9) (hk : k < nl (mp i)) : f_J0_charAt_5068e F (10 + i) (n3 k) μ = some (n3 (ltr (mp i) k), μ) := by
  obtain ⟨h1, h2, h3, h4⟩ := v_nam' h
  unfold f_J0_charAt_5068e
  rw [if_pos (by omega), show 10 + i - 10 = i by omega, h1, if_pos (n3_in (by omega) hk), n3_cl (by omega), (h4 k hk).1]
theorem c_nm_l {i s : Nat} (hi : i < 9) (hT : T ≤ 160) (hB : ∀ i, i < T → B i < 128) (ht : TC B T μ) (h6 : μ.1 123 6 = n3 s) (hs : s + nl (mp i) ≤ T) : ∀ (K k f : Nat), k + K = nl (mp i) → K < f → g_X5_isName F (10 + i) f 28 (n3 k) μ = some (n3 (bi (alq B s (mp i) K k)), μ)
  | 0, k, f + 1, hk, _ => by
    obtain ⟨h1, h2, h3, h4⟩ := v_nam' hi
    rw [g_X5_isName, if_pos rfl, b_X5_isName_28, if_pos (by omega), c_len hi, Option.bind_some, if_pos (by rw [n3_le (by omega) (by omega)]; omega)]
    rfl
  | K + 1, k, f + 1, hk, hf => by
    obtain ⟨h1, h2, h3, h4⟩ := v_nam' hi
    have hb := hB (s + k) (by omega)
    have hl := (h4 k (by omega)).2
    rw [g_X5_isName, if_pos rfl, b_X5_isName_28, if_pos (by omega), c_len hi, Option.bind_some, if_neg (by rw [n3_le (by omega) (by omega)]; omega)]
    dsimp only
    rw [h6, n3_add, if_pos (n3_in (by omega) (by omega)), if_pos (by omega), c_chr hi (by omega), Option.bind_some, n3_cl (by omega), ht.2 (s + k) (by omega), n3_one, n3_add, alq]
    dsimp only
    by_cases c : B (s + k) = ltr (mp i) k
    · rw [if_pos (by rw [c]), decide_eq_true c, Bool.true_and]
      exact c_nm_l hi hT hB ht h6 hs K (k + 1) f (by omega) (by omega)
    · rw [if_neg (by rw [n3_eq (by omega) (by omega)]; exact c), decide_eq_false c, Bool.false_and]
      rfl
theorem c_name {i : Nat} (hi : i < 9) (hT : T ≤ 160) (hB : ∀ i, i < T → B i < 128) (hp : p ≤ T) (h : CT B T p μ) (hF : 100 < F) : f_X5_isName F (10 + i) μ = some (n3 (bi (mt B T p (mp i))), μ) := by
  obtain ⟨ht, r2, r4, r5, r6, r7⟩ := h
  obtain ⟨h1, h2, h3, h4⟩ := v_nam' hi
  have kl := lxK_le (B := B) (T := T) (p := p)
  have el := lxE_le (B := B) hp
  have eg := lxE_ge (B := B) (T := T) (p := p)
  unfold f_X5_isName mt
  rw [r5]
  by_cases c : lxK B T p = 1
  · rw [if_neg (fun q => q (by rw [c]; rfl)), if_pos (by omega), c_len hi, Option.bind_some, r4, r6, n3_sub eg]
    dsimp only
    by_cases c2 : lxE B T p - lxS B T p = nl (mp i)
    · rw [if_pos (by rw [c2]), decide_eq_true ⟨c, c2⟩, Bool.true_and]
      exact c_nm_l hi hT hB ht r6 (by omega) (nl (mp i)) 0 F (by omega) (by omega)
    · rw [if_neg (by rw [n3_eq (by omega) (by omega)]; exact c2), decide_eq_false (fun q => c2 q.2), Bool.false_and]
      rfl
  · rw [if_pos (by rw [n3_one, n3_eq (by omega) (by omega)]; exact c), decide_eq_false (fun q => c q.1), Bool.false_and]
    rfl
def NC (μ : fm_M) : Prop := (∀ i, i < 10 → μ.2.1 239 i = n3 (cutsL.getD i 0)) ∧ (∀ i, i < 39 → μ.2.1 240 i = n3 (lettersL.getD i 0))
theorem m_nm_l {n s : Nat} (hn : n < 9) (hT : T ≤ 160) (hB : ∀ i, i < T → B i < 128) (ht : TM B T μ) (hc : NC μ) (h18 : μ.1 232 18 = n3 s) (h17 : μ.1 232 17 = n3 (s + nl n)) (hs : s + nl n ≤ T) : ∀ (J k f : Nat), k + J = nl n → (alq B s n J k = true → g_X9_nameHere F (f + J + 2) 51 (n3 n) (n3 1) (n3 k) μ = some (n3 n, μ)) ∧ (alq B s n J k = false → ∃ f', f ≤ f' ∧ g_X9_nameHere F (f + J + 2) 51 (n3 n) (n3 1) (n3 k) μ = g_X9_nameHere F f' 2 (n3 (n + 1)) 0 0 μ)
  | 0, k, f, hk => by
    obtain ⟨h1, h2, h3⟩ := v_nref' hn
    refine ⟨fun _ => ?_, fun q => by cases q⟩
    rw [g_X9_nameHere, if_neg (by decide), if_pos rfl, b_X9_nameHere_51, if_neg (show ¬ n3 1 = 0 by decide), h17, h18, n3_sub (by omega), if_pos (by rw [n3_le (by omega) (by omega)]; omega), if_neg (show ¬ n3 1 = 0 by decide)]
  | J + 1, k, f, hk => by
    obtain ⟨h1, h2, h3⟩ := v_nref' hn
    obtain ⟨i1, i2⟩ := m_nm_l hn hT hB ht hc h18 h17 hs J (k + 1) f (by omega)
    have hb := hB (s + k) (by omega)
    have hl := of_decide_eq_true (List.all_eq_true.mp v_let (cutsL.getD n 0 + k) (List.mem_range.mpr (by omega)))
    have eb : bA B T (s + k) = n3 (B (s + k)) := if_neg (by omega)
    have st : g_X9_nameHere F (f + (J + 1) + 2) 51 (n3 n) (n3 1) (n3 k) μ = (if ¬ n3 (B (s + k)) = n3 (ltr n k) then g_X9_nameHere F (f + J + 2) 51 (n3 n) (n3 0) (n3 (k + 1)) μ else g_X9_nameHere F (f + J + 2) 51 (n3 n) (n3 1) (n3 (k + 1)) μ) := by
      rw [show f + (J + 1) + 2 = f + J + 2 + 1 by omega, g_X9_nameHere, if_neg (by decide), if_pos rfl, b_X9_nameHere_51, if_neg (show ¬ n3 1 = 0 by decide), h17, h18, n3_sub (by omega), if_neg (by rw [n3_le (by omega) (by omega)]; omega), n3_add, m_byte hT (by omega) ht, Option.bind_some, if_pos (n3_in (by omega) (by omega)), eb, n3_cl (by omega)]
      dsimp only
      rw [hc.1 n (by omega), n3_add, if_pos (n3_in (by omega) (by omega)), n3_cl (by omega), hc.2 _ (by omega), n3_one, n3_add, n3_k0]
      rfl
    have hl' : ltr n k < 128 := hl
    rw [st, alq]
    by_cases c : B (s + k) = ltr n k
    · rw [if_neg (fun q => q (by rw [c])), decide_eq_true c, Bool.true_and]
      exact ⟨i1, i2⟩
    · rw [if_pos (by rw [n3_eq (by omega) (by omega)]; exact c), decide_eq_false c, Bool.false_and]
      refine ⟨(fun q => by cases q), (fun _ => ⟨f + J + 1, by omega, ?_⟩)⟩
      rw [g_X9_nameHere, if_neg (by decide), if_pos rfl, b_X9_nameHere_51, if_pos (show n3 0 = 0 by decide), if_pos (show n3 0 = 0 by decide), n3_one, n3_add]
theorem m_nm_o (hT : T ≤ 160) (hB : ∀ i, i < T → B i < 128) (hp : p ≤ T) (h : MT B T p μ) (hc : NC μ) : ∀ (K n f : Nat), n + K = 9 → K * 10 < f → g_X9_nameHere F f 2 (n3 n) 0 0 μ = some (oW (frs (nmF B T p) K n), μ)
  | 0, n, f + 1, hn, _ => by
    rw [g_X9_nameHere, if_pos rfl, b_X9_nameHere_2, if_pos (by rw [show (9 : Int32) = n3 9 from n3_lit 9, n3_le (by omega) (by omega)]; omega), n3_k4]
    rfl
  | K + 1, n, f + 1, hn, hf => by
    obtain ⟨ht, r2, r3, r4, r5, r6⟩ := id h
    obtain ⟨h1, h2, h3⟩ := v_nref' (n := n) (by omega)
    have kl := lxK_le (B := B) (T := T) (p := p)
    have el := lxE_le (B := B) hp
    have eg := lxE_ge (B := B) (T := T) (p := p)
    have ih := m_nm_o hT hB hp h hc K (n + 1)
    rw [g_X9_nameHere, if_pos rfl, b_X9_nameHere_2, if_neg (by rw [show (9 : Int32) = n3 9 from n3_lit 9, n3_le (by omega) (by omega)]; omega), r5]
    by_cases c : lxK B T p = 1
    · rw [if_neg (fun q => q (by rw [c]; rfl)), n3_one, n3_add, if_pos (n3_in (by omega) (by omega)), if_pos (n3_in (by omega) (by omega)), n3_cl (by omega), n3_cl (by omega), hc.1 _ (by omega), hc.1 n (by omega), r3, r4, n3_sub eg, n3_sub (show cutsL.getD n 0 ≤ cutsL.getD (n + 1) 0 by omega)]
      have nle : cutsL.getD (n + 1) 0 - cutsL.getD n 0 = nl n := rfl
      rw [nle, frs]
      by_cases c2 : lxE B T p - lxS B T p = nl n
      · rw [if_neg (fun q => q (by rw [c2]))]
        obtain ⟨g, rfl⟩ : ∃ g, f = g + nl n + 2 := ⟨f - nl n - 2, by omega⟩
        obtain ⟨i1, i2⟩ := m_nm_l (F := F) (n := n) (s := lxS B T p) (by omega) hT hB ht hc r4 (by rw [r3]; congr 1; omega) (by omega) (nl n) 0 g (by omega)
        cases ha : alq B (lxS B T p) n (nl n) 0 with
        | true =>
          have e : nmF B T p n = some n := by unfold nmF mt; rw [ha, decide_eq_true ⟨c, c2⟩]; rfl
          rw [e]
          exact i1 ha
        | false =>
          have e : nmF B T p n = none := by unfold nmF mt; rw [ha, Bool.and_false]; rfl
          rw [e]
          obtain ⟨f', f1, f2⟩ := i2 ha
          exact f2.trans (ih f' (by omega) (by omega))
      · rw [if_pos (by rw [n3_eq (by omega) (by omega)]; exact c2)]
        have e : nmF B T p n = none := by unfold nmF mt; rw [decide_eq_false (fun q => c2 q.2), Bool.false_and]; rfl
        rw [e]
        obtain ⟨g, rfl⟩ : ∃ g, f = g + 1 := ⟨f - 1, by omega⟩
        rw [g_X9_nameHere, if_neg (by decide), if_pos rfl, b_X9_nameHere_51, if_pos rfl, if_pos rfl, n3_one, n3_add]
        exact ih g (by omega) (by omega)
    · rw [if_pos (by rw [n3_one, n3_eq (by omega) (by omega)]; exact c), n3_k4]
      have e : frs (nmF B T p) (K + 1) n = none := frs_none _ _ (fun j _ _ => by unfold nmF mt; rw [decide_eq_false (fun q => c q.1), Bool.false_and]; rfl)
      rw [e]
      rfl
theorem m_name (hT : T ≤ 160) (hB : ∀ i, i < T → B i < 128) (hp : p ≤ T) (h : MT B T p μ) (hc : NC μ) (hF : 1000 < F) : f_X9_nameHere F μ = some (oW (nmI B T p), μ) := m_nm_o hT hB hp h hc 9 0 F (by omega) (by omega)
/-! which line the class reads -/
theorem c_line_none (hT : T ≤ 160) (hB : ∀ i, i < T → B i < 128) (hp : p ≤ T) (h : CT B T p μ) (hF : 100 < F) (hn : nmI B T p = none) : f_X5_readLine F μ = (Option.bind (f_X5_blame F 2 (μ.1 123 6) μ) (fun q19 => some ((), q19.2))) := by
  have f := nmI_none hn
  have k := fun i (hi : i < 9) => c_name (F := F) hi hT hB hp h hF
  unfold f_X5_readLine f_X5_kindNamed
  simp only [show f_X5_isName F 10 μ = some (n3 0, μ) from (k 0 (by omega)).trans (by rw [f _ (by decide)]; rfl), show f_X5_isName F 11 μ = some (n3 0, μ) from (k 1 (by omega)).trans (by rw [f _ (by decide)]; rfl), show f_X5_isName F 12 μ = some (n3 0, μ) from (k 2 (by omega)).trans (by rw [f _ (by decide)]; rfl), show f_X5_isName F 13 μ = some (n3 0, μ) from (k 3 (by omega)).trans (by rw [f _ (by decide)]; rfl), show f_X5_isName F 14 μ = some (n3 0, μ) from (k 4 (by omega)).trans (by rw [f _ (by decide)]; rfl), show f_X5_isName F 15 μ = some (n3 0, μ) from (k 5 (by omega)).trans (by rw [f _ (by decide)]; rfl), show f_X5_isName F 16 μ = some (n3 0, μ) from (k 6 (by omega)).trans (by rw [f _ (by decide)]; rfl), show f_X5_isName F 17 μ = some (n3 0, μ) from (k 7 (by omega)).trans (by rw [f _ (by decide)]; rfl), show f_X5_isName F 18 μ = some (n3 0, μ) from (k 8 (by omega)).trans (by rw [f _ (by decide)]; rfl), Option.bind_some, if_pos (show n3 0 = 0 from rfl), if_pos (show (-4 : Int32) < 0 by decide)]
/-- the nine answers where n is the name -/
theorem c_nine (hT : T ≤ 160) (hB : ∀ i, i < T → B i < 128) (hp : p ≤ T) (h : CT B T p μ) (hF : 100 < F) {n : Nat} (hn : nmI B T p = some n) : ∀ i, i < 9 → f_X5_isName F (10 + i) μ = some (n3 (if mp i = n then 1 else 0), μ) := by
  obtain ⟨n9, m1, m2⟩ := nmI_some hn
  intro i hi
  rw [c_name hi hT hB hp h hF]
  by_cases c : mp i = n
  · rw [c, m1, if_pos rfl]; rfl
  · rw [m2 _ (v_nam' hi).2.2.1 c, if_neg c]; rfl
theorem c_line_some (hT : T ≤ 160) (hB : ∀ i, i < T → B i < 128) (hp : p ≤ T) (h : CT B T p μ) (hF : 100 < F) {n : Nat} (hn : nmI B T p = some n) : f_X5_readLine F μ = (if n ≤ 3 then (Option.bind (f_X5_readStone F (n3 n) μ) (fun q => some ((), q.2))) else if n = 4 then (Option.bind (f_X5_readMan F μ) (fun q => some ((), q.2))) else if n = 5 then (Option.bind (f_X5_readDebt F μ) (fun q => some ((), q.2))) else if n = 6 then (Option.bind (f_X5_readOven F μ) (fun q => some ((), q.2))) else if n = 7 then (Option.bind (f_X5_readWind F μ) (fun q => some ((), q.2))) else (Option.bind (f_X5_readPrice F μ) (fun q => some ((), q.2)))) := by
  have k := c_nine hT hB hp h hF hn
  obtain ⟨n9, -, -⟩ := nmI_some hn
  have k0 : f_X5_isName F 10 μ = _ := k 0 (by omega)
  have k1 : f_X5_isName F 11 μ = _ := k 1 (by omega)
  have k2 : f_X5_isName F 12 μ = _ := k 2 (by omega)
  have k3 : f_X5_isName F 13 μ = _ := k 3 (by omega)
  have k4 : f_X5_isName F 14 μ = _ := k 4 (by omega)
  have k5 : f_X5_isName F 15 μ = _ := k 5 (by omega)
  have k6 : f_X5_isName F 16 μ = _ := k 6 (by omega)
  have k7 : f_X5_isName F 17 μ = _ := k 7 (by omega)
  have k8 : f_X5_isName F 18 μ = _ := k 8 (by omega)
  have z0 : (n3 0 = 0) = True := eq_true rfl
  have z1 : (n3 1 = 0) = False := eq_false (by decide)
  have y4 : ((-4 : Int32) < 0) = True := eq_true (by decide)
  have y0 : ((0 : Int32) < 0) = False := eq_false (by decide)
  have y1 : ((1 : Int32) < 0) = False := eq_false (by decide)
  have y2 : ((2 : Int32) < 0) = False := eq_false (by decide)
  have y3 : ((3 : Int32) < 0) = False := eq_false (by decide)
  unfold f_X5_readLine f_X5_kindNamed
  rw [k0]
  rcases (show n = 0 ∨ n = 1 ∨ n = 2 ∨ n = 3 ∨ n = 4 ∨ n = 5 ∨ n = 6 ∨ n = 7 ∨ n = 8 by omega) with rfl | rfl | rfl | rfl | rfl | rfl | rfl | rfl | rfl
  all_goals
    simp only [mp, List.getD_cons_zero, List.getD_cons_succ, Nat.reduceEqDiff, ↓reduceIte, Option.bind_some, k1, k2, k3, k4, k5, k6, k7, k8, z0, z1, y4, y0, y1, y2, y3, Nat.reduceLeDiff]
  all_goals rfl
end VS67
