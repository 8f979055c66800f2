/-! tokens -/
def rn (P : Nat → Bool) (B : Nat → Nat) (T : Nat) : Nat → Nat → Nat
  | 0, p => p
  | k + 1, p => if p < T ∧ P (B p) = true then rn P B T k (p + 1) else p
def isB (c : Nat) : Bool := decide (c = 32)
def isL (c : Nat) : Bool := decide (97 ≤ c ∧ c ≤ 122)
def isF (c : Nat) : Bool := decide (48 ≤ c ∧ c ≤ 57)
def lxS (B : Nat → Nat) (T p : Nat) : Nat := rn isB B T (T - p) p
def lxK (B : Nat → Nat) (T p : Nat) : Nat := if T ≤ lxS B T p then 0 else if isL (B (lxS B T p)) = true then 1 else if isF (B (lxS B T p)) = true then 2 else 3
def lxE (B : Nat → Nat) (T p : Nat) : Nat := if T ≤ lxS B T p then lxS B T p else if isL (B (lxS B T p)) = true then rn isL B T (T - lxS B T p) (lxS B T p) else if isF (B (lxS B T p)) = true then rn isF B T (T - lxS B T p) (lxS B T p) else lxS B T p + 1
def lxV (B : Nat → Nat) (T p : Nat) : Nat := if lxE B T p - lxS B T p = 1 then B (lxS B T p) - 48 else 10 * (B (lxS B T p) - 48) + (B (lxS B T p + 1) - 48)
def lxF (B : Nat → Nat) (T p : Nat) : Prop := (lxK B T p = 2 ∧ 2 < lxE B T p - lxS B T p) ∨ (lxK B T p = 3 ∧ ¬ B (lxS B T p) = 59)
theorem rn_ge (P : Nat → Bool) (B : Nat → Nat) (T : Nat) : ∀ k p, p ≤ rn P B T k p
  | 0, p => Nat.le_refl _
  | k + 1, p => by
    have := rn_ge P B T k (p + 1)
    rw [rn]
    split <;> omega
theorem rn_le (P : Nat → Bool) (B : Nat → Nat) (T : Nat) : ∀ k p, p ≤ T → rn P B T k p ≤ T
  | 0, p, h => h
  | k + 1, p, h => by
    rw [rn]
    split
    · exact rn_le P B T k (p + 1) (by omega)
    · exact h
theorem rn_stop (P : Nat → Bool) (B : Nat → Nat) (T : Nat) : ∀ k p, T ≤ p + k → ¬ (rn P B T k p < T ∧ P (B (rn P B T k p)) = true)
  | 0, p, h => by rw [rn]; intro c; omega
  | k + 1, p, h => by
    rw [rn]
    split
    · exact rn_stop P B T k (p + 1) (by omega)
    · assumption
theorem rn_in (P : Nat → Bool) (B : Nat → Nat) (T : Nat) : ∀ k p i, p ≤ i → i < rn P B T k p → i < T ∧ P (B i) = true
  | 0, p, i, h, h2 => by rw [rn] at h2; omega
  | k + 1, p, i, h, h2 => by
    rw [rn] at h2
    split at h2
    · rename_i c
      by_cases e : i = p
      · rw [e]; exact c
      · exact rn_in P B T k (p + 1) i (by omega) h2
    · omega
section VS64a
variable {B : Nat → Nat} {T p : Nat}
theorem lxS_ge : p ≤ lxS B T p := rn_ge _ _ _ _ _
theorem lxS_le (h : p ≤ T) : lxS B T p ≤ T := rn_le _ _ _ _ _ h
theorem lxE_le (h : p ≤ T) : lxE B T p ≤ T := by
  have := lxS_le (B := B) h
  unfold lxE
  split
  · exact this
  · split
    · exact rn_le _ _ _ _ _ this
    · split
      · exact rn_le _ _ _ _ _ this
      · omega
theorem lxE_gt (h : lxK B T p ≠ 0) : lxS B T p < lxE B T p := by
  unfold lxK at h
  unfold lxE
  split at h
  · exact absurd rfl h
  · rename_i c
    rw [if_neg c]
    have one : ∀ P : Nat → Bool, P (B (lxS B T p)) = true → lxS B T p < rn P B T (T - lxS B T p) (lxS B T p) := by
      intro P hP
      obtain ⟨k, hk⟩ : ∃ k, T - lxS B T p = k + 1 := ⟨T - lxS B T p - 1, by omega⟩
      rw [hk, rn, if_pos ⟨by omega, hP⟩]
      have := rn_ge P B T k (lxS B T p + 1)
      omega
    by_cases c1 : isL (B (lxS B T p)) = true
    · rw [if_pos c1]; exact one _ c1
    · rw [if_neg c1]
      by_cases c2 : isF (B (lxS B T p)) = true
      · rw [if_pos c2]; exact one _ c2
      · rw [if_neg c2]; omega
theorem lxE_ge : lxS B T p ≤ lxE B T p := by
  unfold lxE
  split
  · exact Nat.le_refl _
  · split
    · exact rn_ge _ _ _ _ _
    · split
      · exact rn_ge _ _ _ _ _
      · omega
theorem lxK_le : lxK B T p ≤ 3 := by unfold lxK; split; omega; split; omega; split <;> omega
theorem lx0 (h : T ≤ lxS B T p) : lxK B T p = 0 ∧ lxE B T p = lxS B T p ∧ ¬ lxF B T p := by
  have e : lxK B T p = 0 := if_pos h
  refine ⟨e, if_pos h, fun c => ?_⟩
  rcases c with ⟨c, -⟩ | ⟨c, -⟩ <;> omega
theorem lx1 (h : ¬ T ≤ lxS B T p) (h1 : isL (B (lxS B T p)) = true) : lxK B T p = 1 ∧ lxE B T p = rn isL B T (T - lxS B T p) (lxS B T p) ∧ ¬ lxF B T p := by
  have e : lxK B T p = 1 := by unfold lxK; rw [if_neg h, if_pos h1]
  refine ⟨e, by unfold lxE; rw [if_neg h, if_pos h1], fun c => ?_⟩
  rcases c with ⟨c, -⟩ | ⟨c, -⟩ <;> omega
theorem lx2 (h : ¬ T ≤ lxS B T p) (h1 : ¬ isL (B (lxS B T p)) = true) (h2 : isF (B (lxS B T p)) = true) : lxK B T p = 2 ∧ lxE B T p = rn isF B T (T - lxS B T p) (lxS B T p) ∧ (lxF B T p ↔ 2 < lxE B T p - lxS B T p) := by
  have e : lxK B T p = 2 := by unfold lxK; rw [if_neg h, if_neg h1, if_pos h2]
  refine ⟨e, by unfold lxE; rw [if_neg h, if_neg h1, if_pos h2], ⟨fun c => ?_, fun c => .inl ⟨e, c⟩⟩⟩
  rcases c with ⟨-, c⟩ | ⟨c, -⟩
  · exact c
  · omega
theorem lx3 (h : ¬ T ≤ lxS B T p) (h1 : ¬ isL (B (lxS B T p)) = true) (h2 : ¬ isF (B (lxS B T p)) = true) : lxK B T p = 3 ∧ lxE B T p = lxS B T p + 1 ∧ (lxF B T p ↔ ¬ B (lxS B T p) = 59) := by
  have e : lxK B T p = 3 := by unfold lxK; rw [if_neg h, if_neg h1, if_neg h2]
  refine ⟨e, by unfold lxE; rw [if_neg h, if_neg h1, if_neg h2], ⟨fun c => ?_, fun c => .inr ⟨e, c⟩⟩⟩
  rcases c with ⟨c, -⟩ | ⟨-, c⟩
  · omega
  · exact c
end VS64a
def TC (B : Nat → Nat) (T : Nat) (μ : fm_M) : Prop := μ.1 123 1 = n3 T ∧ ∀ i, i < T → μ.2.1 124 i = n3 (B i)
def TM (B : Nat → Nat) (T : Nat) (μ : fm_M) : Prop := μ.1 232 13 = n3 T ∧ ∀ i, i < T → μ.2.1 238 i = n3 (B i)
def tkI (q j : Nat) : Prop := q = 123 ∧ 2 ≤ j ∧ j ≤ 7
def tkM (q j : Nat) : Prop := q = 232 ∧ 15 ≤ j ∧ j ≤ 20
def noA (_ _ : Nat) : Prop := False
section VS64
variable {F : Nat} {μ ν : fm_M} {a b : Nat → Nat} {w : Nat} {B : Nat → Nat} {T p : Nat}
theorem TC.ch {pI pA : Nat → Nat → Prop} (h : TC B T μ) (hc : Ch pI pA μ ν) (h1 : ¬ pI 123 1) (h2 : ∀ j, ¬ pA 124 j) : TC B T ν :=
  ⟨by rw [hc.1 _ _ h1]; exact h.1, fun i hi => by rw [hc.2.1 _ _ (h2 _)]; exact h.2 i hi⟩
theorem TM.ch {pI pA : Nat → Nat → Prop} (h : TM B T μ) (hc : Ch pI pA μ ν) (h1 : ¬ pI 232 13) (h2 : ∀ j, ¬ pA 238 j) : TM B T ν :=
  ⟨by rw [hc.1 _ _ h1]; exact h.1, fun i hi => by rw [hc.2.1 _ _ (h2 _)]; exact h.2 i hi⟩
theorem c_isL {c : Nat} (hc : c < 128) : f_X5_isLetter F (n3 c) μ = some (n3 (bi (isL c)), μ) := by
  unfold f_X5_isLetter isL
  rw [show (97 : Int32) = n3 97 from n3_lit 97, show (122 : Int32) = n3 122 from n3_lit 122]
  by_cases h1 : c < 97
  · rw [if_pos (by rw [n3_lt (by omega) (by omega)]; exact h1), decide_eq_false (by omega)]; rfl
  · rw [if_neg (by rw [n3_lt (by omega) (by omega)]; exact h1)]
    by_cases h2 : 122 < c
    · rw [if_pos (by rw [n3_lt (by omega) (by omega)]; exact h2), decide_eq_false (by omega)]; rfl
    · rw [if_neg (by rw [n3_lt (by omega) (by omega)]; exact h2), decide_eq_true (by omega)]; rfl
theorem c_isF {c : Nat} (hc : c < 128) : f_X5_isFigure F (n3 c) μ = some (n3 (bi (isF c)), μ) := by
  unfold f_X5_isFigure isF
  rw [show (48 : Int32) = n3 48 from n3_lit 48, show (57 : Int32) = n3 57 from n3_lit 57]
  by_cases h1 : c < 48
  · rw [if_pos (by rw [n3_lt (by omega) (by omega)]; exact h1), decide_eq_false (by omega)]; rfl
  · rw [if_neg (by rw [n3_lt (by omega) (by omega)]; exact h1)]
    by_cases h2 : 57 < c
    · rw [if_pos (by rw [n3_lt (by omega) (by omega)]; exact h2), decide_eq_false (by omega)]; rfl
    · rw [if_neg (by rw [n3_lt (by omega) (by omega)]; exact h2), decide_eq_true (by omega)]; rfl
theorem c_blanks (hT : T ≤ 160) (hB : ∀ i, i < T → B i < 128) : ∀ (k p f : Nat) (μ : fm_M), p + k = T → k < f → TC B T μ → μ.1 123 4 = n3 p → ∃ ν, g_X5_skipBlanks F f 0 μ = some ((), ν) ∧ ν.1 123 4 = n3 (rn isB B T k p) ∧ Ch (fun q j => q = 123 ∧ j = 4) noA μ ν
  | 0, p, f + 1, μ, hk, _, ht, h4 => by
    refine ⟨μ, ?_, h4, Ch.refl _ _ μ⟩
    rw [g_X5_skipBlanks, if_pos rfl, b_X5_skipBlanks_0, ht.1, h4, if_pos (by rw [n3_le (by omega) (by omega)]; omega)]
  | k + 1, p, f + 1, μ, hk, hf, ht, h4 => by
    have hb := hB p (by omega)
    have st : g_X5_skipBlanks F (f + 1) 0 μ = (if ¬ n3 (B p) = n3 32 then some ((), μ) else g_X5_skipBlanks F f 0 (fm_sI μ 123 4 (n3 (p + 1)))) := by
      rw [g_X5_skipBlanks, if_pos rfl, b_X5_skipBlanks_0, ht.1, h4, if_neg (by rw [n3_le (by omega) (by omega)]; omega), if_pos (n3_in (by omega) (by omega)), n3_cl (by omega), ht.2 p (by omega), Option.bind_some, n3_one, n3_add, show (32 : Int32) = n3 32 from n3_lit 32]
    rw [st, rn]
    by_cases c : B p = 32
    · have c1 : Ch (fun q j => q = 123 ∧ j = 4) noA μ (fm_sI μ 123 4 (n3 (p + 1))) := (Ch.refl _ _ μ).sI ⟨rfl, rfl⟩
      obtain ⟨ν, r1, r2, r3⟩ := c_blanks hT hB k (p + 1) f (fm_sI μ 123 4 (n3 (p + 1))) (by omega) (by omega) (ht.ch c1 (by omega) (fun _ => id)) (fm_sI_eq ⟨rfl, rfl⟩)
      refine ⟨ν, ?_, ?_, c1.trans r3⟩
      · rw [if_neg (fun q => q (by rw [c]))]; exact r1
      · rw [if_pos ⟨by omega, decide_eq_true c⟩]; exact r2
    · refine ⟨μ, ?_, ?_, Ch.refl _ _ μ⟩
      · rw [if_pos (by rw [n3_eq (by omega) (by omega)]; exact c)]
      · rw [if_neg (fun q => c (of_decide_eq_true q.2))]; exact h4
theorem c_letters (hT : T ≤ 160) (hB : ∀ i, i < T → B i < 128) : ∀ (k p f : Nat) (μ : fm_M), p + k = T → k < f → TC B T μ → μ.1 123 4 = n3 p → ∃ ν, g_X5_skipLetters F f 0 μ = some ((), ν) ∧ ν.1 123 4 = n3 (rn isL B T k p) ∧ Ch (fun q j => q = 123 ∧ j = 4) noA μ ν
  | 0, p, f + 1, μ, hk, _, ht, h4 => by
    refine ⟨μ, ?_, h4, Ch.refl _ _ μ⟩
    rw [g_X5_skipLetters, if_pos rfl, b_X5_skipLetters_0, ht.1, h4, if_pos (by rw [n3_le (by omega) (by omega)]; omega)]
  | k + 1, p, f + 1, μ, hk, hf, ht, h4 => by
    have hb := hB p (by omega)
    have st : g_X5_skipLetters F (f + 1) 0 μ = (if n3 (bi (isL (B p))) = 0 then some ((), μ) else g_X5_skipLetters F f 0 (fm_sI μ 123 4 (n3 (p + 1)))) := by
      rw [g_X5_skipLetters, if_pos rfl, b_X5_skipLetters_0, ht.1, h4, if_neg (by rw [n3_le (by omega) (by omega)]; omega), if_pos (n3_in (by omega) (by omega)), n3_cl (by omega), ht.2 p (by omega), c_isL hb, Option.bind_some]
      dsimp only
      rw [h4, Option.bind_some, n3_one, n3_add]
    rw [st, rn]
    cases c : isL (B p) with
    | true =>
      have c1 : Ch (fun q j => q = 123 ∧ j = 4) noA μ (fm_sI μ 123 4 (n3 (p + 1))) := (Ch.refl _ _ μ).sI ⟨rfl, rfl⟩
      obtain ⟨ν, r1, r2, r3⟩ := c_letters hT hB k (p + 1) f (fm_sI μ 123 4 (n3 (p + 1))) (by omega) (by omega) (ht.ch c1 (by omega) (fun _ => id)) (fm_sI_eq ⟨rfl, rfl⟩)
      refine ⟨ν, ?_, ?_, c1.trans r3⟩
      · rw [if_neg (by decide)]; exact r1
      · rw [if_pos ⟨by omega, rfl⟩]; exact r2
    | false =>
      refine ⟨μ, ?_, ?_, Ch.refl _ _ μ⟩
      · rw [if_pos (by decide)]
      · rw [if_neg (fun q => by cases q.2)]; exact h4
/-- the number as far as it is read -/
def nvI (B : Nat → Nat) (st p : Nat) (x : Int32) : Prop := (p = st → x = n3 0) ∧ (p = st + 1 → x = n3 (B st - 48)) ∧ (p = st + 2 → x = n3 (10 * (B st - 48) + (B (st + 1) - 48)))
theorem c_figures {st : Nat} (hT : T ≤ 160) (hB : ∀ i, i < T → B i < 128) : ∀ (k p f : Nat) (μ : fm_M), p + k = T → k < f → st ≤ p → (∀ i, st ≤ i → i < p → isF (B i) = true) → TC B T μ → μ.1 123 2 = n3 0 → μ.1 123 4 = n3 p → μ.1 123 6 = n3 st → nvI B st p (μ.1 123 7) → ∃ ν, g_X5_takeFigures F f 5 μ = some ((), ν) ∧ ν.1 123 4 = n3 (rn isF B T k p) ∧ (rn isF B T k p - st ≤ 2 → ν.1 123 2 = n3 0 ∧ nvI B st (rn isF B T k p) (ν.1 123 7)) ∧ (2 < rn isF B T k p - st → ν.1 123 2 = n3 1 ∧ ν.1 123 3 = n3 st) ∧ Ch (fun q j => q = 123 ∧ (j = 2 ∨ j = 3 ∨ j = 4 ∨ j = 7)) noA μ ν := by
  have stop : ∀ (p : Nat) (μ : fm_M), p ≤ T → st ≤ p → μ.1 123 2 = n3 0 → μ.1 123 4 = n3 p → μ.1 123 6 = n3 st → nvI B st p (μ.1 123 7) → ∃ ν, (if ((μ.1 123 4) - (μ.1 123 6)) ≤ 2 then some ((), μ) else (Option.bind (f_X5_blame F 1 (μ.1 123 6) μ) (fun q3 => some ((), q3.2)))) = some ((), ν) ∧ ν.1 123 4 = n3 p ∧ (p - st ≤ 2 → ν.1 123 2 = n3 0 ∧ nvI B st p (ν.1 123 7)) ∧ (2 < p - st → ν.1 123 2 = n3 1 ∧ ν.1 123 3 = n3 st) ∧ Ch (fun q j => q = 123 ∧ (j = 2 ∨ j = 3 ∨ j = 4 ∨ j = 7)) noA μ ν := by
    intro p μ hp hs h2 h4 h6 h7
    rw [h4, h6, n3_sub hs, n3_k2]
    by_cases c : p - st ≤ 2
    · exact ⟨μ, if_pos (by rw [n3_le (by omega) (by omega)]; exact c), h4, fun _ => ⟨h2, h7⟩, fun q => by omega, Ch.refl _ _ μ⟩
    · refine ⟨fm_sI (fm_sI μ 123 2 (n3 1)) 123 3 (n3 st), ?_, ?_, fun q => by omega, fun _ => ⟨?_, ?_⟩, ((Ch.refl _ _ μ).sI (by omega)).sI (by omega)⟩
      · rw [if_neg (by rw [n3_le (by omega) (by omega)]; exact c)]
        unfold f_X5_blame
        rw [h2, if_neg (fun q => q rfl), n3_one]
        rfl
      · simp (disch := omega) only [fm_sI_ne, fm_sI_eq, h4]
      · simp (disch := omega) only [fm_sI_ne, fm_sI_eq]
      · simp (disch := omega) only [fm_sI_ne, fm_sI_eq]
  intro k
  induction k with
  | zero =>
    intro p f μ hk hf hs hF ht h2 h4 h6 h7
    obtain ⟨f, rfl⟩ : ∃ q, f = q + 1 := ⟨f - 1, by omega⟩
    obtain ⟨ν, r⟩ := stop p μ (by omega) hs h2 h4 h6 h7
    refine ⟨ν, ?_⟩
    rw [g_X5_takeFigures, if_pos rfl, b_X5_takeFigures_5, if_pos (by rw [ht.1, h4, n3_le (by omega) (by omega)]; omega)]
    exact r
  | succ k ih =>
    intro p f μ hk hf hs hF ht h2 h4 h6 h7
    obtain ⟨f, rfl⟩ : ∃ q, f = q + 1 := ⟨f - 1, by omega⟩
    have hb := hB p (by omega)
    have sto := stop p μ (by omega) hs h2 h4 h6 h7
    rw [g_X5_takeFigures, if_pos rfl, b_X5_takeFigures_5, if_neg (by rw [ht.1, h4, n3_le (by omega) (by omega)]; omega), if_pos (by rw [h4]; exact n3_in (by omega) (by omega)), show μ.2.1 124 (μ.1 123 4).toNatClampNeg = n3 (B p) by rw [h4, n3_cl (by omega)]; exact ht.2 p (by omega), c_isF hb, Option.bind_some]
    dsimp only
    cases c : isF (B p) with
    | false =>
      have er : rn isF B T (k + 1) p = p := by rw [rn, if_neg (fun q => by rw [c] at q; cases q.2)]
      rw [if_pos (show n3 (bi false) = 0 by decide), er]
      exact sto
    | true =>
      have cf := of_decide_eq_true c
      have er : rn isF B T (k + 1) p = rn isF B T k (p + 1) := by rw [rn, if_pos ⟨by omega, c⟩]
      rw [if_neg (show ¬ n3 (bi true) = 0 by decide), er, h4, if_pos (n3_in (by omega) (by omega)), n3_cl (by omega), ht.2 p (by omega), Option.bind_some, fm_sI_ne (by omega), h4, Option.bind_some, n3_one, n3_add, show (48 : Int32) = n3 48 from n3_lit 48, n3_sub (by omega), n3_k10]
      generalize hm : fm_sI (fm_sI μ 123 7 (μ.1 123 7 * n3 10 + n3 (B p - 48))) 123 4 (n3 (p + 1)) = m
      have c1 : Ch (fun q j => q = 123 ∧ (j = 2 ∨ j = 3 ∨ j = 4 ∨ j = 7)) noA μ m := by rw [← hm]; exact ((Ch.refl _ _ μ).sI (by omega)).sI (by omega)
      obtain ⟨ν, r1, r2, r3, r4, r5⟩ := ih (p + 1) f m (by omega) (by omega) (by omega) (fun i h1 h2 => by
        by_cases e : i = p
        · rw [e]; exact c
        · exact hF i h1 (by omega)) (ht.ch c1 (by omega) (fun _ => id)) (by rw [← hm]; simp (disch := omega) only [fm_sI_ne, fm_sI_eq, h2]) (by rw [← hm]; simp (disch := omega) only [fm_sI_eq]) (by rw [← hm]; simp (disch := omega) only [fm_sI_ne, fm_sI_eq, h6]) (by
        have e7 : m.1 123 7 = μ.1 123 7 * n3 10 + n3 (B p - 48) := by rw [← hm]; simp (disch := omega) only [fm_sI_ne, fm_sI_eq]
        rw [e7]
        refine ⟨fun q => by omega, fun q => ?_, fun q => ?_⟩
        · rw [h7.1 (by omega), n3_mul, n3_add, show p = st by omega, Nat.zero_mul, Nat.zero_add]
        · rw [h7.2.1 (by omega), n3_mul, n3_add, show p = st + 1 by omega, Nat.mul_comm])
      exact ⟨ν, r1, r2, r3, r4, c1.trans r5⟩
/-- a token is there -/
def CT (B : Nat → Nat) (T p : Nat) (μ : fm_M) : Prop := TC B T μ ∧ μ.1 123 2 = n3 0 ∧ μ.1 123 4 = n3 (lxE B T p) ∧ μ.1 123 5 = n3 (lxK B T p) ∧ μ.1 123 6 = n3 (lxS B T p) ∧ (lxK B T p = 2 → μ.1 123 7 = n3 (lxV B T p))
theorem c_tok (hT : T ≤ 160) (hB : ∀ i, i < T → B i < 128) (hp : p ≤ T) (ht : TC B T μ) (h2 : μ.1 123 2 = n3 0) (h4 : μ.1 123 4 = n3 p) (hF : 1000 < F) : ∃ ν, f_X5_nextToken F μ = some ((), ν) ∧ (¬ lxF B T p → CT B T p ν) ∧ (lxF B T p → ν.1 123 2 = n3 1 ∧ ν.1 123 3 = n3 (lxS B T p)) ∧ Ch tkI noA μ ν := by
  obtain ⟨m1, q1, q2, q3⟩ := c_blanks (F := F) hT hB (T - p) p F μ (by omega) (by omega) ht h4
  have q1 : f_X5_skipBlanks F μ = some ((), m1) := q1
  have q2 : m1.1 123 4 = n3 (lxS B T p) := q2
  have sl := lxS_le (B := B) hp
  generalize hm2 : fm_sI m1 123 6 (n3 (lxS B T p)) = m2
  have c2 : Ch tkI noA μ m2 := by rw [← hm2]; exact (q3.weak (fun q j c => by unfold tkI; omega) (fun _ _ c => c)).sI (by unfold tkI; omega)
  have t2 : TC B T m2 := ht.ch c2 (by unfold tkI; omega) (fun _ => id)
  have f2 : m2.1 123 2 = n3 0 := by rw [← hm2, fm_sI_ne (by omega), q3.1 123 2 (by omega)]; exact h2
  have f4 : m2.1 123 4 = n3 (lxS B T p) := by rw [← hm2, fm_sI_ne (by omega)]; exact q2
  have f6 : m2.1 123 6 = n3 (lxS B T p) := by rw [← hm2]; exact fm_sI_eq ⟨rfl, rfl⟩
  unfold f_X5_nextToken
  rw [q1, Option.bind_some]
  dsimp only
  rw [q2, hm2, Option.bind_some, f4, t2.1]
  by_cases c0 : T ≤ lxS B T p
  · obtain ⟨k1, k2, k3⟩ := lx0 c0
    rw [if_neg (by rw [n3_lt (by omega) (by omega)]; omega), Option.bind_some]
    refine ⟨_, rfl, fun _ => ⟨t2.ch ((Ch.refl tkI noA m2).sI (by unfold tkI; omega)) (by unfold tkI; omega) (fun _ => id), ?_, ?_, ?_, ?_, fun q => by omega⟩, fun q => absurd q k3, c2.sI (by unfold tkI; omega)⟩
    · simp (disch := omega) only [fm_sI_ne, f2]
    · rw [fm_sI_ne (by omega), k2]; exact f4
    · rw [k1]; exact fm_sI_eq ⟨rfl, rfl⟩
    · simp (disch := omega) only [fm_sI_ne, f6]
  · have hb := hB (lxS B T p) (by omega)
    have tb := t2.2 (lxS B T p) (by omega)
    rw [if_pos (by rw [n3_lt (by omega) (by omega)]; omega), if_pos (n3_in (by omega) (by omega)), n3_cl (by omega), tb, c_isL hb, Option.bind_some]
    dsimp only
    cases cL : isL (B (lxS B T p)) with
    | true =>
      obtain ⟨k1, k2, k3⟩ := lx1 c0 cL
      rw [if_neg (by decide), Option.bind_some]
      have c3 : Ch tkI noA m2 (fm_sI m2 123 5 1) := (Ch.refl _ _ m2).sI (by unfold tkI; omega)
      obtain ⟨m4, r1, r2, r3⟩ := c_letters (F := F) hT hB (T - lxS B T p) (lxS B T p) F (fm_sI m2 123 5 1) (by omega) (by omega) (t2.ch c3 (by unfold tkI; omega) (fun _ => id)) (by rw [fm_sI_ne (by omega)]; exact f4)
      have r1 : f_X5_skipLetters F (fm_sI m2 123 5 1) = some ((), m4) := r1
      have r3' : Ch tkI noA (fm_sI m2 123 5 1) m4 := r3.weak (fun q j c => by unfold tkI; omega) (fun _ _ c => c)
      rw [r1, Option.bind_some]
      refine ⟨m4, rfl, fun _ => ⟨(t2.ch c3 (by unfold tkI; omega) (fun _ => id)).ch r3' (by unfold tkI; omega) (fun _ => id), ?_, ?_, ?_, ?_, fun q => by omega⟩, fun q => absurd q k3, (c2.trans c3).trans r3'⟩
      · rw [r3.1 123 2 (by omega), fm_sI_ne (by omega)]; exact f2
      · rw [r2, k2]
      · rw [r3.1 123 5 (by omega), k1]; exact fm_sI_eq ⟨rfl, rfl⟩
      · rw [r3.1 123 6 (by omega), fm_sI_ne (by omega)]; exact f6
    | false =>
      rw [if_pos (by decide), f4, if_pos (n3_in (by omega) (by omega)), n3_cl (by omega), tb, c_isF hb, Option.bind_some]
      dsimp only
      cases cF : isF (B (lxS B T p)) with
      | true =>
        obtain ⟨k1, k2, k3⟩ := lx2 c0 (by rw [cL]; decide) cF
        rw [if_neg (by decide), Option.bind_some]
        have c3 : Ch tkI noA m2 (fm_sI (fm_sI m2 123 5 2) 123 7 0) := ((Ch.refl _ _ m2).sI (by unfold tkI; omega)).sI (by unfold tkI; omega)
        obtain ⟨m4, r1, r2, r3, r4, r5⟩ := c_figures (F := F) (st := lxS B T p) hT hB (T - lxS B T p) (lxS B T p) F (fm_sI (fm_sI m2 123 5 2) 123 7 0) (by omega) (by omega) (Nat.le_refl _) (fun i h1 h2 => by omega) (t2.ch c3 (by unfold tkI; omega) (fun _ => id)) (by simp (disch := omega) only [fm_sI_ne, f2]) (by simp (disch := omega) only [fm_sI_ne, f4]) (by simp (disch := omega) only [fm_sI_ne, f6]) ⟨fun _ => fm_sI_eq ⟨rfl, rfl⟩, fun q => by omega, fun q => by omega⟩
        rw [← k2] at r2 r3 r4
        have r1' : f_X5_takeFigures F (fm_sI m2 123 5 2) = some ((), m4) := r1
        have r5' : Ch tkI noA (fm_sI (fm_sI m2 123 5 2) 123 7 0) m4 := r5.weak (fun q j c => by unfold tkI; omega) (fun _ _ c => c)
        rw [r1', Option.bind_some]
        have gt := lxE_gt (B := B) (T := T) (p := p) (by omega)
        refine ⟨m4, rfl, fun q => ?_, fun q => r4 (k3.mp q), (c2.trans c3).trans r5'⟩
        have le2 : lxE B T p - lxS B T p ≤ 2 := by
          by_cases z : 2 < lxE B T p - lxS B T p
          · exact absurd (k3.mpr z) q
          · omega
        obtain ⟨s1, s2⟩ := r3 le2
        refine ⟨(t2.ch c3 (by unfold tkI; omega) (fun _ => id)).ch r5' (by unfold tkI; omega) (fun _ => id), s1, r2, ?_, ?_, fun _ => ?_⟩
        · rw [r5.1 123 5 (by omega), fm_sI_ne (by omega), k1]; exact fm_sI_eq ⟨rfl, rfl⟩
        · rw [r5.1 123 6 (by omega), fm_sI_ne (by omega), fm_sI_ne (by omega)]; exact f6
        · unfold lxV
          by_cases z : lxE B T p - lxS B T p = 1
          · rw [if_pos z]; exact s2.2.1 (by omega)
          · rw [if_neg z]; exact s2.2.2 (by omega)
      | false =>
        obtain ⟨k1, k2, k3⟩ := lx3 c0 (by rw [cL]; decide) (by rw [cF]; decide)
        rw [if_pos (by decide), f4, if_pos (n3_in (by omega) (by omega)), n3_cl (by omega), tb, show (59 : Int32) = n3 59 from n3_lit 59]
        by_cases cS : B (lxS B T p) = 59
        · rw [if_neg (fun q => q (by rw [cS])), Option.bind_some, fm_sI_ne (by omega), f4, Option.bind_some, n3_one, n3_add]
          refine ⟨_, rfl, fun _ => ⟨t2.ch (((Ch.refl tkI noA m2).sI (by unfold tkI; omega)).sI (by unfold tkI; omega)) (by unfold tkI; omega) (fun _ => id), ?_, ?_, ?_, ?_, fun q => by omega⟩, fun q => absurd cS (k3.mp q), (c2.sI (by unfold tkI; omega)).sI (by unfold tkI; omega)⟩
          · simp (disch := omega) only [fm_sI_ne, f2]
          · rw [k2]; exact fm_sI_eq ⟨rfl, rfl⟩
          · rw [fm_sI_ne (by omega), k1]; exact fm_sI_eq ⟨rfl, rfl⟩
          · simp (disch := omega) only [fm_sI_ne, f6]
        · refine ⟨fm_sI (fm_sI m2 123 2 (n3 1)) 123 3 (n3 (lxS B T p)), ?_, fun q => absurd (k3.mpr cS) q, fun _ => ⟨?_, ?_⟩, (c2.sI (by unfold tkI; omega)).sI (by unfold tkI; omega)⟩
          · rw [if_pos (by rw [n3_eq (by omega) (by omega)]; exact cS), f6]
            unfold f_X5_blame
            rw [f2, if_neg (fun q => q rfl), n3_one]
            rfl
          · simp (disch := omega) only [fm_sI_ne, fm_sI_eq]
          · simp (disch := omega) only [fm_sI_ne, fm_sI_eq]
end VS64
