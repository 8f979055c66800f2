/-! needs: 30.int -/
/-! what there is, as numbers: 0 wool, 4 place, 8 kind, 13 warmth, 18 whose, 23 stones, 24 oven, 25 heat, 26 wind, 27 prices, 33 owed, 37 minute, 38 people, 39 debts, 40 debtor, 44 creditor -/
def cool (w r : Nat) : Nat := w - 1 - w * r / 20
def coolN (w r : Nat) : Nat → Nat
  | 0 => w
  | n + 1 => cool (coolN w r n) r
def base (k : Nat) : Nat := ([6, 4, 8, 3] : List Nat).getD k 0
def rateA (k v : Nat) : Nat := if base k - v < 1 then 1 else base k - v
def rate (a : Nat → Nat) (s : Nat) : Nat := rateA (a (8 + s)) (a (a (18 + s)))
def dist (x y : Nat) : Nat := if x < y then y - x else x - y
def betw (a : Nat → Nat) (p q : Nat) : Nat := dist (a (4 + p)) (a (4 + q)) + 1
def ovenW (a : Nat → Nat) (s : Nat) : Nat := dist (a (4 + a (18 + s))) (a 24)
def WF (a : Nat → Nat) : Prop := (a 38 ≤ 4 ∧ a 23 ≤ 5 ∧ a 39 ≤ 4 ∧ a 24 ≤ 9 ∧ 5 ≤ a 25 ∧ a 25 ≤ 99 ∧ a 26 ≤ 10) ∧ (∀ i, i < a 38 → a i ≤ 5 ∧ a (4 + i) ≤ 9) ∧ (∀ i, i < a 23 → a (8 + i) ≤ 3 ∧ a (13 + i) ≤ 99 ∧ a (18 + i) < a 38) ∧ (∀ i, i < 6 → 1 ≤ a (27 + i) ∧ a (27 + i) ≤ 9) ∧ (∀ i, i < a 39 → a (33 + i) ≤ 99 ∧ a (40 + i) < a 38 ∧ a (44 + i) < a 38 ∧ a (40 + i) ≠ a (44 + i))
/-- the class's world at w holds a -/
def AW (μ : fm_M) (w : Nat) (a : Nat → Nat) : Prop := (μ.1 w 0 = n3 (a 38) ∧ μ.1 w 3 = n3 (a 23) ∧ μ.1 w 7 = n3 (a 24) ∧ μ.1 w 8 = n3 (a 25) ∧ μ.1 w 9 = n3 (a 26) ∧ μ.1 w 11 = n3 (a 39) ∧ μ.1 w 15 = n3 (a 37)) ∧ (∀ i, i < a 38 → μ.2.1 (w + 1) i = n3 (a i) ∧ μ.2.1 (w + 2) i = n3 (a (4 + i))) ∧ (∀ i, i < a 23 → μ.2.1 (w + 3) i = n3 (a (8 + i)) ∧ μ.2.1 (w + 4) i = n3 (a (13 + i)) ∧ μ.2.1 (w + 5) i = n3 (a (18 + i))) ∧ (∀ i, i < 6 → μ.2.1 (w + 6) i = n3 (a (27 + i))) ∧ (∀ i, i < a 39 → μ.2.1 (w + 7) i = n3 (a (40 + i)) ∧ μ.2.1 (w + 8) i = n3 (a (44 + i)) ∧ μ.2.1 (w + 9) i = n3 (a (33 + i)))
/-- the reference's page at P holds a -/
def AP (μ : fm_M) (P : Nat) (a : Nat → Nat) : Prop := (μ.1 232 1 = n3 (a 38) ∧ μ.1 232 3 = n3 (a 39) ∧ (∀ i, i < 4 → μ.2.1 235 i = n3 (base i)) ∧ (∀ i, i < a 39 → μ.2.1 234 (2 * i) = n3 (a (40 + i)) ∧ μ.2.1 234 (2 * i + 1) = n3 (a (44 + i)))) ∧ (μ.2.1 233 (P + 23) = n3 (a 23) ∧ μ.2.1 233 (P + 24) = n3 (a 24) ∧ μ.2.1 233 (P + 25) = n3 (a 25) - n3 50 ∧ μ.2.1 233 (P + 26) = n3 (a 26) - n3 2 ∧ μ.2.1 233 (P + 37) = n3 (a 37)) ∧ (∀ i, i < a 38 → μ.2.1 233 (P + i) = n3 (a i) ∧ μ.2.1 233 (P + 4 + i) = n3 (a (4 + i))) ∧ (∀ i, i < a 23 → μ.2.1 233 (P + 8 + i) = n3 (a (8 + i)) ∧ μ.2.1 233 (P + 13 + i) = n3 (a (13 + i)) ∧ μ.2.1 233 (P + 18 + i) = n3 (a (18 + i))) ∧ (∀ i, i < 6 → μ.2.1 233 (P + 27 + i) = n3 (a (27 + i)) - n3 1) ∧ (∀ i, i < a 39 → μ.2.1 233 (P + 33 + i) = n3 (a (33 + i)))
theorem cool_le (w r : Nat) : cool w r ≤ w := by unfold cool; omega
theorem coolN_le (w r : Nat) : ∀ n, coolN w r n ≤ w
  | 0 => Nat.le_refl _
  | n + 1 => Nat.le_trans (cool_le _ _) (coolN_le w r n)
theorem coolN_add (w r m : Nat) : ∀ n, coolN w r (m + n) = coolN (coolN w r m) r n
  | 0 => rfl
  | n + 1 => by rw [← Nat.add_assoc]; show cool _ _ = cool _ _; rw [coolN_add w r m n]
theorem base_le (k : Nat) : base k ≤ 8 := by
  unfold base
  match k with
  | 0 => decide
  | 1 => decide
  | 2 => decide
  | 3 => decide
  | k + 4 => exact Nat.zero_le _
theorem rateA_le (k v : Nat) : rateA k v ≤ 8 := by
  have := base_le k
  unfold rateA
  split <;> omega
theorem rateA_pos (k v : Nat) : 1 ≤ rateA k v := by
  unfold rateA
  split <;> omega
theorem rate_le (a : Nat → Nat) (s : Nat) : rate a s ≤ 8 := rateA_le _ _
theorem dist_le {x y : Nat} (h : x ≤ 9) (h2 : y ≤ 9) : dist x y ≤ 9 := by
  unfold dist
  split <;> omega
theorem betw_le {a : Nat → Nat} (wf : WF a) {p q : Nat} (hp : p < a 38) (hq : q < a 38) : betw a p q ≤ 10 := by
  have := dist_le (wf.2.1 p hp).2 (wf.2.1 q hq).2
  unfold betw
  omega
theorem ovenW_le {a : Nat → Nat} (wf : WF a) {s : Nat} (hs : s < a 23) : ovenW a s ≤ 9 := dist_le (wf.2.1 _ (wf.2.2.1 s hs).2.2).2 (by have := wf.1; omega)
section VS31
variable {F : Nat} {μ : fm_M} {a : Nat → Nat} {w : Nat}
theorem v_cool : ((List.range 100).all fun w => (List.range 9).all fun r => decide ((if (0 : Int32) < ((n3 w - 1) - ((n3 w * n3 r) / 20)) then ((n3 w - 1) - ((n3 w * n3 r) / 20)) else 0) = n3 (cool w r)) && decide ((if (0 : Int32) ≤ ((n3 w - 1) - ((n3 w * n3 r) / 20)) then ((n3 w - 1) - ((n3 w * n3 r) / 20)) else 0) = n3 (cool w r))) = true := by decide +kernel
theorem v_rate : ((List.range 4).all fun k => (List.range 6).all fun v => decide ((if (1 : Int32) < (ab_bas.getD k 0 - n3 v) then (ab_bas.getD k 0 - n3 v) else 1) = n3 (rateA k v)) && decide ((if (1 : Int32) ≤ (n3 (base k) - n3 v) then (n3 (base k) - n3 v) else 1) = n3 (rateA k v))) = true := by decide +kernel
theorem v_cool' {w r : Nat} (h : w < 100) (h2 : r < 9) : (if (0 : Int32) < ((n3 w - 1) - ((n3 w * n3 r) / 20)) then ((n3 w - 1) - ((n3 w * n3 r) / 20)) else 0) = n3 (cool w r) ∧ (if (0 : Int32) ≤ ((n3 w - 1) - ((n3 w * n3 r) / 20)) then ((n3 w - 1) - ((n3 w * n3 r) / 20)) else 0) = n3 (cool w r) := by
  have := List.all_eq_true.mp (List.all_eq_true.mp v_cool w (List.mem_range.mpr h)) r (List.mem_range.mpr h2)
  simpa only [Bool.and_eq_true, decide_eq_true_eq] using this
theorem v_rate' {k v : Nat} (h : k < 4) (h2 : v < 6) : (if (1 : Int32) < (ab_bas.getD k 0 - n3 v) then (ab_bas.getD k 0 - n3 v) else 1) = n3 (rateA k v) ∧ (if (1 : Int32) ≤ (n3 (base k) - n3 v) then (n3 (base k) - n3 v) else 1) = n3 (rateA k v) := by
  have := List.all_eq_true.mp (List.all_eq_true.mp v_rate k (List.mem_range.mpr h)) v (List.mem_range.mpr h2)
  simpa only [Bool.and_eq_true, decide_eq_true_eq] using this
theorem c_cooled {w r : Nat} (h : w < 100) (h2 : r < 9) : f_X8_cooled F (n3 w) (n3 r) μ = some (n3 (cool w r), μ) := by
  unfold f_X8_cooled f_J9_max_7cf53
  have := (v_cool' h h2).1
  split at this <;> rename_i hc
  · rw [if_pos hc, this]; rfl
  · rw [if_neg hc, this]; rfl
theorem m_cooled {w r : Nat} (h : w < 100) (h2 : r < 9) : f_X9_cooled F (n3 w) (n3 r) μ = some (n3 (cool w r), μ) := by
  unfold f_X9_cooled
  have := (v_cool' h h2).2
  split at this <;> rename_i hc
  · rw [if_pos hc, this]
  · rw [if_neg hc, this]
theorem c_rate {k v : Nat} (h : k < 4) (h2 : v < 6) : f_X8_rate F (n3 k) (n3 v) μ = some (n3 (rateA k v), μ) := by
  have := (v_rate' h h2).1
  simp only [n3_lit] at this
  simp (disch := omega) only [f_X8_rate, ↓reduceIte, Option.bind_some, n3_lit, n3_cl, n3_in, n3_ltT, n3_ltF, n3_leT, n3_leF, n3_eqT, n3_eqF, n3_add, n3_sub, not_true_eq_false, not_false_eq_true, true_or, or_true, false_or, or_false, Nat.zero_add, Nat.add_zero, nn_lt, nn_le, nn_gt, nn_ge, nn_eq, nn_qe, f_J9_max_7cf53]
  by_cases hc : n3 1 < ab_bas.getD k (n3 0) - n3 v
  · rw [if_pos hc] at this ⊢; rw [this]; rfl
  · rw [if_neg hc] at this ⊢; rw [this]; rfl
theorem m_rateOf {k v : Nat} (h : k < 4) (h2 : v < 6) : f_X9_rateOf F (n3 (base k)) (n3 v) μ = some (n3 (rateA k v), μ) := by
  unfold f_X9_rateOf
  have := (v_rate' h h2).2
  split at this <;> rename_i hc
  · rw [if_pos hc, this]
  · rw [if_neg hc, this]
theorem c_cooledFor_l {w r N : Nat} (hw : w < 100) (hr : r < 9) (hN : N < 1000000) : ∀ (k i n : Nat), i + k = N → k < n → g_X8_cooledFor F n 5 (n3 r) (n3 N) (n3 (coolN w r i)) (n3 i) μ = some (n3 (coolN w r N), μ)
  | 0, i, n + 1, h, _ => by
    obtain rfl : i = N := by omega
    simp (disch := omega) only [g_X8_cooledFor, b_X8_cooledFor_5, ↓reduceIte, Option.bind_some, n3_lit, n3_cl, n3_in, n3_ltT, n3_ltF, n3_leT, n3_leF, n3_eqT, n3_eqF, n3_add, n3_sub, not_true_eq_false, not_false_eq_true, true_or, or_true, false_or, or_false, Nat.zero_add, Nat.add_zero, nn_lt, nn_le, nn_gt, nn_ge, nn_eq, nn_qe]
  | k + 1, i, n + 1, h, h2 => by
    have := coolN_le w r i
    simp (disch := omega) only [g_X8_cooledFor, b_X8_cooledFor_5, ↓reduceIte, Option.bind_some, n3_lit, n3_cl, n3_in, n3_ltT, n3_ltF, n3_leT, n3_leF, n3_eqT, n3_eqF, n3_add, n3_sub, not_true_eq_false, not_false_eq_true, true_or, or_true, false_or, or_false, Nat.zero_add, Nat.add_zero, nn_lt, nn_le, nn_gt, nn_ge, nn_eq, nn_qe, c_cooled]
    exact c_cooledFor_l hw hr hN k (i + 1) n (by omega) (by omega)
theorem c_cooledFor {w r N : Nat} (hw : w < 100) (hr : r < 9) (hN : N < 1000000) (hF : N < F) : f_X8_cooledFor F (n3 w) (n3 r) (n3 N) μ = some (n3 (coolN w r N), μ) := c_cooledFor_l hw hr hN N 0 F (by omega) hF
theorem m_afterOf_l {w r N : Nat} (hw : w < 100) (hr : r < 9) (hN : N < 1000000) : ∀ (k i n : Nat), i + k = N → k < n → g_X9_afterOf F n 6 (n3 r) (n3 N) (n3 (coolN w r i)) (n3 i) μ = some (n3 (coolN w r N), μ)
  | 0, i, n + 1, h, _ => by
    obtain rfl : i = N := by omega
    simp (disch := omega) only [g_X9_afterOf, b_X9_afterOf_6, ↓reduceIte, Option.bind_some, n3_lit, n3_cl, n3_in, n3_ltT, n3_ltF, n3_leT, n3_leF, n3_eqT, n3_eqF, n3_add, n3_sub, not_true_eq_false, not_false_eq_true, true_or, or_true, false_or, or_false, Nat.zero_add, Nat.add_zero, nn_lt, nn_le, nn_gt, nn_ge, nn_eq, nn_qe]
  | k + 1, i, n + 1, h, h2 => by
    have := coolN_le w r i
    simp (disch := omega) only [g_X9_afterOf, b_X9_afterOf_6, ↓reduceIte, Option.bind_some, n3_lit, n3_cl, n3_in, n3_ltT, n3_ltF, n3_leT, n3_leF, n3_eqT, n3_eqF, n3_add, n3_sub, not_true_eq_false, not_false_eq_true, true_or, or_true, false_or, or_false, Nat.zero_add, Nat.add_zero, nn_lt, nn_le, nn_gt, nn_ge, nn_eq, nn_qe, m_cooled]
    exact m_afterOf_l hw hr hN k (i + 1) n (by omega) (by omega)
theorem m_afterOf {w r N : Nat} (hw : w < 100) (hr : r < 9) (hN : N < 1000000) (hF : N < F) : f_X9_afterOf F (n3 w) (n3 r) (n3 N) μ = some (n3 (coolN w r N), μ) := m_afterOf_l hw hr hN N 0 F (by omega) hF
end VS31
