/-! needs: 30.int 31.abs -/
/-! the class's world -/
def st (a : Nat → Nat) (k v : Nat) : Nat → Nat := fun j => if j = k then v else a j
theorem st_eq {a : Nat → Nat} {k v j : Nat} (h : j = k) : st a k v j = v := if_pos h
theorem st_ne {a : Nat → Nat} {k v j : Nat} (h : j ≠ k) : st a k v j = a j := if_neg h
def pass (a : Nat → Nat) (n : Nat) : Nat → Nat := fun k => if 13 ≤ k ∧ k < 13 + a 23 then coolN (a k) (rate a (k - 13)) n else if k = 37 then a 37 + n else a k
def fo (a o : Nat → Nat) (f t : Nat) : Nat → Nat → Option Nat
  | _, 0 => none
  | i, k + 1 => if a (40 + i) = f ∧ a (44 + i) = t ∧ o i ≠ 0 then some i else fo a o f t (i + 1) k
def less (v w : Nat) : Nat := if w < 5 then v else v - w
def lessO (a : Nat → Nat) (w : Nat) : Option Nat → Nat → Nat
  | none => a
  | some d => st a (33 + d) (less (a (33 + d)) w)
def hand (a : Nat → Nat) (s p : Nat) : Nat → Nat := lessO (st (pass a (betw a (a (18 + s)) p)) (18 + s) p) (pass a (betw a (a (18 + s)) p) (13 + s)) (fo a (fun i => a (33 + i)) (a (18 + s)) p 0 (a 39))
def bake (a : Nat → Nat) (s : Nat) : Nat → Nat := pass (st (pass (pass a (ovenW a s)) 1) (13 + s) (if pass a (ovenW a s) (13 + s) < a 25 then a 25 else pass a (ovenW a s) (13 + s))) (ovenW a s)
theorem pass_w {a : Nat → Nat} {n s : Nat} (hs : s < a 23) : pass a n (13 + s) = coolN (a (13 + s)) (rate a s) n := by
  unfold pass
  rw [if_pos (by omega), show 13 + s - 13 = s by omega]
theorem pass_n {a : Nat → Nat} {n k : Nat} (h : k < 13 ∨ 13 + a 23 ≤ k) (h2 : k ≠ 37) : pass a n k = a k := by
  unfold pass
  rw [if_neg (by omega), if_neg h2]
theorem pass_m {a : Nat → Nat} {n : Nat} (h : a 23 ≤ 5) : pass a n 37 = a 37 + n := by
  unfold pass
  rw [if_neg (by omega), if_pos rfl]
theorem pass_rate {a : Nat → Nat} (wf : WF a) {n s : Nat} (hs : s < a 23) : rate (pass a n) s = rate a s := by
  obtain ⟨⟨b38, b23, b39, b24, b25, b25u, b26⟩, wP, wS, wR, wD⟩ := id wf
  have := wS s hs
  unfold rate
  rw [pass_n (k := 8 + s) (by omega) (by omega), pass_n (k := 18 + s) (by omega) (by omega), pass_n (k := a (18 + s)) (by omega) (by omega)]
theorem pass_wf {a : Nat → Nat} (wf : WF a) (n : Nat) : WF (pass a n) := by
  obtain ⟨⟨b38, b23, b39, b24, b25, b25u, b26⟩, wP, wS, wR, wD⟩ := id wf
  unfold WF
  simp (disch := omega) only [pass_n]
  refine ⟨⟨b38, b23, b39, b24, b25, b25u, b26⟩, fun i hi => ?_, fun i hi => ?_, fun i hi => ?_, fun i hi => ?_⟩
  · simp (disch := omega) only [pass_n]; exact wP i hi
  · have := wS i hi
    have := coolN_le (a (13 + i)) (rate a i) n
    simp (disch := omega) only [pass_n, pass_w]; omega
  · simp (disch := omega) only [pass_n]; exact wR i hi
  · simp (disch := omega) only [pass_n]; exact wD i hi
theorem pass_pass {a : Nat → Nat} (wf : WF a) (m n : Nat) : pass (pass a m) n = pass a (m + n) := by
  obtain ⟨⟨b38, b23, b39, b24, b25, b25u, b26⟩, wP, wS, wR, wD⟩ := id wf
  funext k
  by_cases h1 : 13 ≤ k ∧ k < 13 + a 23
  · obtain ⟨s, rfl⟩ : ∃ s, k = 13 + s := ⟨k - 13, by omega⟩
    have e23 : pass a m 23 = a 23 := pass_n (by omega) (by omega)
    rw [pass_w (by rw [e23]; omega), pass_w (by omega), pass_w (by omega), pass_rate wf (by omega), coolN_add]
  · have e23 : pass a m 23 = a 23 := pass_n (by omega) (by omega)
    by_cases h2 : k = 37
    · subst h2
      rw [pass_m (by omega), pass_m (by omega), pass_m (by omega)]; omega
    · rw [pass_n (by omega) h2, pass_n (by omega) h2, pass_n (by omega) h2]
theorem fo_lt {a o : Nat → Nat} {f t : Nat} : ∀ (k i d : Nat), fo a o f t i k = some d → d < i + k
  | 0, i, d, h => by cases h
  | k + 1, i, d, h => by
    unfold fo at h
    split at h
    · cases h; omega
    · have := fo_lt k (i + 1) d h; omega
theorem less_le (v w : Nat) : less v w ≤ v := by unfold less; split <;> omega
section VS32
variable {F : Nat} {μ ν : fm_M} {a : Nat → Nat} {w : Nat}
theorem AW.fr {lo hi : Nat} (h : AW μ w a) (hf : Fr lo hi μ ν) (hw : w + 10 ≤ lo ∨ hi ≤ w) : AW ν w a := by
  unfold AW
  rw [(hf.1 w (by omega)).1, (hf.1 (w + 1) (by omega)).2, (hf.1 (w + 2) (by omega)).2, (hf.1 (w + 3) (by omega)).2, (hf.1 (w + 4) (by omega)).2, (hf.1 (w + 5) (by omega)).2, (hf.1 (w + 6) (by omega)).2, (hf.1 (w + 7) (by omega)).2, (hf.1 (w + 8) (by omega)).2, (hf.1 (w + 9) (by omega)).2]
  exact h
theorem AP.fr {lo hi P : Nat} (h : AP μ P a) (hf : Fr lo hi μ ν) (hw : hi ≤ 232) : AP ν P a := by
  unfold AP
  rw [(hf.1 232 (by omega)).1, (hf.1 233 (by omega)).2, (hf.1 234 (by omega)).2, (hf.1 235 (by omega)).2]
  exact h
theorem c_rateOf (h : AW μ w a) (wf : WF a) {s : Nat} (hs : s < a 23) : f_X7_rateOf F w (n3 s) μ = some (n3 (rate a s), μ) := by
  obtain ⟨⟨h0, h3, h7, h8, h9, h11, h15⟩, hP, hS, hR, hD⟩ := h; obtain ⟨⟨b38, b23, b39, b24, b25, b25u, b26⟩, wP, wS, wR, wD⟩ := id wf
  have := wS s hs
  have := wP (a (18 + s)) (by omega)
  simp (disch := omega) only [f_X7_rateOf, ↓reduceIte, Option.bind_some, n3_lit, n3_cl, n3_in, n3_ltT, n3_ltF, n3_leT, n3_leF, n3_eqT, n3_eqF, n3_add, n3_sub, not_true_eq_false, not_false_eq_true, true_or, or_true, false_or, or_false, Nat.zero_add, Nat.add_zero, nn_lt, nn_le, nn_gt, nn_ge, nn_eq, nn_qe, h0, h3, h7, h8, h9, h11, h15, hP, hS, hR, hD, c_rate]
  rfl
theorem v_abs : ((List.range 10).all fun x => (List.range 10).all fun y => decide ((if (0 : Int32) ≤ n3 x - n3 y then n3 x - n3 y else - (n3 x - n3 y)) = n3 (dist x y))) = true := by decide +kernel
theorem c_abs {x y : Nat} (h : x < 10) (h2 : y < 10) : f_J9_abs_0f7a4 F (n3 x - n3 y) μ = some (n3 (dist x y), μ) := by
  have := of_decide_eq_true (List.all_eq_true.mp (List.all_eq_true.mp v_abs x (List.mem_range.mpr h)) y (List.mem_range.mpr h2))
  unfold f_J9_abs_0f7a4
  split at this <;> rename_i hc
  · rw [if_pos hc, this]
  · rw [if_neg hc, this]
theorem c_betw (h : AW μ w a) (wf : WF a) {p q : Nat} (hp : p < a 38) (hq : q < a 38) : f_X7_minutesBetween F w (n3 p) (n3 q) μ = some (n3 (betw a p q), μ) := by
  obtain ⟨⟨h0, h3, h7, h8, h9, h11, h15⟩, hP, hS, hR, hD⟩ := h; obtain ⟨⟨b38, b23, b39, b24, b25, b25u, b26⟩, wP, wS, wR, wD⟩ := id wf
  have := wP p hp
  have := wP q hq
  simp (disch := omega) only [f_X7_minutesBetween, ↓reduceIte, Option.bind_some, n3_lit, n3_cl, n3_in, n3_ltT, n3_ltF, n3_leT, n3_leF, n3_eqT, n3_eqF, n3_add, n3_sub, not_true_eq_false, not_false_eq_true, true_or, or_true, false_or, or_false, Nat.zero_add, Nat.add_zero, nn_lt, nn_le, nn_gt, nn_ge, nn_eq, nn_qe, h0, h3, h7, h8, h9, h11, h15, hP, hS, hR, hD, c_abs]
  rfl
theorem c_ovenW (h : AW μ w a) (wf : WF a) {s : Nat} (hs : s < a 23) : f_X7_ovenDistance F w (n3 s) μ = some (n3 (ovenW a s), μ) := by
  obtain ⟨⟨h0, h3, h7, h8, h9, h11, h15⟩, hP, hS, hR, hD⟩ := h; obtain ⟨⟨b38, b23, b39, b24, b25, b25u, b26⟩, wP, wS, wR, wD⟩ := id wf
  have := wS s hs
  have := wP (a (18 + s)) (by omega)
  simp (disch := omega) only [f_X7_ovenDistance, ↓reduceIte, Option.bind_some, n3_lit, n3_cl, n3_in, n3_ltT, n3_ltF, n3_leT, n3_leF, n3_eqT, n3_eqF, n3_add, n3_sub, not_true_eq_false, not_false_eq_true, true_or, or_true, false_or, or_false, Nat.zero_add, Nat.add_zero, nn_lt, nn_le, nn_gt, nn_ge, nn_eq, nn_qe, h0, h3, h7, h8, h9, h11, h15, hP, hS, hR, hD, c_abs]
  rfl
end VS32
