/-! needs: 30.int 31.abs 32.cls 33.upd 34.clw -/
/-! the class's paying and heating -/
theorem fo_congr {a b o u : Nat → Nat} {f t : Nat} : ∀ (k i : Nat), (∀ j, i ≤ j → j < i + k → a (40 + j) = b (40 + j) ∧ a (44 + j) = b (44 + j) ∧ o j = u j) → fo a o f t i k = fo b u f t i k
  | 0, _, _ => rfl
  | k + 1, i, h => by
    unfold fo
    obtain ⟨h1, h2, h3⟩ := h i (Nat.le_refl _) (by omega)
    rw [h1, h2, h3, fo_congr k (i + 1) (fun j hj hj2 => h j (by omega) (by omega))]
theorem inA_W {w i : Nat} (hw : fm_isW w = true) (hi : i < 4) : fm_inA (w + 9) (n3 i) = true := by
  have h := of_decide_eq_true hw
  rcases h with rfl | rfl | rfl | rfl | rfl | rfl | rfl | rfl | rfl <;> exact n3_in (by omega) hi
theorem lessO_n {a : Nat → Nat} {x k : Nat} {d : Option Nat} (h : k < 33 ∨ 37 ≤ k) (hd : ∀ i, d = some i → i < 4) : lessO a x d k = a k := by
  cases d with
  | none => rfl
  | some i => exact st_ne (by have := hd i rfl; omega)
theorem hand_wf {a : Nat → Nat} (wf : WF a) {s p : Nat} (hs : s < a 23) (hp : p < a 38) : WF (hand a s p) := by
  have w1 := pass_wf wf (betw a (a (18 + s)) p)
  have b23 := wf.1
  have w2 := wf_owner w1 (i := s) (v := p) (by rw [pass_n (by omega) (by omega)]; omega) (by rw [pass_n (by omega) (by omega)]; omega)
  unfold hand
  generalize hd : fo a (fun i => a (33 + i)) (a (18 + s)) p 0 (a 39) = d
  cases d with
  | none => exact w2
  | some i =>
    have hi := fo_lt _ _ _ hd
    refine wf_amt w2 (i := i) (by rw [st_ne (by omega), pass_n (by omega) (by omega)]; omega) ?_
    have := (wf.2.2.2.2 i (by omega)).1
    have := less_le (st (pass a (betw a (a (18 + s)) p)) (18 + s) p (33 + i)) (pass a (betw a (a (18 + s)) p) (13 + s))
    rw [st_ne (by omega), pass_n (by omega) (by omega)] at this
    rw [st_ne (by omega), pass_n (by omega) (by omega)]
    omega
theorem bake_wf {a : Nat → Nat} (wf : WF a) {s : Nat} (hs : s < a 23) : WF (bake a s) := by
  have b23 := wf.1
  unfold bake
  refine pass_wf (wf_warm (pass_wf (pass_wf wf _) 1) (by rw [pass_n (by rw [pass_n (by omega) (by omega)]; omega) (by omega), pass_n (by omega) (by omega)]; omega) ?_) _
  have h1 := pass_w (n := ovenW a s) hs
  have h2 := coolN_le (a (13 + s)) (rate a s) (ovenW a s)
  have h3 := (wf.2.2.1 s hs).2.1
  split <;> omega
section VS35
variable {F : Nat} {μ ν : fm_M} {a : Nat → Nat} {w : Nat}
theorem c_hand (hw : fm_isW w = true) (h : AW μ w a) (wf : WF a) {s p : Nat} (hs : s < a 23) (hp : p < a 38) (hF : 50 < F) : ∃ ν, f_X7_handOver F w (n3 s) (n3 p) μ = some (n3 (pass a (betw a (a (18 + s)) p) (13 + s)), ν) ∧ AW ν w (hand a s p) ∧ Fr w (w + 10) μ ν := by
  have wO := wf.2.2.1 s hs
  have bb := betw_le wf wO.2.2 hp
  have b23 := wf.1
  have hb := c_betw (F := F) h wf wO.2.2 hp
  have hown := (h.2.2.1 s hs).2.2
  obtain ⟨μ1, e1, h1, f1⟩ := c_pass (F := F) h wf (n := betw a (a (18 + s)) p) (by omega) (by omega) (by omega)
  have w1 := pass_wf wf (betw a (a (18 + s)) p)
  have e23 : pass a (betw a (a (18 + s)) p) 23 = a 23 := pass_n (by omega) (by omega)
  have e38 : pass a (betw a (a (18 + s)) p) 38 = a 38 := pass_n (by omega) (by omega)
  have h2 := aw_owner h1 w1 (i := s) (by omega) p
  have w2 := wf_owner w1 (i := s) (v := p) (by omega) (by omega)
  have hwm := (h1.2.2.1 s (by omega)).2.1
  simp (disch := omega) only [f_X7_handOver, ↓reduceIte, Option.bind_some, n3_lit, n3_cl, n3_in, n3_ltT, n3_ltF, n3_leT, n3_leF, n3_eqT, n3_eqF, n3_add, n3_sub, not_true_eq_false, not_false_eq_true, true_or, or_true, false_or, or_false, Nat.zero_add, Nat.add_zero, nn_lt, nn_le, nn_gt, nn_ge, nn_eq, nn_qe, hown, hb, e1]
  generalize hm : fm_sA μ1 (w + 5) (upd (μ1.2.1 (w + 5)) s (n3 p)) = m at h2 ⊢
  have f2 : Fr w (w + 10) μ m := by rw [← hm]; exact f1.sA (by omega)
  have hwm2 : m.2.1 (w + 4) s = n3 (pass a (betw a (a (18 + s)) p) (13 + s)) := by rw [← hm, fm_sA_ne (by omega)]; exact hwm
  have hfo := c_fo (F := F) h2 w2 (b := w + 9) (o := fun i => st (pass a (betw a (a (18 + s)) p)) (18 + s) p (33 + i)) (f := a (18 + s)) (t := p) (fun i hi => inA_W hw hi) (fun i hi => ⟨(h2.2.2.2.2 i hi).2.2, (w2.2.2.2.2 i hi).1⟩) (by omega) (by omega) (by omega)
  have e39 : st (pass a (betw a (a (18 + s)) p)) (18 + s) p 39 = a 39 := by rw [st_ne (by omega), pass_n (by omega) (by omega)]
  rw [e39, fo_congr (b := a) (u := fun i => a (33 + i)) (a 39) 0 (fun j _ hj => ⟨by rw [st_ne (by omega), pass_n (by omega) (by omega)], by rw [st_ne (by omega), pass_n (by omega) (by omega)], by rw [st_ne (by omega), pass_n (by omega) (by omega)]⟩)] at hfo
  rw [hfo, Option.bind_some]
  have hpw : pass a (betw a (a (18 + s)) p) (13 + s) ≤ 99 := (w1.2.2.1 s (by omega)).2.1
  unfold hand
  generalize hd : fo a (fun i => a (33 + i)) (a (18 + s)) p 0 (a 39) = d
  cases d with
  | none =>
    simp (disch := omega) only [oi_none, ↓reduceIte, Option.bind_some, n3_lit, n3_cl, n3_in, n3_ltT, n3_ltF, n3_leT, n3_leF, n3_eqT, n3_eqF, n3_add, n3_sub, not_true_eq_false, not_false_eq_true, true_or, or_true, false_or, or_false, Nat.zero_add, Nat.add_zero, nn_lt, nn_le, nn_gt, nn_ge, nn_eq, nn_qe, hwm2]
    exact ⟨m, rfl, h2, f2⟩
  | some i =>
    have hi := fo_lt _ _ _ hd
    have ha := (h2.2.2.2.2 i (by omega)).2.2
    have hal := (w2.2.2.2.2 i (by omega)).1
    simp (disch := omega) only [oi_some, ↓reduceIte, Option.bind_some, n3_lit, n3_cl, n3_in, n3_ltT, n3_ltF, n3_leT, n3_leF, n3_eqT, n3_eqF, n3_add, n3_sub, not_true_eq_false, not_false_eq_true, true_or, or_true, false_or, or_false, Nat.zero_add, Nat.add_zero, nn_lt, nn_le, nn_gt, nn_ge, nn_eq, nn_qe, hwm2, ha, c_less, fm_sA_ne]
    exact ⟨_, rfl, aw_amt h2 w2 (i := i) (by omega) _, f2.sA (by omega)⟩
theorem c_bake (h : AW μ w a) (wf : WF a) {s : Nat} (hs : s < a 23) (hF : 50 < F) : ∃ ν, f_X7_bake F w (n3 s) μ = some ((), ν) ∧ AW ν w (bake a s) ∧ Fr w (w + 10) μ ν := by
  have b23 := wf.1
  have bo := ovenW_le wf hs
  have ho := c_ovenW (F := F) h wf hs
  obtain ⟨μ1, e1, h1, f1⟩ := c_pass (F := F) h wf (n := ovenW a s) (by omega) (by omega) (by omega)
  have w1 := pass_wf wf (ovenW a s)
  obtain ⟨μ2, e2, h2, f2⟩ := c_pass (F := F) h1 w1 (n := 1) (by omega) (by omega) (by omega)
  have w2 := pass_wf w1 1
  have e23 : pass a (ovenW a s) 23 = a 23 := pass_n (by omega) (by omega)
  have e25 : pass a (ovenW a s) 25 = a 25 := pass_n (by omega) (by omega)
  have e23' : pass (pass a (ovenW a s)) 1 23 = a 23 := by rw [pass_n (by omega) (by omega), e23]
  have hwm := (h1.2.2.1 s (by omega)).2.1
  have hht := h1.1.2.2.2.1
  rw [e25] at hht
  have hl : pass a (ovenW a s) (13 + s) ≤ 99 := (w1.2.2.1 s (by omega)).2.1
  have hmx : f_J9_max_7cf53 F (n3 (pass a (ovenW a s) (13 + s))) (n3 (a 25)) μ1 = some (n3 (if pass a (ovenW a s) (13 + s) < a 25 then a 25 else pass a (ovenW a s) (13 + s)), μ1) := by
    unfold f_J9_max_7cf53
    by_cases hc : pass a (ovenW a s) (13 + s) < a 25
    · simp (disch := omega) only [↓reduceIte, Option.bind_some, n3_lit, n3_cl, n3_in, n3_ltT, n3_ltF, n3_leT, n3_leF, n3_eqT, n3_eqF, n3_add, n3_sub, not_true_eq_false, not_false_eq_true, true_or, or_true, false_or, or_false, Nat.zero_add, Nat.add_zero, nn_lt, nn_le, nn_gt, nn_ge, nn_eq, nn_qe, if_pos hc]
    · simp (disch := omega) only [↓reduceIte, Option.bind_some, n3_lit, n3_cl, n3_in, n3_ltT, n3_ltF, n3_leT, n3_leF, n3_eqT, n3_eqF, n3_add, n3_sub, not_true_eq_false, not_false_eq_true, true_or, or_true, false_or, or_false, Nat.zero_add, Nat.add_zero, nn_lt, nn_le, nn_gt, nn_ge, nn_eq, nn_qe, if_neg hc]
  have h3 := aw_warm h2 w2 (i := s) (by omega) (if pass a (ovenW a s) (13 + s) < a 25 then a 25 else pass a (ovenW a s) (13 + s))
  have w3 := wf_warm w2 (i := s) (v := if pass a (ovenW a s) (13 + s) < a 25 then a 25 else pass a (ovenW a s) (13 + s)) (by omega) (by split <;> omega)
  obtain ⟨μ3, e3, h4, f3⟩ := c_pass (F := F) h3 w3 (n := ovenW a s) (by omega) (by omega) (by omega)
  have e2' : f_X7_letPass F w 1 μ1 = some ((), μ2) := e2
  have hi5 : ab_in (n3 s) 5 = true := n3_in (by omega) (by omega)
  have hc5 : (n3 s).toNatClampNeg = s := n3_cl (by omega)
  unfold f_X7_bake
  rw [ho, Option.bind_some, e1, Option.bind_some, if_pos hi5, hc5, hwm, hht, hmx, Option.bind_some, e2', Option.bind_some, if_pos hi5, Option.bind_some, e3, Option.bind_some]
  exact ⟨_, rfl, h4, (f1.trans f2).trans ((Fr.refl w (w + 10) μ2).sA (by omega) |>.trans f3)⟩
end VS35
