/-! a stone, a one, a debt more; halving -/
def WB (a : Nat → Nat) : Prop := a 38 ≤ 4 ∧ a 23 ≤ 5 ∧ a 39 ≤ 4
theorem WF.wb {a : Nat → Nat} (wf : WF a) : WB a := ⟨wf.1.1, wf.1.2.1, wf.1.2.2.1⟩
def addS (a : Nat → Nat) (k v o : Nat) : Nat → Nat := st (st (st (st a (8 + a 23) k) (13 + a 23) v) (18 + a 23) o) 23 (a 23 + 1)
def addP (a : Nat → Nat) (v p : Nat) : Nat → Nat := st (st (st a (a 38) v) (4 + a 38) p) 38 (a 38 + 1)
def addD (a : Nat → Nat) (f t m : Nat) : Nat → Nat := st (st (st (st a (40 + a 39) f) (44 + a 39) t) (33 + a 39) m) 39 (a 39 + 1)
section VS44
variable {F : Nat} {μ ν : fm_M} {a : Nat → Nat} {w : Nat}
theorem c_addS (h : AW μ w a) (wb : WB a) (hn : a 23 < 5) {k v o : Nat} : ∃ ν, f_X7_addStone F w (n3 k) (n3 v) (n3 o) μ = some ((), ν) ∧ AW ν w (addS a k v o) ∧ Fr w (w + 10) μ ν ∧ ν.1 w 3 = n3 (a 23 + 1) := by
  obtain ⟨b38, b23, b39⟩ := wb
  obtain ⟨⟨h0, h3, h7, h8, h9, h11, h15⟩, hP, hS, hR, hD⟩ := h
  have e : f_X7_addStone F w (n3 k) (n3 v) (n3 o) μ = some ((), fm_sI (fm_sA (fm_sA (fm_sA μ (w + 3) (upd (μ.2.1 (w + 3)) (a 23) (n3 k))) (w + 4) (upd (μ.2.1 (w + 4)) (a 23) (n3 v))) (w + 5) (upd (μ.2.1 (w + 5)) (a 23) (n3 o))) w 3 (n3 (a 23 + 1))) := by
    simp (disch := omega) only [f_X7_addStone, ↓reduceIte, Option.bind_some, n3_lit, n3_cl, n3_in, n3_ltT, n3_ltF, n3_leT, n3_leF, n3_eqT, n3_eqF, n3_add, n3_sub, not_true_eq_false, not_false_eq_true, true_or, or_true, false_or, or_false, Nat.zero_add, Nat.add_zero, nn_lt, nn_le, nn_gt, nn_ge, nn_eq, nn_qe, h3, fm_sI_2, fm_sA_1, fm_sA_3, fm_sI_eq, fm_sI_ne, fm_sA_eq, fm_sA_ne, upd_eq, upd_ne]
  refine ⟨_, e, ?_, (((Fr.refl w (w + 10) μ).sA (by omega)).sA (by omega)).sA (by omega) |>.sI (by omega), by simp (disch := omega) only [fm_sI_2, fm_sA_1, fm_sA_3, fm_sI_eq, fm_sI_ne, fm_sA_eq, fm_sA_ne, upd_eq, upd_ne]⟩
  unfold AW addS
  simp (disch := omega) only [fm_sI_2, fm_sA_1, fm_sA_3, fm_sI_eq, fm_sI_ne, fm_sA_eq, fm_sA_ne, upd_eq, upd_ne, st_ne, st_eq]
  refine ⟨⟨h0, trivial, h7, h8, h9, h11, h15⟩, fun i hi => ?_, fun i hi => ?_, fun i hi => ?_, fun i hi => ?_⟩
  · simp (disch := omega) only [fm_sI_2, fm_sA_1, fm_sA_3, fm_sI_eq, fm_sI_ne, fm_sA_eq, fm_sA_ne, upd_eq, upd_ne, st_ne, st_eq, h0, h3, h7, h8, h9, h11, h15, hP, hS, hR, hD, and_self]
  · by_cases c : i = a 23
    · subst c
      simp (disch := omega) only [fm_sI_2, fm_sA_1, fm_sA_3, fm_sI_eq, fm_sI_ne, fm_sA_eq, fm_sA_ne, upd_eq, upd_ne, st_ne, st_eq, h0, h3, h7, h8, h9, h11, h15, hP, hS, hR, hD, and_self]
    · simp (disch := omega) only [fm_sI_2, fm_sA_1, fm_sA_3, fm_sI_eq, fm_sI_ne, fm_sA_eq, fm_sA_ne, upd_eq, upd_ne, st_ne, st_eq, h0, h3, h7, h8, h9, h11, h15, hP, hS, hR, hD, and_self]
  · simp (disch := omega) only [fm_sI_2, fm_sA_1, fm_sA_3, fm_sI_eq, fm_sI_ne, fm_sA_eq, fm_sA_ne, upd_eq, upd_ne, st_ne, st_eq, h0, h3, h7, h8, h9, h11, h15, hP, hS, hR, hD, and_self]
  · simp (disch := omega) only [fm_sI_2, fm_sA_1, fm_sA_3, fm_sI_eq, fm_sI_ne, fm_sA_eq, fm_sA_ne, upd_eq, upd_ne, st_ne, st_eq, h0, h3, h7, h8, h9, h11, h15, hP, hS, hR, hD, and_self]
theorem c_addP (h : AW μ w a) (wb : WB a) (hn : a 38 < 4) {v p : Nat} : ∃ ν, f_X7_addOne F w (n3 v) (n3 p) μ = some ((), ν) ∧ AW ν w (addP a v p) ∧ Fr w (w + 10) μ ν := by
  obtain ⟨b38, b23, b39⟩ := wb
  obtain ⟨⟨h0, h3, h7, h8, h9, h11, h15⟩, hP, hS, hR, hD⟩ := h
  have e : f_X7_addOne F w (n3 v) (n3 p) μ = some ((), fm_sI (fm_sA (fm_sA μ (w + 1) (upd (μ.2.1 (w + 1)) (a 38) (n3 v))) (w + 2) (upd (μ.2.1 (w + 2)) (a 38) (n3 p))) w 0 (n3 (a 38 + 1))) := by
    simp (disch := omega) only [f_X7_addOne, ↓reduceIte, Option.bind_some, n3_lit, n3_cl, n3_in, n3_ltT, n3_ltF, n3_leT, n3_leF, n3_eqT, n3_eqF, n3_add, n3_sub, not_true_eq_false, not_false_eq_true, true_or, or_true, false_or, or_false, Nat.zero_add, Nat.add_zero, nn_lt, nn_le, nn_gt, nn_ge, nn_eq, nn_qe, h0, fm_sI_2, fm_sA_1, fm_sA_3, fm_sI_eq, fm_sI_ne, fm_sA_eq, fm_sA_ne, upd_eq, upd_ne]
  refine ⟨_, e, ?_, ((Fr.refl w (w + 10) μ).sA (by omega)).sA (by omega) |>.sI (by omega)⟩
  unfold AW addP
  simp (disch := omega) only [fm_sI_2, fm_sA_1, fm_sA_3, fm_sI_eq, fm_sI_ne, fm_sA_eq, fm_sA_ne, upd_eq, upd_ne, st_ne, st_eq]
  refine ⟨⟨trivial, h3, h7, h8, h9, h11, h15⟩, fun i hi => ?_, fun i hi => ?_, fun i hi => ?_, fun i hi => ?_⟩
  · by_cases c : i = a 38
    · subst c
      simp (disch := omega) only [fm_sI_2, fm_sA_1, fm_sA_3, fm_sI_eq, fm_sI_ne, fm_sA_eq, fm_sA_ne, upd_eq, upd_ne, st_ne, st_eq, h0, h3, h7, h8, h9, h11, h15, hP, hS, hR, hD, and_self]
    · simp (disch := omega) only [fm_sI_2, fm_sA_1, fm_sA_3, fm_sI_eq, fm_sI_ne, fm_sA_eq, fm_sA_ne, upd_eq, upd_ne, st_ne, st_eq, h0, h3, h7, h8, h9, h11, h15, hP, hS, hR, hD, and_self]
  · simp (disch := omega) only [fm_sI_2, fm_sA_1, fm_sA_3, fm_sI_eq, fm_sI_ne, fm_sA_eq, fm_sA_ne, upd_eq, upd_ne, st_ne, st_eq, h0, h3, h7, h8, h9, h11, h15, hP, hS, hR, hD, and_self]
  · simp (disch := omega) only [fm_sI_2, fm_sA_1, fm_sA_3, fm_sI_eq, fm_sI_ne, fm_sA_eq, fm_sA_ne, upd_eq, upd_ne, st_ne, st_eq, h0, h3, h7, h8, h9, h11, h15, hP, hS, hR, hD, and_self]
  · simp (disch := omega) only [fm_sI_2, fm_sA_1, fm_sA_3, fm_sI_eq, fm_sI_ne, fm_sA_eq, fm_sA_ne, upd_eq, upd_ne, st_ne, st_eq, h0, h3, h7, h8, h9, h11, h15, hP, hS, hR, hD, and_self]
theorem c_addD (h : AW μ w a) (wb : WB a) (hn : a 39 < 4) {f t m : Nat} : ∃ ν, f_X7_addDebt F w (n3 f) (n3 t) (n3 m) μ = some ((), ν) ∧ AW ν w (addD a f t m) ∧ Fr w (w + 10) μ ν := by
  obtain ⟨b38, b23, b39⟩ := wb
  obtain ⟨⟨h0, h3, h7, h8, h9, h11, h15⟩, hP, hS, hR, hD⟩ := h
  have e : f_X7_addDebt F w (n3 f) (n3 t) (n3 m) μ = some ((), fm_sI (fm_sA (fm_sA (fm_sA μ (w + 7) (upd (μ.2.1 (w + 7)) (a 39) (n3 f))) (w + 8) (upd (μ.2.1 (w + 8)) (a 39) (n3 t))) (w + 9) (upd (μ.2.1 (w + 9)) (a 39) (n3 m))) w 11 (n3 (a 39 + 1))) := by
    simp (disch := omega) only [f_X7_addDebt, ↓reduceIte, Option.bind_some, n3_lit, n3_cl, n3_in, n3_ltT, n3_ltF, n3_leT, n3_leF, n3_eqT, n3_eqF, n3_add, n3_sub, not_true_eq_false, not_false_eq_true, true_or, or_true, false_or, or_false, Nat.zero_add, Nat.add_zero, nn_lt, nn_le, nn_gt, nn_ge, nn_eq, nn_qe, h11, fm_sI_2, fm_sA_1, fm_sA_3, fm_sI_eq, fm_sI_ne, fm_sA_eq, fm_sA_ne, upd_eq, upd_ne]
  refine ⟨_, e, ?_, (((Fr.refl w (w + 10) μ).sA (by omega)).sA (by omega)).sA (by omega) |>.sI (by omega)⟩
  unfold AW addD
  simp (disch := omega) only [fm_sI_2, fm_sA_1, fm_sA_3, fm_sI_eq, fm_sI_ne, fm_sA_eq, fm_sA_ne, upd_eq, upd_ne, st_ne, st_eq]
  refine ⟨⟨h0, h3, h7, h8, h9, trivial, h15⟩, fun i hi => ?_, fun i hi => ?_, fun i hi => ?_, fun i hi => ?_⟩
  · simp (disch := omega) only [fm_sI_2, fm_sA_1, fm_sA_3, fm_sI_eq, fm_sI_ne, fm_sA_eq, fm_sA_ne, upd_eq, upd_ne, st_ne, st_eq, h0, h3, h7, h8, h9, h11, h15, hP, hS, hR, hD, and_self]
  · simp (disch := omega) only [fm_sI_2, fm_sA_1, fm_sA_3, fm_sI_eq, fm_sI_ne, fm_sA_eq, fm_sA_ne, upd_eq, upd_ne, st_ne, st_eq, h0, h3, h7, h8, h9, h11, h15, hP, hS, hR, hD, and_self]
  · simp (disch := omega) only [fm_sI_2, fm_sA_1, fm_sA_3, fm_sI_eq, fm_sI_ne, fm_sA_eq, fm_sA_ne, upd_eq, upd_ne, st_ne, st_eq, h0, h3, h7, h8, h9, h11, h15, hP, hS, hR, hD, and_self]
  · by_cases c : i = a 39
    · subst c
      simp (disch := omega) only [fm_sI_2, fm_sA_1, fm_sA_3, fm_sI_eq, fm_sI_ne, fm_sA_eq, fm_sA_ne, upd_eq, upd_ne, st_ne, st_eq, h0, h3, h7, h8, h9, h11, h15, hP, hS, hR, hD, and_self]
    · simp (disch := omega) only [fm_sI_2, fm_sA_1, fm_sA_3, fm_sI_eq, fm_sI_ne, fm_sA_eq, fm_sA_ne, upd_eq, upd_ne, st_ne, st_eq, h0, h3, h7, h8, h9, h11, h15, hP, hS, hR, hD, and_self]
theorem wf_addS (wf : WF a) (hn : a 23 < 5) {k v o : Nat} (hk : k ≤ 3) (hv : v ≤ 99) (ho : o < a 38) : WF (addS a k v o) := by
  obtain ⟨⟨b38, b23, b39, b24, b25, b25u, b26⟩, wP, wS, wR, wD⟩ := id wf
  unfold WF addS
  simp (disch := omega) only [st_ne, st_eq]
  refine ⟨⟨b38, by omega, b39, b24, b25, b25u, b26⟩, fun i hi => ?_, fun i hi => ?_, fun i hi => ?_, fun i hi => ?_⟩
  · simp (disch := omega) only [st_ne]; exact wP i hi
  · by_cases c : i = a 23
    · subst c
      simp (disch := omega) only [st_ne, st_eq]; omega
    · simp (disch := omega) only [st_ne]; exact wS i (by omega)
  · exact wR i hi
  · exact wD i hi
theorem m_halve (h : AP μ 0 a) (wf : WF a) {s : Nat} (hs : s < a 23) (hn : a 23 < 5) (hw : 5 ≤ a (13 + s)) : ∃ ν, f_X9_halve F (n3 s) μ = some (n3 (a 23 + 1), ν) ∧ AP ν 0 (addS (st a (13 + s) (a (13 + s) / 2 - 1)) (a (8 + s)) (a (13 + s) / 2 - 1) (a (18 + s))) ∧ FM 0 μ ν := by
  have hd := m_stoneT (F := F) h wf hs
  have hp := h
  obtain ⟨⟨k1, k3, kb, ko⟩, ⟨k23, k24, k25, k26, k37⟩, kP, kS, kR, kD⟩ := hp.z; obtain ⟨⟨b38, b23, b39, b24, b25, b25u, b26⟩, wP, wS, wR, wD⟩ := id wf
  have e := kS s hs
  have ws := wS s hs
  have e2 : f_X9_halve F (n3 s) μ = some (n3 (a 23 + 1), fm_sA (fm_sA (fm_sA (fm_sA (fm_sA μ 233 (upd (μ.2.1 233) (13 + s) (n3 (a (13 + s) / 2 - 1)))) 233 (upd (upd (μ.2.1 233) (13 + s) (n3 (a (13 + s) / 2 - 1))) (8 + a 23) (n3 (a (8 + s))))) 233 (upd (upd (upd (μ.2.1 233) (13 + s) (n3 (a (13 + s) / 2 - 1))) (8 + a 23) (n3 (a (8 + s)))) (13 + a 23) (n3 (a (13 + s) / 2 - 1)))) 233 (upd (upd (upd (upd (μ.2.1 233) (13 + s) (n3 (a (13 + s) / 2 - 1))) (8 + a 23) (n3 (a (8 + s)))) (13 + a 23) (n3 (a (13 + s) / 2 - 1))) (18 + a 23) (n3 (a (18 + s))))) 233 (upd (upd (upd (upd (upd (μ.2.1 233) (13 + s) (n3 (a (13 + s) / 2 - 1))) (8 + a 23) (n3 (a (8 + s)))) (13 + a 23) (n3 (a (13 + s) / 2 - 1))) (18 + a 23) (n3 (a (18 + s)))) 23 (n3 (a 23 + 1)))) := by
    simp (disch := omega) only [f_X9_halve, ↓reduceIte, Option.bind_some, n3_lit, n3_cl, n3_in, n3_ltT, n3_ltF, n3_leT, n3_leF, n3_eqT, n3_eqF, n3_add, n3_sub, not_true_eq_false, not_false_eq_true, true_or, or_true, false_or, or_false, Nat.zero_add, Nat.add_zero, nn_lt, nn_le, nn_gt, nn_ge, nn_eq, nn_qe, hd, e.1, e.2.1, e.2.2, k23, n3_div, fm_sA_eq, upd_eq, upd_ne]
  refine ⟨_, e2, ?_, ?_⟩
  · unfold AP addS
    simp (disch := omega) only [fm_sI_2, fm_sA_1, fm_sA_3, fm_sI_eq, fm_sI_ne, fm_sA_eq, fm_sA_ne, upd_eq, upd_ne, st_ne, st_eq, Nat.zero_add]
    refine ⟨⟨k1, k3, kb, fun i hi => ?_⟩, ⟨trivial, k24, k25, k26, k37⟩, fun i hi => ?_, fun i hi => ?_, fun i hi => ?_, fun i hi => ?_⟩
    · simp (disch := omega) only [fm_sI_2, fm_sA_1, fm_sA_3, fm_sI_eq, fm_sI_ne, fm_sA_eq, fm_sA_ne, upd_eq, upd_ne, st_ne, st_eq, k1, k3, kb, ko, k23, k24, k25, k26, k37, kP, kS, kR, kD, and_self]
    · simp (disch := omega) only [fm_sI_2, fm_sA_1, fm_sA_3, fm_sI_eq, fm_sI_ne, fm_sA_eq, fm_sA_ne, upd_eq, upd_ne, st_ne, st_eq, k1, k3, kb, ko, k23, k24, k25, k26, k37, kP, kS, kR, kD, and_self]
    · by_cases c : i = a 23
      · subst c
        simp (disch := omega) only [fm_sI_2, fm_sA_1, fm_sA_3, fm_sI_eq, fm_sI_ne, fm_sA_eq, fm_sA_ne, upd_eq, upd_ne, st_ne, st_eq, k1, k3, kb, ko, k23, k24, k25, k26, k37, kP, kS, kR, kD, and_self]
      · by_cases c2 : i = s
        · subst c2
          simp (disch := omega) only [fm_sI_2, fm_sA_1, fm_sA_3, fm_sI_eq, fm_sI_ne, fm_sA_eq, fm_sA_ne, upd_eq, upd_ne, st_ne, st_eq, k1, k3, kb, ko, k23, k24, k25, k26, k37, kP, kS, kR, kD, and_self]
        · simp (disch := omega) only [fm_sI_2, fm_sA_1, fm_sA_3, fm_sI_eq, fm_sI_ne, fm_sA_eq, fm_sA_ne, upd_eq, upd_ne, st_ne, st_eq, k1, k3, kb, ko, k23, k24, k25, k26, k37, kP, kS, kR, kD, and_self]
    · simp (disch := omega) only [fm_sI_2, fm_sA_1, fm_sA_3, fm_sI_eq, fm_sI_ne, fm_sA_eq, fm_sA_ne, upd_eq, upd_ne, st_ne, st_eq, k1, k3, kb, ko, k23, k24, k25, k26, k37, kP, kS, kR, kD, and_self]
    · simp (disch := omega) only [fm_sI_2, fm_sA_1, fm_sA_3, fm_sI_eq, fm_sI_ne, fm_sA_eq, fm_sA_ne, upd_eq, upd_ne, st_ne, st_eq, k1, k3, kb, ko, k23, k24, k25, k26, k37, kP, kS, kR, kD, and_self]
  · refine ⟨rfl, rfl, fun q hq => ?_, fun k hk => ?_⟩
    · rw [fm_sA_ne hq, fm_sA_ne hq, fm_sA_ne hq, fm_sA_ne hq, fm_sA_ne hq]
    · rw [fm_sA_eq rfl, upd_ne (by omega), upd_ne (by omega), upd_ne (by omega), upd_ne (by omega), upd_ne (by omega)]
theorem ok_halve (h : R μ) (hF : 100 < F) (x : Int32) : OK2 (f_X8_halve F x) (f_X9_halve F x) μ := by
  obtain ⟨a, wf, bm, hw, hp⟩ := h.1
  have b := wf.1
  rcases n3_cases x (a 23) (by omega) with ⟨s, hs, rfl⟩ | hx
  · have hd := c_stoneT (F := F) hw wf hs
    have kd := m_stoneT (F := F) hp wf hs
    have e := hw.z.2.2.1 s hs
    have e' := hp.z.2.2.2.1 s hs
    have h3 := hw.z.1.2.1
    have k23 := hp.z.2.1.1
    have ws := wf.2.2.1 s hs
    by_cases c1 : a (13 + s) < 5
    · refine OK2.same h (v := -n3 2) ?_ ?_
      · simp (disch := omega) only [f_X8_halve, ↓reduceIte, Option.bind_some, n3_lit, n3_cl, n3_in, n3_ltT, n3_ltF, n3_leT, n3_leF, n3_eqT, n3_eqF, n3_add, n3_sub, not_true_eq_false, not_false_eq_true, true_or, or_true, false_or, or_false, Nat.zero_add, Nat.add_zero, nn_lt, nn_le, nn_gt, nn_ge, nn_eq, nn_qe, hd, e.2.1, c_warmF]
      · simp (disch := omega) only [f_X9_halve, ↓reduceIte, Option.bind_some, n3_lit, n3_cl, n3_in, n3_ltT, n3_ltF, n3_leT, n3_leF, n3_eqT, n3_eqF, n3_add, n3_sub, not_true_eq_false, not_false_eq_true, true_or, or_true, false_or, or_false, Nat.zero_add, Nat.add_zero, nn_lt, nn_le, nn_gt, nn_ge, nn_eq, nn_qe, kd, e'.2.1]
    · by_cases c2 : a 23 = 5
      · refine OK2.same h (v := -n3 3) ?_ ?_
        · simp (disch := omega) only [f_X8_halve, ↓reduceIte, Option.bind_some, n3_lit, n3_cl, n3_in, n3_ltT, n3_ltF, n3_leT, n3_leF, n3_eqT, n3_eqF, n3_add, n3_sub, not_true_eq_false, not_false_eq_true, true_or, or_true, false_or, or_false, Nat.zero_add, Nat.add_zero, nn_lt, nn_le, nn_gt, nn_ge, nn_eq, nn_qe, hd, e.2.1, c_warmT, h3]
        · simp (disch := omega) only [f_X9_halve, ↓reduceIte, Option.bind_some, n3_lit, n3_cl, n3_in, n3_ltT, n3_ltF, n3_leT, n3_leF, n3_eqT, n3_eqF, n3_add, n3_sub, not_true_eq_false, not_false_eq_true, true_or, or_true, false_or, or_false, Nat.zero_add, Nat.add_zero, nn_lt, nn_le, nn_gt, nn_ge, nn_eq, nn_qe, kd, e'.2.1, k23]
      · have a1 := aw_warm hw wf hs (a (13 + s) / 2 - 1)
        have wf1 := wf_warm wf hs (v := a (13 + s) / 2 - 1) (by omega)
        have e23 : st a (13 + s) (a (13 + s) / 2 - 1) 23 = a 23 := st_ne (by omega)
        obtain ⟨μ1, q1, q2, q3, q4⟩ := c_addS (F := F) a1 wf1.wb (by omega) (k := a (8 + s)) (v := a (13 + s) / 2 - 1) (o := a (18 + s))
        have f1 : Fr 101 121 μ μ1 := ((Fr.refl 101 121 μ).sA (by omega)).trans (q3.weak (by omega) (by omega))
        have hp1 := hp.fr f1 (by omega)
        obtain ⟨μ2, r1, r2, r3⟩ := m_halve (F := F) hp1 wf hs (by omega) (by omega)
        refine ⟨_, μ1, μ2, ?_, r1, h.world f1 r3 (wf_addS wf1 (by omega) (by omega) (by omega) (by rw [st_ne (by omega)]; omega)) ?_ q2 r2⟩
        · rw [e23] at q4
          have q1 : f_X7_addStone F 101 (n3 (a (8 + s))) (n3 (a (13 + s) / 2 - 1)) (n3 (a (18 + s))) (fm_sA μ 105 (upd (μ.2.1 105) s (n3 (a (13 + s) / 2 - 1)))) = some ((), μ1) := q1
          simp (disch := omega) only [f_X8_halve, ↓reduceIte, Option.bind_some, n3_lit, n3_cl, n3_in, n3_ltT, n3_ltF, n3_leT, n3_leF, n3_eqT, n3_eqF, n3_add, n3_sub, not_true_eq_false, not_false_eq_true, true_or, or_true, false_or, or_false, Nat.zero_add, Nat.add_zero, nn_lt, nn_le, nn_gt, nn_ge, nn_eq, nn_qe, hd, e.1, e.2.1, e.2.2, c_warmT, h3, n3_div, f_J9_max_7cf53, fm_sI_2, fm_sA_1, fm_sA_3, fm_sI_eq, fm_sI_ne, fm_sA_eq, fm_sA_ne, upd_eq, upd_ne, q1, q4]
        · unfold addS
          rw [st_ne (by omega), st_ne (by omega), st_ne (by omega), st_ne (by omega), st_ne (by omega)]; exact bm
  · refine OK2.same h (v := -n3 1) ?_ ?_
    · unfold f_X8_halve
      rw [c_stoneF hw hx, Option.bind_some]
      exact (if_neg (fun c => c rfl)).trans (by rw [n3_lit])
    · unfold f_X9_halve
      rw [m_stoneF hp wf hx, Option.bind_some]
      exact (if_neg (fun c => c rfl)).trans (by rw [n3_lit])
end VS44
