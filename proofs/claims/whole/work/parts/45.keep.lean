/-! what was seen, images, sheets, counts -/
section VS45
variable {F : Nat} {μ ν : fm_M} {a : Nat → Nat} {w : Nat}
theorem ok_see (h : R μ) (x y : Int32) : OK2 (f_X8_see F x y) (f_X9_see F x y) μ := by
  obtain ⟨S, s1, s2, s3, s4⟩ := h.2.2.2.1
  rcases n3_cases x 21 (by decide) with ⟨t, ht, rfl⟩ | hx
  · rcases n3_cases y 100 (by decide) with ⟨v, hv, rfl⟩ | hy
    · by_cases hS : S = 6
      · refine OK2.same h (v := -n3 3) ?_ ?_
        · simp (disch := omega) only [f_X8_see, f_X4_append, ↓reduceIte, Option.bind_some, n3_lit, n3_cl, n3_in, n3_ltT, n3_ltF, n3_leT, n3_leF, n3_eqT, n3_eqF, n3_add, n3_sub, not_true_eq_false, not_false_eq_true, true_or, or_true, false_or, or_false, Nat.zero_add, Nat.add_zero, nn_lt, nn_le, nn_gt, nn_ge, nn_eq, nn_qe, c_isInT, s2]
        · simp (disch := omega) only [f_X9_see, ↓reduceIte, Option.bind_some, n3_lit, n3_cl, n3_in, n3_ltT, n3_ltF, n3_leT, n3_leF, n3_eqT, n3_eqF, n3_add, n3_sub, not_true_eq_false, not_false_eq_true, true_or, or_true, false_or, or_false, Nat.zero_add, Nat.add_zero, nn_lt, nn_le, nn_gt, nn_ge, nn_eq, nn_qe, m_inT, s3]
      · refine ⟨n3 (S + 1), fm_sI (fm_sA (fm_sA μ 126 (upd (μ.2.1 126) S (n3 t))) 127 (upd (μ.2.1 127) S (n3 v))) 125 0 (n3 (S + 1)), fm_sI (fm_sA (fm_sA (fm_sI (fm_sA (fm_sA μ 126 (upd (μ.2.1 126) S (n3 t))) 127 (upd (μ.2.1 127) S (n3 v))) 125 0 (n3 (S + 1))) 248 (upd (μ.2.1 248) (2 * S) (n3 t))) 248 (upd (upd (μ.2.1 248) (2 * S) (n3 t)) (2 * S + 1) (n3 v))) 232 33 (n3 (S + 1)), ?_, ?_, ?_⟩
        · simp (disch := omega) only [f_X8_see, f_X4_append, ↓reduceIte, Option.bind_some, n3_lit, n3_cl, n3_in, n3_ltT, n3_ltF, n3_leT, n3_leF, n3_eqT, n3_eqF, n3_add, n3_sub, not_true_eq_false, not_false_eq_true, true_or, or_true, false_or, or_false, Nat.zero_add, Nat.add_zero, nn_lt, nn_le, nn_gt, nn_ge, nn_eq, nn_qe, c_isInT, s2, fm_sI_2, fm_sA_1, fm_sA_3, fm_sI_eq, fm_sI_ne, fm_sA_eq, fm_sA_ne, upd_eq, upd_ne]
        · simp (disch := omega) only [f_X9_see, ↓reduceIte, Option.bind_some, n3_lit, n3_cl, n3_in, n3_ltT, n3_ltF, n3_leT, n3_leF, n3_eqT, n3_eqF, n3_add, n3_sub, not_true_eq_false, not_false_eq_true, true_or, or_true, false_or, or_false, Nat.zero_add, Nat.add_zero, nn_lt, nn_le, nn_gt, nn_ge, nn_eq, nn_qe, m_inT, s3, n3_mul, fm_sI_2, fm_sA_1, fm_sA_3, fm_sI_eq, fm_sI_ne, fm_sA_eq, fm_sA_ne, upd_eq, upd_ne]
        · refine h.seen ((((Ch.refl _ _ μ).sU (by omega)).sU (a := 127) (by omega)).sI (by omega) |>.trans ((((Ch.refl _ _ _).sU (a := 248) (k := 2 * S) (by omega)).sU (a := 248) (k := 2 * S + 1) (by omega)).sI (by omega))) ⟨S + 1, by omega, ?_, ?_, fun i hi => ?_⟩
          · simp (disch := omega) only [fm_sI_2, fm_sA_1, fm_sA_3, fm_sI_eq, fm_sI_ne, fm_sA_eq, fm_sA_ne, upd_eq, upd_ne]
          · simp (disch := omega) only [fm_sI_2, fm_sA_1, fm_sA_3, fm_sI_eq, fm_sI_ne, fm_sA_eq, fm_sA_ne, upd_eq, upd_ne]
          · by_cases e : i = S
            · exact ⟨t, v, by omega, by omega, by simp (disch := omega) only [fm_sI_2, fm_sA_1, fm_sA_3, fm_sI_eq, fm_sI_ne, fm_sA_eq, fm_sA_ne, upd_eq, upd_ne], by simp (disch := omega) only [fm_sI_2, fm_sA_1, fm_sA_3, fm_sI_eq, fm_sI_ne, fm_sA_eq, fm_sA_ne, upd_eq, upd_ne], by simp (disch := omega) only [fm_sI_2, fm_sA_1, fm_sA_3, fm_sI_eq, fm_sI_ne, fm_sA_eq, fm_sA_ne, upd_eq, upd_ne], by simp (disch := omega) only [fm_sI_2, fm_sA_1, fm_sA_3, fm_sI_eq, fm_sI_ne, fm_sA_eq, fm_sA_ne, upd_eq, upd_ne]⟩
            · obtain ⟨t', v', d1, d2, d3, d4, d5, d6⟩ := s4 i (by omega)
              exact ⟨t', v', d1, d2, by simp (disch := omega) only [fm_sI_2, fm_sA_1, fm_sA_3, fm_sI_eq, fm_sI_ne, fm_sA_eq, fm_sA_ne, upd_eq, upd_ne, d3], by simp (disch := omega) only [fm_sI_2, fm_sA_1, fm_sA_3, fm_sI_eq, fm_sI_ne, fm_sA_eq, fm_sA_ne, upd_eq, upd_ne, d4], by simp (disch := omega) only [fm_sI_2, fm_sA_1, fm_sA_3, fm_sI_eq, fm_sI_ne, fm_sA_eq, fm_sA_ne, upd_eq, upd_ne, d5], by simp (disch := omega) only [fm_sI_2, fm_sA_1, fm_sA_3, fm_sI_eq, fm_sI_ne, fm_sA_eq, fm_sA_ne, upd_eq, upd_ne, d6]⟩
    · refine OK2.same h (v := -n3 1) ?_ ?_
      · simp (disch := omega) only [f_X8_see, ↓reduceIte, Option.bind_some, n3_lit, n3_cl, n3_in, n3_ltT, n3_ltF, n3_leT, n3_leF, n3_eqT, n3_eqF, n3_add, n3_sub, not_true_eq_false, not_false_eq_true, true_or, or_true, false_or, or_false, Nat.zero_add, Nat.add_zero, nn_lt, nn_le, nn_gt, nn_ge, nn_eq, nn_qe, c_isInT, c_isInN hy]
      · simp (disch := omega) only [f_X9_see, ↓reduceIte, Option.bind_some, n3_lit, n3_cl, n3_in, n3_ltT, n3_ltF, n3_leT, n3_leF, n3_eqT, n3_eqF, n3_add, n3_sub, not_true_eq_false, not_false_eq_true, true_or, or_true, false_or, or_false, Nat.zero_add, Nat.add_zero, nn_lt, nn_le, nn_gt, nn_ge, nn_eq, nn_qe, m_inT, m_inO hy]
  · refine OK2.same h (v := -n3 1) ?_ ?_
    · simp (disch := omega) only [f_X8_see, ↓reduceIte, Option.bind_some, n3_lit, n3_cl, n3_in, n3_ltT, n3_ltF, n3_leT, n3_leF, n3_eqT, n3_eqF, n3_add, n3_sub, not_true_eq_false, not_false_eq_true, true_or, or_true, false_or, or_false, Nat.zero_add, Nat.add_zero, nn_lt, nn_le, nn_gt, nn_ge, nn_eq, nn_qe, c_isInN hx]
    · simp (disch := omega) only [f_X9_see, ↓reduceIte, Option.bind_some, n3_lit, n3_cl, n3_in, n3_ltT, n3_ltF, n3_leT, n3_leF, n3_eqT, n3_eqF, n3_add, n3_sub, not_true_eq_false, not_false_eq_true, true_or, or_true, false_or, or_false, Nat.zero_add, Nat.add_zero, nn_lt, nn_le, nn_gt, nn_ge, nn_eq, nn_qe, m_inO hx]
theorem n3_64 {T : Nat} (h : T < 2147483648) : (n3 T).toInt64 = Int64.ofNat T := by
  rw [← Int64.toInt_inj, Int32.toInt_toInt64, n3_int (by omega), l_of (by omega)]
theorem ok_forget (h : R μ) (x : Int32) : OK2 (f_X8_forget F x) (f_X9_forget F x) μ := by
  obtain ⟨S, s1, s2, s3, s4⟩ := h.2.2.2.1
  have e64 := n3_64 (T := S) (by omega)
  rcases n3_cases x (S + 1) (by omega) with ⟨c, hc, rfl⟩ | hx
  · refine ⟨n3 S, fm_sI μ 125 0 (n3 c), fm_sI (fm_sI μ 125 0 (n3 c)) 232 33 (n3 c), ?_, ?_, ?_⟩
    · simp (disch := omega) only [f_X8_forget, ↓reduceIte, Option.bind_some, n3_lit, n3_cl, n3_in, n3_ltT, n3_ltF, n3_leT, n3_leF, n3_eqT, n3_eqF, n3_add, n3_sub, not_true_eq_false, not_false_eq_true, true_or, or_true, false_or, or_false, Nat.zero_add, Nat.add_zero, nn_lt, nn_le, nn_gt, nn_ge, nn_eq, nn_qe, c_isInT, s2]
    · simp (disch := omega) only [f_X9_forget, ↓reduceIte, Option.bind_some, n3_lit, n3_cl, n3_in, n3_ltT, n3_ltF, n3_leT, n3_leF, n3_eqT, n3_eqF, n3_add, n3_sub, not_true_eq_false, not_false_eq_true, true_or, or_true, false_or, or_false, Nat.zero_add, Nat.add_zero, nn_lt, nn_le, nn_gt, nn_ge, nn_eq, nn_qe, fm_sI_2, fm_sA_1, fm_sA_3, fm_sI_eq, fm_sI_ne, fm_sA_eq, fm_sA_ne, upd_eq, upd_ne, e64, m_inT, s3]
    · refine h.seen (((Ch.refl _ _ μ).sI (by omega)).sI (by omega)) ⟨c, by omega, ?_, ?_, fun i hi => ?_⟩
      · simp (disch := omega) only [fm_sI_2, fm_sA_1, fm_sA_3, fm_sI_eq, fm_sI_ne, fm_sA_eq, fm_sA_ne, upd_eq, upd_ne]
      · simp (disch := omega) only [fm_sI_2, fm_sA_1, fm_sA_3, fm_sI_eq, fm_sI_ne, fm_sA_eq, fm_sA_ne, upd_eq, upd_ne]
      · obtain ⟨t', v', d1, d2, d3, d4, d5, d6⟩ := s4 i (by omega)
        exact ⟨t', v', d1, d2, by simp (disch := omega) only [fm_sI_2, fm_sA_1, fm_sA_3, fm_sI_eq, fm_sI_ne, fm_sA_eq, fm_sA_ne, upd_eq, upd_ne, d3], by simp (disch := omega) only [fm_sI_2, fm_sA_1, fm_sA_3, fm_sI_eq, fm_sI_ne, fm_sA_eq, fm_sA_ne, upd_eq, upd_ne, d4], by simp (disch := omega) only [fm_sI_2, fm_sA_1, fm_sA_3, fm_sI_eq, fm_sI_ne, fm_sA_eq, fm_sA_ne, upd_eq, upd_ne, d5], by simp (disch := omega) only [fm_sI_2, fm_sA_1, fm_sA_3, fm_sI_eq, fm_sI_ne, fm_sA_eq, fm_sA_ne, upd_eq, upd_ne, d6]⟩
  · refine OK2.same h (v := -n3 1) ?_ ?_
    · simp (disch := omega) only [f_X8_forget, ↓reduceIte, Option.bind_some, n3_lit, n3_cl, n3_in, n3_ltT, n3_ltF, n3_leT, n3_leF, n3_eqT, n3_eqF, n3_add, n3_sub, not_true_eq_false, not_false_eq_true, true_or, or_true, false_or, or_false, Nat.zero_add, Nat.add_zero, nn_lt, nn_le, nn_gt, nn_ge, nn_eq, nn_qe, s2, c_isInN hx]
    · simp (disch := omega) only [f_X9_forget, ↓reduceIte, Option.bind_some, n3_lit, n3_cl, n3_in, n3_ltT, n3_ltF, n3_leT, n3_leF, n3_eqT, n3_eqF, n3_add, n3_sub, not_true_eq_false, not_false_eq_true, true_or, or_true, false_or, or_false, Nat.zero_add, Nat.add_zero, nn_lt, nn_le, nn_gt, nn_ge, nn_eq, nn_qe, s3, e64, m_inO hx]
theorem isW_k {k : Nat} (h : k < 2) : fm_isW (204 + 10 * k) = true := by
  rcases (show k = 0 ∨ k = 1 by omega) with rfl | rfl <;> decide
theorem isS_k {k : Nat} (h : k < 4) : fm_isS (224 + 2 * k) = true := by
  rcases (show k = 0 ∨ k = 1 ∨ k = 2 ∨ k = 3 by omega) with rfl | rfl | rfl | rfl <;> decide
theorem n3_11 : (n3 1 &&& n3 1) = n3 1 := by decide
theorem ok_keep (h : R μ) (hF : 100 < F) (x : Int32) : OK2 (f_X8_keep F x) (f_X9_keep F x) μ := by
  obtain ⟨a, wf, bm, hw, hp⟩ := h.1
  rcases n3_cases x 2 (by decide) with ⟨k, hk, rfl⟩ | hx
  · have hK := h.2.1
    obtain ⟨μ1, e1, q1, f1⟩ := c_copy (F := F) (μ := μ) (w := 204 + 10 * k) (w2 := 101) (by omega)
    have w1 := q1 a hw wf
    have hp1 := hp.fr f1 (by omega)
    generalize hm : fm_sA μ1 122 (upd (μ1.2.1 122) k (n3 1)) = μ2
    have c2 : Ch (fun q _ => 204 ≤ q ∧ q < 224) (fun q j => q = 122 ∨ q = 249 ∨ (204 ≤ q ∧ q < 224) ∨ (q = 233 ∧ 38 ≤ j ∧ j < 114)) μ μ2 := by
      rw [← hm]
      exact (f1.ch.weak (fun q j c => by omega) (fun q j c => by omega)).sU (by omega)
    have f2 : Fr 122 123 μ1 μ2 := by rw [← hm]; exact (Fr.refl 122 123 μ1).sA (by omega)
    have hp2 := hp1.fr f2 (by omega)
    have w2 := w1.fr f2 (by omega)
    obtain ⟨μ3, e3, q3, f3⟩ := m_copy (F := F) (μ := μ2) (P := 38 * (k + 1)) (Q := 0) (by omega) (by omega) (by omega) (by omega)
    have p3 := q3 a hp2 wf
    have e3 : f_X9_copies F (n3 0) (n3 (38 * (k + 1))) μ2 = some ((), μ3) := e3
    have w3 := w2.fr f3.fr (by omega)
    have g122 : μ.2.1 122 k = n3 0 ∨ μ.2.1 122 k = n3 1 := (hK k hk).2.imp id (fun c => c.1)
    have e249 : μ3.2.1 249 = μ.2.1 249 := by
      rw [f3.2.2.1 249 (by omega), (f2.1 249 (by omega)).2, (f1.1 249 (by omega)).2]
    have e122 : μ3.2.1 122 = upd (μ.2.1 122) k (n3 1) := by
      rw [f3.2.2.1 122 (by omega), ← hm, fm_sA_eq rfl, (f1.1 122 (by omega)).2]
    have fin : R (fm_sA μ3 249 (upd (μ3.2.1 249) k (n3 1))) := by
      refine h.kept ((c2.trans (f3.ch.weak (fun q j c => False.elim c) (fun q j c => by omega))).sU (by omega)) (fun i hi => ?_)
      rw [fm_sA_ne (show (122 : Nat) ≠ 249 by omega), fm_sA_eq rfl, e122, e249]
      have fz : Fr 249 250 μ3 (fm_sA μ3 249 (upd (μ.2.1 249) k (n3 1))) := (Fr.refl 249 250 μ3).sA (by omega)
      by_cases c : i = k
      · subst c
        rw [upd_eq rfl, upd_eq rfl]
        refine ⟨rfl, .inr ⟨rfl, a, wf, bm, w3.fr fz (by omega), ?_⟩⟩
        exact p3.agree wf rfl rfl rfl rfl (fun _ _ _ => rfl)
      · rw [upd_ne c, upd_ne c]
        refine ⟨(hK i hi).1, (hK i hi).2.imp id (fun ⟨c0, b, bw, bb, hw', hp'⟩ => ⟨c0, b, bw, bb, ?_, ?_⟩)⟩
        · exact (((hw'.fr f1 (by omega)).fr f2 (by omega)).fr f3.fr (by omega)).fr fz (by omega)
        · have := ((hp'.fr f1 (by omega)).fr f2 (by omega)).fm bw f3 (by omega)
          exact this.agree bw rfl rfl rfl rfl (fun _ _ _ => rfl)
    have hm' : fm_sA μ1 122 (upd (μ1.2.1 122) k (n3 1 &&& n3 1)) = μ2 := by rw [n3_11]; exact hm
    have hmul : n3 38 * (n3 k + n3 1) = n3 (38 * (k + 1)) := by rw [n3_add, n3_mul]
    have e249k : μ3.2.1 249 k = μ.2.1 122 k := by rw [e249, (hK k hk).1]
    rcases g122 with g | g
    · refine ⟨n3 0, μ2, _, ?_, ?_, fin⟩
      · simp (disch := omega) only [f_X8_keep, ↓reduceIte, Option.bind_some, n3_lit, n3_cl, n3_in, n3_ltT, n3_ltF, n3_leT, n3_leF, n3_eqT, n3_eqF, n3_add, n3_sub, not_true_eq_false, not_false_eq_true, true_or, or_true, false_or, or_false, Nat.zero_add, Nat.add_zero, nn_lt, nn_le, nn_gt, nn_ge, nn_eq, nn_qe, c_isInT, g, isW_k, e1, hm']
      · rw [g] at e249k
        simp (disch := omega) only [f_X9_keep, ↓reduceIte, Option.bind_some, n3_lit, n3_cl, n3_in, n3_ltT, n3_ltF, n3_leT, n3_leF, n3_eqT, n3_eqF, n3_add, n3_sub, not_true_eq_false, not_false_eq_true, true_or, or_true, false_or, or_false, Nat.zero_add, Nat.add_zero, nn_lt, nn_le, nn_gt, nn_ge, nn_eq, nn_qe, m_inT, n3_mul, e3, e249k, n3_11]
    · refine ⟨n3 1, μ2, _, ?_, ?_, fin⟩
      · simp (disch := omega) only [f_X8_keep, ↓reduceIte, Option.bind_some, n3_lit, n3_cl, n3_in, n3_ltT, n3_ltF, n3_leT, n3_leF, n3_eqT, n3_eqF, n3_add, n3_sub, not_true_eq_false, not_false_eq_true, true_or, or_true, false_or, or_false, Nat.zero_add, Nat.add_zero, nn_lt, nn_le, nn_gt, nn_ge, nn_eq, nn_qe, c_isInT, g, isW_k, e1, hm']
      · rw [g] at e249k
        simp (disch := omega) only [f_X9_keep, ↓reduceIte, Option.bind_some, n3_lit, n3_cl, n3_in, n3_ltT, n3_ltF, n3_leT, n3_leF, n3_eqT, n3_eqF, n3_add, n3_sub, not_true_eq_false, not_false_eq_true, true_or, or_true, false_or, or_false, Nat.zero_add, Nat.add_zero, nn_lt, nn_le, nn_gt, nn_ge, nn_eq, nn_qe, m_inT, n3_mul, e3, e249k, n3_11]
  · refine OK2.same h (v := -n3 1) ?_ ?_
    · simp (disch := omega) only [f_X8_keep, ↓reduceIte, Option.bind_some, n3_lit, n3_cl, n3_in, n3_ltT, n3_ltF, n3_leT, n3_leF, n3_eqT, n3_eqF, n3_add, n3_sub, not_true_eq_false, not_false_eq_true, true_or, or_true, false_or, or_false, Nat.zero_add, Nat.add_zero, nn_lt, nn_le, nn_gt, nn_ge, nn_eq, nn_qe, c_isInN hx]
    · simp (disch := omega) only [f_X9_keep, ↓reduceIte, Option.bind_some, n3_lit, n3_cl, n3_in, n3_ltT, n3_ltF, n3_leT, n3_leF, n3_eqT, n3_eqF, n3_add, n3_sub, not_true_eq_false, not_false_eq_true, true_or, or_true, false_or, or_false, Nat.zero_add, Nat.add_zero, nn_lt, nn_le, nn_gt, nn_ge, nn_eq, nn_qe, m_inO hx]
theorem ok_back (h : R μ) (hF : 100 < F) (x : Int32) : OK2 (f_X8_back F x) (f_X9_back F x) μ := by
  rcases n3_cases x 2 (by decide) with ⟨k, hk, rfl⟩ | hx
  · obtain ⟨hK1, hK2⟩ := h.2.1 k hk
    rcases hK2 with g | ⟨g, b, bw, bb, hw, hp⟩
    · rw [g] at hK1
      have hK1 := hK1.symm
      refine OK2.same h (v := -n3 2) ?_ ?_
      · simp (disch := omega) only [f_X8_back, ↓reduceIte, Option.bind_some, n3_lit, n3_cl, n3_in, n3_ltT, n3_ltF, n3_leT, n3_leF, n3_eqT, n3_eqF, n3_add, n3_sub, not_true_eq_false, not_false_eq_true, true_or, or_true, false_or, or_false, Nat.zero_add, Nat.add_zero, nn_lt, nn_le, nn_gt, nn_ge, nn_eq, nn_qe, c_isInT, g]
      · simp (disch := omega) only [f_X9_back, ↓reduceIte, Option.bind_some, n3_lit, n3_cl, n3_in, n3_ltT, n3_ltF, n3_leT, n3_leF, n3_eqT, n3_eqF, n3_add, n3_sub, not_true_eq_false, not_false_eq_true, true_or, or_true, false_or, or_false, Nat.zero_add, Nat.add_zero, nn_lt, nn_le, nn_gt, nn_ge, nn_eq, nn_qe, m_inT, hK1]
    · rw [g] at hK1
      have hK1 := hK1.symm
      obtain ⟨μ1, e1, q1, f1⟩ := c_copy (F := F) (μ := μ) (w := 101) (w2 := 204 + 10 * k) (by omega)
      have w1 := q1 b hw bw
      have hp1 := hp.fr f1 (by omega)
      obtain ⟨μ2, e2, q2, f2⟩ := m_copy (F := F) (μ := μ1) (P := 0) (Q := 38 * (k + 1)) (by omega) (by omega) (by omega) (by omega)
      have p2 := q2 b hp1 bw
      have hK1' : μ1.2.1 249 k = n3 1 := by rw [(f1.1 249 (by omega)).2]; exact hK1
      have h15 := w1.z.1.2.2.2.2.2.2
      have k37 := p2.z.2.1.2.2.2.2
      refine ⟨n3 (b 37), μ1, μ2, ?_, ?_, h.world (f1.weak (by omega) (by omega)) f2 bw bb w1 p2⟩
      · simp (disch := omega) only [f_X8_back, ↓reduceIte, Option.bind_some, n3_lit, n3_cl, n3_in, n3_ltT, n3_ltF, n3_leT, n3_leF, n3_eqT, n3_eqF, n3_add, n3_sub, not_true_eq_false, not_false_eq_true, true_or, or_true, false_or, or_false, Nat.zero_add, Nat.add_zero, nn_lt, nn_le, nn_gt, nn_ge, nn_eq, nn_qe, c_isInT, g, isW_k, e1, h15]
      · simp (disch := omega) only [f_X9_back, ↓reduceIte, Option.bind_some, n3_lit, n3_cl, n3_in, n3_ltT, n3_ltF, n3_leT, n3_leF, n3_eqT, n3_eqF, n3_add, n3_sub, not_true_eq_false, not_false_eq_true, true_or, or_true, false_or, or_false, Nat.zero_add, Nat.add_zero, nn_lt, nn_le, nn_gt, nn_ge, nn_eq, nn_qe, m_inT, hK1', n3_mul, e2, k37]
  · refine OK2.same h (v := -n3 1) ?_ ?_
    · simp (disch := omega) only [f_X8_back, ↓reduceIte, Option.bind_some, n3_lit, n3_cl, n3_in, n3_ltT, n3_ltF, n3_leT, n3_leF, n3_eqT, n3_eqF, n3_add, n3_sub, not_true_eq_false, not_false_eq_true, true_or, or_true, false_or, or_false, Nat.zero_add, Nat.add_zero, nn_lt, nn_le, nn_gt, nn_ge, nn_eq, nn_qe, c_isInN hx]
    · simp (disch := omega) only [f_X9_back, ↓reduceIte, Option.bind_some, n3_lit, n3_cl, n3_in, n3_ltT, n3_ltF, n3_leT, n3_leF, n3_eqT, n3_eqF, n3_add, n3_sub, not_true_eq_false, not_false_eq_true, true_or, or_true, false_or, or_false, Nat.zero_add, Nat.add_zero, nn_lt, nn_le, nn_gt, nn_ge, nn_eq, nn_qe, m_inO hx]
end VS45
