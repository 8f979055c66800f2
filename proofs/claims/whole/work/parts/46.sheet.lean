/-! sheets, counts -/
theorem bv8 (v : BitVec 32) : (v <<< 24).sshiftRight 24 = (v.signExtend 8).signExtend 32 := by
  apply BitVec.eq_of_getLsbD_eq
  intro i hi
  simp only [BitVec.getLsbD_sshiftRight, BitVec.getLsbD_signExtend, BitVec.msb_eq_getLsbD_last, BitVec.getLsbD_shiftLeft]
  by_cases c : i < 8
  · simp [c, hi, show 24 + i < 32 by omega, show ¬ (32 ≤ i) by omega, show ¬ (24 + i < 24) by omega]
  · simp [c, hi, show ¬ (24 + i < 32) by omega]
theorem bv16 (v : BitVec 32) : (v <<< 16).sshiftRight 16 = (v.signExtend 16).signExtend 32 := by
  apply BitVec.eq_of_getLsbD_eq
  intro i hi
  simp only [BitVec.getLsbD_sshiftRight, BitVec.getLsbD_signExtend, BitVec.msb_eq_getLsbD_last, BitVec.getLsbD_shiftLeft]
  by_cases c : i < 16
  · simp [c, hi, show 16 + i < 32 by omega, show ¬ (32 ≤ i) by omega, show ¬ (16 + i < 16) by omega]
  · simp [c, hi, show ¬ (16 + i < 32) by omega]
theorem sh8 (x : Int32) : (x <<< (n3 24 &&& n3 31)) >>> (n3 24 &&& n3 31) = x.toInt8.toInt32 := by
  apply Int32.toBitVec_inj.mp
  rw [Int32.toBitVec_shiftRight, Int32.toBitVec_shiftLeft, Int8.toBitVec_toInt32, Int32.toBitVec_toInt8, show (n3 24 &&& n3 31).toBitVec.smod 32 = 24#32 by decide]
  exact bv8 x.toBitVec
theorem sh16 (x : Int32) : (x <<< (n3 16 &&& n3 31)) >>> (n3 16 &&& n3 31) = x.toInt16.toInt32 := by
  apply Int32.toBitVec_inj.mp
  rw [Int32.toBitVec_shiftRight, Int32.toBitVec_shiftLeft, Int16.toBitVec_toInt32, Int32.toBitVec_toInt16, show (n3 16 &&& n3 31).toBitVec.smod 32 = 16#32 by decide]
  exact bv16 x.toBitVec
section VS46
variable {F : Nat} {μ ν : fm_M} {a : Nat → Nat} {w : Nat}
theorem c_renew_l {s0 : Nat} : ∀ (k i n : Nat) (μ : fm_M), i + k = 40 → k < n → ∃ ν, g_X3_renew F s0 n 12 (n3 i) μ = some ((), ν) ∧ Ch (fun _ _ => False) (fun q _ => q = s0 + 1) μ ν ∧ (∀ j, j < i → ν.2.1 (s0 + 1) j = μ.2.1 (s0 + 1) j) ∧ ∀ j, i ≤ j → j < 40 → ν.2.1 (s0 + 1) j = n3 0
  | 0, i, n + 1, μ, hk, _ => by
    refine ⟨μ, ?_, Ch.refl _ _ μ, fun _ _ => rfl, fun j h1 h2 => by omega⟩
    simp (disch := omega) only [g_X3_renew, b_X3_renew_12, ↓reduceIte, Option.bind_some, n3_lit, n3_cl, n3_in, n3_ltT, n3_ltF, n3_leT, n3_leF, n3_eqT, n3_eqF, n3_add, n3_sub, not_true_eq_false, not_false_eq_true, true_or, or_true, false_or, or_false, Nat.zero_add, Nat.add_zero, nn_lt, nn_le, nn_gt, nn_ge, nn_eq, nn_qe]
  | k + 1, i, n + 1, μ, hk, hn => by
    obtain ⟨ν, e, h1, h2, h3⟩ := c_renew_l (s0 := s0) k (i + 1) n (fm_sA μ (s0 + 1) (upd (μ.2.1 (s0 + 1)) i (n3 0))) (by omega) (by omega)
    refine ⟨ν, ?_, ((Ch.refl _ _ μ).sU (by rfl)).trans h1, fun j hj => ?_, fun j hj hj2 => ?_⟩
    · simp (disch := omega) only [g_X3_renew, b_X3_renew_12, ↓reduceIte, Option.bind_some, n3_lit, n3_cl, n3_in, n3_ltT, n3_ltF, n3_leT, n3_leF, n3_eqT, n3_eqF, n3_add, n3_sub, not_true_eq_false, not_false_eq_true, true_or, or_true, false_or, or_false, Nat.zero_add, Nat.add_zero, nn_lt, nn_le, nn_gt, nn_ge, nn_eq, nn_qe]; exact e
    · rw [h2 j (by omega), fm_sA_eq rfl, upd_ne (by omega)]
    · by_cases c : j = i
      · rw [h2 j (by omega), fm_sA_eq rfl, upd_eq c]
      · exact h3 j (by omega) hj2
theorem m_renew_l {k0 : Nat} (hk0 : k0 < 4) : ∀ (k i n : Nat) (μ : fm_M), i + k = 40 → k < n → ∃ ν, g_X9_sheet F n 56 (n3 k0) (n3 i) μ = some (n3 1, ν) ∧ Ch (fun _ _ => False) (fun q j => q = 252 ∧ 40 * k0 ≤ j ∧ j < 40 * k0 + 40) μ ν ∧ (∀ j, j < i → ν.2.1 252 (40 * k0 + j) = μ.2.1 252 (40 * k0 + j)) ∧ ∀ j, i ≤ j → j < 40 → ν.2.1 252 (40 * k0 + j) = n3 0
  | 0, i, n + 1, μ, hk, _ => by
    refine ⟨μ, ?_, Ch.refl _ _ μ, fun _ _ => rfl, fun j h1 h2 => by omega⟩
    simp (disch := omega) only [g_X9_sheet, b_X9_sheet_56, ↓reduceIte, Option.bind_some, n3_lit, n3_cl, n3_in, n3_ltT, n3_ltF, n3_leT, n3_leF, n3_eqT, n3_eqF, n3_add, n3_sub, not_true_eq_false, not_false_eq_true, true_or, or_true, false_or, or_false, Nat.zero_add, Nat.add_zero, nn_lt, nn_le, nn_gt, nn_ge, nn_eq, nn_qe]
  | k + 1, i, n + 1, μ, hk, hn => by
    obtain ⟨ν, e, h1, h2, h3⟩ := m_renew_l hk0 k (i + 1) n (fm_sA μ 252 (upd (μ.2.1 252) (40 * k0 + i) (n3 0))) (by omega) (by omega)
    refine ⟨ν, ?_, ((Ch.refl _ _ μ).sU (by omega)).trans h1, fun j hj => ?_, fun j hj hj2 => ?_⟩
    · simp (disch := omega) only [g_X9_sheet, b_X9_sheet_56, ↓reduceIte, Option.bind_some, n3_lit, n3_cl, n3_in, n3_ltT, n3_ltF, n3_leT, n3_leF, n3_eqT, n3_eqF, n3_add, n3_sub, not_true_eq_false, not_false_eq_true, true_or, or_true, false_or, or_false, Nat.zero_add, Nat.add_zero, nn_lt, nn_le, nn_gt, nn_ge, nn_eq, nn_qe, n3_mul]; exact e
    · rw [h2 j (by omega), fm_sA_eq rfl, upd_ne (by omega)]
    · by_cases c : j = i
      · rw [h2 j (by omega), fm_sA_eq rfl, upd_eq (by omega)]
      · exact h3 j (by omega) hj2
theorem c_isSheetT {k : Nat} (h : k < 4) : f_X8_isSheet F (n3 k) μ = some (n3 1, μ) := by
  simp (disch := omega) only [f_X8_isSheet, ↓reduceIte, Option.bind_some, n3_lit, n3_cl, n3_in, n3_ltT, n3_ltF, n3_leT, n3_leF, n3_eqT, n3_eqF, n3_add, n3_sub, not_true_eq_false, not_false_eq_true, true_or, or_true, false_or, or_false, Nat.zero_add, Nat.add_zero, nn_lt, nn_le, nn_gt, nn_ge, nn_eq, nn_qe, c_isInT]
theorem c_isSheetF {x : Int32} (h : x < n3 0 ∨ n3 4 ≤ x) : f_X8_isSheet F x μ = some (n3 0, μ) := by
  simp (disch := omega) only [f_X8_isSheet, ↓reduceIte, Option.bind_some, n3_lit, n3_cl, n3_in, n3_ltT, n3_ltF, n3_leT, n3_leF, n3_eqT, n3_eqF, n3_add, n3_sub, not_true_eq_false, not_false_eq_true, true_or, or_true, false_or, or_false, Nat.zero_add, Nat.add_zero, nn_lt, nn_le, nn_gt, nn_ge, nn_eq, nn_qe, c_isInN h]
theorem c_isLaneT {k : Nat} (h : k < 3) : f_X8_isLane F (n3 k) μ = some (n3 1, μ) := by
  simp (disch := omega) only [f_X8_isLane, ↓reduceIte, Option.bind_some, n3_lit, n3_cl, n3_in, n3_ltT, n3_ltF, n3_leT, n3_leF, n3_eqT, n3_eqF, n3_add, n3_sub, not_true_eq_false, not_false_eq_true, true_or, or_true, false_or, or_false, Nat.zero_add, Nat.add_zero, nn_lt, nn_le, nn_gt, nn_ge, nn_eq, nn_qe, c_isInT]
theorem c_isLaneF {x : Int32} (h : x < n3 0 ∨ n3 3 ≤ x) : f_X8_isLane F x μ = some (n3 0, μ) := by
  simp (disch := omega) only [f_X8_isLane, ↓reduceIte, Option.bind_some, n3_lit, n3_cl, n3_in, n3_ltT, n3_ltF, n3_leT, n3_leF, n3_eqT, n3_eqF, n3_add, n3_sub, not_true_eq_false, not_false_eq_true, true_or, or_true, false_or, or_false, Nat.zero_add, Nat.add_zero, nn_lt, nn_le, nn_gt, nn_ge, nn_eq, nn_qe, c_isInN h]
theorem n3_leI {x : Int32} {m : Nat} (hm : m < 2147483648) : (x ≤ n3 m) = (x.toInt ≤ (m : Int)) := by
  rw [eq_iff_iff, Int32.le_iff_toInt_le, n3_int hm]
theorem n3_geI {x : Int32} {m : Nat} (hm : m < 2147483648) : (n3 m ≤ x) = ((m : Int) ≤ x.toInt) := by
  rw [eq_iff_iff, Int32.le_iff_toInt_le, n3_int hm]
theorem ok_sheet (h : R μ) (hF : 100 < F) (x y z : Int32) : OK2 (f_X8_sheet F x y z) (f_X9_sheet F x y z) μ := by
  rcases n3_cases x 4 (by decide) with ⟨k, hk, rfl⟩ | hx
  · rcases n3_cases y 3 (by decide) with ⟨l, hl, rfl⟩ | hy
    · rcases n3_cases z 41 (by decide) with ⟨n, hn, rfl⟩ | hz
      · obtain ⟨μ1, e1, c1, _, z1⟩ := c_renew_l (F := F) (s0 := 224 + 2 * k) 40 0 F (fm_sI (fm_sI μ (224 + 2 * k) 0 (n3 l)) (224 + 2 * k) 1 (n3 n)) (by omega) (by omega)
        obtain ⟨μ2, e2, c2, _, z2⟩ := m_renew_l (F := F) hk 40 0 F (fm_sA (fm_sA μ1 250 (upd (μ1.2.1 250) k (n3 l))) 251 (upd (μ1.2.1 251) k (n3 n))) (by omega) (by omega)
        have h0 := h.2.2.2.2.1
        have cc : Ch (fun q _ => 224 ≤ q ∧ q < 232) (fun q _ => (224 ≤ q ∧ q < 232) ∨ q = 250 ∨ q = 251 ∨ q = 252) μ μ1 := (((Ch.refl _ _ μ).sI (by omega)).sI (by omega)).trans (c1.weak (fun q j c => False.elim c) (fun q j c => by omega))
        have cm : Ch (fun q _ => 224 ≤ q ∧ q < 232) (fun q _ => (224 ≤ q ∧ q < 232) ∨ q = 250 ∨ q = 251 ∨ q = 252) μ1 μ2 := (((Ch.refl _ _ μ1).sU (a := 250) (by omega)).sU (a := 251) (by omega)).trans (c2.weak (fun q j c => False.elim c) (fun q j c => by omega))
        refine ⟨n3 1, μ1, μ2, ?_, ?_, h.sheet (cc.trans cm) (fun i hi => ?_)⟩
        · simp (disch := omega) only [f_X8_sheet, ↓reduceIte, Option.bind_some, n3_lit, n3_cl, n3_in, n3_ltT, n3_ltF, n3_leT, n3_leF, n3_eqT, n3_eqF, n3_add, n3_sub, not_true_eq_false, not_false_eq_true, true_or, or_true, false_or, or_false, Nat.zero_add, Nat.add_zero, nn_lt, nn_le, nn_gt, nn_ge, nn_eq, nn_qe, c_isSheetT, c_isLaneT, isS_k, f_X3_renew, e1]
        · simp (disch := omega) only [f_X9_sheet, ↓reduceIte, Option.bind_some, n3_lit, n3_cl, n3_in, n3_ltT, n3_ltF, n3_leT, n3_leF, n3_eqT, n3_eqF, n3_add, n3_sub, not_true_eq_false, not_false_eq_true, true_or, or_true, false_or, or_false, Nat.zero_add, Nat.add_zero, nn_lt, nn_le, nn_gt, nn_ge, nn_eq, nn_qe, m_inT, fm_sI_2, fm_sA_1, fm_sA_3, fm_sI_eq, fm_sI_ne, fm_sA_eq, fm_sA_ne, upd_eq, upd_ne, e2]
        · by_cases c : i = k
          · subst c
            refine .inr ⟨l, n, by omega, by omega, ?_, ?_, ?_, ?_, fun j hj => ?_⟩
            · rw [c2.1 _ _ id]; simp (disch := omega) only [fm_sI_2, fm_sA_1, fm_sA_3, fm_sI_eq, fm_sI_ne, fm_sA_eq, fm_sA_ne, upd_eq, upd_ne]; rw [c1.1 _ _ id]; simp (disch := omega) only [fm_sI_2, fm_sA_1, fm_sA_3, fm_sI_eq, fm_sI_ne, fm_sA_eq, fm_sA_ne, upd_eq, upd_ne]
            · rw [c2.1 _ _ id]; simp (disch := omega) only [fm_sI_2, fm_sA_1, fm_sA_3, fm_sI_eq, fm_sI_ne, fm_sA_eq, fm_sA_ne, upd_eq, upd_ne]; rw [c1.1 _ _ id]; simp (disch := omega) only [fm_sI_2, fm_sA_1, fm_sA_3, fm_sI_eq, fm_sI_ne, fm_sA_eq, fm_sA_ne, upd_eq, upd_ne]
            · rw [c2.2.1 250 i (by omega)]; simp (disch := omega) only [fm_sI_2, fm_sA_1, fm_sA_3, fm_sI_eq, fm_sI_ne, fm_sA_eq, fm_sA_ne, upd_eq, upd_ne]
            · rw [c2.2.1 251 i (by omega)]; simp (disch := omega) only [fm_sI_2, fm_sA_1, fm_sA_3, fm_sI_eq, fm_sI_ne, fm_sA_eq, fm_sA_ne, upd_eq, upd_ne]
            · rw [c2.2.1 (225 + 2 * i) j (by omega), z2 j (by omega) hj]
              have := z1 j (by omega) hj
              simp (disch := omega) only [fm_sI_2, fm_sA_1, fm_sA_3, fm_sI_eq, fm_sI_ne, fm_sA_eq, fm_sA_ne, upd_eq, upd_ne]
              rw [← this, show 224 + 2 * i + 1 = 225 + 2 * i by omega]
          · have q1 : μ2.1 (224 + 2 * i) 0 = μ.1 (224 + 2 * i) 0 := by rw [c2.1 _ _ id]; simp (disch := omega) only [fm_sI_2, fm_sA_1, fm_sA_3, fm_sI_eq, fm_sI_ne, fm_sA_eq, fm_sA_ne, upd_eq, upd_ne]; rw [c1.1 _ _ id]; simp (disch := omega) only [fm_sI_2, fm_sA_1, fm_sA_3, fm_sI_eq, fm_sI_ne, fm_sA_eq, fm_sA_ne, upd_eq, upd_ne]
            have q2 : μ2.1 (224 + 2 * i) 1 = μ.1 (224 + 2 * i) 1 := by rw [c2.1 _ _ id]; simp (disch := omega) only [fm_sI_2, fm_sA_1, fm_sA_3, fm_sI_eq, fm_sI_ne, fm_sA_eq, fm_sA_ne, upd_eq, upd_ne]; rw [c1.1 _ _ id]; simp (disch := omega) only [fm_sI_2, fm_sA_1, fm_sA_3, fm_sI_eq, fm_sI_ne, fm_sA_eq, fm_sA_ne, upd_eq, upd_ne]
            have q3 : μ2.2.1 250 i = μ.2.1 250 i := by rw [c2.2.1 250 i (by omega)]; simp (disch := omega) only [fm_sI_2, fm_sA_1, fm_sA_3, fm_sI_eq, fm_sI_ne, fm_sA_eq, fm_sA_ne, upd_eq, upd_ne]; rw [c1.2.1 250 i (by omega)]; simp (disch := omega) only [fm_sI_2, fm_sA_1, fm_sA_3, fm_sI_eq, fm_sI_ne, fm_sA_eq, fm_sA_ne, upd_eq, upd_ne]
            have q4 : μ2.2.1 251 i = μ.2.1 251 i := by rw [c2.2.1 251 i (by omega)]; simp (disch := omega) only [fm_sI_2, fm_sA_1, fm_sA_3, fm_sI_eq, fm_sI_ne, fm_sA_eq, fm_sA_ne, upd_eq, upd_ne]; rw [c1.2.1 251 i (by omega)]; simp (disch := omega) only [fm_sI_2, fm_sA_1, fm_sA_3, fm_sI_eq, fm_sI_ne, fm_sA_eq, fm_sA_ne, upd_eq, upd_ne]
            rw [q1, q2, q3, q4]
            refine (h0 i hi).imp id (fun ⟨l', n', p1, p2, p3, p4, p5, p6, p7⟩ => ⟨l', n', p1, p2, p3, p4, p5, p6, fun j hj => ?_⟩)
            rw [c2.2.1 (225 + 2 * i) j (by omega), c2.2.1 252 (40 * i + j) (by omega)]
            simp (disch := omega) only [fm_sI_2, fm_sA_1, fm_sA_3, fm_sI_eq, fm_sI_ne, fm_sA_eq, fm_sA_ne, upd_eq, upd_ne]
            rw [c1.2.1 (225 + 2 * i) j (by omega), c1.2.1 252 (40 * i + j) (by omega)]
            exact p7 j hj
      · have hz := n3_out (by decide) hz
        by_cases c : z.toInt < 0
        · refine OK2.same h (v := -n3 14) ?_ ?_
          · simp (disch := omega) only [f_X8_sheet, ↓reduceIte, Option.bind_some, n3_lit, n3_cl, n3_in, n3_ltT, n3_ltF, n3_leT, n3_leF, n3_eqT, n3_eqF, n3_add, n3_sub, not_true_eq_false, not_false_eq_true, true_or, or_true, false_or, or_false, Nat.zero_add, Nat.add_zero, nn_lt, nn_le, nn_gt, nn_ge, nn_eq, nn_qe, c_isSheetT, c_isLaneT, n3_leI, n3_geI, if_pos, if_neg]
          · simp (disch := omega) only [f_X9_sheet, ↓reduceIte, Option.bind_some, n3_lit, n3_cl, n3_in, n3_ltT, n3_ltF, n3_leT, n3_leF, n3_eqT, n3_eqF, n3_add, n3_sub, not_true_eq_false, not_false_eq_true, true_or, or_true, false_or, or_false, Nat.zero_add, Nat.add_zero, nn_lt, nn_le, nn_gt, nn_ge, nn_eq, nn_qe, m_inT, n3_leI, n3_geI, if_pos, if_neg]
        · refine OK2.same h (v := -n3 1) ?_ ?_
          · simp (disch := omega) only [f_X8_sheet, ↓reduceIte, Option.bind_some, n3_lit, n3_cl, n3_in, n3_ltT, n3_ltF, n3_leT, n3_leF, n3_eqT, n3_eqF, n3_add, n3_sub, not_true_eq_false, not_false_eq_true, true_or, or_true, false_or, or_false, Nat.zero_add, Nat.add_zero, nn_lt, nn_le, nn_gt, nn_ge, nn_eq, nn_qe, c_isSheetT, c_isLaneT, n3_leI, n3_geI, if_pos, if_neg]
          · simp (disch := omega) only [f_X9_sheet, ↓reduceIte, Option.bind_some, n3_lit, n3_cl, n3_in, n3_ltT, n3_ltF, n3_leT, n3_leF, n3_eqT, n3_eqF, n3_add, n3_sub, not_true_eq_false, not_false_eq_true, true_or, or_true, false_or, or_false, Nat.zero_add, Nat.add_zero, nn_lt, nn_le, nn_gt, nn_ge, nn_eq, nn_qe, m_inT, n3_leI, n3_geI, if_pos, if_neg]
    · refine OK2.same h (v := -n3 1) ?_ ?_
      · simp (disch := omega) only [f_X8_sheet, ↓reduceIte, Option.bind_some, n3_lit, n3_cl, n3_in, n3_ltT, n3_ltF, n3_leT, n3_leF, n3_eqT, n3_eqF, n3_add, n3_sub, not_true_eq_false, not_false_eq_true, true_or, or_true, false_or, or_false, Nat.zero_add, Nat.add_zero, nn_lt, nn_le, nn_gt, nn_ge, nn_eq, nn_qe, c_isSheetT, c_isLaneF hy]
      · simp (disch := omega) only [f_X9_sheet, ↓reduceIte, Option.bind_some, n3_lit, n3_cl, n3_in, n3_ltT, n3_ltF, n3_leT, n3_leF, n3_eqT, n3_eqF, n3_add, n3_sub, not_true_eq_false, not_false_eq_true, true_or, or_true, false_or, or_false, Nat.zero_add, Nat.add_zero, nn_lt, nn_le, nn_gt, nn_ge, nn_eq, nn_qe, m_inT, m_inO hy]
  · refine OK2.same h (v := -n3 1) ?_ ?_
    · simp (disch := omega) only [f_X8_sheet, ↓reduceIte, Option.bind_some, n3_lit, n3_cl, n3_in, n3_ltT, n3_ltF, n3_leT, n3_leF, n3_eqT, n3_eqF, n3_add, n3_sub, not_true_eq_false, not_false_eq_true, true_or, or_true, false_or, or_false, Nat.zero_add, Nat.add_zero, nn_lt, nn_le, nn_gt, nn_ge, nn_eq, nn_qe, c_isSheetF hx]
    · simp (disch := omega) only [f_X9_sheet, ↓reduceIte, Option.bind_some, n3_lit, n3_cl, n3_in, n3_ltT, n3_ltF, n3_leT, n3_leF, n3_eqT, n3_eqF, n3_add, n3_sub, not_true_eq_false, not_false_eq_true, true_or, or_true, false_or, or_false, Nat.zero_add, Nat.add_zero, nn_lt, nn_le, nn_gt, nn_ge, nn_eq, nn_qe, m_inO hx]
theorem lt_cmpn (x y : Int64) : (lg_cmp x y < n3 0) = (x.toInt < y.toInt) := lt_cmp x y
theorem gt_cmpn (x y : Int64) : (n3 0 < lg_cmp x y) = (y.toInt < x.toInt) := gt_cmp x y
theorem l_add {x : Int32} {n : Nat} (hn : n < 1000) : (x.toInt64 + (n3 n).toInt64).toInt = x.toInt + n := by
  have h1 := x.toInt_lt
  have h2 := x.le_toInt
  rw [Int64.toInt_add, Int32.toInt_toInt64, Int32.toInt_toInt64, n3_int (by omega), Int.bmod_eq_of_le (by omega) (by omega)]
theorem nn_sub (i j : Nat) : -n3 i - n3 j = -n3 (i + j) := by rw [← n3_add, Int32.neg_add, Int32.sub_eq_add_neg]
theorem n3_one : (1 : Int32) = n3 1 := n3_lit 1
theorem lay8_bad {k j : Nat} (hk : k < 4) (hj : 0 < j) (hj2 : j < 100) (y z : Int32) (e : f_X3_faultOfCells F (224 + 2 * k) y.toInt64 1 μ = some (n3 j, μ)) : f_X8_lay F (n3 k) y z μ = some (-n3 (10 + j), μ) := by
  unfold f_X8_lay
  rw [c_isSheetT hk, Option.bind_some]
  dsimp only
  rw [n3_cl (by omega), if_pos (show ¬ n3 1 = 0 by decide), if_pos (n3_in (by omega) hk), if_pos (isS_k hk), e, Option.bind_some]
  dsimp only
  rw [if_neg (show ¬ n3 j = 0 by rw [n3_lit, n3_eq (by omega) (by omega)]; omega), n3_lit, nn_sub]
theorem lay8_ok {k : Nat} {v : Unit} (hk : k < 4) (y z : Int32) (e : f_X3_faultOfCells F (224 + 2 * k) y.toInt64 1 μ = some (n3 0, μ)) (e2 : f_X3_put F (224 + 2 * k) y z μ = some (v, ν)) : f_X8_lay F (n3 k) y z μ = some (n3 1, ν) := by
  unfold f_X8_lay
  rw [c_isSheetT hk, Option.bind_some]
  dsimp only
  rw [n3_cl (by omega), if_pos (show ¬ n3 1 = 0 by decide), if_pos (n3_in (by omega) hk), if_pos (isS_k hk), e, Option.bind_some]
  dsimp only
  rw [if_pos (show n3 0 = 0 by decide), if_pos (n3_in (by omega) hk), if_pos (isS_k hk), e2, Option.bind_some, n3_one]
theorem lay_none (h : R μ) {k : Nat} (hk : k < 4) (y z : Int32) (g1 : μ.1 (224 + 2 * k) 0 = -n3 1) (g2 : μ.2.1 250 k = -n3 4) : OK2 (f_X8_lay F (n3 k) y z) (f_X9_lay F (n3 k) y z) μ := by
  have e : f_X3_faultOfCells F (224 + 2 * k) y.toInt64 (n3 1) μ = some (n3 1, μ) := by
    simp (disch := omega) only [f_X3_faultOfCells, f_X3_isThere, ↓reduceIte, Option.bind_some, n3_lit, n3_cl, n3_in, n3_ltT, n3_ltF, n3_leT, n3_leF, n3_eqT, n3_eqF, n3_add, n3_sub, not_true_eq_false, not_false_eq_true, true_or, or_true, false_or, or_false, Nat.zero_add, Nat.add_zero, nn_lt, nn_le, nn_gt, nn_ge, nn_eq, nn_qe, g1]
  refine OK2.same h (v := -n3 11) ?_ ?_
  · exact lay8_bad (j := 1) hk (by omega) (by omega) y z (by rw [n3_one]; exact e)
  · simp (disch := omega) only [f_X9_lay, ↓reduceIte, Option.bind_some, n3_lit, n3_cl, n3_in, n3_ltT, n3_ltF, n3_leT, n3_leF, n3_eqT, n3_eqF, n3_add, n3_sub, not_true_eq_false, not_false_eq_true, true_or, or_true, false_or, or_false, Nat.zero_add, Nat.add_zero, nn_lt, nn_le, nn_gt, nn_ge, nn_eq, nn_qe, m_inT, g2]
theorem lay_out (h : R μ) {k l n : Nat} (hk : k < 4) (y z : Int32) (p1 : l ≤ 2) (p2 : n ≤ 40) (p3 : μ.1 (224 + 2 * k) 0 = n3 l) (p4 : μ.1 (224 + 2 * k) 1 = n3 n) (p5 : μ.2.1 250 k = n3 l) (p6 : μ.2.1 251 k = n3 n) (hy : y < n3 0 ∨ n3 n ≤ y) : OK2 (f_X8_lay F (n3 k) y z) (f_X9_lay F (n3 k) y z) μ := by
  have e0 : f_X3_isThere F (224 + 2 * k) μ = some (n3 1, μ) := by
    simp (disch := omega) only [f_X3_isThere, ↓reduceIte, Option.bind_some, n3_lit, n3_cl, n3_in, n3_ltT, n3_ltF, n3_leT, n3_leF, n3_eqT, n3_eqF, n3_add, n3_sub, not_true_eq_false, not_false_eq_true, true_or, or_true, false_or, or_false, Nat.zero_add, Nat.add_zero, nn_lt, nn_le, nn_gt, nn_ge, nn_eq, nn_qe, p3]
  have hy2 := n3_out (by omega) hy
  have e : f_X3_faultOfCells F (224 + 2 * k) y.toInt64 (n3 1) μ = some (n3 2, μ) := by
    simp (disch := omega) only [f_X3_faultOfCells, e0, ↓reduceIte, Option.bind_some, n3_lit, n3_cl, n3_in, n3_ltT, n3_ltF, n3_leT, n3_leF, n3_eqT, n3_eqF, n3_add, n3_sub, not_true_eq_false, not_false_eq_true, true_or, or_true, false_or, or_false, Nat.zero_add, Nat.add_zero, nn_lt, nn_le, nn_gt, nn_ge, nn_eq, nn_qe, p4]
    by_cases c : y.toInt < 0
    · rw [if_pos]
      rw [lt_cmpn, Int32.toInt_toInt64, l_of (by omega)]; omega
    · rw [if_neg (by rw [lt_cmpn, Int32.toInt_toInt64, l_of (by omega)]; omega), if_pos]
      rw [gt_cmpn, l_add (by omega), Int32.toInt_toInt64, n3_int (by omega)]; omega
  have ein := m_isF (F := F) (μ := μ) hy (by omega)
  rw [n3_lit] at ein
  refine OK2.same h (v := -n3 12) ?_ ?_
  · exact lay8_bad (j := 2) hk (by omega) (by omega) y z (by rw [n3_one]; exact e)
  · unfold f_X9_lay
    rw [m_inT (by omega) (by omega) (by omega), Option.bind_some]
    simp (disch := omega) only [↓reduceIte, Option.bind_some, n3_lit, n3_cl, n3_in, n3_ltT, n3_ltF, n3_leT, n3_leF, n3_eqT, n3_eqF, n3_add, n3_sub, not_true_eq_false, not_false_eq_true, true_or, or_true, false_or, or_false, Nat.zero_add, Nat.add_zero, nn_lt, nn_le, nn_gt, nn_ge, nn_eq, nn_qe, p5, p6, ein]
theorem lay_fin (h : R μ) {k i : Nat} (hk : k < 4) (hi : i < 40) (v : Int32) : R (fm_sA (fm_sA μ (225 + 2 * k) (upd (μ.2.1 (225 + 2 * k)) i v)) 252 (upd (μ.2.1 252) (40 * k + i) v)) := by
  have h0 := h.2.2.2.2.1
  have e252 : (fm_sA μ (225 + 2 * k) (upd (μ.2.1 (225 + 2 * k)) i v)).2.1 252 = μ.2.1 252 := fm_sA_ne (by omega)
  have cq := ((Ch.refl (fun q _ => 224 ≤ q ∧ q < 232) (fun q _ => (224 ≤ q ∧ q < 232) ∨ q = 250 ∨ q = 251 ∨ q = 252) μ).sU (a := 225 + 2 * k) (k := i) (x := v) (by omega)).sU (a := 252) (k := 40 * k + i) (x := v) (by omega)
  rw [e252] at cq
  refine h.sheet cq (fun j hj => ?_)
  refine (h0 j hj).imp (fun ⟨g1, g2⟩ => ⟨g1, ?_⟩) (fun ⟨l', n', p1, p2, p3, p4, p5, p6, p7⟩ => ⟨l', n', p1, p2, p3, p4, ?_, ?_, fun r hr => ?_⟩)
  · simp (disch := omega) only [fm_sI_2, fm_sA_1, fm_sA_3, fm_sI_eq, fm_sI_ne, fm_sA_eq, fm_sA_ne, upd_eq, upd_ne]; exact g2
  · simp (disch := omega) only [fm_sI_2, fm_sA_1, fm_sA_3, fm_sI_eq, fm_sI_ne, fm_sA_eq, fm_sA_ne, upd_eq, upd_ne]; exact p5
  · simp (disch := omega) only [fm_sI_2, fm_sA_1, fm_sA_3, fm_sI_eq, fm_sI_ne, fm_sA_eq, fm_sA_ne, upd_eq, upd_ne]; exact p6
  · have := p7 r hr
    by_cases c : j = k
    · subst c
      by_cases c2 : r = i
      · simp (disch := omega) only [fm_sI_2, fm_sA_1, fm_sA_3, fm_sI_eq, fm_sI_ne, fm_sA_eq, fm_sA_ne, upd_eq, upd_ne]
      · simp (disch := omega) only [fm_sI_2, fm_sA_1, fm_sA_3, fm_sI_eq, fm_sI_ne, fm_sA_eq, fm_sA_ne, upd_eq, upd_ne]; exact this
    · simp (disch := omega) only [fm_sI_2, fm_sA_1, fm_sA_3, fm_sI_eq, fm_sI_ne, fm_sA_eq, fm_sA_ne, upd_eq, upd_ne]; exact this
theorem lay_in (h : R μ) {k l n i : Nat} (hk : k < 4) (z : Int32) (p1 : l ≤ 2) (p2 : n ≤ 40) (p3 : μ.1 (224 + 2 * k) 0 = n3 l) (p4 : μ.1 (224 + 2 * k) 1 = n3 n) (p5 : μ.2.1 250 k = n3 l) (p6 : μ.2.1 251 k = n3 n) (hi : i < n) : OK2 (f_X8_lay F (n3 k) (n3 i) z) (f_X9_lay F (n3 k) (n3 i) z) μ := by
  have e0 : f_X3_isThere F (224 + 2 * k) μ = some (n3 1, μ) := by
    simp (disch := omega) only [f_X3_isThere, ↓reduceIte, Option.bind_some, n3_lit, n3_cl, n3_in, n3_ltT, n3_ltF, n3_leT, n3_leF, n3_eqT, n3_eqF, n3_add, n3_sub, not_true_eq_false, not_false_eq_true, true_or, or_true, false_or, or_false, Nat.zero_add, Nat.add_zero, nn_lt, nn_le, nn_gt, nn_ge, nn_eq, nn_qe, p3]
  have e : f_X3_faultOfCells F (224 + 2 * k) (n3 i).toInt64 (n3 1) μ = some (n3 0, μ) := by
    simp (disch := omega) only [f_X3_faultOfCells, e0, ↓reduceIte, Option.bind_some, n3_lit, n3_cl, n3_in, n3_ltT, n3_ltF, n3_leT, n3_leF, n3_eqT, n3_eqF, n3_add, n3_sub, not_true_eq_false, not_false_eq_true, true_or, or_true, false_or, or_false, Nat.zero_add, Nat.add_zero, nn_lt, nn_le, nn_gt, nn_ge, nn_eq, nn_qe, p4, n3_64]
    have q1 := l_add (x := n3 i) (n := 1) (by omega)
    rw [n3_64 (by omega), n3_64 (by omega), n3_int (by omega)] at q1
    have c1 : ¬ (lg_cmp (Int64.ofNat i) (Int64.ofNat 0) < n3 0) := by rw [lt_cmpn, l_of (by omega), l_of (by omega)]; omega
    have c2 : ¬ (n3 0 < lg_cmp (Int64.ofNat i + Int64.ofNat 1) (Int64.ofNat n)) := by rw [gt_cmpn, q1, l_of (by omega)]; omega
    rw [if_neg c1, if_neg c2]
  have es : 224 + 2 * k + 1 = 225 + 2 * k := by omega
  have mm : ∀ (v : Int32) (m : fm_M), fm_sA μ (225 + 2 * k) (upd (μ.2.1 (225 + 2 * k)) i v) = m → m.2.1 250 k = n3 l ∧ m.2.1 251 k = n3 n ∧ m.2.1 252 = μ.2.1 252 ∧ f_X9_in F (n3 i).toInt64 (Int64.ofNat 0) (n3 (n - 1)).toInt64 m = some (n3 1, m) := by
    intro v m hm
    refine ⟨?_, ?_, ?_, ?_⟩
    · rw [← hm, fm_sA_ne (by omega)]; exact p5
    · rw [← hm, fm_sA_ne (by omega)]; exact p6
    · rw [← hm, fm_sA_ne (by omega)]
    · have ein := m_isT (F := F) (μ := m) hi (by omega)
      rw [n3_lit, n3_sub (by omega)] at ein
      exact ein
  rcases (show l = 0 ∨ l = 1 ∨ l = 2 by omega) with rfl | rfl | rfl
  · refine ⟨n3 1, fm_sA μ (225 + 2 * k) (upd (μ.2.1 (225 + 2 * k)) i z.toInt8.toInt32), fm_sA (fm_sA μ (225 + 2 * k) (upd (μ.2.1 (225 + 2 * k)) i z.toInt8.toInt32)) 252 (upd (μ.2.1 252) (40 * k + i) z.toInt8.toInt32), ?_, ?_, lay_fin (i := i) h hk (by omega) z.toInt8.toInt32⟩
    · refine lay8_ok hk (n3 i) z (by rw [n3_one]; exact e) (v := ()) ?_
      simp (disch := omega) only [f_X3_put, ↓reduceIte, Option.bind_some, n3_lit, n3_cl, n3_in, n3_ltT, n3_ltF, n3_leT, n3_leF, n3_eqT, n3_eqF, n3_add, n3_sub, not_true_eq_false, not_false_eq_true, true_or, or_true, false_or, or_false, Nat.zero_add, Nat.add_zero, nn_lt, nn_le, nn_gt, nn_ge, nn_eq, nn_qe, p3, es]
    · generalize hm : fm_sA μ (225 + 2 * k) (upd (μ.2.1 (225 + 2 * k)) i z.toInt8.toInt32) = m
      obtain ⟨p5', p6', p7', ein⟩ := mm _ m hm
      unfold f_X9_lay
      rw [m_inT (by omega) (by omega) (by omega), Option.bind_some]
      simp (disch := omega) only [↓reduceIte, Option.bind_some, n3_lit, n3_cl, n3_in, n3_ltT, n3_ltF, n3_leT, n3_leF, n3_eqT, n3_eqF, n3_add, n3_sub, not_true_eq_false, not_false_eq_true, true_or, or_true, false_or, or_false, Nat.zero_add, Nat.add_zero, nn_lt, nn_le, nn_gt, nn_ge, nn_eq, nn_qe, p5', p6', p7', ein, n3_mul, sh8]
  · refine ⟨n3 1, fm_sA μ (225 + 2 * k) (upd (μ.2.1 (225 + 2 * k)) i z.toInt16.toInt32), fm_sA (fm_sA μ (225 + 2 * k) (upd (μ.2.1 (225 + 2 * k)) i z.toInt16.toInt32)) 252 (upd (μ.2.1 252) (40 * k + i) z.toInt16.toInt32), ?_, ?_, lay_fin (i := i) h hk (by omega) z.toInt16.toInt32⟩
    · refine lay8_ok hk (n3 i) z (by rw [n3_one]; exact e) (v := ()) ?_
      simp (disch := omega) only [f_X3_put, ↓reduceIte, Option.bind_some, n3_lit, n3_cl, n3_in, n3_ltT, n3_ltF, n3_leT, n3_leF, n3_eqT, n3_eqF, n3_add, n3_sub, not_true_eq_false, not_false_eq_true, true_or, or_true, false_or, or_false, Nat.zero_add, Nat.add_zero, nn_lt, nn_le, nn_gt, nn_ge, nn_eq, nn_qe, p3, es]
    · generalize hm : fm_sA μ (225 + 2 * k) (upd (μ.2.1 (225 + 2 * k)) i z.toInt16.toInt32) = m
      obtain ⟨p5', p6', p7', ein⟩ := mm _ m hm
      unfold f_X9_lay
      rw [m_inT (by omega) (by omega) (by omega), Option.bind_some]
      simp (disch := omega) only [↓reduceIte, Option.bind_some, n3_lit, n3_cl, n3_in, n3_ltT, n3_ltF, n3_leT, n3_leF, n3_eqT, n3_eqF, n3_add, n3_sub, not_true_eq_false, not_false_eq_true, true_or, or_true, false_or, or_false, Nat.zero_add, Nat.add_zero, nn_lt, nn_le, nn_gt, nn_ge, nn_eq, nn_qe, p5', p6', p7', ein, n3_mul, sh16]
  · refine ⟨n3 1, fm_sA μ (225 + 2 * k) (upd (μ.2.1 (225 + 2 * k)) i z), fm_sA (fm_sA μ (225 + 2 * k) (upd (μ.2.1 (225 + 2 * k)) i z)) 252 (upd (μ.2.1 252) (40 * k + i) z), ?_, ?_, lay_fin (i := i) h hk (by omega) z⟩
    · refine lay8_ok hk (n3 i) z (by rw [n3_one]; exact e) (v := ()) ?_
      simp (disch := omega) only [f_X3_put, ↓reduceIte, Option.bind_some, n3_lit, n3_cl, n3_in, n3_ltT, n3_ltF, n3_leT, n3_leF, n3_eqT, n3_eqF, n3_add, n3_sub, not_true_eq_false, not_false_eq_true, true_or, or_true, false_or, or_false, Nat.zero_add, Nat.add_zero, nn_lt, nn_le, nn_gt, nn_ge, nn_eq, nn_qe, p3, es]
    · generalize hm : fm_sA μ (225 + 2 * k) (upd (μ.2.1 (225 + 2 * k)) i z) = m
      obtain ⟨p5', p6', p7', ein⟩ := mm _ m hm
      unfold f_X9_lay
      rw [m_inT (by omega) (by omega) (by omega), Option.bind_some]
      simp (disch := omega) only [↓reduceIte, Option.bind_some, n3_lit, n3_cl, n3_in, n3_ltT, n3_ltF, n3_leT, n3_leF, n3_eqT, n3_eqF, n3_add, n3_sub, not_true_eq_false, not_false_eq_true, true_or, or_true, false_or, or_false, Nat.zero_add, Nat.add_zero, nn_lt, nn_le, nn_gt, nn_ge, nn_eq, nn_qe, p5', p6', p7', ein, n3_mul]
theorem lay_bad8 {x y z : Int32} (hx : x < n3 0 ∨ n3 4 ≤ x) : f_X8_lay F x y z μ = some (-n3 1, μ) := by
  unfold f_X8_lay
  rw [c_isSheetF hx, Option.bind_some]
  exact (if_neg (fun c => c rfl)).trans (by rw [n3_lit])
theorem lay_bad9 {x y z : Int32} (hx : x < n3 0 ∨ n3 4 ≤ x) : f_X9_lay F x y z μ = some (-n3 1, μ) := by
  unfold f_X9_lay
  rw [m_inO hx (by omega) (by omega), Option.bind_some]
  exact (if_neg (fun c => c rfl)).trans (by rw [n3_lit])
theorem ok_lay (h : R μ) (hF : 100 < F) (x y z : Int32) : OK2 (f_X8_lay F x y z) (f_X9_lay F x y z) μ := by
  rcases n3_cases x 4 (by decide) with ⟨k, hk, rfl⟩ | hx
  · rcases h.2.2.2.2.1 k hk with ⟨g1, g2⟩ | ⟨l, n, p1, p2, p3, p4, p5, p6, p7⟩
    · exact lay_none h hk y z g1 g2
    · rcases n3_cases y n (by omega) with ⟨i, hi, rfl⟩ | hy
      · exact lay_in h hk z p1 p2 p3 p4 p5 p6 hi
      · exact lay_out h hk y z p1 p2 p3 p4 p5 p6 hy
  · exact OK2.same h (lay_bad8 hx) (lay_bad9 hx)
end VS46
