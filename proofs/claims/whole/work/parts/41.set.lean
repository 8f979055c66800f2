/-! the calls that give a cell anew -/
theorem inA_102 {i : Nat} (hi : i < 4) : fm_inA 102 (n3 i) = true := n3_in (by omega) hi
theorem inA_103 {i : Nat} (hi : i < 4) : fm_inA 103 (n3 i) = true := n3_in (by omega) hi
theorem inA_104 {i : Nat} (hi : i < 5) : fm_inA 104 (n3 i) = true := n3_in (by omega) hi
theorem inA_105 {i : Nat} (hi : i < 5) : fm_inA 105 (n3 i) = true := n3_in (by omega) hi
theorem inA_107 {i : Nat} (hi : i < 6) : fm_inA 107 (n3 i) = true := n3_in (by omega) hi
theorem inA_110 {i : Nat} (hi : i < 4) : fm_inA 110 (n3 i) = true := n3_in (by omega) hi
section VS41
variable {F : Nat} {μ ν : fm_M} {a : Nat → Nat} {w : Nat}
theorem set_ok {f g : fm_M → Option (Int32 × fm_M)} {b : Nat → Nat} {q i k o v : Nat} {z : Int32} (h : R μ) (hp : AP μ 0 a) (wf : WF b) (bm : b 37 ≤ 999) (hq : 101 ≤ q ∧ q < 121) (hk : k < 38)
    (e1 : f μ = some (n3 o, fm_sA μ q (upd (μ.2.1 q) i (n3 v)))) (e2 : ∀ μ1, AP μ1 0 a → g μ1 = some (n3 o, fm_sA μ1 233 (upd (μ1.2.1 233) k z)))
    (h1 : AW (fm_sA μ q (upd (μ.2.1 q) i (n3 v))) 101 b) (h2 : ∀ μ1, AP μ1 0 a → AP (fm_sA μ1 233 (upd (μ1.2.1 233) k z)) 0 b) : OK2 f g μ := by
  have f1 : Fr 101 121 μ (fm_sA μ q (upd (μ.2.1 q) i (n3 v))) := (Fr.refl 101 121 μ).sA (by omega)
  have hp1 := hp.fr f1 (by omega)
  exact ⟨_, _, _, e1, e2 _ hp1, h.world f1 ((FM.refl 0 _).sA (by omega)) wf bm h1 (h2 _ hp1)⟩
theorem set_okI {f g : fm_M → Option (Int32 × fm_M)} {b : Nat → Nat} {i k o v : Nat} {z : Int32} (h : R μ) (hp : AP μ 0 a) (wf : WF b) (bm : b 37 ≤ 999) (hk : k < 38)
    (e1 : f μ = some (n3 o, fm_sI μ 101 i (n3 v))) (e2 : ∀ μ1, AP μ1 0 a → g μ1 = some (n3 o, fm_sA μ1 233 (upd (μ1.2.1 233) k z)))
    (h1 : AW (fm_sI μ 101 i (n3 v)) 101 b) (h2 : ∀ μ1, AP μ1 0 a → AP (fm_sA μ1 233 (upd (μ1.2.1 233) k z)) 0 b) : OK2 f g μ := by
  have f1 : Fr 101 121 μ (fm_sI μ 101 i (n3 v)) := (Fr.refl 101 121 μ).sI (by omega)
  have hp1 := hp.fr f1 (by omega)
  exact ⟨_, _, _, e1, e2 _ hp1, h.world f1 ((FM.refl 0 _).sA (by omega)) wf bm h1 (h2 _ hp1)⟩
theorem ok_dress (h : R μ) (x y z : Int32) : OK2 (f_X8_dress F x y z) (f_X9_dress F x y z) μ := by
  obtain ⟨a, wf, bm, hw, hp⟩ := h.1; obtain ⟨⟨h0, h3, h7, h8, h9, h11, h15⟩, hP, hS, hR, hD⟩ := hw.z; obtain ⟨⟨b38, b23, b39, b24, b25, b25u, b26⟩, wP, wS, wR, wD⟩ := id wf
  rcases n3_cases x (a 38) (by omega) with ⟨i, hi, rfl⟩ | hx
  · have hd := c_oneT (F := F) hw wf hi
    have kd := fun μ1 (hp1 : AP μ1 0 a) => m_oneT (F := F) hp1 wf hi
    have kd0 := m_oneT (F := F) hp wf hi
    rcases n3_cases y 2 (by decide) with ⟨j, hj, rfl⟩ | hy
    · rcases (show j = 0 ∨ j = 1 by omega) with rfl | rfl
      · rcases n3_cases z 6 (by decide) with ⟨v, hv, rfl⟩ | hz
        · refine set_ok (o := a i) (q := 102) (i := i) (k := i) (v := v) (z := n3 v) (b := st a i v) h hp (wf_wool wf hi (by omega)) (by rw [st_ne (by omega)]; exact bm) (by omega) (by omega) ?_ (fun μ1 hp => ?_) (aw_wool hw wf hi v) (fun μ1 hp1 => ?_)
          · simp (disch := omega) only [f_X8_dress, ↓reduceIte, Option.bind_some, n3_lit, n3_cl, n3_in, n3_ltT, n3_ltF, n3_leT, n3_leF, n3_eqT, n3_eqF, n3_add, n3_sub, not_true_eq_false, not_false_eq_true, true_or, or_true, false_or, or_false, Nat.zero_add, Nat.add_zero, nn_lt, nn_le, nn_gt, nn_ge, nn_eq, nn_qe, hd, c_isInT, f_X8_exchange, inA_102, hP]
          · obtain ⟨⟨k1, k3, kb, ko⟩, ⟨k23, k24, k25, k26, k37⟩, kP, kS, kR, kD⟩ := hp.z
            have kd := kd μ1 hp
            simp (disch := omega) only [f_X9_dress, ↓reduceIte, Option.bind_some, n3_lit, n3_cl, n3_in, n3_ltT, n3_ltF, n3_leT, n3_leF, n3_eqT, n3_eqF, n3_add, n3_sub, not_true_eq_false, not_false_eq_true, true_or, or_true, false_or, or_false, Nat.zero_add, Nat.add_zero, nn_lt, nn_le, nn_gt, nn_ge, nn_eq, nn_qe, kd, m_inT, f_X9_puts, kP, Nat.sub_zero]
          · have := ap_wool hp1 wf hi v
            rwa [Nat.zero_add] at this
        · refine OK2.same h (v := -n3 1) ?_ ?_
          · simp (disch := omega) only [f_X8_dress, ↓reduceIte, Option.bind_some, n3_lit, n3_cl, n3_in, n3_ltT, n3_ltF, n3_leT, n3_leF, n3_eqT, n3_eqF, n3_add, n3_sub, not_true_eq_false, not_false_eq_true, true_or, or_true, false_or, or_false, Nat.zero_add, Nat.add_zero, nn_lt, nn_le, nn_gt, nn_ge, nn_eq, nn_qe, hd, c_isInN hz]
          · simp (disch := omega) only [f_X9_dress, ↓reduceIte, Option.bind_some, n3_lit, n3_cl, n3_in, n3_ltT, n3_ltF, n3_leT, n3_leF, n3_eqT, n3_eqF, n3_add, n3_sub, not_true_eq_false, not_false_eq_true, true_or, or_true, false_or, or_false, Nat.zero_add, Nat.add_zero, nn_lt, nn_le, nn_gt, nn_ge, nn_eq, nn_qe, kd0, m_inO hz, f_X9_puts]
      · rcases n3_cases z 10 (by decide) with ⟨v, hv, rfl⟩ | hz
        · refine set_ok (o := a (4 + i)) (q := 103) (i := i) (k := 4 + i) (v := v) (z := n3 v) (b := st a (4 + i) v) h hp (wf_place wf hi (by omega)) (by rw [st_ne (by omega)]; exact bm) (by omega) (by omega) ?_ (fun μ1 hp => ?_) (aw_place hw wf hi v) (fun μ1 hp1 => ?_)
          · simp (disch := omega) only [f_X8_dress, ↓reduceIte, Option.bind_some, n3_lit, n3_cl, n3_in, n3_ltT, n3_ltF, n3_leT, n3_leF, n3_eqT, n3_eqF, n3_add, n3_sub, not_true_eq_false, not_false_eq_true, true_or, or_true, false_or, or_false, Nat.zero_add, Nat.add_zero, nn_lt, nn_le, nn_gt, nn_ge, nn_eq, nn_qe, hd, c_isInT, f_X8_exchange, inA_103, hP]
          · obtain ⟨⟨k1, k3, kb, ko⟩, ⟨k23, k24, k25, k26, k37⟩, kP, kS, kR, kD⟩ := hp.z
            have kd := kd μ1 hp
            simp (disch := omega) only [f_X9_dress, ↓reduceIte, Option.bind_some, n3_lit, n3_cl, n3_in, n3_ltT, n3_ltF, n3_leT, n3_leF, n3_eqT, n3_eqF, n3_add, n3_sub, not_true_eq_false, not_false_eq_true, true_or, or_true, false_or, or_false, Nat.zero_add, Nat.add_zero, nn_lt, nn_le, nn_gt, nn_ge, nn_eq, nn_qe, kd, m_inT, f_X9_puts, kP, Nat.sub_zero]
          · have := ap_place hp1 wf hi v
            rwa [Nat.zero_add] at this
        · refine OK2.same h (v := -n3 1) ?_ ?_
          · simp (disch := omega) only [f_X8_dress, ↓reduceIte, Option.bind_some, n3_lit, n3_cl, n3_in, n3_ltT, n3_ltF, n3_leT, n3_leF, n3_eqT, n3_eqF, n3_add, n3_sub, not_true_eq_false, not_false_eq_true, true_or, or_true, false_or, or_false, Nat.zero_add, Nat.add_zero, nn_lt, nn_le, nn_gt, nn_ge, nn_eq, nn_qe, hd, c_isInN hz]
          · simp (disch := omega) only [f_X9_dress, ↓reduceIte, Option.bind_some, n3_lit, n3_cl, n3_in, n3_ltT, n3_ltF, n3_leT, n3_leF, n3_eqT, n3_eqF, n3_add, n3_sub, not_true_eq_false, not_false_eq_true, true_or, or_true, false_or, or_false, Nat.zero_add, Nat.add_zero, nn_lt, nn_le, nn_gt, nn_ge, nn_eq, nn_qe, kd0, m_inO hz, f_X9_puts]
    · have hy := n3_outE (by decide) hy
      refine OK2.same h (v := -n3 1) ?_ ?_
      · simp (disch := omega) only [f_X8_dress, ↓reduceIte, Option.bind_some, n3_lit, n3_cl, n3_in, n3_ltT, n3_ltF, n3_leT, n3_leF, n3_eqT, n3_eqF, n3_add, n3_sub, not_true_eq_false, not_false_eq_true, true_or, or_true, false_or, or_false, Nat.zero_add, Nat.add_zero, nn_lt, nn_le, nn_gt, nn_ge, nn_eq, nn_qe, hd, hy]
      · simp (disch := omega) only [f_X9_dress, ↓reduceIte, Option.bind_some, n3_lit, n3_cl, n3_in, n3_ltT, n3_ltF, n3_leT, n3_leF, n3_eqT, n3_eqF, n3_add, n3_sub, not_true_eq_false, not_false_eq_true, true_or, or_true, false_or, or_false, Nat.zero_add, Nat.add_zero, nn_lt, nn_le, nn_gt, nn_ge, nn_eq, nn_qe, hy, f_X9_puts]
  · have kd0 := m_oneF (F := F) hp wf hx
    refine OK2.same h (v := -n3 1) ?_ ?_
    · simp (disch := omega) only [f_X8_dress, ↓reduceIte, Option.bind_some, n3_lit, n3_cl, n3_in, n3_ltT, n3_ltF, n3_leT, n3_leF, n3_eqT, n3_eqF, n3_add, n3_sub, not_true_eq_false, not_false_eq_true, true_or, or_true, false_or, or_false, Nat.zero_add, Nat.add_zero, nn_lt, nn_le, nn_gt, nn_ge, nn_eq, nn_qe, c_oneF hw hx]
    · by_cases c0 : y = n3 0
      · simp (disch := omega) only [f_X9_dress, ↓reduceIte, Option.bind_some, n3_lit, n3_cl, n3_in, n3_ltT, n3_ltF, n3_leT, n3_leF, n3_eqT, n3_eqF, n3_add, n3_sub, not_true_eq_false, not_false_eq_true, true_or, or_true, false_or, or_false, Nat.zero_add, Nat.add_zero, nn_lt, nn_le, nn_gt, nn_ge, nn_eq, nn_qe, c0, kd0, f_X9_puts]
      · by_cases c1 : y = n3 1
        · simp (disch := omega) only [f_X9_dress, ↓reduceIte, Option.bind_some, n3_lit, n3_cl, n3_in, n3_ltT, n3_ltF, n3_leT, n3_leF, n3_eqT, n3_eqF, n3_add, n3_sub, not_true_eq_false, not_false_eq_true, true_or, or_true, false_or, or_false, Nat.zero_add, Nat.add_zero, nn_lt, nn_le, nn_gt, nn_ge, nn_eq, nn_qe, c1, kd0, f_X9_puts]
        · simp (disch := omega) only [f_X9_dress, ↓reduceIte, Option.bind_some, n3_lit, n3_cl, n3_in, n3_ltT, n3_ltF, n3_leT, n3_leF, n3_eqT, n3_eqF, n3_add, n3_sub, not_true_eq_false, not_false_eq_true, true_or, or_true, false_or, or_false, Nat.zero_add, Nat.add_zero, nn_lt, nn_le, nn_gt, nn_ge, nn_eq, nn_qe, eq_false c0, eq_false c1, f_X9_puts]
theorem ok_warm (h : R μ) (x y z : Int32) : OK2 (f_X8_warm F x y z) (f_X9_warm F x y z) μ := by
  obtain ⟨a, wf, bm, hw, hp⟩ := h.1; obtain ⟨⟨h0, h3, h7, h8, h9, h11, h15⟩, hP, hS, hR, hD⟩ := hw.z; obtain ⟨⟨b38, b23, b39, b24, b25, b25u, b26⟩, wP, wS, wR, wD⟩ := id wf
  rcases n3_cases x (a 23) (by omega) with ⟨i, hi, rfl⟩ | hx
  · have hd := c_stoneT (F := F) hw wf hi
    have kd := fun μ1 (hp1 : AP μ1 0 a) => m_stoneT (F := F) hp1 wf hi
    have kd0 := m_stoneT (F := F) hp wf hi
    rcases n3_cases y 2 (by decide) with ⟨j, hj, rfl⟩ | hy
    · rcases (show j = 0 ∨ j = 1 by omega) with rfl | rfl
      · rcases n3_cases z 4 (by decide) with ⟨v, hv, rfl⟩ | hz
        · refine set_ok (o := a (8 + i)) (q := 104) (i := i) (k := 8 + i) (v := v) (z := n3 v) (b := st a (8 + i) v) h hp (wf_kind wf hi (by omega)) (by rw [st_ne (by omega)]; exact bm) (by omega) (by omega) ?_ (fun μ1 hp => ?_) (aw_kind hw wf hi v) (fun μ1 hp1 => ?_)
          · simp (disch := omega) only [f_X8_warm, ↓reduceIte, Option.bind_some, n3_lit, n3_cl, n3_in, n3_ltT, n3_ltF, n3_leT, n3_leF, n3_eqT, n3_eqF, n3_add, n3_sub, not_true_eq_false, not_false_eq_true, true_or, or_true, false_or, or_false, Nat.zero_add, Nat.add_zero, nn_lt, nn_le, nn_gt, nn_ge, nn_eq, nn_qe, hd, c_isInT, f_X8_exchange, inA_104, hS]
          · obtain ⟨⟨k1, k3, kb, ko⟩, ⟨k23, k24, k25, k26, k37⟩, kP, kS, kR, kD⟩ := hp.z
            have kd := kd μ1 hp
            simp (disch := omega) only [f_X9_warm, ↓reduceIte, Option.bind_some, n3_lit, n3_cl, n3_in, n3_ltT, n3_ltF, n3_leT, n3_leF, n3_eqT, n3_eqF, n3_add, n3_sub, not_true_eq_false, not_false_eq_true, true_or, or_true, false_or, or_false, Nat.zero_add, Nat.add_zero, nn_lt, nn_le, nn_gt, nn_ge, nn_eq, nn_qe, kd, m_inT, f_X9_puts, kS, Nat.sub_zero]
          · have := ap_kind hp1 wf hi v
            rwa [Nat.zero_add] at this
        · refine OK2.same h (v := -n3 1) ?_ ?_
          · have hz' : z < n3 0 ∨ n3 (4 - 1 + 1) ≤ z := hz
            simp (disch := omega) only [f_X8_warm, ↓reduceIte, Option.bind_some, n3_lit, n3_cl, n3_in, n3_ltT, n3_ltF, n3_leT, n3_leF, n3_eqT, n3_eqF, n3_add, n3_sub, not_true_eq_false, not_false_eq_true, true_or, or_true, false_or, or_false, Nat.zero_add, Nat.add_zero, nn_lt, nn_le, nn_gt, nn_ge, nn_eq, nn_qe, hd, c_isInN hz']
          · simp (disch := omega) only [f_X9_warm, ↓reduceIte, Option.bind_some, n3_lit, n3_cl, n3_in, n3_ltT, n3_ltF, n3_leT, n3_leF, n3_eqT, n3_eqF, n3_add, n3_sub, not_true_eq_false, not_false_eq_true, true_or, or_true, false_or, or_false, Nat.zero_add, Nat.add_zero, nn_lt, nn_le, nn_gt, nn_ge, nn_eq, nn_qe, kd0, m_inO hz, f_X9_puts]
      · rcases n3_cases z 100 (by decide) with ⟨v, hv, rfl⟩ | hz
        · refine set_ok (o := a (13 + i)) (q := 105) (i := i) (k := 13 + i) (v := v) (z := n3 v) (b := st a (13 + i) v) h hp (wf_warm wf hi (by omega)) (by rw [st_ne (by omega)]; exact bm) (by omega) (by omega) ?_ (fun μ1 hp => ?_) (aw_warm hw wf hi v) (fun μ1 hp1 => ?_)
          · simp (disch := omega) only [f_X8_warm, ↓reduceIte, Option.bind_some, n3_lit, n3_cl, n3_in, n3_ltT, n3_ltF, n3_leT, n3_leF, n3_eqT, n3_eqF, n3_add, n3_sub, not_true_eq_false, not_false_eq_true, true_or, or_true, false_or, or_false, Nat.zero_add, Nat.add_zero, nn_lt, nn_le, nn_gt, nn_ge, nn_eq, nn_qe, hd, c_isInT, f_X8_exchange, inA_105, hS]
          · obtain ⟨⟨k1, k3, kb, ko⟩, ⟨k23, k24, k25, k26, k37⟩, kP, kS, kR, kD⟩ := hp.z
            have kd := kd μ1 hp
            simp (disch := omega) only [f_X9_warm, ↓reduceIte, Option.bind_some, n3_lit, n3_cl, n3_in, n3_ltT, n3_ltF, n3_leT, n3_leF, n3_eqT, n3_eqF, n3_add, n3_sub, not_true_eq_false, not_false_eq_true, true_or, or_true, false_or, or_false, Nat.zero_add, Nat.add_zero, nn_lt, nn_le, nn_gt, nn_ge, nn_eq, nn_qe, kd, m_inT, f_X9_puts, kS, Nat.sub_zero]
          · have := ap_warm hp1 wf hi v
            rwa [Nat.zero_add] at this
        · refine OK2.same h (v := -n3 1) ?_ ?_
          · simp (disch := omega) only [f_X8_warm, ↓reduceIte, Option.bind_some, n3_lit, n3_cl, n3_in, n3_ltT, n3_ltF, n3_leT, n3_leF, n3_eqT, n3_eqF, n3_add, n3_sub, not_true_eq_false, not_false_eq_true, true_or, or_true, false_or, or_false, Nat.zero_add, Nat.add_zero, nn_lt, nn_le, nn_gt, nn_ge, nn_eq, nn_qe, hd, c_isInN hz]
          · simp (disch := omega) only [f_X9_warm, ↓reduceIte, Option.bind_some, n3_lit, n3_cl, n3_in, n3_ltT, n3_ltF, n3_leT, n3_leF, n3_eqT, n3_eqF, n3_add, n3_sub, not_true_eq_false, not_false_eq_true, true_or, or_true, false_or, or_false, Nat.zero_add, Nat.add_zero, nn_lt, nn_le, nn_gt, nn_ge, nn_eq, nn_qe, kd0, m_inO hz, f_X9_puts]
    · have hy := n3_outE (by decide) hy
      refine OK2.same h (v := -n3 1) ?_ ?_
      · simp (disch := omega) only [f_X8_warm, ↓reduceIte, Option.bind_some, n3_lit, n3_cl, n3_in, n3_ltT, n3_ltF, n3_leT, n3_leF, n3_eqT, n3_eqF, n3_add, n3_sub, not_true_eq_false, not_false_eq_true, true_or, or_true, false_or, or_false, Nat.zero_add, Nat.add_zero, nn_lt, nn_le, nn_gt, nn_ge, nn_eq, nn_qe, hd, hy]
      · simp (disch := omega) only [f_X9_warm, ↓reduceIte, Option.bind_some, n3_lit, n3_cl, n3_in, n3_ltT, n3_ltF, n3_leT, n3_leF, n3_eqT, n3_eqF, n3_add, n3_sub, not_true_eq_false, not_false_eq_true, true_or, or_true, false_or, or_false, Nat.zero_add, Nat.add_zero, nn_lt, nn_le, nn_gt, nn_ge, nn_eq, nn_qe, hy, f_X9_puts]
  · have kd0 := m_stoneF (F := F) hp wf hx
    refine OK2.same h (v := -n3 1) ?_ ?_
    · simp (disch := omega) only [f_X8_warm, ↓reduceIte, Option.bind_some, n3_lit, n3_cl, n3_in, n3_ltT, n3_ltF, n3_leT, n3_leF, n3_eqT, n3_eqF, n3_add, n3_sub, not_true_eq_false, not_false_eq_true, true_or, or_true, false_or, or_false, Nat.zero_add, Nat.add_zero, nn_lt, nn_le, nn_gt, nn_ge, nn_eq, nn_qe, c_stoneF hw hx]
    · by_cases c0 : y = n3 0
      · simp (disch := omega) only [f_X9_warm, ↓reduceIte, Option.bind_some, n3_lit, n3_cl, n3_in, n3_ltT, n3_ltF, n3_leT, n3_leF, n3_eqT, n3_eqF, n3_add, n3_sub, not_true_eq_false, not_false_eq_true, true_or, or_true, false_or, or_false, Nat.zero_add, Nat.add_zero, nn_lt, nn_le, nn_gt, nn_ge, nn_eq, nn_qe, c0, kd0, f_X9_puts]
      · by_cases c1 : y = n3 1
        · simp (disch := omega) only [f_X9_warm, ↓reduceIte, Option.bind_some, n3_lit, n3_cl, n3_in, n3_ltT, n3_ltF, n3_leT, n3_leF, n3_eqT, n3_eqF, n3_add, n3_sub, not_true_eq_false, not_false_eq_true, true_or, or_true, false_or, or_false, Nat.zero_add, Nat.add_zero, nn_lt, nn_le, nn_gt, nn_ge, nn_eq, nn_qe, c1, kd0, f_X9_puts]
        · simp (disch := omega) only [f_X9_warm, ↓reduceIte, Option.bind_some, n3_lit, n3_cl, n3_in, n3_ltT, n3_ltF, n3_leT, n3_leF, n3_eqT, n3_eqF, n3_add, n3_sub, not_true_eq_false, not_false_eq_true, true_or, or_true, false_or, or_false, Nat.zero_add, Nat.add_zero, nn_lt, nn_le, nn_gt, nn_ge, nn_eq, nn_qe, eq_false c0, eq_false c1, f_X9_puts]
theorem ok_ask (h : R μ) (x z : Int32) : OK2 (f_X8_ask F x z) (f_X9_ask F x z) μ := by
  obtain ⟨a, wf, bm, hw, hp⟩ := h.1; obtain ⟨⟨h0, h3, h7, h8, h9, h11, h15⟩, hP, hS, hR, hD⟩ := hw.z; obtain ⟨⟨b38, b23, b39, b24, b25, b25u, b26⟩, wP, wS, wR, wD⟩ := id wf
  rcases n3_cases x 6 (by omega) with ⟨i, hi, rfl⟩ | hx
  · have bad : f_X8_isIn F z (n3 1) (n3 9) μ = some (n3 0, μ) → f_X9_in F z.toInt64 (Int64.ofNat 1) (Int64.ofNat 9) μ = some (n3 0, μ) → OK2 (f_X8_ask F (n3 i) z) (f_X9_ask F (n3 i) z) μ := fun c1 c2 => by
      refine OK2.same h (v := -n3 1) ?_ ?_
      · simp (disch := omega) only [f_X8_ask, ↓reduceIte, Option.bind_some, n3_lit, n3_cl, n3_in, n3_ltT, n3_ltF, n3_leT, n3_leF, n3_eqT, n3_eqF, n3_add, n3_sub, not_true_eq_false, not_false_eq_true, true_or, or_true, false_or, or_false, Nat.zero_add, Nat.add_zero, nn_lt, nn_le, nn_gt, nn_ge, nn_eq, nn_qe, c_isInT, c1]
      · simp (disch := omega) only [f_X9_ask, ↓reduceIte, Option.bind_some, n3_lit, n3_cl, n3_in, n3_ltT, n3_ltF, n3_leT, n3_leF, n3_eqT, n3_eqF, n3_add, n3_sub, not_true_eq_false, not_false_eq_true, true_or, or_true, false_or, or_false, Nat.zero_add, Nat.add_zero, nn_lt, nn_le, nn_gt, nn_ge, nn_eq, nn_qe, m_inT, c2, f_X9_puts]
    rcases n3_cases z 10 (by decide) with ⟨v, hv, rfl⟩ | hz
    · by_cases v0 : v = 0
      · exact bad (c_isInF (by omega) (by omega) (by omega) (by omega)) (m_inF (by omega) (by omega) (by omega) (by omega))
      · refine set_ok (o := a (27 + i)) (q := 107) (i := i) (k := 27 + i) (v := v) (z := n3 v - n3 1) (b := st a (27 + i) v) h hp (wf_price wf hi (by omega)) (by rw [st_ne (by omega)]; exact bm) (by omega) (by omega) ?_ (fun μ1 hp => ?_) (aw_price hw wf hi v) (fun μ1 hp1 => ?_)
        · simp (disch := omega) only [f_X8_ask, ↓reduceIte, Option.bind_some, n3_lit, n3_cl, n3_in, n3_ltT, n3_ltF, n3_leT, n3_leF, n3_eqT, n3_eqF, n3_add, n3_sub, not_true_eq_false, not_false_eq_true, true_or, or_true, false_or, or_false, Nat.zero_add, Nat.add_zero, nn_lt, nn_le, nn_gt, nn_ge, nn_eq, nn_qe, c_isInT, f_X8_exchange, inA_107, hR]
        · obtain ⟨⟨k1, k3, kb, ko⟩, ⟨k23, k24, k25, k26, k37⟩, kP, kS, kR, kD⟩ := hp.z
          simp (disch := omega) only [f_X9_ask, ↓reduceIte, Option.bind_some, n3_lit, n3_cl, n3_in, n3_ltT, n3_ltF, n3_leT, n3_leF, n3_eqT, n3_eqF, n3_add, n3_sub, not_true_eq_false, not_false_eq_true, true_or, or_true, false_or, or_false, Nat.zero_add, Nat.add_zero, nn_lt, nn_le, nn_gt, nn_ge, nn_eq, nn_qe, m_inT, f_X9_puts, kR, n3_sc]
        · have := ap_price hp1 wf hi v
          rwa [Nat.zero_add] at this
    · exact bad (c_isInO hz (by omega) (by omega)) (m_inO hz (by omega) (by omega))
  · refine OK2.same h (v := -n3 1) ?_ ?_
    · simp (disch := omega) only [f_X8_ask, ↓reduceIte, Option.bind_some, n3_lit, n3_cl, n3_in, n3_ltT, n3_ltF, n3_leT, n3_leF, n3_eqT, n3_eqF, n3_add, n3_sub, not_true_eq_false, not_false_eq_true, true_or, or_true, false_or, or_false, Nat.zero_add, Nat.add_zero, nn_lt, nn_le, nn_gt, nn_ge, nn_eq, nn_qe, c_isInN hx]
    · simp (disch := omega) only [f_X9_ask, ↓reduceIte, Option.bind_some, n3_lit, n3_cl, n3_in, n3_ltT, n3_ltF, n3_leT, n3_leF, n3_eqT, n3_eqF, n3_add, n3_sub, not_true_eq_false, not_false_eq_true, true_or, or_true, false_or, or_false, Nat.zero_add, Nat.add_zero, nn_lt, nn_le, nn_gt, nn_ge, nn_eq, nn_qe, m_inO hx, f_X9_puts]
theorem ok_owe (h : R μ) (x z : Int32) : OK2 (f_X8_owe F x z) (f_X9_owe F x z) μ := by
  obtain ⟨a, wf, bm, hw, hp⟩ := h.1; obtain ⟨⟨h0, h3, h7, h8, h9, h11, h15⟩, hP, hS, hR, hD⟩ := hw.z; obtain ⟨⟨b38, b23, b39, b24, b25, b25u, b26⟩, wP, wS, wR, wD⟩ := id wf
  rcases n3_cases x (a 39) (by omega) with ⟨i, hi, rfl⟩ | hx
  · have hd := c_debtT (F := F) hw wf hi
    have kd := fun μ1 (hp1 : AP μ1 0 a) => m_debtT (F := F) hp1 wf hi
    have kd0 := m_debtT (F := F) hp wf hi
    rcases n3_cases z 100 (by decide) with ⟨v, hv, rfl⟩ | hz
    · refine set_ok (o := a (33 + i)) (q := 110) (i := i) (k := 33 + i) (v := v) (z := n3 v) (b := st a (33 + i) v) h hp (wf_amt wf hi (by omega)) (by rw [st_ne (by omega)]; exact bm) (by omega) (by omega) ?_ (fun μ1 hp => ?_) (aw_amt hw wf hi v) (fun μ1 hp1 => ?_)
      · simp (disch := omega) only [f_X8_owe, ↓reduceIte, Option.bind_some, n3_lit, n3_cl, n3_in, n3_ltT, n3_ltF, n3_leT, n3_leF, n3_eqT, n3_eqF, n3_add, n3_sub, not_true_eq_false, not_false_eq_true, true_or, or_true, false_or, or_false, Nat.zero_add, Nat.add_zero, nn_lt, nn_le, nn_gt, nn_ge, nn_eq, nn_qe, hd, c_isInT, f_X8_exchange, inA_110, hD]
      · obtain ⟨⟨k1, k3, kb, ko⟩, ⟨k23, k24, k25, k26, k37⟩, kP, kS, kR, kD⟩ := hp.z
        have kd := kd μ1 hp
        simp (disch := omega) only [f_X9_owe, ↓reduceIte, Option.bind_some, n3_lit, n3_cl, n3_in, n3_ltT, n3_ltF, n3_leT, n3_leF, n3_eqT, n3_eqF, n3_add, n3_sub, not_true_eq_false, not_false_eq_true, true_or, or_true, false_or, or_false, Nat.zero_add, Nat.add_zero, nn_lt, nn_le, nn_gt, nn_ge, nn_eq, nn_qe, kd, m_inT, f_X9_puts, kD, Nat.sub_zero]
      · have := ap_amt hp1 wf hi v
        rwa [Nat.zero_add] at this
    · refine OK2.same h (v := -n3 1) ?_ ?_
      · simp (disch := omega) only [f_X8_owe, ↓reduceIte, Option.bind_some, n3_lit, n3_cl, n3_in, n3_ltT, n3_ltF, n3_leT, n3_leF, n3_eqT, n3_eqF, n3_add, n3_sub, not_true_eq_false, not_false_eq_true, true_or, or_true, false_or, or_false, Nat.zero_add, Nat.add_zero, nn_lt, nn_le, nn_gt, nn_ge, nn_eq, nn_qe, hd, c_isInN hz]
      · simp (disch := omega) only [f_X9_owe, ↓reduceIte, Option.bind_some, n3_lit, n3_cl, n3_in, n3_ltT, n3_ltF, n3_leT, n3_leF, n3_eqT, n3_eqF, n3_add, n3_sub, not_true_eq_false, not_false_eq_true, true_or, or_true, false_or, or_false, Nat.zero_add, Nat.add_zero, nn_lt, nn_le, nn_gt, nn_ge, nn_eq, nn_qe, kd0, m_inO hz, f_X9_puts]
  · refine OK2.same h (v := -n3 1) ?_ ?_
    · simp (disch := omega) only [f_X8_owe, ↓reduceIte, Option.bind_some, n3_lit, n3_cl, n3_in, n3_ltT, n3_ltF, n3_leT, n3_leF, n3_eqT, n3_eqF, n3_add, n3_sub, not_true_eq_false, not_false_eq_true, true_or, or_true, false_or, or_false, Nat.zero_add, Nat.add_zero, nn_lt, nn_le, nn_gt, nn_ge, nn_eq, nn_qe, c_debtF hw hx]
    · simp (disch := omega) only [f_X9_owe, ↓reduceIte, Option.bind_some, n3_lit, n3_cl, n3_in, n3_ltT, n3_ltF, n3_leT, n3_leF, n3_eqT, n3_eqF, n3_add, n3_sub, not_true_eq_false, not_false_eq_true, true_or, or_true, false_or, or_false, Nat.zero_add, Nat.add_zero, nn_lt, nn_le, nn_gt, nn_ge, nn_eq, nn_qe, m_debtF hp wf hx, f_X9_puts]
theorem ok_set (h : R μ) (x z : Int32) : OK2 (f_X8_set F x z) (f_X9_set F x z) μ := by
  obtain ⟨a, wf, bm, hw, hp⟩ := h.1; obtain ⟨⟨h0, h3, h7, h8, h9, h11, h15⟩, hP, hS, hR, hD⟩ := hw.z; obtain ⟨⟨b38, b23, b39, b24, b25, b25u, b26⟩, wP, wS, wR, wD⟩ := id wf
  rcases n3_cases x 3 (by omega) with ⟨i, hi, rfl⟩ | hx
  · rcases (show i = 0 ∨ i = 1 ∨ i = 2 by omega) with rfl | rfl | rfl
    · rcases n3_cases z 11 (by decide) with ⟨v, hv, rfl⟩ | hz
      · refine set_okI (o := a 26) (i := 9) (k := 26) (v := v) (z := n3 v - n3 2) (b := st a 26 v) h hp (wf_wind wf (by omega)) (by rw [st_ne (by omega)]; exact bm) (by omega) ?_ (fun μ1 hp => ?_) (aw_wind hw wf v) (fun μ1 hp1 => ?_)
        · simp (disch := omega) only [f_X8_set, ↓reduceIte, Option.bind_some, n3_lit, n3_cl, n3_in, n3_ltT, n3_ltF, n3_leT, n3_leF, n3_eqT, n3_eqF, n3_add, n3_sub, not_true_eq_false, not_false_eq_true, true_or, or_true, false_or, or_false, Nat.zero_add, Nat.add_zero, nn_lt, nn_le, nn_gt, nn_ge, nn_eq, nn_qe, c_isInT, h9]
        · obtain ⟨⟨k1, k3, kb, ko⟩, ⟨k23, k24, k25, k26, k37⟩, kP, kS, kR, kD⟩ := hp.z
          simp (disch := omega) only [f_X9_set, n3_int, if_neg, if_pos, ↓reduceIte, Option.bind_some, n3_lit, n3_cl, n3_in, n3_ltT, n3_ltF, n3_leT, n3_leF, n3_eqT, n3_eqF, n3_add, n3_sub, not_true_eq_false, not_false_eq_true, true_or, or_true, false_or, or_false, Nat.zero_add, Nat.add_zero, nn_lt, nn_le, nn_gt, nn_ge, nn_eq, nn_qe, m_inT, f_X9_puts, k26, n3_sc]
        · have := ap_wind hp1 wf v
          rwa [Nat.zero_add] at this
      · refine OK2.same h (v := -n3 1) ?_ ?_
        · simp (disch := omega) only [f_X8_set, ↓reduceIte, Option.bind_some, n3_lit, n3_cl, n3_in, n3_ltT, n3_ltF, n3_leT, n3_leF, n3_eqT, n3_eqF, n3_add, n3_sub, not_true_eq_false, not_false_eq_true, true_or, or_true, false_or, or_false, Nat.zero_add, Nat.add_zero, nn_lt, nn_le, nn_gt, nn_ge, nn_eq, nn_qe, c_isInN hz]
        · simp (disch := omega) only [f_X9_set, n3_int, if_neg, if_pos, ↓reduceIte, Option.bind_some, n3_lit, n3_cl, n3_in, n3_ltT, n3_ltF, n3_leT, n3_leF, n3_eqT, n3_eqF, n3_add, n3_sub, not_true_eq_false, not_false_eq_true, true_or, or_true, false_or, or_false, Nat.zero_add, Nat.add_zero, nn_lt, nn_le, nn_gt, nn_ge, nn_eq, nn_qe, m_inO hz, f_X9_puts]
    · have bad : f_X8_isIn F z (n3 5) (n3 99) μ = some (n3 0, μ) → f_X9_in F z.toInt64 (Int64.ofNat 5) (Int64.ofNat 99) μ = some (n3 0, μ) → OK2 (f_X8_set F (n3 1) z) (f_X9_set F (n3 1) z) μ := fun c1 c2 => by
        refine OK2.same h (v := -n3 1) ?_ ?_
        · simp (disch := omega) only [f_X8_set, ↓reduceIte, Option.bind_some, n3_lit, n3_cl, n3_in, n3_ltT, n3_ltF, n3_leT, n3_leF, n3_eqT, n3_eqF, n3_add, n3_sub, not_true_eq_false, not_false_eq_true, true_or, or_true, false_or, or_false, Nat.zero_add, Nat.add_zero, nn_lt, nn_le, nn_gt, nn_ge, nn_eq, nn_qe, c1]
        · simp (disch := omega) only [f_X9_set, n3_int, if_neg, if_pos, ↓reduceIte, Option.bind_some, n3_lit, n3_cl, n3_in, n3_ltT, n3_ltF, n3_leT, n3_leF, n3_eqT, n3_eqF, n3_add, n3_sub, not_true_eq_false, not_false_eq_true, true_or, or_true, false_or, or_false, Nat.zero_add, Nat.add_zero, nn_lt, nn_le, nn_gt, nn_ge, nn_eq, nn_qe, c2, f_X9_puts]
      rcases n3_cases z 100 (by decide) with ⟨v, hv, rfl⟩ | hz
      · by_cases v5 : v < 5
        · exact bad (c_isInF (by omega) (by omega) (by omega) (by omega)) (m_inF (by omega) (by omega) (by omega) (by omega))
        · refine set_okI (o := a 25) (i := 8) (k := 25) (v := v) (z := n3 v - n3 50) (b := st a 25 v) h hp (wf_heat wf (by omega)) (by rw [st_ne (by omega)]; exact bm) (by omega) ?_ (fun μ1 hp => ?_) (aw_heat hw wf v) (fun μ1 hp1 => ?_)
          · simp (disch := omega) only [f_X8_set, ↓reduceIte, Option.bind_some, n3_lit, n3_cl, n3_in, n3_ltT, n3_ltF, n3_leT, n3_leF, n3_eqT, n3_eqF, n3_add, n3_sub, not_true_eq_false, not_false_eq_true, true_or, or_true, false_or, or_false, Nat.zero_add, Nat.add_zero, nn_lt, nn_le, nn_gt, nn_ge, nn_eq, nn_qe, c_isInT, h8]
          · obtain ⟨⟨k1, k3, kb, ko⟩, ⟨k23, k24, k25, k26, k37⟩, kP, kS, kR, kD⟩ := hp.z
            simp (disch := omega) only [f_X9_set, n3_int, if_neg, if_pos, ↓reduceIte, Option.bind_some, n3_lit, n3_cl, n3_in, n3_ltT, n3_ltF, n3_leT, n3_leF, n3_eqT, n3_eqF, n3_add, n3_sub, not_true_eq_false, not_false_eq_true, true_or, or_true, false_or, or_false, Nat.zero_add, Nat.add_zero, nn_lt, nn_le, nn_gt, nn_ge, nn_eq, nn_qe, m_inT, f_X9_puts, k25, n3_sc]
          · have := ap_heat hp1 wf v
            rwa [Nat.zero_add] at this
      · exact bad (c_isInO hz (by omega) (by omega)) (m_inO hz (by omega) (by omega))
    · rcases n3_cases z 10 (by decide) with ⟨v, hv, rfl⟩ | hz
      · refine set_okI (o := a 24) (i := 7) (k := 24) (v := v) (z := n3 v) (b := st a 24 v) h hp (wf_oven wf (by omega)) (by rw [st_ne (by omega)]; exact bm) (by omega) ?_ (fun μ1 hp => ?_) (aw_oven hw wf v) (fun μ1 hp1 => ?_)
        · simp (disch := omega) only [f_X8_set, ↓reduceIte, Option.bind_some, n3_lit, n3_cl, n3_in, n3_ltT, n3_ltF, n3_leT, n3_leF, n3_eqT, n3_eqF, n3_add, n3_sub, not_true_eq_false, not_false_eq_true, true_or, or_true, false_or, or_false, Nat.zero_add, Nat.add_zero, nn_lt, nn_le, nn_gt, nn_ge, nn_eq, nn_qe, c_isInT, h7]
        · obtain ⟨⟨k1, k3, kb, ko⟩, ⟨k23, k24, k25, k26, k37⟩, kP, kS, kR, kD⟩ := hp.z
          simp (disch := omega) only [f_X9_set, n3_int, if_neg, if_pos, ↓reduceIte, Option.bind_some, n3_lit, n3_cl, n3_in, n3_ltT, n3_ltF, n3_leT, n3_leF, n3_eqT, n3_eqF, n3_add, n3_sub, not_true_eq_false, not_false_eq_true, true_or, or_true, false_or, or_false, Nat.zero_add, Nat.add_zero, nn_lt, nn_le, nn_gt, nn_ge, nn_eq, nn_qe, m_inT, f_X9_puts, k24, Nat.sub_zero]
        · have := ap_oven hp1 wf v
          rwa [Nat.zero_add] at this
      · refine OK2.same h (v := -n3 1) ?_ ?_
        · simp (disch := omega) only [f_X8_set, ↓reduceIte, Option.bind_some, n3_lit, n3_cl, n3_in, n3_ltT, n3_ltF, n3_leT, n3_leF, n3_eqT, n3_eqF, n3_add, n3_sub, not_true_eq_false, not_false_eq_true, true_or, or_true, false_or, or_false, Nat.zero_add, Nat.add_zero, nn_lt, nn_le, nn_gt, nn_ge, nn_eq, nn_qe, c_isInN hz]
        · simp (disch := omega) only [f_X9_set, n3_int, if_neg, if_pos, ↓reduceIte, Option.bind_some, n3_lit, n3_cl, n3_in, n3_ltT, n3_ltF, n3_leT, n3_leF, n3_eqT, n3_eqF, n3_add, n3_sub, not_true_eq_false, not_false_eq_true, true_or, or_true, false_or, or_false, Nat.zero_add, Nat.add_zero, nn_lt, nn_le, nn_gt, nn_ge, nn_eq, nn_qe, m_inO hz, f_X9_puts]
  · have hx2 := n3_out (by decide) hx
    have hx := n3_outE (by decide) hx
    refine OK2.same h (v := -n3 1) ?_ ?_
    · simp (disch := omega) only [f_X8_set, ↓reduceIte, Option.bind_some, n3_lit, n3_cl, n3_in, n3_ltT, n3_ltF, n3_leT, n3_leF, n3_eqT, n3_eqF, n3_add, n3_sub, not_true_eq_false, not_false_eq_true, true_or, or_true, false_or, or_false, Nat.zero_add, Nat.add_zero, nn_lt, nn_le, nn_gt, nn_ge, nn_eq, nn_qe, hx]
    · simp (disch := omega) only [f_X9_set, if_pos, ↓reduceIte, Option.bind_some, n3_lit, n3_cl, n3_in, n3_ltT, n3_ltF, n3_leT, n3_leF, n3_eqT, n3_eqF, n3_add, n3_sub, not_true_eq_false, not_false_eq_true, true_or, or_true, false_or, or_false, Nat.zero_add, Nat.add_zero, nn_lt, nn_le, nn_gt, nn_ge, nn_eq, nn_qe]
end VS41
