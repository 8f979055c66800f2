/-! the plain calls -/
def AWz (μ : fm_M) (a : Nat → Nat) : Prop := (μ.1 101 0 = n3 (a 38) ∧ μ.1 101 3 = n3 (a 23) ∧ μ.1 101 7 = n3 (a 24) ∧ μ.1 101 8 = n3 (a 25) ∧ μ.1 101 9 = n3 (a 26) ∧ μ.1 101 11 = n3 (a 39) ∧ μ.1 101 15 = n3 (a 37)) ∧ (∀ i, i < a 38 → μ.2.1 102 i = n3 (a i) ∧ μ.2.1 103 i = n3 (a (4 + i))) ∧ (∀ i, i < a 23 → μ.2.1 104 i = n3 (a (8 + i)) ∧ μ.2.1 105 i = n3 (a (13 + i)) ∧ μ.2.1 106 i = n3 (a (18 + i))) ∧ (∀ i, i < 6 → μ.2.1 107 i = n3 (a (27 + i))) ∧ (∀ i, i < a 39 → μ.2.1 108 i = n3 (a (40 + i)) ∧ μ.2.1 109 i = n3 (a (44 + i)) ∧ μ.2.1 110 i = n3 (a (33 + i)))
def APz (μ : fm_M) (a : Nat → Nat) : Prop := (μ.1 232 1 = n3 (a 38) ∧ μ.1 232 3 = n3 (a 39) ∧ (∀ i, i < 4 → μ.2.1 235 i = n3 (base i)) ∧ (∀ i, i < a 39 → μ.2.1 234 (2 * i) = n3 (a (40 + i)) ∧ μ.2.1 234 (2 * i + 1) = n3 (a (44 + i)))) ∧ (μ.2.1 233 23 = n3 (a 23) ∧ μ.2.1 233 24 = n3 (a 24) ∧ μ.2.1 233 25 = n3 (a 25) - n3 50 ∧ μ.2.1 233 26 = n3 (a 26) - n3 2 ∧ μ.2.1 233 37 = n3 (a 37)) ∧ (∀ i, i < a 38 → μ.2.1 233 i = n3 (a i) ∧ μ.2.1 233 (4 + i) = n3 (a (4 + i))) ∧ (∀ i, i < a 23 → μ.2.1 233 (8 + i) = n3 (a (8 + i)) ∧ μ.2.1 233 (13 + i) = n3 (a (13 + i)) ∧ μ.2.1 233 (18 + i) = n3 (a (18 + i))) ∧ (∀ i, i < 6 → μ.2.1 233 (27 + i) = n3 (a (27 + i)) - n3 1) ∧ (∀ i, i < a 39 → μ.2.1 233 (33 + i) = n3 (a (33 + i)))
theorem AW.z {μ : fm_M} {a : Nat → Nat} (h : AW μ 101 a) : AWz μ a := h
theorem AP.z {μ : fm_M} {a : Nat → Nat} (h : AP μ 0 a) : APz μ a := by
  unfold AP at h
  simp only [Nat.zero_add] at h
  exact h
theorem n3_outA {x : Int32} {m : Nat} (hm : m < 2147483648) (h : x < n3 0 ∨ n3 m ≤ x) (i : Nat) (hi : i < m) : ¬ x = n3 i := by
  intro e
  have := n3_out hm h
  rw [e, n3_int (by omega)] at this
  omega
theorem n3_outE {x : Int32} {m : Nat} (hm : m < 2147483648) (h : x < n3 0 ∨ n3 m ≤ x) (i : Nat) (hi : i < m) : (x = n3 i) = False := eq_false (n3_outA hm h i hi)
section VS40
variable {F : Nat} {μ ν : fm_M} {a : Nat → Nat} {w : Nat}
theorem c_isInN {x : Int32} {m : Nat} (h : x < n3 0 ∨ n3 (m + 1) ≤ x) (hm : m < 2147483647) : f_X8_isIn F x (n3 0) (n3 m) μ = some (n3 0, μ) := c_isInO h (by omega) hm
theorem c_warmT {v : Nat} (h : 5 ≤ v) (h2 : v < 2147483648) : f_X8_isWarm F (n3 v) μ = some (n3 1, μ) := by
  simp (disch := omega) only [f_X8_isWarm, ↓reduceIte, Option.bind_some, n3_lit, n3_cl, n3_in, n3_ltT, n3_ltF, n3_leT, n3_leF, n3_eqT, n3_eqF, n3_add, n3_sub, not_true_eq_false, not_false_eq_true, true_or, or_true, false_or, or_false, Nat.zero_add, Nat.add_zero, nn_lt, nn_le, nn_gt, nn_ge, nn_eq, nn_qe]
theorem c_warmF {v : Nat} (h : v < 5) : f_X8_isWarm F (n3 v) μ = some (n3 0, μ) := by
  simp (disch := omega) only [f_X8_isWarm, ↓reduceIte, Option.bind_some, n3_lit, n3_cl, n3_in, n3_ltT, n3_ltF, n3_leT, n3_leF, n3_eqT, n3_eqF, n3_add, n3_sub, not_true_eq_false, not_false_eq_true, true_or, or_true, false_or, or_false, Nat.zero_add, Nat.add_zero, nn_lt, nn_le, nn_gt, nn_ge, nn_eq, nn_qe]
theorem ok_fault (h : R μ) : OK2 (f_X8_fault F) (f_X9_fault F) μ := ⟨_, μ, μ, rfl, by unfold f_X9_fault; rw [h.2.2.2.2.2.1.1], h⟩
theorem ok_torn (h : R μ) : OK2 (f_X8_torn F) (f_X9_torn F) μ := ⟨_, μ, μ, rfl, by unfold f_X9_torn; rw [h.2.2.2.2.2.1.2], h⟩
theorem i8 {c : Nat} (h : c < 128) : (n3 c).toInt8.toInt32 = n3 c := by
  have : ((List.range 128).all fun c => decide ((n3 c).toInt8.toInt32 = n3 c)) = true := by decide +kernel
  exact of_decide_eq_true (List.all_eq_true.mp this c (List.mem_range.mpr h))
theorem ok_feed (h : R μ) (x : Int32) : OK2 (f_X8_feed F x) (f_X9_feed F x) μ := by
  obtain ⟨T, t1, t2, t3, t4⟩ := h.2.2.1
  rcases n3_cases x 128 (by decide) with ⟨c, hc, rfl⟩ | hx
  · by_cases hT : T = 160
    · refine OK2.same h (v := -n3 3) ?_ ?_
      · simp (disch := omega) only [f_X8_feed, f_X5_append, ↓reduceIte, Option.bind_some, n3_lit, n3_cl, n3_in, n3_ltT, n3_ltF, n3_leT, n3_leF, n3_eqT, n3_eqF, n3_add, n3_sub, not_true_eq_false, not_false_eq_true, true_or, or_true, false_or, or_false, Nat.zero_add, Nat.add_zero, nn_lt, nn_le, nn_gt, nn_ge, nn_eq, nn_qe, c_isInT, t2]
      · simp (disch := omega) only [f_X9_feed, ↓reduceIte, Option.bind_some, n3_lit, n3_cl, n3_in, n3_ltT, n3_ltF, n3_leT, n3_leF, n3_eqT, n3_eqF, n3_add, n3_sub, not_true_eq_false, not_false_eq_true, true_or, or_true, false_or, or_false, Nat.zero_add, Nat.add_zero, nn_lt, nn_le, nn_gt, nn_ge, nn_eq, nn_qe, m_inT, t3]
    · refine ⟨n3 (T + 1), fm_sI (fm_sA μ 124 (upd (μ.2.1 124) T (n3 c))) 123 1 (n3 (T + 1)), fm_sI (fm_sA (fm_sI (fm_sA μ 124 (upd (μ.2.1 124) T (n3 c))) 123 1 (n3 (T + 1))) 238 (upd (μ.2.1 238) T (n3 c))) 232 13 (n3 (T + 1)), ?_, ?_, ?_⟩
      · simp (disch := omega) only [f_X8_feed, f_X5_append, ↓reduceIte, Option.bind_some, n3_lit, n3_cl, n3_in, n3_ltT, n3_ltF, n3_leT, n3_leF, n3_eqT, n3_eqF, n3_add, n3_sub, not_true_eq_false, not_false_eq_true, true_or, or_true, false_or, or_false, Nat.zero_add, Nat.add_zero, nn_lt, nn_le, nn_gt, nn_ge, nn_eq, nn_qe, c_isInT, t2, i8, fm_sI_2, fm_sA_1, fm_sA_3, fm_sI_eq, fm_sI_ne, fm_sA_eq, fm_sA_ne, upd_eq, upd_ne]
      · simp (disch := omega) only [f_X9_feed, ↓reduceIte, Option.bind_some, n3_lit, n3_cl, n3_in, n3_ltT, n3_ltF, n3_leT, n3_leF, n3_eqT, n3_eqF, n3_add, n3_sub, not_true_eq_false, not_false_eq_true, true_or, or_true, false_or, or_false, Nat.zero_add, Nat.add_zero, nn_lt, nn_le, nn_gt, nn_ge, nn_eq, nn_qe, m_inT, t3, fm_sI_2, fm_sA_1, fm_sA_3, fm_sI_eq, fm_sI_ne, fm_sA_eq, fm_sA_ne, upd_eq, upd_ne]
      · refine h.tape ((((Ch.refl _ _ μ).sU (by omega)).sI (by omega)).trans (((Ch.refl _ _ _).sU (a := 238) (by omega)).sI (by omega))) ⟨T + 1, by omega, ?_, ?_, fun i hi => ?_⟩
        · simp (disch := omega) only [fm_sI_2, fm_sA_1, fm_sA_3, fm_sI_eq, fm_sI_ne, fm_sA_eq, fm_sA_ne, upd_eq, upd_ne]
        · simp (disch := omega) only [fm_sI_2, fm_sA_1, fm_sA_3, fm_sI_eq, fm_sI_ne, fm_sA_eq, fm_sA_ne, upd_eq, upd_ne]
        · by_cases e : i = T
          · exact ⟨c, hc, by simp (disch := omega) only [fm_sI_2, fm_sA_1, fm_sA_3, fm_sI_eq, fm_sI_ne, fm_sA_eq, fm_sA_ne, upd_eq, upd_ne], by simp (disch := omega) only [fm_sI_2, fm_sA_1, fm_sA_3, fm_sI_eq, fm_sI_ne, fm_sA_eq, fm_sA_ne, upd_eq, upd_ne]⟩
          · obtain ⟨d, d1, d2, d3⟩ := t4 i (by omega)
            exact ⟨d, d1, by simp (disch := omega) only [fm_sI_2, fm_sA_1, fm_sA_3, fm_sI_eq, fm_sI_ne, fm_sA_eq, fm_sA_ne, upd_eq, upd_ne, d2], by simp (disch := omega) only [fm_sI_2, fm_sA_1, fm_sA_3, fm_sI_eq, fm_sI_ne, fm_sA_eq, fm_sA_ne, upd_eq, upd_ne, d3]⟩
  · refine OK2.same h (v := -n3 1) ?_ ?_
    · simp (disch := omega) only [f_X8_feed, ↓reduceIte, Option.bind_some, n3_lit, n3_cl, n3_in, n3_ltT, n3_ltF, n3_leT, n3_leF, n3_eqT, n3_eqF, n3_add, n3_sub, not_true_eq_false, not_false_eq_true, true_or, or_true, false_or, or_false, Nat.zero_add, Nat.add_zero, nn_lt, nn_le, nn_gt, nn_ge, nn_eq, nn_qe, c_isInN hx]
    · simp (disch := omega) only [f_X9_feed, ↓reduceIte, Option.bind_some, n3_lit, n3_cl, n3_in, n3_ltT, n3_ltF, n3_leT, n3_leF, n3_eqT, n3_eqF, n3_add, n3_sub, not_true_eq_false, not_false_eq_true, true_or, or_true, false_or, or_false, Nat.zero_add, Nat.add_zero, nn_lt, nn_le, nn_gt, nn_ge, nn_eq, nn_qe, m_inO hx]
theorem ok_end (h : R μ) (x : Int32) : OK2 (f_X8_end F x) (f_X9_end F x) μ := by
  obtain ⟨T, t1, t2, t3, t4⟩ := h.2.2.1
  have e64 : (n3 T).toInt64 = Int64.ofNat T := by
    rw [← Int64.toInt_inj, Int32.toInt_toInt64, n3_int (by omega), l_of (by omega)]
  rcases n3_cases x (T + 1) (by omega) with ⟨c, hc, rfl⟩ | hx
  · refine ⟨n3 T, fm_sI μ 123 1 (n3 c), fm_sI (fm_sI μ 123 1 (n3 c)) 232 13 (n3 c), ?_, ?_, ?_⟩
    · simp (disch := omega) only [f_X8_end, ↓reduceIte, Option.bind_some, n3_lit, n3_cl, n3_in, n3_ltT, n3_ltF, n3_leT, n3_leF, n3_eqT, n3_eqF, n3_add, n3_sub, not_true_eq_false, not_false_eq_true, true_or, or_true, false_or, or_false, Nat.zero_add, Nat.add_zero, nn_lt, nn_le, nn_gt, nn_ge, nn_eq, nn_qe, c_isInT, t2]
    · simp (disch := omega) only [f_X9_end, ↓reduceIte, Option.bind_some, n3_lit, n3_cl, n3_in, n3_ltT, n3_ltF, n3_leT, n3_leF, n3_eqT, n3_eqF, n3_add, n3_sub, not_true_eq_false, not_false_eq_true, true_or, or_true, false_or, or_false, Nat.zero_add, Nat.add_zero, nn_lt, nn_le, nn_gt, nn_ge, nn_eq, nn_qe, fm_sI_2, fm_sA_1, fm_sA_3, fm_sI_eq, fm_sI_ne, fm_sA_eq, fm_sA_ne, upd_eq, upd_ne, e64, m_inT, t3]
    · refine h.tape (((Ch.refl _ _ μ).sI (by omega)).sI (by omega)) ⟨c, by omega, ?_, ?_, fun i hi => ?_⟩
      · simp (disch := omega) only [fm_sI_2, fm_sA_1, fm_sA_3, fm_sI_eq, fm_sI_ne, fm_sA_eq, fm_sA_ne, upd_eq, upd_ne]
      · simp (disch := omega) only [fm_sI_2, fm_sA_1, fm_sA_3, fm_sI_eq, fm_sI_ne, fm_sA_eq, fm_sA_ne, upd_eq, upd_ne]
      · obtain ⟨d, d1, d2, d3⟩ := t4 i (by omega)
        exact ⟨d, d1, by simp (disch := omega) only [fm_sI_2, fm_sA_1, fm_sA_3, fm_sI_eq, fm_sI_ne, fm_sA_eq, fm_sA_ne, upd_eq, upd_ne, d2], by simp (disch := omega) only [fm_sI_2, fm_sA_1, fm_sA_3, fm_sI_eq, fm_sI_ne, fm_sA_eq, fm_sA_ne, upd_eq, upd_ne, d3]⟩
  · refine OK2.same h (v := -n3 1) ?_ ?_
    · simp (disch := omega) only [f_X8_end, ↓reduceIte, Option.bind_some, n3_lit, n3_cl, n3_in, n3_ltT, n3_ltF, n3_leT, n3_leF, n3_eqT, n3_eqF, n3_add, n3_sub, not_true_eq_false, not_false_eq_true, true_or, or_true, false_or, or_false, Nat.zero_add, Nat.add_zero, nn_lt, nn_le, nn_gt, nn_ge, nn_eq, nn_qe, t2, c_isInN hx]
    · simp (disch := omega) only [f_X9_end, ↓reduceIte, Option.bind_some, n3_lit, n3_cl, n3_in, n3_ltT, n3_ltF, n3_leT, n3_leF, n3_eqT, n3_eqF, n3_add, n3_sub, not_true_eq_false, not_false_eq_true, true_or, or_true, false_or, or_false, Nat.zero_add, Nat.add_zero, nn_lt, nn_le, nn_gt, nn_ge, nn_eq, nn_qe, t3, e64, m_inO hx]
def ruleV (a : Nat → Nat) : Nat → Nat
  | 0 => a 38
  | 1 => a 23
  | 2 => a 39
  | 3 => a 24
  | 4 => a 25
  | 5 => a 26
  | _ => a 37
theorem ok_rule (h : R μ) (x : Int32) : OK2 (f_X8_rule F x) (f_X9_rule F x) μ := by
  obtain ⟨a, wf, bm, hw, hp⟩ := h.1; obtain ⟨⟨h0, h3, h7, h8, h9, h11, h15⟩, hP, hS, hR, hD⟩ := hw.z; obtain ⟨⟨k1, k3, kb, ko⟩, ⟨k23, k24, k25, k26, k37⟩, kP, kS, kR, kD⟩ := hp.z
  rcases n3_cases x 7 (by decide) with ⟨i, hi, rfl⟩ | hx
  · refine OK2.same h (v := n3 (ruleV a i)) ?_ ?_
    all_goals
      rcases (show i = 0 ∨ i = 1 ∨ i = 2 ∨ i = 3 ∨ i = 4 ∨ i = 5 ∨ i = 6 by omega) with rfl | rfl | rfl | rfl | rfl | rfl | rfl
      all_goals simp (disch := omega) only [f_X8_rule, f_X9_rule, n3_int, if_neg, if_pos, ↓reduceIte, Option.bind_some, n3_lit, n3_cl, n3_in, n3_ltT, n3_ltF, n3_leT, n3_leF, n3_eqT, n3_eqF, n3_add, n3_sub, not_true_eq_false, not_false_eq_true, true_or, or_true, false_or, or_false, Nat.zero_add, Nat.add_zero, nn_lt, nn_le, nn_gt, nn_ge, nn_eq, nn_qe, ruleV, h0, h3, h7, h8, h9, h11, h15, k1, k3, k23, k24, k25, k26, k37, n3_sc]
  · have hx := n3_out (by decide) hx
    refine OK2.same h (v := -n3 1) ?_ ?_
    · simp (disch := omega) only [f_X8_rule, if_pos, ↓reduceIte, Option.bind_some, n3_lit, n3_cl, n3_in, n3_ltT, n3_ltF, n3_leT, n3_leF, n3_eqT, n3_eqF, n3_add, n3_sub, not_true_eq_false, not_false_eq_true, true_or, or_true, false_or, or_false, Nat.zero_add, Nat.add_zero, nn_lt, nn_le, nn_gt, nn_ge, nn_eq, nn_qe]
    · simp (disch := omega) only [f_X9_rule, if_pos, ↓reduceIte, Option.bind_some, n3_lit, n3_cl, n3_in, n3_ltT, n3_ltF, n3_leT, n3_leF, n3_eqT, n3_eqF, n3_add, n3_sub, not_true_eq_false, not_false_eq_true, true_or, or_true, false_or, or_false, Nat.zero_add, Nat.add_zero, nn_lt, nn_le, nn_gt, nn_ge, nn_eq, nn_qe]
theorem ok_price (h : R μ) (x : Int32) : OK2 (f_X8_price F x) (f_X9_price F x) μ := by
  obtain ⟨a, wf, bm, hw, hp⟩ := h.1; obtain ⟨⟨h0, h3, h7, h8, h9, h11, h15⟩, hP, hS, hR, hD⟩ := hw.z; obtain ⟨⟨k1, k3, kb, ko⟩, ⟨k23, k24, k25, k26, k37⟩, kP, kS, kR, kD⟩ := hp.z
  rcases n3_cases x 6 (by decide) with ⟨i, hi, rfl⟩ | hx
  · refine OK2.same h (v := n3 (a (27 + i))) ?_ ?_
    · simp (disch := omega) only [f_X8_price, ↓reduceIte, Option.bind_some, n3_lit, n3_cl, n3_in, n3_ltT, n3_ltF, n3_leT, n3_leF, n3_eqT, n3_eqF, n3_add, n3_sub, not_true_eq_false, not_false_eq_true, true_or, or_true, false_or, or_false, Nat.zero_add, Nat.add_zero, nn_lt, nn_le, nn_gt, nn_ge, nn_eq, nn_qe, c_isInT, hR]
    · simp (disch := omega) only [f_X9_price, ↓reduceIte, Option.bind_some, n3_lit, n3_cl, n3_in, n3_ltT, n3_ltF, n3_leT, n3_leF, n3_eqT, n3_eqF, n3_add, n3_sub, not_true_eq_false, not_false_eq_true, true_or, or_true, false_or, or_false, Nat.zero_add, Nat.add_zero, nn_lt, nn_le, nn_gt, nn_ge, nn_eq, nn_qe, m_inT, kR, n3_sc]
  · refine OK2.same h (v := -n3 1) ?_ ?_
    · simp (disch := omega) only [f_X8_price, ↓reduceIte, Option.bind_some, n3_lit, n3_cl, n3_in, n3_ltT, n3_ltF, n3_leT, n3_leF, n3_eqT, n3_eqF, n3_add, n3_sub, not_true_eq_false, not_false_eq_true, true_or, or_true, false_or, or_false, Nat.zero_add, Nat.add_zero, nn_lt, nn_le, nn_gt, nn_ge, nn_eq, nn_qe, c_isInN hx]
    · simp (disch := omega) only [f_X9_price, ↓reduceIte, Option.bind_some, n3_lit, n3_cl, n3_in, n3_ltT, n3_ltF, n3_leT, n3_leF, n3_eqT, n3_eqF, n3_add, n3_sub, not_true_eq_false, not_false_eq_true, true_or, or_true, false_or, or_false, Nat.zero_add, Nat.add_zero, nn_lt, nn_le, nn_gt, nn_ge, nn_eq, nn_qe, m_inO hx]
theorem ok_debt (h : R μ) (x y : Int32) : OK2 (f_X8_debt F x y) (f_X9_debt F x y) μ := by
  obtain ⟨a, wf, bm, hw, hp⟩ := h.1; obtain ⟨⟨h0, h3, h7, h8, h9, h11, h15⟩, hP, hS, hR, hD⟩ := hw.z; obtain ⟨⟨k1, k3, kb, ko⟩, ⟨k23, k24, k25, k26, k37⟩, kP, kS, kR, kD⟩ := hp.z; obtain ⟨⟨b38, b23, b39, b24, b25, b25u, b26⟩, wP, wS, wR, wD⟩ := id wf
  rcases n3_cases x (a 39) (by omega) with ⟨i, hi, rfl⟩ | hx
  · have hd := c_debtT (F := F) hw wf hi
    have kd := m_debtT (F := F) hp wf hi
    rcases n3_cases y 3 (by decide) with ⟨j, hj, rfl⟩ | hy
    · rcases (show j = 0 ∨ j = 1 ∨ j = 2 by omega) with rfl | rfl | rfl
      · refine OK2.same h (v := n3 (a (40 + i))) ?_ ?_
        · simp (disch := omega) only [f_X8_debt, n3_int, if_neg, if_pos, ↓reduceIte, Option.bind_some, n3_lit, n3_cl, n3_in, n3_ltT, n3_ltF, n3_leT, n3_leF, n3_eqT, n3_eqF, n3_add, n3_sub, not_true_eq_false, not_false_eq_true, true_or, or_true, false_or, or_false, Nat.zero_add, Nat.add_zero, nn_lt, nn_le, nn_gt, nn_ge, nn_eq, nn_qe, hd, hD]
        · simp (disch := omega) only [f_X9_debt, ↓reduceIte, Option.bind_some, n3_lit, n3_cl, n3_in, n3_ltT, n3_ltF, n3_leT, n3_leF, n3_eqT, n3_eqF, n3_add, n3_sub, not_true_eq_false, not_false_eq_true, true_or, or_true, false_or, or_false, Nat.zero_add, Nat.add_zero, nn_lt, nn_le, nn_gt, nn_ge, nn_eq, nn_qe, kd, m_inT, n3_mul, ko]
      · refine OK2.same h (v := n3 (a (44 + i))) ?_ ?_
        · simp (disch := omega) only [f_X8_debt, n3_int, if_neg, if_pos, ↓reduceIte, Option.bind_some, n3_lit, n3_cl, n3_in, n3_ltT, n3_ltF, n3_leT, n3_leF, n3_eqT, n3_eqF, n3_add, n3_sub, not_true_eq_false, not_false_eq_true, true_or, or_true, false_or, or_false, Nat.zero_add, Nat.add_zero, nn_lt, nn_le, nn_gt, nn_ge, nn_eq, nn_qe, hd, hD]
        · simp (disch := omega) only [f_X9_debt, ↓reduceIte, Option.bind_some, n3_lit, n3_cl, n3_in, n3_ltT, n3_ltF, n3_leT, n3_leF, n3_eqT, n3_eqF, n3_add, n3_sub, not_true_eq_false, not_false_eq_true, true_or, or_true, false_or, or_false, Nat.zero_add, Nat.add_zero, nn_lt, nn_le, nn_gt, nn_ge, nn_eq, nn_qe, kd, m_inT, n3_mul, ko]
      · refine OK2.same h (v := n3 (a (33 + i))) ?_ ?_
        · simp (disch := omega) only [f_X8_debt, n3_int, if_neg, if_pos, ↓reduceIte, Option.bind_some, n3_lit, n3_cl, n3_in, n3_ltT, n3_ltF, n3_leT, n3_leF, n3_eqT, n3_eqF, n3_add, n3_sub, not_true_eq_false, not_false_eq_true, true_or, or_true, false_or, or_false, Nat.zero_add, Nat.add_zero, nn_lt, nn_le, nn_gt, nn_ge, nn_eq, nn_qe, hd, hD]
        · simp (disch := omega) only [f_X9_debt, ↓reduceIte, Option.bind_some, n3_lit, n3_cl, n3_in, n3_ltT, n3_ltF, n3_leT, n3_leF, n3_eqT, n3_eqF, n3_add, n3_sub, not_true_eq_false, not_false_eq_true, true_or, or_true, false_or, or_false, Nat.zero_add, Nat.add_zero, nn_lt, nn_le, nn_gt, nn_ge, nn_eq, nn_qe, kd, m_inT, n3_mul, kD]
    · have hy2 := n3_out (by decide) hy
      refine OK2.same h (v := -n3 1) ?_ ?_
      · simp (disch := omega) only [f_X8_debt, if_pos, ↓reduceIte, Option.bind_some, n3_lit, n3_cl, n3_in, n3_ltT, n3_ltF, n3_leT, n3_leF, n3_eqT, n3_eqF, n3_add, n3_sub, not_true_eq_false, not_false_eq_true, true_or, or_true, false_or, or_false, Nat.zero_add, Nat.add_zero, nn_lt, nn_le, nn_gt, nn_ge, nn_eq, nn_qe, hd]
      · simp (disch := omega) only [f_X9_debt, ↓reduceIte, Option.bind_some, n3_lit, n3_cl, n3_in, n3_ltT, n3_ltF, n3_leT, n3_leF, n3_eqT, n3_eqF, n3_add, n3_sub, not_true_eq_false, not_false_eq_true, true_or, or_true, false_or, or_false, Nat.zero_add, Nat.add_zero, nn_lt, nn_le, nn_gt, nn_ge, nn_eq, nn_qe, kd, m_inO hy]
  · refine OK2.same h (v := -n3 1) ?_ ?_
    · simp (disch := omega) only [f_X8_debt, ↓reduceIte, Option.bind_some, n3_lit, n3_cl, n3_in, n3_ltT, n3_ltF, n3_leT, n3_leF, n3_eqT, n3_eqF, n3_add, n3_sub, not_true_eq_false, not_false_eq_true, true_or, or_true, false_or, or_false, Nat.zero_add, Nat.add_zero, nn_lt, nn_le, nn_gt, nn_ge, nn_eq, nn_qe, c_debtF hw hx]
    · simp (disch := omega) only [f_X9_debt, ↓reduceIte, Option.bind_some, n3_lit, n3_cl, n3_in, n3_ltT, n3_ltF, n3_leT, n3_leF, n3_eqT, n3_eqF, n3_add, n3_sub, not_true_eq_false, not_false_eq_true, true_or, or_true, false_or, or_false, Nat.zero_add, Nat.add_zero, nn_lt, nn_le, nn_gt, nn_ge, nn_eq, nn_qe, m_debtF hp wf hx]
theorem ok_stone (h : R μ) (x y : Int32) : OK2 (f_X8_stone F x y) (f_X9_stone F x y) μ := by
  obtain ⟨a, wf, bm, hw, hp⟩ := h.1; obtain ⟨⟨h0, h3, h7, h8, h9, h11, h15⟩, hP, hS, hR, hD⟩ := hw.z; obtain ⟨⟨k1, k3, kb, ko⟩, ⟨k23, k24, k25, k26, k37⟩, kP, kS, kR, kD⟩ := hp.z; obtain ⟨⟨b38, b23, b39, b24, b25, b25u, b26⟩, wP, wS, wR, wD⟩ := id wf
  rcases n3_cases x (a 23) (by omega) with ⟨i, hi, rfl⟩ | hx
  · have hd := c_stoneT (F := F) hw wf hi
    have kd := m_stoneT (F := F) hp wf hi
    have hr := c_rateOf (F := F) hw wf hi
    have kr := m_rateOn (F := F) hp wf (by omega) hi
    have := wS i hi
    rcases n3_cases y 5 (by decide) with ⟨j, hj, rfl⟩ | hy
    · rcases (show j = 0 ∨ j = 1 ∨ j = 2 ∨ j = 3 ∨ j = 4 by omega) with rfl | rfl | rfl | rfl | rfl
      · refine OK2.same h (v := n3 (a (8 + i))) ?_ ?_
        · simp (disch := omega) only [f_X8_stone, n3_int, if_neg, if_pos, ↓reduceIte, Option.bind_some, n3_lit, n3_cl, n3_in, n3_ltT, n3_ltF, n3_leT, n3_leF, n3_eqT, n3_eqF, n3_add, n3_sub, not_true_eq_false, not_false_eq_true, true_or, or_true, false_or, or_false, Nat.zero_add, Nat.add_zero, nn_lt, nn_le, nn_gt, nn_ge, nn_eq, nn_qe, hd, hS]
        · simp (disch := omega) only [f_X9_stone, n3_int, if_neg, if_pos, ↓reduceIte, Option.bind_some, n3_lit, n3_cl, n3_in, n3_ltT, n3_ltF, n3_leT, n3_leF, n3_eqT, n3_eqF, n3_add, n3_sub, not_true_eq_false, not_false_eq_true, true_or, or_true, false_or, or_false, Nat.zero_add, Nat.add_zero, nn_lt, nn_le, nn_gt, nn_ge, nn_eq, nn_qe, kd, kS]
      · refine OK2.same h (v := n3 (a (13 + i))) ?_ ?_
        · simp (disch := omega) only [f_X8_stone, n3_int, if_neg, if_pos, ↓reduceIte, Option.bind_some, n3_lit, n3_cl, n3_in, n3_ltT, n3_ltF, n3_leT, n3_leF, n3_eqT, n3_eqF, n3_add, n3_sub, not_true_eq_false, not_false_eq_true, true_or, or_true, false_or, or_false, Nat.zero_add, Nat.add_zero, nn_lt, nn_le, nn_gt, nn_ge, nn_eq, nn_qe, hd, hS]
        · simp (disch := omega) only [f_X9_stone, n3_int, if_neg, if_pos, ↓reduceIte, Option.bind_some, n3_lit, n3_cl, n3_in, n3_ltT, n3_ltF, n3_leT, n3_leF, n3_eqT, n3_eqF, n3_add, n3_sub, not_true_eq_false, not_false_eq_true, true_or, or_true, false_or, or_false, Nat.zero_add, Nat.add_zero, nn_lt, nn_le, nn_gt, nn_ge, nn_eq, nn_qe, kd, kS]
      · refine OK2.same h (v := n3 (a (18 + i))) ?_ ?_
        · simp (disch := omega) only [f_X8_stone, n3_int, if_neg, if_pos, ↓reduceIte, Option.bind_some, n3_lit, n3_cl, n3_in, n3_ltT, n3_ltF, n3_leT, n3_leF, n3_eqT, n3_eqF, n3_add, n3_sub, not_true_eq_false, not_false_eq_true, true_or, or_true, false_or, or_false, Nat.zero_add, Nat.add_zero, nn_lt, nn_le, nn_gt, nn_ge, nn_eq, nn_qe, hd, hS]
        · simp (disch := omega) only [f_X9_stone, n3_int, if_neg, if_pos, ↓reduceIte, Option.bind_some, n3_lit, n3_cl, n3_in, n3_ltT, n3_ltF, n3_leT, n3_leF, n3_eqT, n3_eqF, n3_add, n3_sub, not_true_eq_false, not_false_eq_true, true_or, or_true, false_or, or_false, Nat.zero_add, Nat.add_zero, nn_lt, nn_le, nn_gt, nn_ge, nn_eq, nn_qe, kd, kS]
      · refine OK2.same h (v := n3 (rate a i)) ?_ ?_
        · simp (disch := omega) only [f_X8_stone, n3_int, if_neg, if_pos, ↓reduceIte, Option.bind_some, n3_lit, n3_cl, n3_in, n3_ltT, n3_ltF, n3_leT, n3_leF, n3_eqT, n3_eqF, n3_add, n3_sub, not_true_eq_false, not_false_eq_true, true_or, or_true, false_or, or_false, Nat.zero_add, Nat.add_zero, nn_lt, nn_le, nn_gt, nn_ge, nn_eq, nn_qe, hd, hr]
        · simp (disch := omega) only [f_X9_stone, n3_int, if_neg, if_pos, ↓reduceIte, Option.bind_some, n3_lit, n3_cl, n3_in, n3_ltT, n3_ltF, n3_leT, n3_leF, n3_eqT, n3_eqF, n3_add, n3_sub, not_true_eq_false, not_false_eq_true, true_or, or_true, false_or, or_false, Nat.zero_add, Nat.add_zero, nn_lt, nn_le, nn_gt, nn_ge, nn_eq, nn_qe, kd, kr]
      · by_cases c : a (13 + i) < 5
        · refine OK2.same h (v := n3 0) ?_ ?_
          · simp (disch := omega) only [f_X8_stone, n3_int, if_neg, if_pos, ↓reduceIte, Option.bind_some, n3_lit, n3_cl, n3_in, n3_ltT, n3_ltF, n3_leT, n3_leF, n3_eqT, n3_eqF, n3_add, n3_sub, not_true_eq_false, not_false_eq_true, true_or, or_true, false_or, or_false, Nat.zero_add, Nat.add_zero, nn_lt, nn_le, nn_gt, nn_ge, nn_eq, nn_qe, hd, hS, c_warmF]
          · simp (disch := omega) only [f_X9_stone, n3_int, if_neg, if_pos, ↓reduceIte, Option.bind_some, n3_lit, n3_cl, n3_in, n3_ltT, n3_ltF, n3_leT, n3_leF, n3_eqT, n3_eqF, n3_add, n3_sub, not_true_eq_false, not_false_eq_true, true_or, or_true, false_or, or_false, Nat.zero_add, Nat.add_zero, nn_lt, nn_le, nn_gt, nn_ge, nn_eq, nn_qe, kd, kS]
        · refine OK2.same h (v := n3 1) ?_ ?_
          · simp (disch := omega) only [f_X8_stone, n3_int, if_neg, if_pos, ↓reduceIte, Option.bind_some, n3_lit, n3_cl, n3_in, n3_ltT, n3_ltF, n3_leT, n3_leF, n3_eqT, n3_eqF, n3_add, n3_sub, not_true_eq_false, not_false_eq_true, true_or, or_true, false_or, or_false, Nat.zero_add, Nat.add_zero, nn_lt, nn_le, nn_gt, nn_ge, nn_eq, nn_qe, hd, hS, c_warmT]
          · simp (disch := omega) only [f_X9_stone, n3_int, if_neg, if_pos, ↓reduceIte, Option.bind_some, n3_lit, n3_cl, n3_in, n3_ltT, n3_ltF, n3_leT, n3_leF, n3_eqT, n3_eqF, n3_add, n3_sub, not_true_eq_false, not_false_eq_true, true_or, or_true, false_or, or_false, Nat.zero_add, Nat.add_zero, nn_lt, nn_le, nn_gt, nn_ge, nn_eq, nn_qe, kd, kS]
    · have hy2 := n3_out (by decide) hy
      refine OK2.same h (v := -n3 1) ?_ ?_
      · simp (disch := omega) only [f_X8_stone, if_pos, ↓reduceIte, Option.bind_some, n3_lit, n3_cl, n3_in, n3_ltT, n3_ltF, n3_leT, n3_leF, n3_eqT, n3_eqF, n3_add, n3_sub, not_true_eq_false, not_false_eq_true, true_or, or_true, false_or, or_false, Nat.zero_add, Nat.add_zero, nn_lt, nn_le, nn_gt, nn_ge, nn_eq, nn_qe, hd]
      · simp (disch := omega) only [f_X9_stone, if_pos, ↓reduceIte, Option.bind_some, n3_lit, n3_cl, n3_in, n3_ltT, n3_ltF, n3_leT, n3_leF, n3_eqT, n3_eqF, n3_add, n3_sub, not_true_eq_false, not_false_eq_true, true_or, or_true, false_or, or_false, Nat.zero_add, Nat.add_zero, nn_lt, nn_le, nn_gt, nn_ge, nn_eq, nn_qe, kd]
  · refine OK2.same h (v := -n3 1) ?_ ?_
    · simp (disch := omega) only [f_X8_stone, ↓reduceIte, Option.bind_some, n3_lit, n3_cl, n3_in, n3_ltT, n3_ltF, n3_leT, n3_leF, n3_eqT, n3_eqF, n3_add, n3_sub, not_true_eq_false, not_false_eq_true, true_or, or_true, false_or, or_false, Nat.zero_add, Nat.add_zero, nn_lt, nn_le, nn_gt, nn_ge, nn_eq, nn_qe, c_stoneF hw hx]
    · simp (disch := omega) only [f_X9_stone, ↓reduceIte, Option.bind_some, n3_lit, n3_cl, n3_in, n3_ltT, n3_ltF, n3_leT, n3_leF, n3_eqT, n3_eqF, n3_add, n3_sub, not_true_eq_false, not_false_eq_true, true_or, or_true, false_or, or_false, Nat.zero_add, Nat.add_zero, nn_lt, nn_le, nn_gt, nn_ge, nn_eq, nn_qe, m_stoneF hp wf hx]
end VS40
