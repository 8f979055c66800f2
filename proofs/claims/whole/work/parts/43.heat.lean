/-! heating, halving, cooling told ahead -/
theorem first_of {P : Nat → Prop} : ∀ n, P n → ∃ m, m ≤ n ∧ P m ∧ ∀ i, i < m → ¬ P i
  | 0, h => ⟨0, Nat.le_refl _, h, fun i hi => by omega⟩
  | n + 1, h => by
    by_cases c : ∃ k, k ≤ n ∧ P k
    · obtain ⟨k, hk, hP⟩ := c
      have ⟨m, h1, h2, h3⟩ := first_of (P := fun i => P i ∧ True) k ⟨hP, trivial⟩
      exact ⟨m, by omega, h2.1, fun i hi c => h3 i hi ⟨c, trivial⟩⟩
    · exact ⟨n + 1, Nat.le_refl _, h, fun i hi c2 => c ⟨i, by omega, c2⟩⟩
theorem cool_dec (w r : Nat) : cool w r ≤ w - 1 := by unfold cool; omega
theorem coolN_dec (w r : Nat) : ∀ n, coolN w r n ≤ w - n
  | 0 => by rw [coolN]; omega
  | n + 1 => by
    have := coolN_dec w r n
    have := cool_dec (coolN w r n) r
    rw [coolN]; omega
section VS43
variable {F : Nat} {μ ν : fm_M} {a : Nat → Nat} {w : Nat}
theorem m_ovenW (h : AP μ 0 a) (wf : WF a) {s : Nat} (hs : s < a 23) : f_X9_ovenWay F (n3 s) μ = some (n3 (ovenW a s), μ) := by
  have e := h.z.2.2.2.1 s hs
  have k24 := h.z.2.1.2.1
  have wO := wf.2.2.1 s hs
  have e2 := h.z.2.2.1 _ wO.2.2
  have wP := wf.2.1 _ wO.2.2
  have b := wf.1
  simp (disch := omega) only [f_X9_ovenWay, ↓reduceIte, Option.bind_some, n3_lit, n3_cl, n3_in, n3_ltT, n3_ltF, n3_leT, n3_leF, n3_eqT, n3_eqF, n3_add, n3_sub, not_true_eq_false, not_false_eq_true, true_or, or_true, false_or, or_false, Nat.zero_add, Nat.add_zero, nn_lt, nn_le, nn_gt, nn_ge, nn_eq, nn_qe, e.2.2, e2.2, k24, m_apart]
  rfl
theorem m_heatNow (h : AP μ 0 a) : f_X9_heatNow F μ = some (n3 (a 25), μ) := by
  have k25 := h.z.2.1.2.2.1
  simp (disch := omega) only [f_X9_heatNow, ↓reduceIte, Option.bind_some, n3_lit, n3_cl, n3_in, n3_ltT, n3_ltF, n3_leT, n3_leF, n3_eqT, n3_eqF, n3_add, n3_sub, not_true_eq_false, not_false_eq_true, true_or, or_true, false_or, or_false, Nat.zero_add, Nat.add_zero, nn_lt, nn_le, nn_gt, nn_ge, nn_eq, nn_qe, k25, n3_sc]
theorem m_heat (h : AP μ 0 a) (wf : WF a) {s : Nat} (hs : s < a 23) (hm : a 37 + 2 * ovenW a s + 1 ≤ 999) (hF : 100 < F) : ∃ ν, f_X9_heat F (n3 s) μ = some (n3 (bake a s (13 + s)), ν) ∧ AP ν 0 (bake a s) ∧ FM 0 μ ν := by
  have b23 := wf.1
  have bo := ovenW_le wf hs
  have ho := m_ovenW (F := F) h wf hs
  obtain ⟨μ1, e1, h1, f1⟩ := m_pass (F := F) h wf (by omega) (n := ovenW a s) (by omega) (by omega) (by omega)
  have w1 := pass_wf wf (ovenW a s)
  have e23 : pass a (ovenW a s) 23 = a 23 := pass_n (by omega) (by omega)
  have e25 : pass a (ovenW a s) 25 = a 25 := pass_n (by omega) (by omega)
  obtain ⟨μ2, e2, h2, f2⟩ := m_min (F := F) h1 w1 (by omega) (but := s) (x := n3 s) (fun i hi => by rw [n3_eq (by omega) (by omega)]) (by omega)
  have hl : pass a (ovenW a s) (13 + s) ≤ 99 := (w1.2.2.1 s (by omega)).2.1
  have m25 : minB (pass a (ovenW a s)) s 25 = a 25 := by
    unfold minB
    rw [st_ne (by omega), mP_n (by omega), e25]
  have m13 : minB (pass a (ovenW a s)) s (13 + s) = pass a (ovenW a s) (13 + s) := by
    unfold minB
    rw [st_ne (by omega)]
    unfold mP
    rw [if_neg (by omega)]
  have m23 : minB (pass a (ovenW a s)) s 23 = a 23 := by
    unfold minB
    rw [st_ne (by omega), mP_n (by omega), e23]
  have wm : WF (minB (pass a (ovenW a s)) s) := wf_min (mP_wf w1 s _ (Nat.le_refl _)) trivial
  have hn := m_heatNow (F := F) h2
  rw [m25] at hn
  have hg := (h2.z.2.2.2.1 s (by omega)).2.1
  rw [m13] at hg
  have k37 := h.z.2.1.2.2.2.2
  have h3 := ap_warm h2 wm (i := s) (by omega) (if pass a (ovenW a s) (13 + s) < a 25 then a 25 else pass a (ovenW a s) (13 + s))
  rw [minB_st (by omega) (by omega), Nat.zero_add] at h3
  have w2 := pass_wf w1 1
  have e23' : pass (pass a (ovenW a s)) 1 23 = a 23 := by rw [pass_n (by omega) (by omega), e23]
  have w3 := wf_warm w2 (i := s) (v := if pass a (ovenW a s) (13 + s) < a 25 then a 25 else pass a (ovenW a s) (13 + s)) (by omega) (by split <;> omega)
  obtain ⟨μ3, e3, h4, f3⟩ := m_pass (F := F) h3 w3 (by omega) (n := ovenW a s) (by omega) (by omega) (by omega)
  have hb : AP μ3 0 (bake a s) := h4
  have wb := bake_wf wf hs
  have b23' : bake a s 23 = a 23 := by
    unfold bake
    rw [pass_n (by rw [st_ne (by omega)]; omega) (by omega), st_ne (by omega), e23']
  have hr := (hb.z.2.2.2.1 s (by omega)).2.1
  have hs2 := m_stoneT (F := F) h wf hs
  refine ⟨μ3, ?_, hb, (f1.trans f2).trans ((FM.refl 0 μ2).sA (by omega) |>.trans f3)⟩
  by_cases c : pass a (ovenW a s) (13 + s) < a 25
  · rw [if_pos c] at e3
    simp (disch := omega) only [f_X9_heat, ↓reduceIte, Option.bind_some, n3_lit, n3_cl, n3_in, n3_ltT, n3_ltF, n3_leT, n3_leF, n3_eqT, n3_eqF, n3_add, n3_sub, not_true_eq_false, not_false_eq_true, true_or, or_true, false_or, or_false, Nat.zero_add, Nat.add_zero, nn_lt, nn_le, nn_gt, nn_ge, nn_eq, nn_qe, hs2, ho, k37, n3_mul, e1, e2, hn, hg, e3, hr]
  · rw [if_neg c] at e3
    simp (disch := omega) only [f_X9_heat, ↓reduceIte, Option.bind_some, n3_lit, n3_cl, n3_in, n3_ltT, n3_ltF, n3_leT, n3_leF, n3_eqT, n3_eqF, n3_add, n3_sub, not_true_eq_false, not_false_eq_true, true_or, or_true, false_or, or_false, Nat.zero_add, Nat.add_zero, nn_lt, nn_le, nn_gt, nn_ge, nn_eq, nn_qe, hs2, ho, k37, n3_mul, e1, e2, hn, hg, e3, hr]
theorem ok_heat (h : R μ) (hF : 100 < F) (x : Int32) : OK2 (f_X8_heat F x) (f_X9_heat F x) μ := by
  obtain ⟨a, wf, bm, hw, hp⟩ := h.1
  have b := wf.1
  rcases n3_cases x (a 23) (by omega) with ⟨s, hs, rfl⟩ | hx
  · have hd := c_stoneT (F := F) hw wf hs
    have ho := c_ovenW (F := F) hw wf hs
    have bo := ovenW_le wf hs
    have h15 := hw.z.1.2.2.2.2.2.2
    by_cases c : a 37 + 2 * ovenW a s + 1 ≤ 999
    · obtain ⟨μ1, e1, h1, f1⟩ := c_bake (F := F) hw wf hs (by omega)
      have hp1 := hp.fr f1 (by omega)
      obtain ⟨μ2, e2, h2, f2⟩ := m_heat (F := F) hp1 wf hs c (by omega)
      have w1 := bake_wf wf hs
      have e23 : pass a (ovenW a s) 23 = a 23 := pass_n (by omega) (by omega)
      have e23' : pass (pass a (ovenW a s)) 1 23 = a 23 := by rw [pass_n (by omega) (by omega), e23]
      have b23' : bake a s 23 = a 23 := by
        unfold bake
        rw [pass_n (by rw [st_ne (by omega)]; omega) (by omega), st_ne (by omega), e23']
      have hr := (h1.z.2.2.1 s (by omega)).2.1
      refine ⟨_, μ1, μ2, ?_, e2, h.world (f1.weak (by omega) (by omega)) f2 w1 ?_ h1 h2⟩
      · simp (disch := omega) only [f_X8_heat, ↓reduceIte, Option.bind_some, n3_lit, n3_cl, n3_in, n3_ltT, n3_ltF, n3_leT, n3_leF, n3_eqT, n3_eqF, n3_add, n3_sub, not_true_eq_false, not_false_eq_true, true_or, or_true, false_or, or_false, Nat.zero_add, Nat.add_zero, nn_lt, nn_le, nn_gt, nn_ge, nn_eq, nn_qe, hd, ho, h15, n3_mul, e1, hr]
      · unfold bake
        rw [pass_m (by rw [st_ne (by omega)]; omega), st_ne (by omega), pass_m (by omega), pass_m (by omega)]; omega
    · have k37 := hp.z.2.1.2.2.2.2
      have ko := m_ovenW (F := F) hp wf hs
      have kd := m_stoneT (F := F) hp wf hs
      refine OK2.same h (v := -n3 3) ?_ ?_
      · simp (disch := omega) only [f_X8_heat, ↓reduceIte, Option.bind_some, n3_lit, n3_cl, n3_in, n3_ltT, n3_ltF, n3_leT, n3_leF, n3_eqT, n3_eqF, n3_add, n3_sub, not_true_eq_false, not_false_eq_true, true_or, or_true, false_or, or_false, Nat.zero_add, Nat.add_zero, nn_lt, nn_le, nn_gt, nn_ge, nn_eq, nn_qe, hd, ho, h15, n3_mul]
      · simp (disch := omega) only [f_X9_heat, ↓reduceIte, Option.bind_some, n3_lit, n3_cl, n3_in, n3_ltT, n3_ltF, n3_leT, n3_leF, n3_eqT, n3_eqF, n3_add, n3_sub, not_true_eq_false, not_false_eq_true, true_or, or_true, false_or, or_false, Nat.zero_add, Nat.add_zero, nn_lt, nn_le, nn_gt, nn_ge, nn_eq, nn_qe, kd, ko, k37, n3_mul]
  · refine OK2.same h (v := -n3 1) ?_ ?_
    · simp (disch := omega) only [f_X8_heat, ↓reduceIte, Option.bind_some, n3_lit, n3_cl, n3_in, n3_ltT, n3_ltF, n3_leT, n3_leF, n3_eqT, n3_eqF, n3_add, n3_sub, not_true_eq_false, not_false_eq_true, true_or, or_true, false_or, or_false, Nat.zero_add, Nat.add_zero, nn_lt, nn_le, nn_gt, nn_ge, nn_eq, nn_qe, c_stoneF hw hx]
    · simp (disch := omega) only [f_X9_heat, ↓reduceIte, Option.bind_some, n3_lit, n3_cl, n3_in, n3_ltT, n3_ltF, n3_leT, n3_leF, n3_eqT, n3_eqF, n3_add, n3_sub, not_true_eq_false, not_false_eq_true, true_or, or_true, false_or, or_false, Nat.zero_add, Nat.add_zero, nn_lt, nn_le, nn_gt, nn_ge, nn_eq, nn_qe, m_stoneF hp wf hx]
theorem ok_after (h : R μ) (hF : 100 < F) (x y : Int32) : OK2 (f_X8_after F x y) (f_X9_after F x y) μ := by
  obtain ⟨a, wf, bm, hw, hp⟩ := h.1
  have b := wf.1
  rcases n3_cases x (a 23) (by omega) with ⟨s, hs, rfl⟩ | hx
  · have hd := c_stoneT (F := F) hw wf hs
    have kd := m_stoneT (F := F) hp wf hs
    rcases n3_cases y 61 (by decide) with ⟨n, hn, rfl⟩ | hy
    · have hr := c_rateOf (F := F) hw wf hs
      have kr := m_rateOn (F := F) hp wf (by omega) hs
      have e := hw.z.2.2.1 s hs
      have e' := hp.z.2.2.2.1 s hs
      have := wf.2.2.1 s hs
      have := rate_le a s
      refine OK2.same h (v := n3 (coolN (a (13 + s)) (rate a s) n)) ?_ ?_
      · simp (disch := omega) only [f_X8_after, ↓reduceIte, Option.bind_some, n3_lit, n3_cl, n3_in, n3_ltT, n3_ltF, n3_leT, n3_leF, n3_eqT, n3_eqF, n3_add, n3_sub, not_true_eq_false, not_false_eq_true, true_or, or_true, false_or, or_false, Nat.zero_add, Nat.add_zero, nn_lt, nn_le, nn_gt, nn_ge, nn_eq, nn_qe, hd, c_isInT, hr, e.2.1, c_cooledFor]
      · simp (disch := omega) only [f_X9_after, ↓reduceIte, Option.bind_some, n3_lit, n3_cl, n3_in, n3_ltT, n3_ltF, n3_leT, n3_leF, n3_eqT, n3_eqF, n3_add, n3_sub, not_true_eq_false, not_false_eq_true, true_or, or_true, false_or, or_false, Nat.zero_add, Nat.add_zero, nn_lt, nn_le, nn_gt, nn_ge, nn_eq, nn_qe, kd, m_inT, kr, e'.2.1, m_afterOf]
    · refine OK2.same h (v := -n3 1) ?_ ?_
      · simp (disch := omega) only [f_X8_after, ↓reduceIte, Option.bind_some, n3_lit, n3_cl, n3_in, n3_ltT, n3_ltF, n3_leT, n3_leF, n3_eqT, n3_eqF, n3_add, n3_sub, not_true_eq_false, not_false_eq_true, true_or, or_true, false_or, or_false, Nat.zero_add, Nat.add_zero, nn_lt, nn_le, nn_gt, nn_ge, nn_eq, nn_qe, hd, c_isInN hy]
      · simp (disch := omega) only [f_X9_after, ↓reduceIte, Option.bind_some, n3_lit, n3_cl, n3_in, n3_ltT, n3_ltF, n3_leT, n3_leF, n3_eqT, n3_eqF, n3_add, n3_sub, not_true_eq_false, not_false_eq_true, true_or, or_true, false_or, or_false, Nat.zero_add, Nat.add_zero, nn_lt, nn_le, nn_gt, nn_ge, nn_eq, nn_qe, kd, m_inO hy]
  · refine OK2.same h (v := -n3 1) ?_ ?_
    · simp (disch := omega) only [f_X8_after, ↓reduceIte, Option.bind_some, n3_lit, n3_cl, n3_in, n3_ltT, n3_ltF, n3_leT, n3_leF, n3_eqT, n3_eqF, n3_add, n3_sub, not_true_eq_false, not_false_eq_true, true_or, or_true, false_or, or_false, Nat.zero_add, Nat.add_zero, nn_lt, nn_le, nn_gt, nn_ge, nn_eq, nn_qe, c_stoneF hw hx]
    · simp (disch := omega) only [f_X9_after, ↓reduceIte, Option.bind_some, n3_lit, n3_cl, n3_in, n3_ltT, n3_ltF, n3_leT, n3_leF, n3_eqT, n3_eqF, n3_add, n3_sub, not_true_eq_false, not_false_eq_true, true_or, or_true, false_or, or_false, Nat.zero_add, Nat.add_zero, nn_lt, nn_le, nn_gt, nn_ge, nn_eq, nn_qe, m_stoneF hp wf hx]
theorem c_cold_l (h : AW μ 101 a) (wf : WF a) {s m : Nat} (hs : s < a 23) (hm : m ≤ 99) (h1 : coolN (a (13 + s)) (rate a s) m < 5) (h2 : ∀ i, i < m → ¬ coolN (a (13 + s)) (rate a s) i < 5) : ∀ (k i n : Nat), i + k = m → k < n → g_X8_cold F n 28 (n3 s) (n3 (coolN (a (13 + s)) (rate a s) i)) (n3 i) (n3 i) μ = some (n3 m, μ)
  | 0, i, n + 1, hk, _ => by
    obtain rfl : i = m := by omega
    simp (disch := omega) only [g_X8_cold, b_X8_cold_28, ↓reduceIte, Option.bind_some, n3_lit, n3_cl, n3_in, n3_ltT, n3_ltF, n3_leT, n3_leF, n3_eqT, n3_eqF, n3_add, n3_sub, not_true_eq_false, not_false_eq_true, true_or, or_true, false_or, or_false, Nat.zero_add, Nat.add_zero, nn_lt, nn_le, nn_gt, nn_ge, nn_eq, nn_qe, c_warmF]
  | k + 1, i, n + 1, hk, hn => by
    have ih := c_cold_l h wf hs hm h1 h2 k (i + 1) n (by omega) (by omega)
    have hr := c_rateOf (F := F) h wf hs
    have := coolN_le (a (13 + s)) (rate a s) i
    have := wf.2.2.1 s hs
    have := rate_le a s
    have := h2 i (by omega)
    simp (disch := omega) only [g_X8_cold, b_X8_cold_28, ↓reduceIte, Option.bind_some, n3_lit, n3_cl, n3_in, n3_ltT, n3_ltF, n3_leT, n3_leF, n3_eqT, n3_eqF, n3_add, n3_sub, not_true_eq_false, not_false_eq_true, true_or, or_true, false_or, or_false, Nat.zero_add, Nat.add_zero, nn_lt, nn_le, nn_gt, nn_ge, nn_eq, nn_qe, c_warmT, hr, c_cooled]; exact ih
theorem m_cold_l (h : AP μ 0 a) (wf : WF a) {s m : Nat} (hs : s < a 23) (hm : m ≤ 99) (h1 : coolN (a (13 + s)) (rate a s) m < 5) (h2 : ∀ i, i < m → ¬ coolN (a (13 + s)) (rate a s) i < 5) : ∀ (k i n : Nat), i + k = m → k < n → g_X9_cold F n 22 (n3 s) (n3 i) (n3 (coolN (a (13 + s)) (rate a s) i)) μ = some (n3 m, μ)
  | 0, i, n + 1, hk, _ => by
    obtain rfl : i = m := by omega
    simp (disch := omega) only [g_X9_cold, b_X9_cold_22, ↓reduceIte, Option.bind_some, n3_lit, n3_cl, n3_in, n3_ltT, n3_ltF, n3_leT, n3_leF, n3_eqT, n3_eqF, n3_add, n3_sub, not_true_eq_false, not_false_eq_true, true_or, or_true, false_or, or_false, Nat.zero_add, Nat.add_zero, nn_lt, nn_le, nn_gt, nn_ge, nn_eq, nn_qe]
  | k + 1, i, n + 1, hk, hn => by
    have ih := m_cold_l h wf hs hm h1 h2 k (i + 1) n (by omega) (by omega)
    have hr := m_rateOn (F := F) h wf (by omega) hs
    have := coolN_le (a (13 + s)) (rate a s) i
    have := wf.2.2.1 s hs
    have := rate_le a s
    have := h2 i (by omega)
    simp (disch := omega) only [g_X9_cold, b_X9_cold_22, ↓reduceIte, Option.bind_some, n3_lit, n3_cl, n3_in, n3_ltT, n3_ltF, n3_leT, n3_leF, n3_eqT, n3_eqF, n3_add, n3_sub, not_true_eq_false, not_false_eq_true, true_or, or_true, false_or, or_false, Nat.zero_add, Nat.add_zero, nn_lt, nn_le, nn_gt, nn_ge, nn_eq, nn_qe, hr, m_cooled]; exact ih
theorem ok_cold (h : R μ) (hF : 200 < F) (x : Int32) : OK2 (f_X8_cold F x) (f_X9_cold F x) μ := by
  obtain ⟨a, wf, bm, hw, hp⟩ := h.1
  have b := wf.1
  rcases n3_cases x (a 23) (by omega) with ⟨s, hs, rfl⟩ | hx
  · have hd := c_stoneT (F := F) hw wf hs
    have kd := m_stoneT (F := F) hp wf hs
    have e := hw.z.2.2.1 s hs
    have e' := hp.z.2.2.2.1 s hs
    have := wf.2.2.1 s hs
    obtain ⟨m, m1, m2, m3⟩ := first_of (P := fun i => coolN (a (13 + s)) (rate a s) i < 5) 99 (by have := coolN_dec (a (13 + s)) (rate a s) 99; omega)
    have c1 := c_cold_l (F := F) hw wf hs m1 m2 m3 m 0 F (by omega) (by omega)
    have c2 := m_cold_l (F := F) hp wf hs m1 m2 m3 m 0 F (by omega) (by omega)
    rw [coolN] at c1 c2
    refine OK2.same h (v := n3 m) ?_ ?_
    · simp (disch := omega) only [f_X8_cold, ↓reduceIte, Option.bind_some, n3_lit, n3_cl, n3_in, n3_ltT, n3_ltF, n3_leT, n3_leF, n3_eqT, n3_eqF, n3_add, n3_sub, not_true_eq_false, not_false_eq_true, true_or, or_true, false_or, or_false, Nat.zero_add, Nat.add_zero, nn_lt, nn_le, nn_gt, nn_ge, nn_eq, nn_qe, hd, e.2.1, c1]
    · simp (disch := omega) only [f_X9_cold, ↓reduceIte, Option.bind_some, n3_lit, n3_cl, n3_in, n3_ltT, n3_ltF, n3_leT, n3_leF, n3_eqT, n3_eqF, n3_add, n3_sub, not_true_eq_false, not_false_eq_true, true_or, or_true, false_or, or_false, Nat.zero_add, Nat.add_zero, nn_lt, nn_le, nn_gt, nn_ge, nn_eq, nn_qe, kd, e'.2.1, c2]
  · refine OK2.same h (v := -n3 1) ?_ ?_
    · simp (disch := omega) only [f_X8_cold, ↓reduceIte, Option.bind_some, n3_lit, n3_cl, n3_in, n3_ltT, n3_ltF, n3_leT, n3_leF, n3_eqT, n3_eqF, n3_add, n3_sub, not_true_eq_false, not_false_eq_true, true_or, or_true, false_or, or_false, Nat.zero_add, Nat.add_zero, nn_lt, nn_le, nn_gt, nn_ge, nn_eq, nn_qe, c_stoneF hw hx]
    · simp (disch := omega) only [f_X9_cold, ↓reduceIte, Option.bind_some, n3_lit, n3_cl, n3_in, n3_ltT, n3_ltF, n3_leT, n3_leF, n3_eqT, n3_eqF, n3_add, n3_sub, not_true_eq_false, not_false_eq_true, true_or, or_true, false_or, or_false, Nat.zero_add, Nat.add_zero, nn_lt, nn_le, nn_gt, nn_ge, nn_eq, nn_qe, m_stoneF hp wf hx]
def woolF (x k n : Nat) : Nat → Nat → Option Nat
  | _, 0 => none
  | v, m + 1 => if coolN x (rateA k v) n < 5 then woolF x k n (v + 1) m else some v
theorem c_wool_l (h : AW μ 101 a) (wf : WF a) {s n : Nat} (hs : s < a 23) (hn : n ≤ 60) (hF : 100 < F) : ∀ (k v m : Nat), v + k = 6 → k < m → g_X8_wool F m 25 (n3 s) (n3 n) (n3 v) μ = some (oi (woolF (a (13 + s)) (a (8 + s)) n v k), μ)
  | 0, v, m + 1, hk, _ => by
    obtain rfl : v = 6 := by omega
    rw [woolF, oi_none]
    simp (disch := omega) only [g_X8_wool, b_X8_wool_25, ↓reduceIte, Option.bind_some, n3_lit, n3_cl, n3_in, n3_ltT, n3_ltF, n3_leT, n3_leF, n3_eqT, n3_eqF, n3_add, n3_sub, not_true_eq_false, not_false_eq_true, true_or, or_true, false_or, or_false, Nat.zero_add, Nat.add_zero, nn_lt, nn_le, nn_gt, nn_ge, nn_eq, nn_qe]
  | k + 1, v, m + 1, hk, hm => by
    have ih := c_wool_l h wf hs hn hF k (v + 1) m (by omega) (by omega)
    have e := h.z.2.2.1 s hs
    have b := wf.1
    have := wf.2.2.1 s hs
    have := rateA_le (a (8 + s)) v
    have := coolN_le (a (13 + s)) (rateA (a (8 + s)) v) n
    rw [woolF]
    by_cases c : coolN (a (13 + s)) (rateA (a (8 + s)) v) n < 5
    · rw [if_pos c]
      simp (disch := omega) only [g_X8_wool, b_X8_wool_25, ↓reduceIte, Option.bind_some, n3_lit, n3_cl, n3_in, n3_ltT, n3_ltF, n3_leT, n3_leF, n3_eqT, n3_eqF, n3_add, n3_sub, not_true_eq_false, not_false_eq_true, true_or, or_true, false_or, or_false, Nat.zero_add, Nat.add_zero, nn_lt, nn_le, nn_gt, nn_ge, nn_eq, nn_qe, e.1, e.2.1, c_rate, c_cooledFor, c_warmF]; exact ih
    · rw [if_neg c, oi_some]
      simp (disch := omega) only [g_X8_wool, b_X8_wool_25, ↓reduceIte, Option.bind_some, n3_lit, n3_cl, n3_in, n3_ltT, n3_ltF, n3_leT, n3_leF, n3_eqT, n3_eqF, n3_add, n3_sub, not_true_eq_false, not_false_eq_true, true_or, or_true, false_or, or_false, Nat.zero_add, Nat.add_zero, nn_lt, nn_le, nn_gt, nn_ge, nn_eq, nn_qe, e.1, e.2.1, c_rate, c_cooledFor, c_warmT]
theorem m_wool_l (h : AP μ 0 a) (wf : WF a) {s n : Nat} (hs : s < a 23) (hn : n ≤ 60) (hF : 100 < F) : ∀ (k v m : Nat), v + k = 6 → k < m → g_X9_wool F m 24 (n3 s) (n3 n) (n3 v) μ = some (oi (woolF (a (13 + s)) (a (8 + s)) n v k), μ)
  | 0, v, m + 1, hk, _ => by
    obtain rfl : v = 6 := by omega
    rw [woolF, oi_none]
    simp (disch := omega) only [g_X9_wool, b_X9_wool_24, ↓reduceIte, Option.bind_some, n3_lit, n3_cl, n3_in, n3_ltT, n3_ltF, n3_leT, n3_leF, n3_eqT, n3_eqF, n3_add, n3_sub, not_true_eq_false, not_false_eq_true, true_or, or_true, false_or, or_false, Nat.zero_add, Nat.add_zero, nn_lt, nn_le, nn_gt, nn_ge, nn_eq, nn_qe]
  | k + 1, v, m + 1, hk, hm => by
    have ih := m_wool_l h wf hs hn hF k (v + 1) m (by omega) (by omega)
    have e := h.z.2.2.2.1 s hs
    have kb := h.z.1.2.2.1
    have b := wf.1
    have := wf.2.2.1 s hs
    have := rateA_le (a (8 + s)) v
    have := coolN_le (a (13 + s)) (rateA (a (8 + s)) v) n
    rw [woolF]
    by_cases c : coolN (a (13 + s)) (rateA (a (8 + s)) v) n < 5
    · rw [if_pos c]
      simp (disch := omega) only [g_X9_wool, b_X9_wool_24, ↓reduceIte, Option.bind_some, n3_lit, n3_cl, n3_in, n3_ltT, n3_ltF, n3_leT, n3_leF, n3_eqT, n3_eqF, n3_add, n3_sub, not_true_eq_false, not_false_eq_true, true_or, or_true, false_or, or_false, Nat.zero_add, Nat.add_zero, nn_lt, nn_le, nn_gt, nn_ge, nn_eq, nn_qe, e.1, e.2.1, kb, m_rateOf, m_afterOf]; exact ih
    · rw [if_neg c, oi_some]
      simp (disch := omega) only [g_X9_wool, b_X9_wool_24, ↓reduceIte, Option.bind_some, n3_lit, n3_cl, n3_in, n3_ltT, n3_ltF, n3_leT, n3_leF, n3_eqT, n3_eqF, n3_add, n3_sub, not_true_eq_false, not_false_eq_true, true_or, or_true, false_or, or_false, Nat.zero_add, Nat.add_zero, nn_lt, nn_le, nn_gt, nn_ge, nn_eq, nn_qe, e.1, e.2.1, kb, m_rateOf, m_afterOf]
theorem ok_wool (h : R μ) (hF : 100 < F) (x y : Int32) : OK2 (f_X8_wool F x y) (f_X9_wool F x y) μ := by
  obtain ⟨a, wf, bm, hw, hp⟩ := h.1
  have b := wf.1
  rcases n3_cases x (a 23) (by omega) with ⟨s, hs, rfl⟩ | hx
  · have hd := c_stoneT (F := F) hw wf hs
    have kd := m_stoneT (F := F) hp wf hs
    rcases n3_cases y 61 (by decide) with ⟨n, hn, rfl⟩ | hy
    · have c1 := c_wool_l hw wf hs (n := n) (by omega) hF 6 0 F (by omega) (by omega)
      have c2 := m_wool_l hp wf hs (n := n) (by omega) hF 6 0 F (by omega) (by omega)
      refine OK2.same h (v := oi (woolF (a (13 + s)) (a (8 + s)) n 0 6)) ?_ ?_
      · simp (disch := omega) only [f_X8_wool, ↓reduceIte, Option.bind_some, n3_lit, n3_cl, n3_in, n3_ltT, n3_ltF, n3_leT, n3_leF, n3_eqT, n3_eqF, n3_add, n3_sub, not_true_eq_false, not_false_eq_true, true_or, or_true, false_or, or_false, Nat.zero_add, Nat.add_zero, nn_lt, nn_le, nn_gt, nn_ge, nn_eq, nn_qe, hd, c_isInT, c1]
      · simp (disch := omega) only [f_X9_wool, ↓reduceIte, Option.bind_some, n3_lit, n3_cl, n3_in, n3_ltT, n3_ltF, n3_leT, n3_leF, n3_eqT, n3_eqF, n3_add, n3_sub, not_true_eq_false, not_false_eq_true, true_or, or_true, false_or, or_false, Nat.zero_add, Nat.add_zero, nn_lt, nn_le, nn_gt, nn_ge, nn_eq, nn_qe, kd, m_inT, c2]
    · refine OK2.same h (v := -n3 1) ?_ ?_
      · simp (disch := omega) only [f_X8_wool, ↓reduceIte, Option.bind_some, n3_lit, n3_cl, n3_in, n3_ltT, n3_ltF, n3_leT, n3_leF, n3_eqT, n3_eqF, n3_add, n3_sub, not_true_eq_false, not_false_eq_true, true_or, or_true, false_or, or_false, Nat.zero_add, Nat.add_zero, nn_lt, nn_le, nn_gt, nn_ge, nn_eq, nn_qe, hd, c_isInN hy]
      · simp (disch := omega) only [f_X9_wool, ↓reduceIte, Option.bind_some, n3_lit, n3_cl, n3_in, n3_ltT, n3_ltF, n3_leT, n3_leF, n3_eqT, n3_eqF, n3_add, n3_sub, not_true_eq_false, not_false_eq_true, true_or, or_true, false_or, or_false, Nat.zero_add, Nat.add_zero, nn_lt, nn_le, nn_gt, nn_ge, nn_eq, nn_qe, kd, m_inO hy]
  · refine OK2.same h (v := -n3 1) ?_ ?_
    · simp (disch := omega) only [f_X8_wool, ↓reduceIte, Option.bind_some, n3_lit, n3_cl, n3_in, n3_ltT, n3_ltF, n3_leT, n3_leF, n3_eqT, n3_eqF, n3_add, n3_sub, not_true_eq_false, not_false_eq_true, true_or, or_true, false_or, or_false, Nat.zero_add, Nat.add_zero, nn_lt, nn_le, nn_gt, nn_ge, nn_eq, nn_qe, c_stoneF hw hx]
    · simp (disch := omega) only [f_X9_wool, ↓reduceIte, Option.bind_some, n3_lit, n3_cl, n3_in, n3_ltT, n3_ltF, n3_leT, n3_leF, n3_eqT, n3_eqF, n3_add, n3_sub, not_true_eq_false, not_false_eq_true, true_or, or_true, false_or, or_false, Nat.zero_add, Nat.add_zero, nn_lt, nn_le, nn_gt, nn_ge, nn_eq, nn_qe, m_stoneF hp wf hx]
theorem c_bought (h : AW μ w a) (wf : WF a) {x t : Nat} (hx : x ≤ 99) (ht : t < 6) : f_X7_boughtFor F w (n3 x) (n3 t) μ = some (n3 (x / a (27 + t)), μ) := by
  have e := h.2.2.2.1 t ht
  have := wf.2.2.2.1 t ht
  by_cases c : a (27 + t) = 1
  · simp (disch := omega) only [f_X7_boughtFor, f_J9_max_7cf53, ↓reduceIte, Option.bind_some, n3_lit, n3_cl, n3_in, n3_ltT, n3_ltF, n3_leT, n3_leF, n3_eqT, n3_eqF, n3_add, n3_sub, not_true_eq_false, not_false_eq_true, true_or, or_true, false_or, or_false, Nat.zero_add, Nat.add_zero, nn_lt, nn_le, nn_gt, nn_ge, nn_eq, nn_qe, e, c, n3_div]
  · simp (disch := omega) only [f_X7_boughtFor, f_J9_max_7cf53, ↓reduceIte, Option.bind_some, n3_lit, n3_cl, n3_in, n3_ltT, n3_ltF, n3_leT, n3_leF, n3_eqT, n3_eqF, n3_add, n3_sub, not_true_eq_false, not_false_eq_true, true_or, or_true, false_or, or_false, Nat.zero_add, Nat.add_zero, nn_lt, nn_le, nn_gt, nn_ge, nn_eq, nn_qe, e, n3_div]
theorem m_bought (h : AP μ 0 a) (wf : WF a) {x t : Nat} (hx : x ≤ 99) (ht : t < 6) : f_X9_bought F (n3 x) (n3 t) μ = some (n3 (x / a (27 + t)), μ) := by
  have e := h.z.2.2.2.2.1 t ht
  have e2 : μ.2.1 233 (27 + t) + n3 1 = n3 (a (27 + t)) := by rw [e, n3_sc]
  have := wf.2.2.2.1 t ht
  simp (disch := omega) only [f_X9_bought, ↓reduceIte, Option.bind_some, n3_lit, n3_cl, n3_in, n3_ltT, n3_ltF, n3_leT, n3_leF, n3_eqT, n3_eqF, n3_add, n3_sub, not_true_eq_false, not_false_eq_true, true_or, or_true, false_or, or_false, Nat.zero_add, Nat.add_zero, nn_lt, nn_le, nn_gt, nn_ge, nn_eq, nn_qe, e2, n3_div]
def buyB (a : Nat → Nat) (s t : Nat) : Nat := coolN (a (13 + s)) (rate a s) t / a (27 + t)
def buyP (a : Nat → Nat) (s : Nat) : Nat → Nat × Nat
  | 0 => (0, buyB a s 0)
  | t + 1 => if (buyP a s t).2 < buyB a s (t + 1) then (t + 1, buyB a s (t + 1)) else buyP a s t
theorem buyB_le (wf : WF a) {s t : Nat} (hs : s < a 23) : buyB a s t ≤ 99 := by
  have := wf.2.2.1 s hs
  have := coolN_le (a (13 + s)) (rate a s) t
  have := Nat.div_le_self (coolN (a (13 + s)) (rate a s) t) (a (27 + t))
  unfold buyB; omega
theorem buyP_le (wf : WF a) {s : Nat} (hs : s < a 23) : ∀ t, (buyP a s t).1 ≤ t ∧ (buyP a s t).2 ≤ 99
  | 0 => ⟨Nat.le_refl _, buyB_le wf hs⟩
  | t + 1 => by
    have ih := buyP_le wf hs t
    have := buyB_le (t := t + 1) wf hs
    rw [buyP]
    split
    · exact ⟨Nat.le_refl _, this⟩
    · exact ⟨by omega, ih.2⟩
theorem c_buys_l (h : AW μ 101 a) (wf : WF a) {s j : Nat} (hs : s < a 23) (hj : j ≤ 1) : ∀ (k i n : Nat), i + k = 5 → k < n → g_X8_buys F n 41 (n3 s) (n3 j) (n3 (buyP a s i).1) (n3 (buyP a s i).2) (n3 (coolN (a (13 + s)) (rate a s) (i + 1))) (n3 (i + 1)) μ = some (n3 (if j = 0 then (buyP a s 5).1 else (buyP a s 5).2), μ)
  | 0, i, n + 1, hk, _ => by
    obtain rfl : i = 5 := by omega
    by_cases c : j = 0
    · simp (disch := omega) only [g_X8_buys, b_X8_buys_41, ↓reduceIte, Option.bind_some, n3_lit, n3_cl, n3_in, n3_ltT, n3_ltF, n3_leT, n3_leF, n3_eqT, n3_eqF, n3_add, n3_sub, not_true_eq_false, not_false_eq_true, true_or, or_true, false_or, or_false, Nat.zero_add, Nat.add_zero, nn_lt, nn_le, nn_gt, nn_ge, nn_eq, nn_qe, c]
    · simp (disch := omega) only [g_X8_buys, b_X8_buys_41, ↓reduceIte, Option.bind_some, n3_lit, n3_cl, n3_in, n3_ltT, n3_ltF, n3_leT, n3_leF, n3_eqT, n3_eqF, n3_add, n3_sub, not_true_eq_false, not_false_eq_true, true_or, or_true, false_or, or_false, Nat.zero_add, Nat.add_zero, nn_lt, nn_le, nn_gt, nn_ge, nn_eq, nn_qe, if_neg c]
  | k + 1, i, n + 1, hk, hn => by
    have ih := c_buys_l h wf hs hj k (i + 1) n (by omega) (by omega)
    have hr := c_rateOf (F := F) h wf hs
    have := coolN_le (a (13 + s)) (rate a s) (i + 1)
    have := wf.2.2.1 s hs
    have := rate_le a s
    have hb := c_bought (F := F) h wf (x := coolN (a (13 + s)) (rate a s) (i + 1)) (t := i + 1) (by omega) (by omega)
    have ble := buyB_le (t := i + 1) wf hs
    have ple := buyP_le wf hs i
    have hb : f_X7_boughtFor F 101 (n3 (coolN (a (13 + s)) (rate a s) (i + 1))) (n3 (i + 1)) μ = some (n3 (buyB a s (i + 1)), μ) := hb
    rw [buyP] at ih
    by_cases c : (buyP a s i).2 < buyB a s (i + 1)
    · rw [if_pos c] at ih
      rw [g_X8_buys]
      simp (disch := omega) only [b_X8_buys_41, ↓reduceIte, Option.bind_some, n3_lit, n3_cl, n3_in, n3_ltT, n3_ltF, n3_leT, n3_leF, n3_eqT, n3_eqF, n3_add, n3_sub, not_true_eq_false, not_false_eq_true, true_or, or_true, false_or, or_false, Nat.zero_add, Nat.add_zero, nn_lt, nn_le, nn_gt, nn_ge, nn_eq, nn_qe, hb, hr, c_cooled]; exact ih
    · rw [if_neg c] at ih
      rw [g_X8_buys]
      simp (disch := omega) only [b_X8_buys_41, ↓reduceIte, Option.bind_some, n3_lit, n3_cl, n3_in, n3_ltT, n3_ltF, n3_leT, n3_leF, n3_eqT, n3_eqF, n3_add, n3_sub, not_true_eq_false, not_false_eq_true, true_or, or_true, false_or, or_false, Nat.zero_add, Nat.add_zero, nn_lt, nn_le, nn_gt, nn_ge, nn_eq, nn_qe, hb, hr, c_cooled]; exact ih
theorem m_buys_l (h : AP μ 0 a) (wf : WF a) {s j : Nat} (hs : s < a 23) (hj : j ≤ 1) (hF : 100 < F) : ∀ (k i n : Nat), i + k = 5 → k < n → g_X9_buys F n 28 (n3 s) (n3 j) (n3 (buyP a s i).2) (n3 (buyP a s i).1) (n3 (i + 1)) μ = some (n3 (if j = 0 then (buyP a s 5).1 else (buyP a s 5).2), μ)
  | 0, i, n + 1, hk, _ => by
    obtain rfl : i = 5 := by omega
    by_cases c : j = 0
    · simp (disch := omega) only [g_X9_buys, b_X9_buys_28, ↓reduceIte, Option.bind_some, n3_lit, n3_cl, n3_in, n3_ltT, n3_ltF, n3_leT, n3_leF, n3_eqT, n3_eqF, n3_add, n3_sub, not_true_eq_false, not_false_eq_true, true_or, or_true, false_or, or_false, Nat.zero_add, Nat.add_zero, nn_lt, nn_le, nn_gt, nn_ge, nn_eq, nn_qe, c]
    · simp (disch := omega) only [g_X9_buys, b_X9_buys_28, ↓reduceIte, Option.bind_some, n3_lit, n3_cl, n3_in, n3_ltT, n3_ltF, n3_leT, n3_leF, n3_eqT, n3_eqF, n3_add, n3_sub, not_true_eq_false, not_false_eq_true, true_or, or_true, false_or, or_false, Nat.zero_add, Nat.add_zero, nn_lt, nn_le, nn_gt, nn_ge, nn_eq, nn_qe, if_neg c]
  | k + 1, i, n + 1, hk, hn => by
    have ih := m_buys_l h wf hs hj hF k (i + 1) n (by omega) (by omega)
    have hr := m_rateOn (F := F) h wf (by omega) hs
    have e := h.z.2.2.2.1 s hs
    have := coolN_le (a (13 + s)) (rate a s) (i + 1)
    have := wf.2.2.1 s hs
    have := rate_le a s
    have b := wf.1
    have hb := m_bought (F := F) h wf (x := coolN (a (13 + s)) (rate a s) (i + 1)) (t := i + 1) (by omega) (by omega)
    have ble := buyB_le (t := i + 1) wf hs
    have ple := buyP_le wf hs i
    have hb : f_X9_bought F (n3 (coolN (a (13 + s)) (rate a s) (i + 1))) (n3 (i + 1)) μ = some (n3 (buyB a s (i + 1)), μ) := hb
    rw [buyP] at ih
    by_cases c : (buyP a s i).2 < buyB a s (i + 1)
    · rw [if_pos c] at ih
      rw [g_X9_buys]
      simp (disch := omega) only [b_X9_buys_28, ↓reduceIte, Option.bind_some, n3_lit, n3_cl, n3_in, n3_ltT, n3_ltF, n3_leT, n3_leF, n3_eqT, n3_eqF, n3_add, n3_sub, not_true_eq_false, not_false_eq_true, true_or, or_true, false_or, or_false, Nat.zero_add, Nat.add_zero, nn_lt, nn_le, nn_gt, nn_ge, nn_eq, nn_qe, hb, hr, e.2.1, m_afterOf]; exact ih
    · rw [if_neg c] at ih
      rw [g_X9_buys]
      simp (disch := omega) only [b_X9_buys_28, ↓reduceIte, Option.bind_some, n3_lit, n3_cl, n3_in, n3_ltT, n3_ltF, n3_leT, n3_leF, n3_eqT, n3_eqF, n3_add, n3_sub, not_true_eq_false, not_false_eq_true, true_or, or_true, false_or, or_false, Nat.zero_add, Nat.add_zero, nn_lt, nn_le, nn_gt, nn_ge, nn_eq, nn_qe, hb, hr, e.2.1, m_afterOf]; exact ih
theorem ok_buys (h : R μ) (hF : 100 < F) (x y : Int32) : OK2 (f_X8_buys F x y) (f_X9_buys F x y) μ := by
  obtain ⟨a, wf, bm, hw, hp⟩ := h.1
  have b := wf.1
  rcases n3_cases x (a 23) (by omega) with ⟨s, hs, rfl⟩ | hx
  · have hd := c_stoneT (F := F) hw wf hs
    have kd := m_stoneT (F := F) hp wf hs
    rcases n3_cases y 2 (by decide) with ⟨j, hj, rfl⟩ | hy
    · obtain ⟨G, rfl⟩ : ∃ G, F = G + 1 := ⟨F - 1, by omega⟩
      have c1 := c_buys_l (F := G + 1) hw wf hs (j := j) (by omega) 5 0 G (by omega) (by omega)
      have c2 := m_buys_l (F := G + 1) hp wf hs (j := j) (by omega) hF 5 0 G (by omega) (by omega)
      have e := hw.z.2.2.1 s hs
      have e' := hp.z.2.2.2.1 s hs
      have := wf.2.2.1 s hs
      have := rate_le a s
      have hr := c_rateOf (F := G + 1) hw wf hs
      have kr := m_rateOn (F := G + 1) hp wf (by omega) hs
      have hb : f_X7_boughtFor (G + 1) 101 (n3 (a (13 + s))) (n3 0) μ = some (n3 (buyB a s 0), μ) := c_bought hw wf (x := a (13 + s)) (t := 0) (by omega) (by omega)
      have kb : f_X9_bought (G + 1) (n3 (a (13 + s))) (n3 0) μ = some (n3 (buyB a s 0), μ) := m_bought hp wf (x := a (13 + s)) (t := 0) (by omega) (by omega)
      have ka := m_afterOf (F := G + 1) (μ := μ) (w := a (13 + s)) (r := rate a s) (N := 0) (by omega) (by omega) (by omega) (by omega)
      rw [coolN] at ka
      have ble := buyB_le (t := 0) wf hs
      refine OK2.same h (v := n3 (if j = 0 then (buyP a s 5).1 else (buyP a s 5).2)) ?_ ?_
      · simp (disch := omega) only [f_X8_buys, ↓reduceIte, Option.bind_some, n3_lit, n3_cl, n3_in, n3_ltT, n3_ltF, n3_leT, n3_leF, n3_eqT, n3_eqF, n3_add, n3_sub, not_true_eq_false, not_false_eq_true, true_or, or_true, false_or, or_false, Nat.zero_add, Nat.add_zero, nn_lt, nn_le, nn_gt, nn_ge, nn_eq, nn_qe, hd, c_isInT, e.2.1]
        rw [g_X8_buys]
        simp (disch := omega) only [b_X8_buys_41, ↓reduceIte, Option.bind_some, n3_lit, n3_cl, n3_in, n3_ltT, n3_ltF, n3_leT, n3_leF, n3_eqT, n3_eqF, n3_add, n3_sub, not_true_eq_false, not_false_eq_true, true_or, or_true, false_or, or_false, Nat.zero_add, Nat.add_zero, nn_lt, nn_le, nn_gt, nn_ge, nn_eq, nn_qe, hb, hr, c_cooled]; exact c1
      · simp (disch := omega) only [f_X9_buys, ↓reduceIte, Option.bind_some, n3_lit, n3_cl, n3_in, n3_ltT, n3_ltF, n3_leT, n3_leF, n3_eqT, n3_eqF, n3_add, n3_sub, not_true_eq_false, not_false_eq_true, true_or, or_true, false_or, or_false, Nat.zero_add, Nat.add_zero, nn_lt, nn_le, nn_gt, nn_ge, nn_eq, nn_qe, kd, m_inT]
        rw [g_X9_buys]
        simp (disch := omega) only [b_X9_buys_28, ↓reduceIte, Option.bind_some, n3_lit, n3_cl, n3_in, n3_ltT, n3_ltF, n3_leT, n3_leF, n3_eqT, n3_eqF, n3_add, n3_sub, not_true_eq_false, not_false_eq_true, true_or, or_true, false_or, or_false, Nat.zero_add, Nat.add_zero, nn_lt, nn_le, nn_gt, nn_ge, nn_eq, nn_qe, kb, kr, e'.2.1, ka]; exact c2
    · refine OK2.same h (v := -n3 1) ?_ ?_
      · simp (disch := omega) only [f_X8_buys, ↓reduceIte, Option.bind_some, n3_lit, n3_cl, n3_in, n3_ltT, n3_ltF, n3_leT, n3_leF, n3_eqT, n3_eqF, n3_add, n3_sub, not_true_eq_false, not_false_eq_true, true_or, or_true, false_or, or_false, Nat.zero_add, Nat.add_zero, nn_lt, nn_le, nn_gt, nn_ge, nn_eq, nn_qe, hd, c_isInN hy]
      · simp (disch := omega) only [f_X9_buys, ↓reduceIte, Option.bind_some, n3_lit, n3_cl, n3_in, n3_ltT, n3_ltF, n3_leT, n3_leF, n3_eqT, n3_eqF, n3_add, n3_sub, not_true_eq_false, not_false_eq_true, true_or, or_true, false_or, or_false, Nat.zero_add, Nat.add_zero, nn_lt, nn_le, nn_gt, nn_ge, nn_eq, nn_qe, kd, m_inO hy]
  · refine OK2.same h (v := -n3 1) ?_ ?_
    · simp (disch := omega) only [f_X8_buys, ↓reduceIte, Option.bind_some, n3_lit, n3_cl, n3_in, n3_ltT, n3_ltF, n3_leT, n3_leF, n3_eqT, n3_eqF, n3_add, n3_sub, not_true_eq_false, not_false_eq_true, true_or, or_true, false_or, or_false, Nat.zero_add, Nat.add_zero, nn_lt, nn_le, nn_gt, nn_ge, nn_eq, nn_qe, c_stoneF hw hx]
    · simp (disch := omega) only [f_X9_buys, ↓reduceIte, Option.bind_some, n3_lit, n3_cl, n3_in, n3_ltT, n3_ltF, n3_leT, n3_leF, n3_eqT, n3_eqF, n3_add, n3_sub, not_true_eq_false, not_false_eq_true, true_or, or_true, false_or, or_false, Nat.zero_add, Nat.add_zero, nn_lt, nn_le, nn_gt, nn_ge, nn_eq, nn_qe, m_stoneF hp wf hx]
end VS43
