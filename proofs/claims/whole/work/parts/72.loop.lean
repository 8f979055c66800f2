/-! line after line, both -/
def JE (F : Nat) (B : Nat → Nat) (T : Nat) (μ ν : fm_M) (X Y : Option (Int32 × fm_M)) : Prop :=
  (∃ x μ' ν' d, X = some (x, μ') ∧ Y = some ((-10) - n3 d.2, fm_sI (fm_sI ν' 232 13 0) 232 14 (n3 d.1)) ∧ Cs B T (.inr d) μ' ∧ Ms B T (.inr d) ν' ∧ Ch cI lcA μ μ' ∧ Ch mI mA ν ν') ∨
  (∃ c μ' ν' a f, X = some (n3 c, μ') ∧ Y = g_X9_text F (f + 100) 140 (n3 c) 0 (fm_sI (fm_sI ν' 232 13 0) 232 14 0) ∧ μ'.1 123 2 = n3 0 ∧ WF a ∧ a 37 = 0 ∧ AW μ' 111 a ∧ AQ ν' a ∧ Ch cI lcA μ μ' ∧ Ch mI mA ν ν')
section VS72
variable {F : Nat} {μ ν : fm_M} {a b : Nat → Nat} {w : Nat} {B : Nat → Nat} {T p h1 pm : Nat} {σ : Nat ⊕ (Nat × Nat)} {o6 o7 : Bool}
theorem JL.map {X Y : Option (Unit × fm_M)} (h : JL B T p μ ν X Y) : JL B T p μ ν (Option.bind X (fun q => some ((), q.2))) Y := by
  obtain ⟨μ', ν', σ, w1, w2⟩ := h
  exact ⟨μ', ν', σ, by rw [w1, Option.bind_some], w2⟩
theorem j_line (hT : T ≤ 160) (hB : ∀ i, i < T → B i < 128) (hp : p ≤ T) (hC : CT B T p μ) (hM : MT B T p ν) (cl : CL μ a o6 o7 pm) (ml : ML ν a h1 o6 o7 pm) (wt : WT a h1 pm) (hF : 1000 < F) : JL B T p μ ν (f_X5_readLine F μ) (f_X9_readLine F ν) := by
  have nc := ml.2.2.2.2
  have sl := lxS_le (B := B) hp
  rw [rl_eq, m_name hT hB hp hM nc hF, Option.bind_some]
  cases hn : nmI B T p with
  | none =>
    rw [c_line_none hT hB hp hC (by omega) hn]
    obtain ⟨m0, e1, e2, e3⟩ := c_ref (F := F) (c := true) (k := 2) (st := lxS B T p) (x := 1) (y := 2) (hC.cs hp) (by rfl) (by rfl) (by omega) (by omega) (by omega) (fun _ _ => hC.2.2.2.2.1)
    dsimp only
    rw [show oW none = -n3 4 from rfl, m_inO (.inl (by decide)) (by omega) (by omega), Option.bind_some]
    dsimp only
    rw [if_neg (show ¬ ¬ n3 0 = 0 from fun q => q rfl)]
    exact j_kill hT hp (n := 0) (by omega) hM (k := 2) (by omega) (by omega) (by rfl) (fun m => some ((), m)) (fun m hm => ⟨m, rfl, hm, Ch.refl _ _ m⟩) ⟨m0, e1, e2, lc_c (tk_lc e3)⟩
  | some n =>
    obtain ⟨n9, -, -⟩ := nmI_some hn
    rw [c_line_some hT hB hp hC (by omega) hn]
    dsimp only
    rw [show oW (some n) = n3 n from rfl, m_inT (by omega) (by omega) (by omega), Option.bind_some]
    dsimp only
    rw [if_pos (show ¬ n3 1 = 0 by decide)]
    by_cases c3 : n ≤ 3
    · rw [if_pos c3, if_neg (by rw [n3_k3, n3_lt (by omega) (by omega)]; omega), if_pos (show ab_in 23 38 = true by decide), if_pos (show ¬ n3 n = 4 by rw [n3_k4, n3_eq (by omega) (by omega)]; omega), if_pos (show ¬ n3 n = 5 by rw [n3_k5, n3_eq (by omega) (by omega)]; omega)]
      exact (j_stone c3 hT hB hp hC hM cl ml wt hF).map
    · rw [if_neg c3]
      rcases (show n = 4 ∨ n = 5 ∨ n = 6 ∨ n = 7 ∨ n = 8 by omega) with rfl | rfl | rfl | rfl | rfl
      · rw [if_pos rfl, if_pos (show 3 < n3 4 by decide), if_neg (show ¬ ¬ n3 4 = 4 from fun q => q (by decide)), if_pos (show ¬ n3 4 = 5 by decide)]
        exact (j_man hT hB hp hC hM cl ml wt hF).map
      · rw [if_neg (by decide), if_pos rfl, if_pos (show 3 < n3 5 by decide), if_pos (show ¬ n3 5 = 4 by decide), if_neg (show ¬ ¬ n3 5 = 5 from fun q => q (by decide))]
        exact (j_debt hT hB hp hC hM cl ml wt hF).map
      · rw [if_neg (by decide), if_neg (by decide), if_pos rfl, if_pos (show 3 < n3 6 by decide), if_pos (show ¬ n3 6 = 4 by decide), if_pos (show ¬ n3 6 = 5 by decide)]
        exact (j_oven hT hB hp hC hM cl ml wt hF).map
      · rw [if_neg (by decide), if_neg (by decide), if_neg (by decide), if_pos rfl, if_pos (show 3 < n3 7 by decide), if_pos (show ¬ n3 7 = 4 by decide), if_pos (show ¬ n3 7 = 5 by decide)]
        exact (j_wind hT hB hp hC hM cl ml wt hF).map
      · rw [if_neg (by decide), if_neg (by decide), if_neg (by decide), if_neg (by decide), if_pos (show 3 < n3 8 by decide), if_pos (show ¬ n3 8 = 4 by decide), if_pos (show ¬ n3 8 = 5 by decide)]
        exact (j_price hT hB hp hC hM cl ml wt hF).map
/-! does it name only its people -/
theorem c_one (h : AW μ w a) (wb : WB a) {x : Nat} (hx : x < 100) : f_X7_hasOne F w (n3 x) μ = some (n3 (bi (decide (x < a 38))), μ) := by
  by_cases c : x < a 38
  · rw [decide_eq_true c]
    have := wb.1
    have h0 := h.1.1
    show _ = some (n3 1, μ)
    simp (disch := omega) only [f_X7_hasOne, ↓reduceIte, Option.bind_some, n3_lit, n3_cl, n3_in, n3_ltT, n3_ltF, n3_leT, n3_leF, n3_eqT, n3_eqF, n3_add, n3_sub, not_true_eq_false, not_false_eq_true, true_or, or_true, false_or, or_false, Nat.zero_add, Nat.add_zero, nn_lt, nn_le, nn_gt, nn_ge, nn_eq, nn_qe, h0]
  · rw [decide_eq_false c]
    exact c_oneF h (.inr (by have := wb.1; rw [n3_le (by omega) (by omega)]; omega))
theorem c_nmS (h : AW μ w a) (wt : WT a h1 pm) : ∀ (K l f : Nat), l + K = a 23 → ((∀ i, l ≤ i → i < a 23 → a (18 + i) < a 38) → g_X7_namesOnlyItsPeople F w (f + K + 1) 2 (n3 l) μ = g_X7_namesOnlyItsPeople F w f 33 0 μ) ∧ ((∃ i, l ≤ i ∧ i < a 23 ∧ ¬ a (18 + i) < a 38) → g_X7_namesOnlyItsPeople F w (f + K + 1) 2 (n3 l) μ = some (0, μ))
  | 0, l, f, hl => by
    have b := wt.1.1
    refine ⟨fun _ => ?_, fun ⟨i, i1, i2, i3⟩ => by omega⟩
    rw [g_X7_namesOnlyItsPeople, if_pos rfl, b_X7_namesOnlyItsPeople_2, h.1.2.1, if_pos (by rw [n3_le (by omega) (by omega)]; omega)]
  | K + 1, l, f, hl => by
    have b := wt.1.1
    have b9 := wt.1.2.2.2.2.2.2.1
    have wl := (wt.2.2.1 l (by omega)).2.2
    obtain ⟨i1, i2⟩ := c_nmS h wt K (l + 1) f (by omega)
    have st : g_X7_namesOnlyItsPeople F w (f + (K + 1) + 1) 2 (n3 l) μ = (if ¬ n3 (bi (decide (a (18 + l) < a 38))) = 0 then g_X7_namesOnlyItsPeople F w (f + K + 1) 2 (n3 (l + 1)) μ else some (0, μ)) := by
      rw [g_X7_namesOnlyItsPeople, if_pos rfl, b_X7_namesOnlyItsPeople_2, h.1.2.1, if_neg (by rw [n3_le (by omega) (by omega)]; omega), if_pos (n3_in (by omega) (by omega)), n3_cl (by omega), (h.2.2.1 l (by omega)).2.2, c_one h wt.wb (by omega), Option.bind_some, n3_one, n3_add]
      rfl
    rw [st]
    by_cases c : a (18 + l) < a 38
    · rw [decide_eq_true c, if_pos (show ¬ n3 (bi true) = 0 by decide)]
      refine ⟨fun q => i1 (fun i j1 j2 => q i (by omega) j2), fun ⟨i, j1, j2, j3⟩ => i2 ⟨i, ?_, j2, j3⟩⟩
      by_cases c2 : i = l
      · rw [c2] at j3; exact absurd c j3
      · omega
    · rw [decide_eq_false c, if_neg (show ¬ ¬ n3 (bi false) = 0 from fun q => q (by decide))]
      exact ⟨fun q => absurd (q l (by omega) (by omega)) c, fun _ => rfl⟩
theorem c_nmD (h : AW μ w a) (wt : WT a h1 pm) : ∀ (K l f : Nat), l + K = a 39 → ((∀ i, l ≤ i → i < a 39 → a (40 + i) < a 38 ∧ a (44 + i) < a 38) → g_X7_namesOnlyItsPeople F w (f + K + 1) 33 (n3 l) μ = some (1, μ)) ∧ ((∃ i, l ≤ i ∧ i < a 39 ∧ ¬ (a (40 + i) < a 38 ∧ a (44 + i) < a 38)) → g_X7_namesOnlyItsPeople F w (f + K + 1) 33 (n3 l) μ = some (0, μ))
  | 0, l, f, hl => by
    have b := wt.1.1
    refine ⟨fun _ => ?_, fun ⟨i, i1, i2, i3⟩ => by omega⟩
    rw [g_X7_namesOnlyItsPeople, if_neg (by decide), if_pos rfl, b_X7_namesOnlyItsPeople_33, h.1.2.2.2.2.2.1, if_pos (by rw [n3_le (by omega) (by omega)]; omega)]
  | K + 1, l, f, hl => by
    have b := wt.1.1
    have b9 := wt.1.2.2.2.2.2.2.1
    have wl := wt.2.2.2.2.1 l (by omega)
    obtain ⟨i1, i2⟩ := c_nmD h wt K (l + 1) f (by omega)
    have hd := h.2.2.2.2 l (by omega)
    have st : g_X7_namesOnlyItsPeople F w (f + (K + 1) + 1) 33 (n3 l) μ = (if n3 (bi (decide (a (40 + l) < a 38))) = 0 then some (0, μ) else (if ¬ n3 (bi (decide (a (44 + l) < a 38))) = 0 then g_X7_namesOnlyItsPeople F w (f + K + 1) 33 (n3 (l + 1)) μ else some (0, μ))) := by
      rw [g_X7_namesOnlyItsPeople, if_neg (by decide), if_pos rfl, b_X7_namesOnlyItsPeople_33, h.1.2.2.2.2.2.1, if_neg (by rw [n3_le (by omega) (by omega)]; omega), if_pos (n3_in (by omega) (by omega)), n3_cl (by omega), hd.1, c_one h wt.wb (by omega), Option.bind_some]
      dsimp only
      rw [if_pos (n3_in (by omega) (by omega)), hd.2.1, c_one h wt.wb (by omega), Option.bind_some, n3_one, n3_add]
      rfl
    rw [st]
    by_cases c : a (40 + l) < a 38
    · rw [decide_eq_true c, if_neg (show ¬ n3 (bi true) = 0 by decide)]
      by_cases c1 : a (44 + l) < a 38
      · rw [decide_eq_true c1, if_pos (show ¬ n3 (bi true) = 0 by decide)]
        refine ⟨fun q => i1 (fun i j1 j2 => q i (by omega) j2), fun ⟨i, j1, j2, j3⟩ => i2 ⟨i, ?_, j2, j3⟩⟩
        by_cases c2 : i = l
        · rw [c2] at j3; exact absurd ⟨c, c1⟩ j3
        · omega
      · rw [decide_eq_false c1, if_neg (show ¬ ¬ n3 (bi false) = 0 from fun q => q (by decide))]
        exact ⟨fun q => absurd (q l (by omega) (by omega)).2 c1, fun _ => rfl⟩
    · rw [decide_eq_false c, if_pos (show n3 (bi false) = 0 by decide)]
      exact ⟨fun q => absurd (q l (by omega) (by omega)).1 c, fun _ => rfl⟩
theorem c_names (h : AW μ w a) (wt : WT a h1 pm) (hF : 100 < F) : f_X7_namesOnlyItsPeople F w μ = some (n3 (bi (decide (h1 ≤ a 38))), μ) := by
  have b := wt.1.1
  obtain ⟨f, rfl⟩ : ∃ f, F = f + a 39 + 1 + a 23 + 1 := ⟨F - a 39 - 1 - a 23 - 1, by omega⟩
  obtain ⟨s1, s2⟩ := c_nmS (F := f + a 39 + 1 + a 23 + 1) h wt (a 23) 0 (f + a 39 + 1) (by omega)
  obtain ⟨d1, d2⟩ := c_nmD (F := f + a 39 + 1 + a 23 + 1) h wt (a 39) 0 f (by omega)
  obtain ⟨-, -, wS, -, wD, wX⟩ := wt
  unfold f_X7_namesOnlyItsPeople
  rw [n3_k0] at s1 s2 ⊢
  by_cases c : h1 ≤ a 38
  · rw [decide_eq_true c, s1 (fun i _ hi => by have := (wS i hi).2.2; omega)]
    exact d1 (fun i _ hi => ⟨by have := (wD i hi).2.1; omega, by have := (wD i hi).2.2.1; omega⟩)
  · rw [decide_eq_false c]
    by_cases cs : ∃ i, 0 ≤ i ∧ i < a 23 ∧ ¬ a (18 + i) < a 38
    · exact s2 cs
    · rw [s1 (fun i hi1 hi2 => by
        by_cases z : a (18 + i) < a 38
        · exact z
        · exact absurd ⟨i, hi1, hi2, z⟩ cs)]
      refine d2 ?_
      rcases wX with x | ⟨i, x1, x2⟩ | ⟨i, x1, x2⟩
      · omega
      · exact absurd ⟨i, Nat.zero_le _, x1, by omega⟩ cs
      · exact ⟨i, Nat.zero_le _, x1, by omega⟩
/-! with a fault both stop -/
theorem c_tl_dead {d : Nat × Nat} {f : Nat} (h : Cs B T (.inr d) μ) (x l : Int32) : g_X5_tell F (f + 1) 37 x l μ = some (x, μ) := by
  obtain ⟨k1, k2, k3, k4, k5, k6⟩ := id h
  have nz : ¬ μ.1 123 2 = 0 := by rw [k2, n3_k0, n3_eq (by omega) (by omega)]; omega
  rw [g_X5_tell, if_pos rfl, b_X5_tell_37, if_pos nz, if_pos nz]
  split <;> rfl
theorem m_tx_dead {d : Nat × Nat} {f : Nat} (h : Ms B T (.inr d) μ) (x l : Int32) : g_X9_text F (f + 1) 62 x l μ = some ((-10) - n3 d.2, fm_sI (fm_sI μ 232 13 0) 232 14 (n3 d.1)) := by
  obtain ⟨k1, k2, k3, k4, k5, k6⟩ := id h
  have nz : ¬ μ.1 232 15 = 0 := by rw [k2, n3_k0, n3_eq (by omega) (by omega)]; omega
  rw [g_X9_text, if_neg (by decide), if_pos rfl, b_X9_text_62, if_pos nz, if_pos nz, Option.bind_some, Option.bind_some, fm_sI_ne (by omega), fm_sI_ne (by omega), fm_sI_ne (by omega), k2, fm_sI_ne (by omega), k3, if_neg (by rw [n3_k0, n3_le (by omega) (by omega)]; omega)]
theorem v_hq : ((List.range 5).all fun h => (List.range 5).all fun m => decide (n3 h - n3 1 < n3 m ↔ h ≤ m)) = true := by decide +kernel
theorem jl_loop (hT : T ≤ 160) (hB : ∀ i, i < T → B i < 128) (hF : 1000 < F) : ∀ (K p l c f g : Nat) (μ ν : fm_M) (a : Nat → Nat) (h1 : Nat) (o6 o7 : Bool) (pm : Nat), T < p + K → p ≤ T → l ≤ p → K < f → K + 110 < g → CT B T p μ → MT B T p ν → CL μ a o6 o7 pm → ML ν a h1 o6 o7 pm → WT a h1 pm → JE F B T μ ν (g_X5_tell F f 37 (n3 c) (n3 l) μ) (g_X9_text F g 62 (n3 c) 0 ν)
  | 0, p, l, c, f, g, μ, ν, a, h1, o6, o7, pm, hk, hp, _, _, _, _, _, _, _, _ => by omega
  | K + 1, p, l, c, f + 1, g + 1, μ, ν, a, h1, o6, o7, pm, hk, hp, hl, hf, hg, hC, hM, cl, ml, wt => by
    have b := wt.1.1
    have b9 := wt.1.2.2.2.2.2.2.1
    have kl := lxK_le (B := B) (T := T) (p := p)
    have sl := lxS_le (B := B) hp
    rw [g_X5_tell, if_pos rfl, b_X5_tell_37, if_neg (by rw [show (160 : Int32) = n3 160 from n3_lit 160, n3_lt (by omega) (by omega)]; omega), if_neg (fun q => q hC.2.1), hC.2.2.2.1, g_X9_text, if_neg (show ¬ (62 : Nat) = 39 by decide), if_pos (show (62 : Nat) = 62 from rfl), b_X9_text_62, if_neg (show ¬ ¬ ν.1 232 15 = 0 from fun q => q hM.2.1), hM.2.2.2.2.1]
    by_cases c0 : lxK B T p = 0
    · have eT : lxS B T p = T := by
        by_cases z : T ≤ lxS B T p
        · omega
        · unfold lxK at c0
          rw [if_neg z] at c0
          split at c0
          · omega
          · split at c0 <;> omega
      rw [c0, if_pos (show n3 0 = 0 from rfl), if_pos (show n3 0 = 0 from rfl), if_neg (show ¬ ¬ μ.1 123 2 = 0 from fun q => q hC.2.1), c_names cl.1 wt (by omega), Option.bind_some, if_neg (show ¬ ¬ ν.1 232 15 = 0 from fun q => q hM.2.1), ml.2.1, ml.1.1.1]
      dsimp only
      have vq := of_decide_eq_true (List.all_eq_true.mp (List.all_eq_true.mp v_hq h1 (List.mem_range.mpr (by omega))) (a 38) (List.mem_range.mpr (by omega)))
      by_cases ch : h1 ≤ a 38
      · rw [decide_eq_true ch, if_pos (show ¬ n3 (bi true) = 0 by decide), if_pos (vq.mpr ch), Option.bind_some, Option.bind_some, fm_sI_ne (by omega), fm_sI_ne (by omega), fm_sI_ne (by omega), hM.2.1, if_pos (by decide)]
        refine .inr ⟨c, μ, ν, a, g - 100, rfl, ?_, hC.2.1, wt.wf ch, wt.1.2.2.2.2.2.1, cl.1, ml.1, Ch.refl _ _ μ, Ch.refl _ _ ν⟩
        rw [show g - 100 + 100 = g by omega]
        rfl
      · obtain ⟨s1, s2⟩ := m_kill hT hp hM (k := 6) (by omega) (by omega)
        have c1 : Ch tkI noA μ (fm_sI (fm_sI μ 123 2 6) 123 3 (n3 T)) := ((Ch.refl _ _ μ).sI (by unfold tkI; omega)).sI (by unfold tkI; omega)
        rw [decide_eq_false ch, if_neg (show ¬ ¬ n3 (bi false) = 0 from fun q => q (by decide)), if_neg (fun q => ch (vq.mp q)), m_fl 6 hM.2.1, hM.2.2.2.1, Option.bind_some, show (6 : Int32) = n3 6 from n3_lit 6]
        dsimp only
        have bl : f_X5_blame F (n3 6) (μ.1 123 1) μ = some ((), fm_sI (fm_sI μ 123 2 6) 123 3 (n3 T)) := by
          unfold f_X5_blame
          rw [if_neg (fun q => q hC.2.1), hC.1.1]
          rfl
        rw [bl, Option.bind_some, Option.bind_some, Option.bind_some]
        refine .inl ⟨n3 c, fm_sI (fm_sI μ 123 2 6) 123 3 (n3 T), _, (6, lxS B T p), rfl, ?_, ?_, s1, lc_c (tk_lc c1), tk_m s2⟩
        · generalize fm_sI (fm_sI ν 232 15 (n3 6)) 232 16 (n3 (lxS B T p)) = m at *
          obtain ⟨k1, k2, k3, k4, k5, k6⟩ := id s1
          dsimp only at k2 k3
          rw [fm_sI_ne (by omega), fm_sI_ne (by omega), fm_sI_ne (by omega), k2, if_neg (show ¬ n3 6 ≤ 0 by decide), fm_sI_ne (by omega), k3]
        · exact ⟨hC.1.ch c1 (by unfold tkI; omega) (fun _ => id), by rw [fm_sI_ne (by omega)]; exact fm_sI_eq ⟨rfl, rfl⟩, by rw [eT]; exact fm_sI_eq ⟨rfl, rfl⟩, (Nat.le_of_ble_eq_true rfl), (Nat.le_of_ble_eq_true rfl), (by show lxS B T p ≤ 160; omega)⟩
    · have nz : ¬ n3 (lxK B T p) = 0 := by rw [n3_k0, n3_eq (by omega) (by omega)]; exact c0
      rw [if_neg nz, if_neg nz]
      obtain ⟨μ', ν', σ, w1, w2, w3, w4, w5, w6, w7⟩ := j_line (F := F) hT hB hp hC hM cl ml wt hF
      rw [w1, Option.bind_some, w2, Option.bind_some]
      dsimp only
      cases σ with
      | inr d =>
        obtain ⟨k1, k2, k3, k4, k5, k6⟩ := id w3
        have nz2 : ¬ μ'.1 123 2 = 0 := by rw [k2, n3_k0, n3_eq (by omega) (by omega)]; omega
        obtain ⟨f', rfl⟩ : ∃ f', f = f' + 1 := ⟨f - 1, by omega⟩
        obtain ⟨g', rfl⟩ : ∃ g', g = g' + 1 := ⟨g - 1, by omega⟩
        rw [if_pos nz2, c_tl_dead w3, m_tx_dead w4]
        exact .inl ⟨_, μ', ν', d, rfl, rfl, w3, w4, w6, w7⟩
      | inl p' =>
        obtain ⟨g1, a', h1', o6', o7', pm', g2, g3, g4⟩ := w5 p' rfl
        obtain ⟨k1, k2, k3, k4⟩ := id w3
        obtain ⟨m1, q1, q2, q3, q4⟩ := c_tok (F := F) hT hB k2 k1 k3 k4 hF
        rw [if_neg (fun q => q k3), q1, Option.bind_some, n3_one, n3_add, n3_add]
        dsimp only
        have cc : Ch cI lcA μ m1 := w6.trans (lc_c (tk_lc q4))
        have sl' := lxS_le (B := B) k2
        by_cases cF : lxF B T p'
        · obtain ⟨r1, r2⟩ := q3 cF
          obtain ⟨r3, r4⟩ := w4.2.2.2 cF
          have d1 : Cs B T (.inr (1, lxS B T p')) m1 := ⟨k1.ch q4 (by unfold tkI; omega) (fun _ => id), r1, r2, (Nat.le_of_ble_eq_true rfl), (Nat.le_of_ble_eq_true rfl), (by show lxS B T p' ≤ 160; omega)⟩
          have d2 : Ms B T (.inr (1, lxS B T p')) ν' := ⟨w4.1, r3, r4, (Nat.le_of_ble_eq_true rfl), (Nat.le_of_ble_eq_true rfl), (by show lxS B T p' ≤ 160; omega)⟩
          obtain ⟨f', rfl⟩ : ∃ f', f = f' + 1 := ⟨f - 1, by omega⟩
          obtain ⟨g', rfl⟩ : ∃ g', g = g' + 1 := ⟨g - 1, by omega⟩
          rw [c_tl_dead d1, m_tx_dead d2]
          exact .inl ⟨_, m1, ν', _, rfl, rfl, d1, d2, cc, w7⟩
        · have g5 : CL m1 a' o6' o7' pm' := ⟨g3.1.tk q4 (by omega), by rw [q4.1 123 8 (by unfold tkI; omega)]; exact g3.2.1, by rw [q4.1 123 9 (by unfold tkI; omega)]; exact g3.2.2.1, by rw [q4.1 123 10 (by unfold tkI; omega)]; exact g3.2.2.2⟩
          have ih := jl_loop hT hB hF K p' (l + 1) (c + 1) f g m1 ν' a' h1' o6' o7' pm' (by omega) k2 (by omega) (by omega) (by omega) (q2 cF) (w4.2.2.1 cF) g5 g4 g2
          rcases ih with ⟨x, m2, n2, d, y1, y2, y3, y4, y5, y6⟩ | ⟨c', m2, n2, a2, f2, y1, y2, y3, y4, y5, y6, y7, y8, y9⟩
          · exact .inl ⟨x, m2, n2, d, y1, y2, y3, y4, cc.trans y5, w7.trans y6⟩
          · exact .inr ⟨c', m2, n2, a2, f2, y1, y2, y3, y4, y5, y6, y7, cc.trans y8, w7.trans y9⟩
end VS72
