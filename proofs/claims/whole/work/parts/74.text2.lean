/-! the text's end -/
section VS74
variable {F : Nat} {μ ν : fm_M} {a b : Nat → Nat} {w : Nat} {B : Nat → Nat} {T p : Nat}
theorem c_kept0 (x : Int32) : ∀ (K i f : Nat) (μ : fm_M), i + K = 2 → K < f → (∀ t, t < i → μ.2.1 122 t = n3 0) → ∃ ν, g_X8_text F f 70 x (n3 i) μ = some (x, ν) ∧ (∀ t, t < 2 → ν.2.1 122 t = n3 0) ∧ Ch (fun _ _ => False) (fun q _ => q = 122) μ ν
  | 0, i, f + 1, μ, hi, _, h => by
    obtain rfl : i = 2 := by omega
    exact ⟨μ, by rw [g_X8_text, if_pos rfl, b_X8_text_70, if_pos (by decide)], h, Ch.refl _ _ μ⟩
  | K + 1, i, f + 1, μ, hi, hf, h => by
    obtain ⟨ν, q1, q2, q3⟩ := c_kept0 x K (i + 1) f (fm_sA μ 122 (upd (μ.2.1 122) i (n3 0))) (by omega) (by omega) (fun t ht => by
      rw [fm_sA_eq rfl]
      by_cases c : t = i
      · rw [c]; exact upd_eq rfl
      · rw [upd_ne c]; exact h t (by omega))
    refine ⟨ν, ?_, q2, ((Ch.refl (fun _ _ => False) (fun q _ => q = 122) μ).sG (fun _ => rfl)).trans q3⟩
    rw [g_X8_text, if_pos rfl, b_X8_text_70, if_neg (by rw [n3_k2, n3_le (by omega) (by omega)]; omega), if_pos (n3_in (by omega) (by omega)), n3_cl (by omega), Option.bind_some, n3_one, n3_add]
    exact q1
theorem c_end {x : Int32} {μ' : fm_M} (hF : 100 < F) (h : f_X5_tell F μ = some (x, μ')) : ∃ v μ1, f_X8_text F μ = some (v, μ1) ∧ Ch (fun q j => (q = 100 ∧ j = 11) ∨ (q = 123 ∧ j = 1) ∨ (q = 125 ∧ j = 0) ∨ (101 ≤ q ∧ q < 111)) (fun q _ => q = 122 ∨ (101 ≤ q ∧ q < 111)) μ' μ1 ∧ μ1.1 100 11 = μ'.1 123 2 ∧ μ1.1 123 1 = n3 0 ∧ (¬ μ'.1 123 2 = 0 → v = (-10) - μ'.1 123 3 ∧ Ch (fun q j => (q = 100 ∧ j = 11) ∨ (q = 123 ∧ j = 1)) noA μ' μ1) ∧ (μ'.1 123 2 = 0 → v = x ∧ (∀ a, AW μ' 111 a → WF a → AW μ1 101 a) ∧ μ1.1 125 0 = n3 0 ∧ (∀ t, t < 2 → μ1.2.1 122 t = n3 0)) := by
  generalize hm : fm_sI (fm_sI μ' 100 11 (μ'.1 123 2)) 123 1 0 = m
  have cm : Ch (fun q j => (q = 100 ∧ j = 11) ∨ (q = 123 ∧ j = 1)) noA μ' m := by rw [← hm]; exact ((Ch.refl _ _ μ').sI (.inl ⟨rfl, rfl⟩)).sI (.inr ⟨rfl, rfl⟩)
  have e11 : m.1 100 11 = μ'.1 123 2 := by rw [← hm, fm_sI_ne (by omega)]; exact fm_sI_eq ⟨rfl, rfl⟩
  have e1 : m.1 123 1 = n3 0 := by rw [← hm]; exact fm_sI_eq ⟨rfl, rfl⟩
  have st : f_X8_text F μ = (if (m.1 100 11) = 0 then (Option.bind (f_X7_copyFrom F 101 111 m) (fun q12 => (Option.bind (some (fm_sI q12.2 125 0 0)) (fun m14 => g_X8_text F F 70 x 0 m14)))) else some (((-10) - (m.1 123 3)), m)) := by
    unfold f_X8_text
    rw [h, Option.bind_some, Option.bind_some, Option.bind_some]
    dsimp only
    rw [hm]
  rw [st, e11]
  by_cases c : μ'.1 123 2 = 0
  · obtain ⟨m1, q1, q2, q3⟩ := c_copy (F := F) (μ := m) (w := 101) (w2 := 111) (by omega)
    obtain ⟨m2, r1, r2, r3⟩ := c_kept0 (F := F) x 2 0 F (fm_sI m1 125 0 0) (by omega) (by omega) (fun t ht => absurd ht (Nat.not_lt_zero _))
    have c1 : Ch (fun q j => q = 125 ∧ j = 0) noA m1 (fm_sI m1 125 0 0) := (Ch.refl _ _ m1).sI ⟨rfl, rfl⟩
    refine ⟨x, m2, ?_, ?_, ?_, ?_, fun q => absurd c q, fun _ => ⟨rfl, fun a ha wf => ?_, ?_, r2⟩⟩
    · rw [if_pos c, q1, Option.bind_some, Option.bind_some]; exact r1
    · exact (((cm.weak (fun q j c => by omega) (fun _ _ c => False.elim c)).trans (q3.ch.weak (fun q j c => by omega) (fun q j c => by omega))).trans (c1.weak (fun q j c => by omega) (fun _ _ c => False.elim c))).trans (r3.weak (fun _ _ c => False.elim c) (fun q j c => by omega))
    · rw [r3.1 _ _ id, c1.1 _ _ (by omega), (q3.1 100 (by omega)).1]; exact e11
    · rw [r3.1 _ _ id, c1.1 _ _ (by omega), (q3.1 123 (by omega)).1]; exact e1
    · exact ((q2 a (ha.ch cm (by omega) (fun _ _ _ _ => id)) wf).ch c1 (by omega) (fun _ _ _ _ => id)).ch r3 (fun _ => id) (by omega)
    · rw [r3.1 _ _ id]; exact fm_sI_eq ⟨rfl, rfl⟩
  · refine ⟨_, m, if_neg c, cm.weak (fun q j c => by omega) (fun _ _ c => False.elim c), e11, e1, fun _ => ⟨?_, cm⟩, fun q => absurd q c⟩
    rw [cm.1 123 3 (by omega)]
theorem m_cpy (x : Int32) : ∀ (K i f : Nat) (ν : fm_M), i + K = 38 → K < f → (∀ t, t < i → ν.2.1 233 t = ν.2.1 236 t) → (∀ j, j < 8 → j < i → ν.2.1 234 j = ν.2.1 237 j) → ∃ ν2, g_X9_text F f 140 x (n3 i) ν = some (x, ν2) ∧ (∀ t, t < 38 → ν2.2.1 233 t = ν.2.1 236 t) ∧ (∀ j, j < 8 → ν2.2.1 234 j = ν.2.1 237 j) ∧ ν2.1 232 1 = ν.1 232 7 ∧ ν2.1 232 3 = ν.1 232 8 ∧ ν2.1 232 33 = n3 0 ∧ (∀ t, t < 2 → ν2.2.1 249 t = n3 0) ∧ Ch (fun q j => q = 232 ∧ (j = 1 ∨ j = 3 ∨ j = 33)) (fun q j => (q = 233 ∧ j < 38) ∨ q = 234 ∨ q = 249) ν ν2
  | 0, i, f + 1, ν, hi, _, h1, h2 => by
    obtain rfl : i = 38 := by omega
    refine ⟨fm_sA (fm_sA (fm_sI (fm_sI (fm_sI ν 232 1 (ν.1 232 7)) 232 3 (ν.1 232 8)) 232 33 0) 249 (upd (ν.2.1 249) 0 (n3 0))) 249 (upd (upd (ν.2.1 249) 0 (n3 0)) 1 (n3 0)), ?_, ?_, ?_, ?_, ?_, ?_, ?_, ?_⟩
    · rw [g_X9_text, if_neg (by decide), if_neg (by decide), if_pos rfl, b_X9_text_140, if_pos (by decide), Option.bind_some, Option.bind_some, Option.bind_some, if_pos (by decide), Option.bind_some, if_pos (by decide), Option.bind_some, fm_sI_ne (by omega), fm_sA_eq rfl]
      rfl
    · intro t ht
      rw [fm_sA_ne (by omega), fm_sA_ne (by omega)]; exact h1 t ht
    · intro j hj
      rw [fm_sA_ne (by omega), fm_sA_ne (by omega)]; exact h2 j hj (by omega)
    · rw [fm_sA_1, fm_sA_1, fm_sI_ne (by omega), fm_sI_ne (by omega)]; exact fm_sI_eq ⟨rfl, rfl⟩
    · rw [fm_sA_1, fm_sA_1, fm_sI_ne (by omega)]; exact fm_sI_eq ⟨rfl, rfl⟩
    · rw [fm_sA_1, fm_sA_1]; exact fm_sI_eq ⟨rfl, rfl⟩
    · intro t ht
      rw [fm_sA_eq rfl]
      rcases (show t = 0 ∨ t = 1 by omega) with rfl | rfl
      · rw [upd_ne (by omega)]; exact upd_eq rfl
      · exact upd_eq rfl
    · exact (((((Ch.refl _ _ ν).sI (by omega)).sI (by omega)).sI (by omega)).sG (by omega)).sG (by omega)
  | K + 1, i, f + 1, ν, hi, hf, h1, h2 => by
    have dm := Nat.div_add_mod i 8
    have ml := Nat.mod_lt i (show 0 < 8 by omega)
    have es : i - i / 8 * 8 = i % 8 := by omega
    have e7 : (fm_sA (fm_sA ν 233 (upd (ν.2.1 233) i (ν.2.1 236 i))) 234 (upd (ν.2.1 234) (i % 8) (ν.2.1 237 (i % 8)))).2.1 237 = ν.2.1 237 := by rw [fm_sA_ne (by omega), fm_sA_ne (by omega)]
    have e6 : (fm_sA (fm_sA ν 233 (upd (ν.2.1 233) i (ν.2.1 236 i))) 234 (upd (ν.2.1 234) (i % 8) (ν.2.1 237 (i % 8)))).2.1 236 = ν.2.1 236 := by rw [fm_sA_ne (by omega), fm_sA_ne (by omega)]
    obtain ⟨ν2, q1, q2, q3, q4, q5, q6, q7, q8⟩ := m_cpy x K (i + 1) f (fm_sA (fm_sA ν 233 (upd (ν.2.1 233) i (ν.2.1 236 i))) 234 (upd (ν.2.1 234) (i % 8) (ν.2.1 237 (i % 8)))) (by omega) (by omega) (fun t ht => by
      rw [e6, fm_sA_ne (by omega), fm_sA_eq rfl]
      by_cases c : t = i
      · rw [c]; exact upd_eq rfl
      · rw [upd_ne c]; exact h1 t (by omega)) (fun j hj hji => by
      rw [e7, fm_sA_eq rfl]
      by_cases c : j = i % 8
      · rw [c]; exact upd_eq rfl
      · rw [upd_ne c]; exact h2 j hj (by omega))
    rw [e6] at q2
    rw [e7] at q3
    refine ⟨ν2, ?_, q2, q3, q4, q5, q6, q7, ?_⟩
    · rw [g_X9_text, if_neg (by decide), if_neg (by decide), if_pos rfl, b_X9_text_140, if_neg (by rw [show (38 : Int32) = n3 38 from n3_lit 38, n3_le (by omega) (by omega)]; omega), if_pos (n3_in (by omega) (by omega)), if_pos (n3_in (by omega) (by omega)), n3_cl (by omega), Option.bind_some, n3_k8, n3_div (by omega) (by omega), n3_mul, n3_sub (by omega), es, if_pos (n3_in (by omega) (by omega)), if_pos (n3_in (by omega) (by omega)), n3_cl (by omega), Option.bind_some, n3_one, n3_add, fm_sA_ne (by omega), fm_sA_ne (by omega)]
      exact q1
    · have c0 : Ch (fun q j => q = 232 ∧ (j = 1 ∨ j = 3 ∨ j = 33)) (fun q j => (q = 233 ∧ j < 38) ∨ q = 234 ∨ q = 249) ν (fm_sA ν 233 (upd (ν.2.1 233) i (ν.2.1 236 i))) := (Ch.refl _ _ ν).sU (by omega)
      exact (c0.sG (by omega)).trans q8
theorem ok_text (h : R μ) (hF : 1000 < F) : OK2 (f_X8_text F) (f_X9_text F) μ := by
  obtain ⟨⟨ar, hr⟩, hK, ⟨T, hT, t1, t2, t3⟩, hS, hH, hFF, hC⟩ := id h
  have key : ∀ i, i < T → (μ.2.1 124 i).toNatClampNeg < 128 ∧ μ.2.1 124 i = n3 (μ.2.1 124 i).toNatClampNeg ∧ μ.2.1 238 i = n3 (μ.2.1 124 i).toNatClampNeg := by
    intro i hi
    obtain ⟨c, c1, c2, c3⟩ := t3 i hi
    rw [c2, c3, n3_cl (by omega)]
    exact ⟨c1, rfl, rfl⟩
  have hB : ∀ i, i < T → (fun i => (μ.2.1 124 i).toNatClampNeg) i < 128 := fun i hi => (key i hi).1
  have tc : TC (fun i => (μ.2.1 124 i).toNatClampNeg) T μ := ⟨t1, fun i hi => (key i hi).2.1⟩
  have tm : TM (fun i => (μ.2.1 124 i).toNatClampNeg) T μ := ⟨t2, fun i hi => (key i hi).2.2⟩
  have nc : NC μ := ⟨hC.1, hC.2.1⟩
  generalize (fun i => (μ.2.1 124 i).toNatClampNeg) = B at *
  obtain ⟨x, μ', w1, w2⟩ : ∃ x μ', f_X5_tell F μ = some (x, μ') ∧ Ch cI lcA μ μ' := by
    rcases tx_both hT hB hF tc tm nc with ⟨x, z1, z2, d, y1, y2, y3, y4, y5, y6⟩ | ⟨c', z1, z2, a2, f2, y1, y2, y3, y4, y5, y6, y7, y8, y9⟩
    · exact ⟨x, z1, y1, y5⟩
    · exact ⟨_, z1, y1, y8⟩
  obtain ⟨v, μ1, v1, v2, v3, v4, v5, v6⟩ := c_end (by omega) w1
  have c1 : Ch (fun q j => (q = 100 ∧ j = 11) ∨ (q = 123 ∧ 1 ≤ j ∧ j ≤ 10) ∨ (q = 125 ∧ j = 0) ∨ (101 ≤ q ∧ q < 121)) (fun q _ => q = 122 ∨ (101 ≤ q ∧ q < 121)) μ μ1 := (w2.weak (fun q j c => by unfold cI at c; omega) (fun q j c => by unfold lcA at c; omega)).trans (v2.weak (fun q j c => by omega) (fun q j c => by omega))
  have tm1 : TM B T μ1 := tm.ch c1 (by omega) (by omega)
  have nc1 : NC μ1 := nc.ch c1 (by omega) (by omega)
  rcases tx_both hT hB hF tc tm1 nc1 with ⟨x', z1, z2, d, y1, y2, y3, y4, y5, y6⟩ | ⟨c', z1, z2, a2, f2, y1, y2, y3, y4, y5, y6, y7, y8, y9⟩
  · obtain ⟨rfl, rfl⟩ : x = x' ∧ μ' = z1 := by rw [w1] at y1; exact ⟨congrArg Prod.fst (Option.some.inj y1), congrArg Prod.snd (Option.some.inj y1)⟩
    obtain ⟨k1, k2, k3, k4, k5, k6⟩ := id y3
    have nz : ¬ μ'.1 123 2 = 0 := by rw [k2, n3_k0, n3_eq (by omega) (by omega)]; omega
    obtain ⟨u1, u2⟩ := v5 nz
    generalize hn : fm_sI (fm_sI z2 232 13 0) 232 14 (n3 d.1) = n at *
    have cn : Ch (fun q j => q = 232 ∧ (j = 13 ∨ j = 14)) noA z2 n := by rw [← hn]; exact ((Ch.refl _ _ z2).sI (by omega)).sI (by omega)
    have c2 : Ch (fun q j => q = 232 ∧ ((7 ≤ j ∧ j ≤ 11) ∨ (13 ≤ j ∧ j ≤ 20))) (fun q _ => q = 236 ∨ q = 237) μ1 n := (y6.weak (fun q j c => by unfold mI at c; omega) (fun q j c => c)).trans (cn.weak (fun q j c => by omega) (fun _ _ c => False.elim c))
    have c3 : Ch (fun q j => (q = 100 ∧ j = 11) ∨ (q = 123 ∧ 1 ≤ j ∧ j ≤ 10) ∨ (111 ≤ q ∧ q < 121) ∨ (q = 232 ∧ ((7 ≤ j ∧ j ≤ 11) ∨ (13 ≤ j ∧ j ≤ 20)))) (fun q _ => (111 ≤ q ∧ q < 121) ∨ q = 236 ∨ q = 237) μ n := ((w2.weak (fun q j c => by unfold cI at c; omega) (fun q j c => by unfold lcA at c; omega)).trans (u2.weak (fun q j c => by omega) (fun _ _ c => False.elim c))).trans (c2.weak (fun q j c => by omega) (fun q j c => by omega))
    refine ⟨v, μ1, n, v1, ?_, ?_⟩
    · rw [y2, u1, k3]
    · refine ⟨⟨ar, hr.ch c3 (by intro q j c; (try dsimp only at c); omega) (by intro q j c; (try dsimp only at c); omega)⟩, hK.ch c3 (by intro q j c; (try dsimp only at c); omega) (by intro q j c; (try dsimp only at c); omega), ⟨0, by omega, ?_, ?_, fun i hi => absurd hi (Nat.not_lt_zero _)⟩, hS.ch c3 (by intro q j c; (try dsimp only at c); omega) (by intro q j c; (try dsimp only at c); omega), hH.ch c3 (by intro q j c; (try dsimp only at c); omega) (by intro q j c; (try dsimp only at c); omega), ⟨?_, ?_⟩, hC.ch c3 (by intro q j c; (try dsimp only at c); omega)⟩
      · rw [c2.1 123 1 (by omega)]; exact v4
      · rw [← hn, fm_sI_ne (by omega)]; exact fm_sI_eq ⟨rfl, rfl⟩
      · rw [c2.1 100 11 (by omega), v3, k2, ← hn]; exact (fm_sI_eq ⟨rfl, rfl⟩).symm
      · rw [c3.1 100 12 (by omega), c3.1 232 39 (by omega)]; exact hFF.2
  · obtain ⟨ex, rfl⟩ : x = n3 c' ∧ μ' = z1 := by rw [w1] at y1; exact ⟨congrArg Prod.fst (Option.some.inj y1), congrArg Prod.snd (Option.some.inj y1)⟩
    obtain ⟨u1, u2, u3, u4⟩ := v6 y3
    generalize hn : fm_sI (fm_sI z2 232 13 0) 232 14 0 = n at *
    have cn : Ch (fun q j => q = 232 ∧ (j = 13 ∨ j = 14)) noA z2 n := by rw [← hn]; exact ((Ch.refl _ _ z2).sI (by omega)).sI (by omega)
    obtain ⟨n2, g1, g2, g3, g4, g5, g6, g7, g8⟩ := m_cpy (F := F) (n3 c') 38 0 (f2 + 100) n (by omega) (by omega) (fun t ht => absurd ht (Nat.not_lt_zero _)) (fun j _ ht => absurd ht (Nat.not_lt_zero _))
    have aq : AQ n a2 := y7.ch cn (by omega) (by omega) (fun _ => id) (fun _ => id)
    have c2 : Ch (fun q j => q = 232 ∧ (j = 1 ∨ j = 3 ∨ j = 33 ∨ (7 ≤ j ∧ j ≤ 11) ∨ (13 ≤ j ∧ j ≤ 20))) (fun q j => (q = 233 ∧ j < 38) ∨ q = 234 ∨ q = 249 ∨ q = 236 ∨ q = 237) μ1 n2 := ((y9.weak (fun q j c => by unfold mI at c; omega) (fun q j c => by unfold mA at c; omega)).trans (cn.weak (fun q j c => by omega) (fun _ _ c => False.elim c))).trans (g8.weak (fun q j c => by omega) (fun q j c => by omega))
    have c3 := (c1.weak (qI := fun q j => (q = 100 ∧ j = 11) ∨ (q = 123 ∧ 1 ≤ j ∧ j ≤ 10) ∨ (q = 125 ∧ j = 0) ∨ (101 ≤ q ∧ q < 121) ∨ (q = 232 ∧ (j = 1 ∨ j = 3 ∨ j = 33 ∨ (7 ≤ j ∧ j ≤ 11) ∨ (13 ≤ j ∧ j ≤ 20)))) (qA := fun q j => q = 122 ∨ (101 ≤ q ∧ q < 121) ∨ (q = 233 ∧ j < 38) ∨ q = 234 ∨ q = 249 ∨ q = 236 ∨ q = 237) (fun q j c => by omega) (fun q j c => by omega)).trans (c2.weak (fun q j c => by omega) (fun q j c => by omega))
    have wb := y4.wb
    obtain ⟨b38, b23, b39⟩ := wb
    have ap : AP n2 0 a2 := by
      obtain ⟨⟨k1, k3, ko⟩, ⟨k23, k24, k25, k26, k37⟩, kP, kS, kR, kD⟩ := aq
      refine ⟨⟨by rw [g4]; exact k1, by rw [g5]; exact k3, fun i hi => ?_, fun i hi => ?_⟩, ⟨?_, ?_, ?_, ?_, ?_⟩, fun i hi => ?_, fun i hi => ?_, fun i hi => ?_, fun i hi => ?_⟩
      · rw [c3.2.1 235 i (by omega)]; exact hr.2.2.2.1.2.2.1 i hi
      · rw [g3 (2 * i) (by omega), g3 (2 * i + 1) (by omega)]; exact ko i hi
      · rw [g2 (0 + 23) (by omega)]; exact k23
      · rw [g2 (0 + 24) (by omega)]; exact k24
      · rw [g2 (0 + 25) (by omega)]; exact k25
      · rw [g2 (0 + 26) (by omega)]; exact k26
      · rw [g2 (0 + 37) (by omega)]; exact k37
      · rw [Nat.zero_add, Nat.zero_add, g2 i (by omega), g2 (4 + i) (by omega)]; exact kP i hi
      · rw [Nat.zero_add, Nat.zero_add, Nat.zero_add, g2 (8 + i) (by omega), g2 (13 + i) (by omega), g2 (18 + i) (by omega)]; exact kS i hi
      · rw [Nat.zero_add, g2 (27 + i) (by omega)]; exact kR i hi
      · rw [Nat.zero_add, g2 (33 + i) (by omega)]; exact kD i hi
    refine ⟨v, μ1, n2, v1, ?_, ?_⟩
    · rw [y2, u1, ex]; exact g1
    · refine ⟨⟨a2, y4, by omega, (u2 a2 y6 y4).ch c2 (by omega) (by omega), ap⟩, fun k hk => ⟨?_, .inl ?_⟩, ⟨0, by omega, ?_, ?_, fun i hi => absurd hi (Nat.not_lt_zero _)⟩, ⟨0, by omega, ?_, g6, fun i hi => absurd hi (Nat.not_lt_zero _)⟩, hH.ch c3 (by intro q j c; (try dsimp only at c); omega) (by intro q j c; (try dsimp only at c); omega), ⟨?_, ?_⟩, hC.ch c3 (by intro q j c; (try dsimp only at c); omega)⟩
      · rw [c2.2.1 122 k (by omega), u4 k hk, g7 k hk]
      · rw [c2.2.1 122 k (by omega)]; exact u4 k hk
      · rw [c2.1 123 1 (by omega)]; exact v4
      · rw [g8.1 232 13 (by omega), ← hn, fm_sI_ne (by omega)]; exact fm_sI_eq ⟨rfl, rfl⟩
      · rw [c2.1 125 0 (by omega)]; exact u3
      · rw [c2.1 100 11 (by omega), v3, y3, g8.1 232 14 (by omega), ← hn]; exact (fm_sI_eq ⟨rfl, rfl⟩).symm
      · rw [c3.1 100 12 (by omega), c3.1 232 39 (by omega)]; exact hFF.2
end VS74
