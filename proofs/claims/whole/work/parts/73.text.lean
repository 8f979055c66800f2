/-! the telling of a text -/
def a0 (k : Nat) : Nat := if k = 25 then 50 else if k = 26 then 2 else if 27 ≤ k ∧ k < 33 then 1 else 0
theorem a0_25 : a0 25 = 50 := rfl
theorem a0_26 : a0 26 = 2 := rfl
theorem a0_p {k : Nat} (h : k < 6) : a0 (27 + k) = 1 := by unfold a0; rw [if_neg (by omega), if_neg (by omega), if_pos (by omega)]
theorem wt_0 : WT a0 0 0 := by
  refine ⟨⟨⟨?_, ?_, ?_⟩, ?_, ?_, ?_, ?_, rfl, by omega, by omega⟩, fun i hi => ?_, fun i hi => ?_, fun i hi => ?_, fun i hi => ?_, .inl rfl⟩
  · show 0 ≤ 4; omega
  · show 0 ≤ 5; omega
  · show 0 ≤ 4; omega
  · show 0 ≤ 9; omega
  · show 5 ≤ 50; omega
  · show 50 ≤ 99; omega
  · show 2 ≤ 10; omega
  · exact absurd hi (Nat.not_lt_zero _)
  · exact absurd hi (Nat.not_lt_zero _)
  · rw [a0_p hi]; omega
  · exact absurd hi (Nat.not_lt_zero _)
section VS73
variable {F : Nat} {μ ν : fm_M} {a b : Nat → Nat} {w : Nat} {B : Nat → Nat} {T p h1 pm : Nat} {σ : Nat ⊕ (Nat × Nat)} {o6 o7 : Bool}
theorem c_clr_l {w : Nat} : ∀ (K i f : Nat) (μ : fm_M), i + K = 6 → K < f → (∀ t, t < i → μ.2.1 (w + 6) t = n3 1) → ∃ ν, g_X7_clear F w f 28 (n3 i) μ = some ((), ν) ∧ (∀ t, t < 6 → ν.2.1 (w + 6) t = n3 1) ∧ ν.1 w 11 = n3 0 ∧ ν.1 w 15 = n3 0 ∧ (∀ j, j ≠ 11 → j ≠ 15 → ν.1 w j = μ.1 w j) ∧ Fr w (w + 10) μ ν
  | 0, i, f + 1, μ, hi, _, h => by
    obtain rfl : i = 6 := by omega
    refine ⟨fm_sI (fm_sI μ w 11 0) w 15 0, ?_, fun t ht => h t ht, ?_, fm_sI_eq ⟨rfl, rfl⟩, fun j j1 j2 => ?_, ((Fr.refl w (w + 10) μ).sI (by omega)).sI (by omega)⟩
    · rw [g_X7_clear, if_pos rfl, b_X7_clear_28, if_pos (by decide), Option.bind_some, Option.bind_some]
    · rw [fm_sI_ne (by omega)]; exact fm_sI_eq ⟨rfl, rfl⟩
    · rw [fm_sI_ne (by omega), fm_sI_ne (by omega)]
  | K + 1, i, f + 1, μ, hi, hf, h => by
    obtain ⟨ν, q1, q2, q3, q4, q5, q6⟩ := c_clr_l (w := w) K (i + 1) f (fm_sA μ (w + 6) (upd (μ.2.1 (w + 6)) i (n3 1))) (by omega) (by omega) (fun t ht => by
      rw [fm_sA_eq rfl]
      by_cases c : t = i
      · rw [c]; exact upd_eq rfl
      · rw [upd_ne c]; exact h t (by omega))
    refine ⟨ν, ?_, q2, q3, q4, fun j j1 j2 => by rw [q5 j j1 j2]; rfl, ((Fr.refl w (w + 10) μ).sA (by omega)).trans q6⟩
    rw [g_X7_clear, if_pos rfl, b_X7_clear_28, if_neg (by rw [n3_k5, n3_lt (by omega) (by omega)]; omega), if_pos (n3_in (by omega) (by omega)), n3_cl (by omega), Option.bind_some, n3_one, n3_add]
    exact q1
theorem c_clr (hF : 100 < F) : ∃ ν, f_X7_clear F 111 μ = some ((), ν) ∧ AW ν 111 a0 ∧ Fr 111 121 μ ν := by
  obtain ⟨ν, q1, q2, q3, q4, q5, q6⟩ := c_clr_l (F := F) (w := 111) 6 0 F (fm_sI (fm_sI (fm_sI (fm_sI (fm_sI μ 111 0 0) 111 3 0) 111 7 0) 111 8 50) 111 9 2) (by omega) (by omega) (fun t ht => absurd ht (Nat.not_lt_zero _))
  refine ⟨ν, ?_, ?_, ?_⟩
  · unfold f_X7_clear
    rw [Option.bind_some, Option.bind_some, Option.bind_some, Option.bind_some, Option.bind_some]
    exact q1
  · refine ⟨⟨?_, ?_, ?_, ?_, ?_, q3, q4⟩, fun i hi => absurd hi (Nat.not_lt_zero _), fun i hi => absurd hi (Nat.not_lt_zero _), fun i hi => by rw [a0_p hi]; exact q2 i hi, fun i hi => absurd hi (Nat.not_lt_zero _)⟩
    · rw [q5 0 (by omega) (by omega), fm_sI_ne (by omega), fm_sI_ne (by omega), fm_sI_ne (by omega), fm_sI_ne (by omega)]; exact fm_sI_eq ⟨rfl, rfl⟩
    · rw [q5 3 (by omega) (by omega), fm_sI_ne (by omega), fm_sI_ne (by omega), fm_sI_ne (by omega)]; exact fm_sI_eq ⟨rfl, rfl⟩
    · rw [q5 7 (by omega) (by omega), fm_sI_ne (by omega), fm_sI_ne (by omega)]; exact fm_sI_eq ⟨rfl, rfl⟩
    · rw [q5 8 (by omega) (by omega), fm_sI_ne (by omega)]; exact fm_sI_eq ⟨rfl, rfl⟩
    · rw [q5 9 (by omega) (by omega)]; exact fm_sI_eq ⟨rfl, rfl⟩
  · exact (((((((Fr.refl 111 121 μ).sI (by omega)).sI (by omega)).sI (by omega)).sI (by omega)).sI (by omega)).trans q6)
theorem m_clr_l : ∀ (K i f : Nat) (μ : fm_M), i + K = 38 → (∀ t, t < i → μ.2.1 236 t = n3 0) → ∃ ν, g_X9_text F (f + K + 1) 39 0 (n3 i) μ = Option.bind (f_X9_step F ν) (fun q => g_X9_text F f 62 0 0 q.2) ∧ (∀ t, t < 38 → ν.2.1 236 t = n3 0) ∧ Ch (fun _ _ => False) (fun q _ => q = 236) μ ν
  | 0, i, f, μ, hi, h => by
    obtain rfl : i = 38 := by omega
    exact ⟨μ, by rw [g_X9_text, if_pos rfl, b_X9_text_39, if_pos (by decide)], h, Ch.refl _ _ μ⟩
  | K + 1, i, f, μ, hi, h => by
    obtain ⟨ν, q1, q2, q3⟩ := m_clr_l K (i + 1) f (fm_sA μ 236 (upd (μ.2.1 236) i (n3 0))) (by omega) (fun t ht => by
      rw [fm_sA_eq rfl]
      by_cases c : t = i
      · rw [c]; exact upd_eq rfl
      · rw [upd_ne c]; exact h t (by omega))
    refine ⟨ν, ?_, q2, ((Ch.refl (fun _ _ => False) (fun q _ => q = 236) μ).sG (fun _ => rfl)).trans q3⟩
    rw [show f + (K + 1) + 1 = f + K + 1 + 1 by omega, g_X9_text, if_pos rfl, b_X9_text_39, if_neg (by rw [show (38 : Int32) = n3 38 from n3_lit 38, n3_le (by omega) (by omega)]; omega), if_pos (n3_in (by omega) (by omega)), n3_cl (by omega), Option.bind_some, n3_one, n3_add]
    exact q1
theorem tx_both (hT : T ≤ 160) (hB : ∀ i, i < T → B i < 128) (hF : 1000 < F) (tc : TC B T μ) (tm : TM B T ν) (nc : NC ν) : JE F B T μ ν (f_X5_tell F μ) (f_X9_text F ν) := by
  have sl := lxS_le (B := B) (Nat.zero_le T)
  -- the class begins
  obtain ⟨m0, q1, q2, q3⟩ := c_clr (F := F) (μ := μ) (by omega)
  generalize hm : fm_sI (fm_sI (fm_sI (fm_sI (fm_sI m0 123 2 0) 123 4 0) 123 8 0) 123 9 0) 123 10 0 = m
  have cm0 : Ch (fun q j => q = 123 ∧ 2 ≤ j ∧ j ≤ 10) noA m0 m := by rw [← hm]; exact (((((Ch.refl _ _ m0).sI (by omega)).sI (by omega)).sI (by omega)).sI (by omega)).sI (by omega)
  have cm : Ch cI lcA μ m := (q3.ch.weak (fun q j c => .inr c) (fun q j c => c)).trans (cm0.weak (fun q j c => .inl c) (fun _ _ c => False.elim c))
  have m2 : m.1 123 2 = n3 0 := by rw [← hm, fm_sI_ne (by omega), fm_sI_ne (by omega), fm_sI_ne (by omega), fm_sI_ne (by omega)]; exact fm_sI_eq ⟨rfl, rfl⟩
  have m4 : m.1 123 4 = n3 0 := by rw [← hm, fm_sI_ne (by omega), fm_sI_ne (by omega), fm_sI_ne (by omega)]; exact fm_sI_eq ⟨rfl, rfl⟩
  have m8 : m.1 123 8 = n3 0 := by rw [← hm, fm_sI_ne (by omega), fm_sI_ne (by omega)]; exact fm_sI_eq ⟨rfl, rfl⟩
  have m9 : m.1 123 9 = n3 0 := by rw [← hm, fm_sI_ne (by omega)]; exact fm_sI_eq ⟨rfl, rfl⟩
  have m10 : m.1 123 10 = n3 0 := by rw [← hm]; exact fm_sI_eq ⟨rfl, rfl⟩
  have tcm : TC B T m := tc.ch cm (by unfold cI; omega) (by unfold lcA; omega)
  obtain ⟨m1, r1, r2, r3, r4⟩ := c_tok (F := F) hT hB (Nat.zero_le T) tcm m2 m4 hF
  have e5 : f_X5_tell F μ = g_X5_tell F F 37 0 0 m1 := by
    unfold f_X5_tell
    rw [q1, Option.bind_some, Option.bind_some, Option.bind_some, Option.bind_some, Option.bind_some, Option.bind_some]
    dsimp only
    rw [hm, r1, Option.bind_some]
  have cc : Ch cI lcA μ m1 := cm.trans (lc_c (tk_lc r4))
  -- the reference begins
  generalize hn : fm_sI (fm_sI (fm_sI (fm_sI (fm_sI (fm_sI (fm_sI ν 232 15 0) 232 17 0) 232 7 0) 232 8 0) 232 9 0) 232 10 0) 232 11 (-1) = n
  have cn : Ch mI noA ν n := by rw [← hn]; exact (((((((Ch.refl _ _ ν).sI (by unfold mI; omega)).sI (by unfold mI; omega)).sI (by unfold mI; omega)).sI (by unfold mI; omega)).sI (by unfold mI; omega)).sI (by unfold mI; omega)).sI (by unfold mI; omega)
  obtain ⟨F1, rfl⟩ : ∃ F1, F = F1 + 38 + 1 := ⟨F - 39, by omega⟩
  obtain ⟨n1, s1, s2, s3⟩ := m_clr_l (F := F1 + 38 + 1) 38 0 F1 n (by omega) (fun t ht => absurd ht (Nat.not_lt_zero _))
  have gI : ∀ q j, n1.1 q j = n.1 q j := fun q j => s3.1 q j id
  have n15 : n1.1 232 15 = n3 0 := by rw [gI, ← hn, fm_sI_ne (by omega), fm_sI_ne (by omega), fm_sI_ne (by omega), fm_sI_ne (by omega), fm_sI_ne (by omega), fm_sI_ne (by omega)]; exact fm_sI_eq ⟨rfl, rfl⟩
  have n17 : n1.1 232 17 = n3 0 := by rw [gI, ← hn, fm_sI_ne (by omega), fm_sI_ne (by omega), fm_sI_ne (by omega), fm_sI_ne (by omega), fm_sI_ne (by omega)]; exact fm_sI_eq ⟨rfl, rfl⟩
  have n7 : n1.1 232 7 = n3 0 := by rw [gI, ← hn, fm_sI_ne (by omega), fm_sI_ne (by omega), fm_sI_ne (by omega), fm_sI_ne (by omega)]; exact fm_sI_eq ⟨rfl, rfl⟩
  have n8 : n1.1 232 8 = n3 0 := by rw [gI, ← hn, fm_sI_ne (by omega), fm_sI_ne (by omega), fm_sI_ne (by omega)]; exact fm_sI_eq ⟨rfl, rfl⟩
  have n9 : n1.1 232 9 = n3 0 := by rw [gI, ← hn, fm_sI_ne (by omega), fm_sI_ne (by omega)]; exact fm_sI_eq ⟨rfl, rfl⟩
  have n10 : n1.1 232 10 = n3 0 := by rw [gI, ← hn, fm_sI_ne (by omega)]; exact fm_sI_eq ⟨rfl, rfl⟩
  have n11 : n1.1 232 11 = n3 0 - n3 1 := by rw [gI, ← hn, fm_sI_eq ⟨rfl, rfl⟩]; rfl
  have cn1 : Ch mI mA ν n1 := (cn.weak (fun _ _ c => c) (fun _ _ c => False.elim c)).trans (s3.weak (fun _ _ c => False.elim c) (fun _ _ c => .inl c))
  have aq : AQ n1 a0 := by
    refine ⟨⟨n7, n8, fun i hi => absurd hi (Nat.not_lt_zero _)⟩, ⟨s2 23 (by omega), s2 24 (by omega), ?_, ?_, s2 37 (by omega)⟩, fun i hi => absurd hi (Nat.not_lt_zero _), fun i hi => absurd hi (Nat.not_lt_zero _), fun i hi => ?_, fun i hi => absurd hi (Nat.not_lt_zero _)⟩
    · rw [s2 25 (by omega)]; rfl
    · rw [s2 26 (by omega)]; rfl
    · rw [s2 (27 + i) (by omega), a0_p hi]; rfl
  have ml : ML n1 a0 0 false false 0 := ⟨aq, n11, ⟨0, by omega, n9, rfl, rfl⟩, n10, nc.ch cn1 (by unfold mA; omega) (by unfold mA; omega)⟩
  obtain ⟨n2, u1, u2, u3, u4⟩ := m_step (F := F1 + 38 + 1) hT hB (Nat.zero_le T) (tm.ch cn1 (by unfold mI; omega) (by unfold mA; omega)) n15 n17 hF
  have e9 : f_X9_text (F1 + 38 + 1) ν = g_X9_text (F1 + 38 + 1) F1 62 0 0 n2 := by
    unfold f_X9_text
    rw [Option.bind_some, Option.bind_some, Option.bind_some, Option.bind_some, Option.bind_some, Option.bind_some, Option.bind_some, hn]
    refine s1.trans ?_
    rw [u1, Option.bind_some]
  have cn2 : Ch mI mA ν n2 := cn1.trans (tk_m u4)
  rw [e5, e9]
  have tcm1 : TC B T m1 := tcm.ch r4 (by unfold tkI; omega) (fun _ => id)
  have tmn2 : TM B T n2 := (tm.ch cn1 (by unfold mI; omega) (by unfold mA; omega)).ch u4 (by unfold tkM; omega) (fun _ => id)
  by_cases cF : lxF B T 0
  · obtain ⟨x1, x2⟩ := r3 cF
    obtain ⟨y1, y2⟩ := u3 cF
    have d1 : Cs B T (.inr (1, lxS B T 0)) m1 := ⟨tcm1, x1, x2, (Nat.le_of_ble_eq_true rfl), (Nat.le_of_ble_eq_true rfl), (by show lxS B T 0 ≤ 160; omega)⟩
    have d2 : Ms B T (.inr (1, lxS B T 0)) n2 := ⟨tmn2, y1, y2, (Nat.le_of_ble_eq_true rfl), (Nat.le_of_ble_eq_true rfl), (by show lxS B T 0 ≤ 160; omega)⟩
    obtain ⟨g', hg'⟩ : ∃ g', F1 = g' + 1 := ⟨F1 - 1, by omega⟩
    rw [c_tl_dead d1, show g_X9_text (F1 + 38 + 1) F1 62 0 0 n2 = g_X9_text (F1 + 38 + 1) (g' + 1) 62 0 0 n2 by rw [← hg'], m_tx_dead d2]
    exact .inl ⟨_, m1, n2, _, rfl, rfl, d1, d2, cc, cn2⟩
  · have cl : CL m1 a0 false false 0 := ⟨((q2.ch cm0 (by omega) (fun _ _ _ _ => id)).tk r4 (by omega)), by rw [r4.1 123 8 (by unfold tkI; omega)]; exact m8, by rw [r4.1 123 9 (by unfold tkI; omega)]; exact m9, by rw [r4.1 123 10 (by unfold tkI; omega)]; exact m10⟩
    have ih := jl_loop (F := F1 + 38 + 1) hT hB hF (T + 1) 0 0 0 (F1 + 38 + 1) F1 m1 n2 a0 0 false false 0 (by omega) (by omega) (by omega) (by omega) (by omega) (r2 cF) (u2 cF) cl (ml.tk u4) wt_0
    rw [← n3_k0] at ih
    rcases ih with ⟨x, z1, z2, d, y1, y2, y3, y4, y5, y6⟩ | ⟨c', z1, z2, a2, f2, y1, y2, y3, y4, y5, y6, y7, y8, y9⟩
    · exact .inl ⟨x, z1, z2, d, y1, y2, y3, y4, cc.trans y5, cn2.trans y6⟩
    · exact .inr ⟨c', z1, z2, a2, f2, y1, y2, y3, y4, y5, y6, y7, cc.trans y8, cn2.trans y9⟩
end VS73
