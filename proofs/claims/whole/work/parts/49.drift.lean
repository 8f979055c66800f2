/-! payments by a seed -/
theorem bvA (v : BitVec 32) : (v.sshiftRight 16) &&& 32767#32 = (v >>> 16) &&& 32767#32 := by
  apply BitVec.eq_of_getLsbD_eq
  intro i hi
  simp only [BitVec.getLsbD_and, BitVec.getLsbD_sshiftRight, BitVec.getLsbD_ushiftRight]
  by_cases c : i < 15
  · simp [show 16 + i < 32 by omega, show ¬ (32 ≤ i) by omega]
  · have h : ∀ i : Fin 32, 15 ≤ i.val → (32767#32).getLsbD i.val = false := by decide
    rw [h ⟨i, hi⟩ (by show 15 ≤ i; omega), Bool.and_false, Bool.and_false]
theorem bvB (v : BitVec 32) : (v >>> 16) &&& 32767#32 = BitVec.ofNat 32 (v.toNat / 65536 % 32768) := by
  apply BitVec.eq_of_toNat_eq
  rw [BitVec.toNat_and, BitVec.toNat_ushiftRight, BitVec.toNat_ofNat, BitVec.toNat_ofNat, Nat.shiftRight_eq_div_pow, show 32767 % 2 ^ 32 = 2 ^ 15 - 1 by decide, Nat.and_two_pow_sub_one_eq_mod]
  omega
def seedB (x : Int32) : Nat := x.toBitVec.toNat / 65536 % 32768
def nextS (x : Int32) : Int32 := (x * 1103515245) + 12345
theorem seedB_lt (x : Int32) : seedB x < 32768 := Nat.mod_lt _ (by decide)
theorem seed8 (x : Int32) : ((x.toUInt32 >>> ((16 : Int32).toUInt32 &&& Int32.toUInt32 31)).toInt32 &&& 32767) = n3 (seedB x) := by
  apply Int32.toBitVec_inj.mp
  exact bvB x.toBitVec
theorem seed9 (x : Int32) : ((x >>> ((16 : Int32) &&& 31)) &&& 32767) = n3 (seedB x) := by
  apply Int32.toBitVec_inj.mp
  rw [Int32.toBitVec_and, Int32.toBitVec_shiftRight, show ((16 : Int32) &&& 31).toBitVec.smod 32 = 16#32 by decide]
  exact (bvA x.toBitVec).trans (bvB x.toBitVec)
theorem n3_rem {m d : Nat} (hm : m < 2147483648) (hd : d < 2147483648) : n3 m - n3 m / n3 d * n3 d = n3 (m % d) := by
  rw [n3_div hm hd, n3_mul, n3_sub (Nat.div_mul_le_self m d)]
  congr 1
  have := Nat.div_add_mod m d
  rw [Nat.mul_comm] at this
  omega
def dr1 (nx : Int32 → Int32) (sb : Int32 → Nat) (a : Nat → Nat) (z : (Nat → Nat) × Nat × Int32) : (Nat → Nat) × Nat × Int32 :=
  if z.1 (18 + sb (nx z.2.2) % a 23) = sb (nx (nx z.2.2)) % a 38 then (pass z.1 1, z.2.1, nx (nx z.2.2)) else (hand z.1 (sb (nx z.2.2) % a 23) (sb (nx (nx z.2.2)) % a 38), z.2.1 + pass z.1 (betw z.1 (z.1 (18 + sb (nx z.2.2) % a 23)) (sb (nx (nx z.2.2)) % a 38)) (13 + sb (nx z.2.2) % a 23), nx (nx z.2.2))
def drN (nx : Int32 → Int32) (sb : Int32 → Nat) (a : Nat → Nat) : Nat → (Nat → Nat) × Nat × Int32 → (Nat → Nat) × Nat × Int32
  | 0, z => z
  | k + 1, z => drN nx sb a k (dr1 nx sb a z)
theorem hand_n {a : Nat → Nat} {s p k : Nat} (wf : WF a) (hs : s < a 23) (hk : k < 13 ∨ (23 ≤ k ∧ k < 33) ∨ 38 ≤ k) : hand a s p k = a k := by
  have b := wf.1
  unfold hand
  rw [lessO_n (by omega) (fun i hi => by have := fo_lt _ _ _ hi; omega), st_ne (by omega), pass_n (by omega) (by omega)]
theorem n3_k170 : (170 : Int32) = n3 170 := n3_lit 170
theorem n3_k152 : (152 : Int32) = n3 152 := n3_lit 152
theorem n3_k60 : (60 : Int32) = n3 60 := n3_lit 60
theorem n3_k2 : (2 : Int32) = n3 2 := n3_lit 2
theorem n3_k0 : (0 : Int32) = n3 0 := n3_lit 0
section VS49
variable {F : Nat} {μ ν : fm_M} {a : Nat → Nat} {w : Nat} {nx : Int32 → Int32} {sb : Int32 → Nat}
theorem c_next (x : Int32) : f_X8_nextSeed F x μ = some (nextS x, μ) := rfl
theorem c_bits (x : Int32) : f_X8_seedBits F x μ = some (n3 (seedB x), μ) := by
  unfold f_X8_seedBits
  rw [seed8]
theorem c_drift_l (hnx : ∀ x μ, f_X8_nextSeed F x μ = some (nx x, μ)) (hsb : ∀ x μ, f_X8_seedBits F x μ = some (n3 (sb x), μ)) (hsl : ∀ x, sb x < 32768) (wf : WF a) (hs : 0 < a 23) (hq : 0 < a 38) {n j : Nat} (hn : n ≤ 60) (hj : j ≤ 1) (hF : 100 < F) : ∀ (k i m : Nat) (μ : fm_M) (z : (Nat → Nat) × Nat × Int32), i + k = n → k < m → AW μ 101 a → AW μ 111 z.1 → WF z.1 → z.1 23 = a 23 → z.1 38 = a 38 → ∃ ν, g_X8_drift F m 64 (n3 n) (n3 j) (n3 z.2.1) z.2.2 (n3 i) μ = some (if j = 0 then n3 (drN nx sb a k z).2.1 else n3 ((drN nx sb a k z).1 37) - n3 (a 37), ν) ∧ Fr 111 121 μ ν
  | 0, i, m + 1, μ, z, hk, _, hw, hz, wz, e1, e2 => by
    obtain rfl : i = n := by omega
    refine ⟨μ, ?_, Fr.refl _ _ μ⟩
    have h15 := hw.z.1.2.2.2.2.2.2
    have g15 := hz.1.2.2.2.2.2.2
    rw [g_X8_drift, if_pos rfl, b_X8_drift_64, if_pos (by rw [n3_le (by omega) (by omega)]; omega), drN]
    by_cases c : j = 0
    · simp (disch := omega) only [↓reduceIte, Option.bind_some, n3_lit, n3_cl, n3_in, n3_ltT, n3_ltF, n3_leT, n3_leF, n3_eqT, n3_eqF, n3_add, n3_sub, not_true_eq_false, not_false_eq_true, true_or, or_true, false_or, or_false, Nat.zero_add, Nat.add_zero, nn_lt, nn_le, nn_gt, nn_ge, nn_eq, nn_qe, c]
    · simp (disch := omega) only [↓reduceIte, Option.bind_some, n3_lit, n3_cl, n3_in, n3_ltT, n3_ltF, n3_leT, n3_leF, n3_eqT, n3_eqF, n3_add, n3_sub, not_true_eq_false, not_false_eq_true, true_or, or_true, false_or, or_false, Nat.zero_add, Nat.add_zero, nn_lt, nn_le, nn_gt, nn_ge, nn_eq, nn_qe, if_neg c, h15, g15]
  | k + 1, i, m + 1, μ, z, hk, hm, hw, hz, wz, e1, e2 => by
    have h3 := hw.z.1.2.1
    have h0 := hw.z.1.1
    have b := wf.1
    generalize hx1 : nx z.2.2 = x1
    generalize hx2 : nx x1 = x2
    have s1 : sb x1 % a 23 < a 23 := Nat.mod_lt _ hs
    have s2 : sb x2 % a 38 < a 38 := Nat.mod_lt _ hq
    have l1 := hsl x1
    have l2 := hsl x2
    have eo : μ.2.1 116 (sb x1 % a 23) = n3 (z.1 (18 + sb x1 % a 23)) := (hz.2.2.1 _ (by omega)).2.2
    have wo := wz.2.2.1 (sb x1 % a 23) (by omega)
    have start : g_X8_drift F (m + 1) 64 (n3 n) (n3 j) (n3 z.2.1) z.2.2 (n3 i) μ = (if ¬ n3 (z.1 (18 + sb x1 % a 23)) = n3 (sb x2 % a 38) then (Option.bind (f_X7_handOver F 111 (n3 (sb x1 % a 23)) (n3 (sb x2 % a 38)) μ) (fun q15 => g_X8_drift F m 64 (n3 n) (n3 j) (n3 z.2.1 + q15.1) x2 (n3 i + 1) q15.2)) else (Option.bind (f_X7_letPass F 111 1 μ) (fun q17 => g_X8_drift F m 64 (n3 n) (n3 j) (n3 z.2.1) x2 (n3 i + 1) q17.2))) := by
      rw [g_X8_drift, if_pos rfl, b_X8_drift_64, if_neg (by rw [n3_le (by omega) (by omega)]; omega), hnx, Option.bind_some, hx1, hsb, Option.bind_some]
      dsimp only
      rw [h3, if_pos (by rw [n3_lit, n3_eq (by omega) (by omega)]; omega), hnx, Option.bind_some]
      dsimp only
      rw [hx2, hsb, Option.bind_some]
      dsimp only
      rw [h0, if_pos (by rw [n3_lit, n3_eq (by omega) (by omega)]; omega), n3_rem (by omega) (by omega), n3_rem (by omega) (by omega), if_pos (n3_in (by omega) (by omega)), n3_cl (by omega), eo]
    by_cases c : z.1 (18 + sb x1 % a 23) = sb x2 % a 38
    · obtain ⟨μ1, q1, q2, q3⟩ := c_pass (F := F) hz wz (n := 1) (by omega) (by omega) (by omega)
      obtain ⟨ν, r1, r2⟩ := c_drift_l hnx hsb hsl wf hs hq hn hj hF k (i + 1) m μ1 (pass z.1 1, z.2.1, x2) (by omega) (by omega) (hw.fr q3 (by omega)) q2 (pass_wf wz 1) ((pass_n (by omega) (by omega)).trans e1) ((pass_n (by omega) (by omega)).trans e2)
      refine ⟨ν, ?_, (q3.weak (by omega) (by omega)).trans r2⟩
      have ed : dr1 nx sb a z = (pass z.1 1, z.2.1, x2) := by
        unfold dr1
        rw [hx1, hx2, if_pos c]
      have q1 : f_X7_letPass F 111 1 μ = some ((), μ1) := by rw [n3_one]; exact q1
      rw [start, if_neg (by rw [c]; exact fun c => c rfl), q1, Option.bind_some, n3_one, n3_add, drN, ed]
      exact r1
    · obtain ⟨μ1, q1, q2, q3⟩ := c_hand (F := F) (w := 111) (by decide) hz wz (s := sb x1 % a 23) (p := sb x2 % a 38) (by omega) (by omega) (by omega)
      obtain ⟨ν, r1, r2⟩ := c_drift_l hnx hsb hsl wf hs hq hn hj hF k (i + 1) m μ1 (hand z.1 (sb x1 % a 23) (sb x2 % a 38), z.2.1 + pass z.1 (betw z.1 (z.1 (18 + sb x1 % a 23)) (sb x2 % a 38)) (13 + sb x1 % a 23), x2) (by omega) (by omega) (hw.fr q3 (by omega)) q2 (hand_wf wz (by omega) (by omega)) ((hand_n wz (by omega) (by omega)).trans e1) ((hand_n wz (by omega) (by omega)).trans e2)
      refine ⟨ν, ?_, (q3.weak (by omega) (by omega)).trans r2⟩
      have ed : dr1 nx sb a z = (hand z.1 (sb x1 % a 23) (sb x2 % a 38), z.2.1 + pass z.1 (betw z.1 (z.1 (18 + sb x1 % a 23)) (sb x2 % a 38)) (13 + sb x1 % a 23), x2) := by
        unfold dr1
        rw [hx1, hx2, if_neg c]
      rw [start, if_pos (by rw [n3_eq (by omega) (by omega)]; exact c), q1, Option.bind_some]
      dsimp only
      rw [n3_add, n3_one, n3_add, drN, ed]
      exact r1
theorem m_draws {d : Nat} (h0 : 0 < d) (hd : d < 1000) : f_X9_draws F (n3 d) μ = some (n3 (seedB (nextS (μ.1 232 34)) % d), fm_sI μ 232 34 (nextS (μ.1 232 34))) := by
  unfold f_X9_draws
  rw [Option.bind_some, if_pos (by rw [n3_lit, n3_eq (by omega) (by omega)]; omega), fm_sI_eq ⟨rfl, rfl⟩, seed9]
  have l1 := seedB_lt (nextS (μ.1 232 34))
  have : n3 (seedB ((μ.1 232 34 * 1103515245) + 12345)) = n3 (seedB (nextS (μ.1 232 34))) := rfl
  rw [this, n3_rem (by omega) (by omega)]
  rfl
theorem m_drift_l (hdr : ∀ d μ, 0 < d → d < 1000 → f_X9_draws F (n3 d) μ = some (n3 (sb (nx (μ.1 232 34)) % d), fm_sI μ 232 34 (nx (μ.1 232 34)))) (hsl : ∀ x, sb x < 32768) (wf : WF a) (hs : 0 < a 23) (hq : 0 < a 38) {n j : Nat} (hn : n ≤ 60) (hj : j ≤ 1) (hF : 100 < F) : ∀ (k i m : Nat) (μ : fm_M) (z : (Nat → Nat) × Nat × Int32), i + k = n → k < m → AP μ 0 a → AP μ 152 z.1 → WF z.1 → z.1 23 = a 23 → z.1 38 = a 38 → μ.1 232 34 = z.2.2 → ∃ ν, g_X9_drift F m 56 (n3 n) (n3 j) (n3 z.2.1) (n3 i) μ = some (if j = 0 then n3 (drN nx sb a k z).2.1 else n3 ((drN nx sb a k z).1 37) - n3 (a 37), ν) ∧ Ch (fun q j => q = 232 ∧ j = 34) (fun q j => q = 233 ∧ 152 ≤ j ∧ j < 190) μ ν
  | 0, i, m + 1, μ, z, hk, _, hw, hz, wz, e1, e2, _ => by
    obtain rfl : i = n := by omega
    refine ⟨μ, ?_, Ch.refl _ _ μ⟩
    have h15 := hw.z.2.1.2.2.2.2
    have g15 : μ.2.1 233 189 = n3 (z.1 37) := hz.2.1.2.2.2.2
    rw [g_X9_drift, if_pos rfl, b_X9_drift_56, if_pos (by rw [n3_le (by omega) (by omega)]; omega), drN]
    by_cases c : j = 0
    · simp (disch := omega) only [↓reduceIte, Option.bind_some, n3_lit, n3_cl, n3_in, n3_ltT, n3_ltF, n3_leT, n3_leF, n3_eqT, n3_eqF, n3_add, n3_sub, not_true_eq_false, not_false_eq_true, true_or, or_true, false_or, or_false, Nat.zero_add, Nat.add_zero, nn_lt, nn_le, nn_gt, nn_ge, nn_eq, nn_qe, c]
    · simp (disch := omega) only [↓reduceIte, Option.bind_some, n3_lit, n3_cl, n3_in, n3_ltT, n3_ltF, n3_leT, n3_leF, n3_eqT, n3_eqF, n3_add, n3_sub, not_true_eq_false, not_false_eq_true, true_or, or_true, false_or, or_false, Nat.zero_add, Nat.add_zero, nn_lt, nn_le, nn_gt, nn_ge, nn_eq, nn_qe, if_neg c, h15, g15]
  | k + 1, i, m + 1, μ, z, hk, hm, hw, hz, wz, e1, e2, e3 => by
    have h3 := hw.z.2.1.1
    have h0 := hw.z.1.1
    have b := wf.1
    generalize hx1 : nx z.2.2 = x1
    generalize hx2 : nx x1 = x2
    have s1 : sb x1 % a 23 < a 23 := Nat.mod_lt _ hs
    have s2 : sb x2 % a 38 < a 38 := Nat.mod_lt _ hq
    have l1 := hsl x1
    have l2 := hsl x2
    have eo : μ.2.1 233 (152 + 18 + sb x1 % a 23) = n3 (z.1 (18 + sb x1 % a 23)) := (hz.2.2.2.1 _ (by omega)).2.2
    have wo := wz.2.2.1 (sb x1 % a 23) (by omega)
    generalize hμ : fm_sI (fm_sI μ 232 34 x1) 232 34 x2 = μ0
    have c0 : Ch (fun q j => q = 232 ∧ j = 34) (fun q j => False) μ μ0 := by rw [← hμ]; exact ((Ch.refl _ _ μ).sI (by omega)).sI (by omega)
    have start : g_X9_drift F (m + 1) 56 (n3 n) (n3 j) (n3 z.2.1) (n3 i) μ = (if ¬ n3 (z.1 (18 + sb x1 % a 23)) = n3 (sb x2 % a 38) then (Option.bind (f_X9_paysOn F (n3 152) (n3 (sb x1 % a 23)) (n3 (sb x2 % a 38)) μ0) (fun q15 => g_X9_drift F m 56 (n3 n) (n3 j) (n3 z.2.1 + q15.1) (n3 i + n3 1) q15.2)) else (Option.bind (f_X9_goesOn F (n3 152) (n3 1) μ0) (fun q17 => g_X9_drift F m 56 (n3 n) (n3 j) (n3 z.2.1) (n3 i + n3 1) q17.2))) := by
      rw [g_X9_drift, if_pos rfl, b_X9_drift_56, if_neg (by rw [n3_le (by omega) (by omega)]; omega), if_pos (by decide), show (23 : Int32).toNatClampNeg = 23 from rfl, h3, hdr _ _ hs (by omega), Option.bind_some]
      dsimp only
      rw [fm_sI_ne (by omega), h0, hdr _ _ hq (by omega), Option.bind_some, fm_sI_eq ⟨rfl, rfl⟩, e3, hx1, hx2, hμ]
      dsimp only
      rw [n3_k170, n3_add, if_pos (n3_in (by omega) (by omega)), n3_cl (by omega), c0.2.1 233 _ id, eo, n3_k152, n3_one]
    have hw0 := hw.ch wf c0 (by omega) (by omega) (fun _ => id) (fun _ => id) (fun _ _ _ => id)
    have hz0 := hz.ch wz c0 (by omega) (by omega) (fun _ => id) (fun _ => id) (fun _ _ _ => id)
    have e30 : μ0.1 232 34 = x2 := by rw [← hμ]; exact fm_sI_eq ⟨rfl, rfl⟩
    by_cases c : z.1 (18 + sb x1 % a 23) = sb x2 % a 38
    · obtain ⟨μ1, q1, q2, q3⟩ := m_pass (F := F) hz0 wz (by omega) (n := 1) (by omega) (by omega) (by omega)
      obtain ⟨ν, r1, r2⟩ := m_drift_l hdr hsl wf hs hq hn hj hF k (i + 1) m μ1 (pass z.1 1, z.2.1, x2) (by omega) (by omega) (hw0.fm wf q3 (by omega)) q2 (pass_wf wz 1) ((pass_n (by omega) (by omega)).trans e1) ((pass_n (by omega) (by omega)).trans e2) (by rw [q3.1]; exact e30)
      refine ⟨ν, ?_, ((c0.weak (fun _ _ c => c) (fun _ _ c => False.elim c)).trans (q3.ch.weak (fun _ _ c => False.elim c) (fun q j c => by omega))).trans r2⟩
      have ed : dr1 nx sb a z = (pass z.1 1, z.2.1, x2) := by
        unfold dr1
        rw [hx1, hx2, if_pos c]
      rw [start, if_neg (by rw [c]; exact fun c => c rfl), q1, Option.bind_some, n3_add, drN, ed]
      exact r1
    · obtain ⟨μ1, q1, q2, q3⟩ := m_hand (F := F) hz0 wz (by omega) (s := sb x1 % a 23) (p := sb x2 % a 38) (by omega) (by omega) (by omega)
      obtain ⟨ν, r1, r2⟩ := m_drift_l hdr hsl wf hs hq hn hj hF k (i + 1) m μ1 (hand z.1 (sb x1 % a 23) (sb x2 % a 38), z.2.1 + pass z.1 (betw z.1 (z.1 (18 + sb x1 % a 23)) (sb x2 % a 38)) (13 + sb x1 % a 23), x2) (by omega) (by omega) (hw0.fm wf q3 (by omega)) q2 (hand_wf wz (by omega) (by omega)) ((hand_n wz (by omega) (by omega)).trans e1) ((hand_n wz (by omega) (by omega)).trans e2) (by rw [q3.1]; exact e30)
      refine ⟨ν, ?_, ((c0.weak (fun _ _ c => c) (fun _ _ c => False.elim c)).trans (q3.ch.weak (fun _ _ c => False.elim c) (fun q j c => by omega))).trans r2⟩
      have ed : dr1 nx sb a z = (hand z.1 (sb x1 % a 23) (sb x2 % a 38), z.2.1 + pass z.1 (betw z.1 (z.1 (18 + sb x1 % a 23)) (sb x2 % a 38)) (13 + sb x1 % a 23), x2) := by
        unfold dr1
        rw [hx1, hx2, if_neg c]
      rw [start, if_pos (by rw [n3_eq (by omega) (by omega)]; exact c), q1, Option.bind_some]
      dsimp only
      rw [n3_add, n3_add, drN, ed]
      exact r1
theorem drift_ok (hnx : ∀ x μ, f_X8_nextSeed F x μ = some (nx x, μ)) (hsb : ∀ x μ, f_X8_seedBits F x μ = some (n3 (sb x), μ)) (hdr : ∀ d μ, 0 < d → d < 1000 → f_X9_draws F (n3 d) μ = some (n3 (sb (nx (μ.1 232 34)) % d), fm_sI μ 232 34 (nx (μ.1 232 34)))) (hsl : ∀ x, sb x < 32768) (h : R μ) (hF : 100 < F) (x y z : Int32) : OK2 (f_X8_drift F x y z) (f_X9_drift F x y z) μ := by
  obtain ⟨a, wf, bm, hw, hp⟩ := h.1
  have b := wf.1
  have h3 := hw.z.1.2.1
  have h0 := hw.z.1.1
  have k23 := hp.z.2.1.1
  have bad : f_X8_isIn F y (n3 1) (n3 60) μ = some (n3 0, μ) → f_X9_in F y.toInt64 (Int64.ofNat 1) (Int64.ofNat 60) μ = some (n3 0, μ) → OK2 (f_X8_drift F x y z) (f_X9_drift F x y z) μ := fun c1 c2 => by
    refine OK2.same h (v := -n3 1) ?_ ?_
    · unfold f_X8_drift
      rw [n3_one, n3_k60, c1, Option.bind_some]
      exact if_pos rfl
    · unfold f_X9_drift
      rw [c2, Option.bind_some]
      exact (if_pos rfl).trans (by rw [n3_one])
  rcases n3_cases y 61 (by decide) with ⟨n, hn, rfl⟩ | hy
  · by_cases n0 : n = 0
    · exact bad (c_isInF (by omega) (by omega) (by omega) (by omega)) (m_inF (by omega) (by omega) (by omega) (by omega))
    · have g8 : f_X8_isIn F (n3 n) (n3 1) (n3 60) μ = some (n3 1, μ) := c_isInT (by omega) (by omega) (by omega)
      have g9 : ∀ ν, f_X9_in F (n3 n).toInt64 (Int64.ofNat 1) (Int64.ofNat 60) ν = some (n3 1, ν) := fun ν => m_inT (by omega) (by omega) (by omega)
      rcases n3_cases z 2 (by decide) with ⟨j, hj, rfl⟩ | hz
      · have u8 : f_X8_isIn F (n3 j) (n3 0) (n3 1) μ = some (n3 1, μ) := c_isInT (by omega) (by omega) (by omega)
        have u9 : ∀ ν, f_X9_in F (n3 j).toInt64 (Int64.ofNat 0) (Int64.ofNat 1) ν = some (n3 1, ν) := fun ν => m_inT (by omega) (by omega) (by omega)
        have t8 : f_X8_drift F x (n3 n) (n3 j) μ = (if n3 (a 23) ≤ n3 0 then some (-n3 2, μ) else (if n3 0 < n3 (a 38) then (Option.bind (f_X7_copyFrom F 111 101 μ) (fun q27 => g_X8_drift F F 64 (n3 n) (n3 j) (n3 0) x (n3 0) q27.2)) else some (-n3 2, μ))) := by
          unfold f_X8_drift
          rw [n3_one, n3_k60, g8, Option.bind_some, if_neg (show ¬ n3 1 = 0 by decide), n3_k0, u8, Option.bind_some, if_pos (show ¬ n3 1 = n3 0 by decide)]
          dsimp only
          rw [h3, h0, n3_k2]
        have t9 : ∀ ν, ν.2.1 233 23 = n3 (a 23) → f_X9_drift F x (n3 n) (n3 j) ν = (if ¬ n3 (a 23) = n3 0 then (Option.bind (f_X9_copies F (n3 0) (n3 152) ν) (fun q24 => g_X9_drift F F 56 (n3 n) (n3 j) (n3 0) (n3 0) (fm_sI q24.2 232 34 x))) else some (-n3 2, ν)) := by
          intro ν hν
          unfold f_X9_drift
          rw [g9, Option.bind_some, if_neg (show ¬ n3 1 = 0 by decide), u9, Option.bind_some, if_pos (show ¬ n3 1 = 0 by decide), if_pos (by decide)]
          dsimp only
          rw [show (23 : Int32).toNatClampNeg = 23 from rfl, hν, n3_k0, n3_k152, n3_k2]
          simp only [Option.bind_some]
        by_cases s0 : a 23 = 0
        · refine OK2.same h (v := -n3 2) ?_ ?_
          · rw [t8, s0]; exact if_pos (by decide)
          · rw [t9 μ k23, s0]; exact if_neg (fun c => c rfl)
        · have p0 : 0 < a 38 := by have := (wf.2.2.1 0 (by omega)).2.2; omega
          obtain ⟨μ1, q1, q2, q3⟩ := c_copy (F := F) (μ := μ) (w := 111) (w2 := 101) (by omega)
          obtain ⟨μ2, r1, r2⟩ := c_drift_l (F := F) hnx hsb hsl wf (by omega) p0 (n := n) (j := j) (by omega) (by omega) hF n 0 F μ1 (a, 0, x) (by omega) (by omega) (hw.fr q3 (by omega)) (q2 a hw wf) wf rfl rfl
          have f2 : Fr 111 121 μ μ2 := (q3.weak (by omega) (by omega)).trans r2
          have hp2 := hp.fr f2 (by omega)
          obtain ⟨μ3, v1, v2, v3⟩ := m_copy (F := F) (μ := μ2) (P := 152) (Q := 0) (by omega) (by omega) (by omega) (by omega)
          have c4 : Ch (fun q j => q = 232 ∧ j = 34) (fun q j => q = 233 ∧ 152 ≤ j ∧ j < 190) μ3 (fm_sI μ3 232 34 x) := (Ch.refl _ _ μ3).sI (by omega)
          have hp3 := hp2.fm wf v3 (by omega)
          have hz3 := v2 a hp2 wf
          obtain ⟨μ4, w1, w2⟩ := m_drift_l (F := F) hdr hsl wf (by omega) p0 (n := n) (j := j) (by omega) (by omega) hF n 0 F (fm_sI μ3 232 34 x) (a, 0, x) (by omega) (by omega) (hp3.agree wf rfl rfl rfl rfl (fun _ _ _ => rfl)) (hz3.agree wf rfl rfl rfl rfl (fun _ _ _ => rfl)) wf rfl rfl (fm_sI_eq ⟨rfl, rfl⟩)
          refine ⟨if j = 0 then n3 (drN nx sb a n (a, 0, x)).2.1 else n3 ((drN nx sb a n (a, 0, x)).1 37) - n3 (a 37), μ2, μ4, ?_, ?_, ?_⟩
          · rw [t8, if_neg (by rw [n3_le (by omega) (by omega)]; omega), if_pos (by rw [n3_lt (by omega) (by omega)]; omega), q1, Option.bind_some]
            exact r1
          · rw [t9 μ2 (by rw [(f2.1 233 (by omega)).2]; exact k23), if_pos (by rw [n3_eq (by omega) (by omega)]; omega), v1, Option.bind_some]
            exact w1
          · exact h.free (((f2.ch.weak (fun q j c => by omega) (fun q j c => by omega)).trans (v3.ch.weak (fun _ _ c => False.elim c) (fun q j c => by omega))).trans ((c4.trans w2).weak (fun q j c => by omega) (fun q j c => by omega)))
      · refine OK2.same h (v := -n3 1) ?_ ?_
        · unfold f_X8_drift
          rw [n3_one, n3_k60, g8, Option.bind_some, if_neg (show ¬ n3 1 = 0 by decide), n3_k0, c_isInN hz (by omega), Option.bind_some]
          exact if_neg (fun c => c rfl)
        · unfold f_X9_drift
          rw [g9, Option.bind_some, if_neg (show ¬ n3 1 = 0 by decide), m_inO hz (by omega) (by omega), Option.bind_some]
          exact (if_neg (fun c => c rfl)).trans (by rw [n3_one])
  · exact bad (c_isInO hy (by omega) (by omega)) (m_inO hy (by omega) (by omega))
theorem ok_drift (h : R μ) (hF : 100 < F) (x y z : Int32) : OK2 (f_X8_drift F x y z) (f_X9_drift F x y z) μ :=
  drift_ok (nx := nextS) (sb := seedB) (fun x μ => c_next x) (fun x μ => c_bits x) (fun d μ h0 hd => m_draws h0 hd) seedB_lt h hF x y z
end VS49
