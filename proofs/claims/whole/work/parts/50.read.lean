/-! payments read from a sheet -/
theorem n3_k1 : (1 : Int32) = n3 1 := n3_lit 1
theorem n3_k3 : (3 : Int32) = n3 3 := n3_lit 3
theorem n3_k4 : (4 : Int32) = n3 4 := n3_lit 4
theorem n3_k5 : (5 : Int32) = n3 5 := n3_lit 5
theorem n3_k8 : (8 : Int32) = n3 8 := n3_lit 8
theorem n3_k10 : (10 : Int32) = n3 10 := n3_lit 10
theorem n3_k13 : (13 : Int32) = n3 13 := n3_lit 13
theorem n3_k18 : (18 : Int32) = n3 18 := n3_lit 18
theorem n3_k20 : (20 : Int32) = n3 20 := n3_lit 20
theorem n3_k25 : (25 : Int32) = n3 25 := n3_lit 25
theorem n3_k40 : (40 : Int32) = n3 40 := n3_lit 40
theorem n3_k100 : (100 : Int32) = n3 100 := n3_lit 100
theorem n3_k114 : (114 : Int32) = n3 114 := n3_lit 114
section VS50
variable {F : Nat} {μ ν : fm_M} {a : Nat → Nat} {w : Nat}
theorem l_two {f : Int32} {i : Nat} (hi : i < 1000) : (f.toInt64 + (Int64.ofNat 2 * (n3 i).toInt64)).toInt = f.toInt + 2 * i := by
  have h1 := f.toInt_lt
  have h2 := f.le_toInt
  have e : (Int64.ofNat 2 * (n3 i).toInt64).toInt = 2 * i := by
    rw [Int64.toInt_mul, l_of (by omega), Int32.toInt_toInt64, n3_int (by omega), Int.bmod_eq_of_le (by omega) (by omega)]
    rfl
  rw [Int64.toInt_add, Int32.toInt_toInt64, e, Int.bmod_eq_of_le (by omega) (by omega)]
theorem l_n3 {x : Int64} {j : Nat} (h : x.toInt = (j : Int)) (hj : j < 1000) : x.toInt32 = n3 j := by
  apply Int32.toInt_inj.mp
  rw [Int64.toInt_toInt32, h, n3_int (by omega), Int.bmod_eq_of_le (by omega) (by omega)]
theorem f_eq {f : Int32} {j d : Nat} (h : f.toInt + (d : Int) = (j : Int)) (hj : j < 1000) (hd : d < 1000) : f = n3 j - n3 d := by
  apply Int32.toInt_inj.mp
  rw [Int32.toInt_sub, n3_int (by omega), n3_int (by omega), Int.bmod_eq_of_le (by omega) (by omega)]
  omega
/-- the sheet k as both have it: no lane, or a lane, a length and cells -/
def ShC (μ : fm_M) (k l n : Nat) (c : Nat → Int32) : Prop := μ.1 (224 + 2 * k) 0 = n3 l ∧ μ.1 (224 + 2 * k) 1 = n3 n ∧ ∀ j, j < 40 → μ.2.1 (225 + 2 * k) j = c j
def ShM (μ : fm_M) (k l n : Nat) (c : Nat → Int32) : Prop := μ.2.1 250 k = n3 l ∧ μ.2.1 251 k = n3 n ∧ ∀ j, j < 40 → μ.2.1 252 (40 * k + j) = c j
theorem ShC.fr {k l n : Nat} {c : Nat → Int32} (h : ShC μ k l n c) (hf : Fr 111 121 μ ν) (hk : k < 4) : ShC ν k l n c := by
  unfold ShC
  rw [(hf.1 (224 + 2 * k) (by omega)).1, (hf.1 (225 + 2 * k) (by omega)).2]
  exact h
theorem ShM.fm {k l n : Nat} {c : Nat → Int32} (h : ShM μ k l n c) (hf : FM 0 μ ν) : ShM ν k l n c := by
  unfold ShM
  rw [hf.2.2.1 250 (by omega), hf.2.2.1 251 (by omega), hf.2.2.1 252 (by omega)]
  exact h
/-- the class's loop at its end -/
theorem c_read_end {b : Nat → Nat} {N i fl k L r m : Nat} {f : Int32} (hb : AW μ 111 b) (wb : WF b) (hr : N ≤ i ∨ 0 < fl) (hN : N < 1000) (hi : i < 1000) (hfl : fl < 1000) : ∃ ν, g_X8_read F (m + 1) 55 (n3 L) f (n3 N) (224 + 2 * k) (n3 r) (n3 fl) (n3 i) μ = some (n3 r, ν) ∧ AW ν 101 b ∧ ν.1 100 12 = n3 fl ∧ Ch (fun q j => (q = 100 ∧ j = 12) ∨ (101 ≤ q ∧ q < 111)) (fun q _ => 101 ≤ q ∧ q < 111) μ ν := by
  obtain ⟨μ1, q1, q2, q3⟩ := c_copy (F := F) (μ := μ) (w := 101) (w2 := 111) (by omega)
  have w1 := q2 b hb wb
  refine ⟨fm_sI μ1 100 12 (n3 fl), ?_, w1.fr ((Fr.refl 100 101 μ1).sI (by omega)) (by omega), fm_sI_eq ⟨rfl, rfl⟩, (q3.ch.weak (fun q j c => by omega) (fun q j c => by omega)).sI (by omega)⟩
  rw [g_X8_read, if_pos rfl, b_X8_read_55]
  by_cases c : N ≤ i
  · rw [if_pos (by rw [n3_le (by omega) (by omega)]; exact c), q1, Option.bind_some, Option.bind_some]
  · rw [if_neg (by rw [n3_le (by omega) (by omega)]; exact c), if_pos (by rw [n3_k0, n3_eq (by omega) (by omega)]; omega), q1, Option.bind_some, Option.bind_some]
theorem m_read_end {N i fl k L r m : Nat} {f : Int32} (hr : 2 * N ≤ i ∨ 0 < fl) (hN : N < 1000) (hi : i < 3000) (hfl : fl < 1000) : g_X9_read F (m + 1) 55 (n3 k) (n3 L) f (n3 N) (n3 fl) (n3 r) (n3 i) μ = some (n3 r, fm_sI μ 232 39 (n3 fl)) := by
  rw [g_X9_read, if_pos rfl, b_X9_read_55, n3_k2, n3_mul]
  by_cases c : 2 * N ≤ i
  · rw [if_pos (by rw [n3_le (by omega) (by omega)]; exact c), Option.bind_some]
  · rw [if_neg (by rw [n3_le (by omega) (by omega)]; exact c), if_pos (by rw [n3_k0, n3_eq (by omega) (by omega)]; omega), Option.bind_some]
/-- a step of the class's loop -/
theorem c_read_go {N i k L m : Nat} {f : Int32} (hk : k < 4) (hi : i < N) (hN : N < 1000) : g_X8_read F (m + 1) 55 (n3 L) f (n3 N) (224 + 2 * k) (n3 i) (n3 0) (n3 i) μ = (Option.bind (f_X3_faultOfPair F (224 + 2 * k) (n3 L) ((f).toInt64 + ((Int64.ofNat 2) * (n3 i).toInt64)) μ) (fun q12 => (if ¬ q12.1 = n3 0 then g_X8_read F m 55 (n3 L) f (n3 N) (224 + 2 * k) (n3 i) q12.1 (n3 (i + 1)) q12.2 else (if ab_in ((((f).toInt64 + ((Int64.ofNat 2) * (n3 i).toInt64))).toInt32) 40 = true then (if ab_in ((((f).toInt64 + ((Int64.ofNat 2) * (n3 i).toInt64))).toInt32 + n3 1) 40 = true then (Option.bind (f_X7_refusalToPay F 111 (q12.2.2.1 (224 + 2 * k + 1) ((((f).toInt64 + ((Int64.ofNat 2) * (n3 i).toInt64))).toInt32).toNatClampNeg) (q12.2.2.1 (224 + 2 * k + 1) ((((f).toInt64 + ((Int64.ofNat 2) * (n3 i).toInt64))).toInt32 + n3 1).toNatClampNeg) q12.2) (fun q22 => (if q22.1 = n3 0 then (Option.bind (f_X7_handOver F 111 (q12.2.2.1 (224 + 2 * k + 1) ((((f).toInt64 + ((Int64.ofNat 2) * (n3 i).toInt64))).toInt32).toNatClampNeg) (q12.2.2.1 (224 + 2 * k + 1) ((((f).toInt64 + ((Int64.ofNat 2) * (n3 i).toInt64))).toInt32 + n3 1).toNatClampNeg) q22.2) (fun q25 => g_X8_read F m 55 (n3 L) f (n3 N) (224 + 2 * k) (n3 (i + 1)) q12.1 (n3 (i + 1)) q25.2)) else some ((-n3 20 - n3 i), q22.2)))) else none) else none)))) := by
  rw [g_X8_read, if_pos rfl, b_X8_read_55, if_neg (by rw [n3_le (by omega) (by omega)]; omega), if_neg (show ¬ ¬ n3 0 = 0 from fun c => c rfl), if_pos (isS_k hk)]
  simp only [Option.bind_some, isS_k hk, if_true, n3_one, n3_add, n3_k0, show (20 : Int32) = n3 20 from n3_lit 20]
theorem rd_inT {f : Int32} {d n : Nat} (hd : d < 1000) (hn : n < 1000) (h0 : 0 ≤ f.toInt + (d : Int)) (h1 : f.toInt + (d : Int) < (n : Int)) : f_X9_in F (f.toInt64 + (n3 d).toInt64) (Int64.ofNat 0) (n3 n - n3 1).toInt64 μ = some (n3 1, μ) := by
  refine m_in1 ?_ ?_
  · rw [l_add hd, l_of (by omega)]; omega
  · rw [l_add hd, Int32.toInt_toInt64, show (n3 n - n3 1).toInt = (n : Int) - 1 from sub1_int (by omega)]; omega
theorem rd_inF {f : Int32} {d n : Nat} (hd : d < 1000) (hn : n < 1000) (h0 : f.toInt + (d : Int) < 0 ∨ (n : Int) ≤ f.toInt + (d : Int)) : f_X9_in F (f.toInt64 + (n3 d).toInt64) (Int64.ofNat 0) (n3 n - n3 1).toInt64 μ = some (n3 0, μ) := by
  refine m_in0 ?_
  rw [l_add hd, l_of (by omega), Int32.toInt_toInt64, show (n3 n - n3 1).toInt = (n : Int) - 1 from sub1_int (by omega)]; omega
theorem l_ad2 {x : Int64} {v : Int} (h : x.toInt = v) (h1 : -4294967296 ≤ v) (h2 : v ≤ 4294967296) : (x + (2 : Int32).toInt64).toInt = v + 2 := by
  rw [Int64.toInt_add, h, show (2 : Int32).toInt64.toInt = 2 by decide, Int.bmod_eq_of_le (by omega) (by omega)]
theorem rd_pair {k l n : Nat} {X : Int64} {v : Int} (hl : l ≤ 2) (hn : n ≤ 40) (s1 : μ.1 (224 + 2 * k) 0 = n3 l) (s2 : μ.1 (224 + 2 * k) 1 = n3 n) (h : X.toInt = v) (h1 : -4294967296 ≤ v) (h2 : v ≤ 4294967296) : f_X3_faultOfPair F (224 + 2 * k) (n3 l) X μ = some (if v < 0 ∨ (n : Int) < v + 2 then n3 2 else n3 0, μ) := by
  have e0 : f_X3_isThere F (224 + 2 * k) μ = some (n3 1, μ) := by
    simp (disch := omega) only [f_X3_isThere, ↓reduceIte, Option.bind_some, n3_lit, n3_cl, n3_in, n3_ltT, n3_ltF, n3_leT, n3_leF, n3_eqT, n3_eqF, n3_add, n3_sub, not_true_eq_false, not_false_eq_true, true_or, or_true, false_or, or_false, Nat.zero_add, Nat.add_zero, nn_lt, nn_le, nn_gt, nn_ge, nn_eq, nn_qe, s1]
  have ec : f_X3_faultOfCells F (224 + 2 * k) X 2 μ = some (if v < 0 ∨ (n : Int) < v + 2 then n3 2 else n3 0, μ) := by
    unfold f_X3_faultOfCells
    rw [e0, Option.bind_some, if_pos (show ¬ n3 1 = 0 by decide)]
    dsimp only
    by_cases c1 : v < 0
    · rw [if_pos (by rw [lt_cmp, h, l_of (by omega)]; omega), if_pos (.inl c1), n3_lit]
    · rw [if_neg (by rw [lt_cmp, h, l_of (by omega)]; omega)]
      by_cases c2 : (n : Int) < v + 2
      · rw [if_pos (by rw [gt_cmp, l_ad2 h h1 h2, s2, Int32.toInt_toInt64, n3_int (by omega)]; exact c2), if_pos (.inr c2), n3_lit]
      · rw [if_neg (by rw [gt_cmp, l_ad2 h h1 h2, s2, Int32.toInt_toInt64, n3_int (by omega)]; exact c2), if_neg (by omega), n3_k0]
  unfold f_X3_faultOfPair
  rw [e0, Option.bind_some, if_neg (show ¬ n3 1 = 0 by decide)]
  dsimp only
  rw [s1, if_pos rfl, ec, Option.bind_some]
theorem i32_a (A X D : Int32) : A + (X - D) + (D + n3 1) - n3 1 = A + X := by
  rw [← Int32.add_assoc, Int32.add_sub_cancel, Int32.add_assoc, Int32.sub_add_cancel]
theorem i32_b (A X D : Int32) : A + (X - D) + (D + n3 1) = A + X + n3 1 := by
  rw [← Int32.add_assoc, Int32.add_assoc A, Int32.sub_add_cancel]
theorem neg_ge {j : Nat} (h : 0 < j) (h2 : j < 1000) : ¬ (n3 0 ≤ -n3 j) := by
  rw [nn_ge h (by omega) (by omega)]; exact id
theorem rd_joint {k l n L N : Nat} {c : Nat → Int32} {f : Int32} (hk : k < 4) (hl : l ≤ 2) (hL : L ≤ 2) (hn : n ≤ 40) (hN : N ≤ 20) (wfa : WF a) (hF : 100 < F) : ∀ (K i m m' : Nat) (b : Nat → Nat) (μ ν : fm_M), i + K = N → K + 2 < m → 2 * K + 2 < m' → WF b → b 37 ≤ 999 → AW μ 111 b → ShC μ k l n c → AP ν 0 b → AP ν 114 a → ShM ν k l n c →
    (∃ r μ1 ν1, g_X8_read F m 55 (n3 L) f (n3 N) (224 + 2 * k) (n3 i) (n3 0) (n3 i) μ = some (r, μ1) ∧ g_X9_read F m' 55 (n3 k) (n3 L) f (n3 N) (n3 0) (n3 i) (n3 (2 * i)) ν = some (r, ν1) ∧ Fr 111 121 μ μ1 ∧ FM 0 ν ν1 ∧ AP ν1 0 a)
    ∨ (∃ r μ1 ν1 b' fl, g_X8_read F m 55 (n3 L) f (n3 N) (224 + 2 * k) (n3 i) (n3 0) (n3 i) μ = some (r, μ1) ∧ g_X9_read F m' 55 (n3 k) (n3 L) f (n3 N) (n3 0) (n3 i) (n3 (2 * i)) ν = some (r, ν1) ∧ Ch (fun q j => (q = 100 ∧ j = 12) ∨ (101 ≤ q ∧ q < 121)) (fun q _ => 101 ≤ q ∧ q < 121) μ μ1 ∧ Ch (fun q j => q = 232 ∧ j = 39) (fun q j => q = 233 ∧ j < 38) ν ν1 ∧ WF b' ∧ b' 37 ≤ 999 ∧ AW μ1 101 b' ∧ AP ν1 0 b' ∧ μ1.1 100 12 = n3 fl ∧ ν1.1 232 39 = n3 fl)
  | 0, i, m + 1, m' + 1, b, μ, ν, hK, _, _, wb, bm, hb, sc, hp, hpa, sm => by
    obtain ⟨μ1, q1, q2, q3, q4⟩ := c_read_end (F := F) (k := k) (L := L) (r := i) (fl := 0) (i := i) (N := N) (m := m) (f := f) hb wb (.inl (by omega)) (by omega) (by omega) (by omega)
    have r1 := m_read_end (F := F) (μ := ν) (k := k) (L := L) (r := i) (fl := 0) (i := 2 * i) (N := N) (m := m') (f := f) (.inl (by omega)) (by omega) (by omega) (by omega)
    exact .inr ⟨_, μ1, _, b, 0, q1, r1, q4.weak (fun q j c => by omega) (fun q j c => by omega), (Ch.refl _ _ ν).sI (by omega), wb, bm, q2, hp.agree wb rfl rfl rfl rfl (fun _ _ _ => rfl), q3, fm_sI_eq ⟨rfl, rfl⟩⟩
  | K + 1, i, m + 1, m' + 1, b, μ, ν, hK, hm, hm', wb, bm, hb, sc, hp, hpa, sm => by
    obtain ⟨M, rfl⟩ : ∃ M, m = M + 1 := ⟨m - 1, by omega⟩
    obtain ⟨M', rfl⟩ : ∃ M', m' = M' + 1 := ⟨m' - 1, by omega⟩
    have two := l_two (f := f) (i := i) (by omega)
    have go := c_read_go (F := F) (μ := μ) (k := k) (L := L) (i := i) (N := N) (m := M + 1) (f := f) hk (by omega) (by omega)
    have e0 : f_X3_isThere F (224 + 2 * k) μ = some (n3 1, μ) := by
      have := sc.1
      simp (disch := omega) only [f_X3_isThere, ↓reduceIte, Option.bind_some, n3_lit, n3_cl, n3_in, n3_ltT, n3_ltF, n3_leT, n3_leF, n3_eqT, n3_eqF, n3_add, n3_sub, not_true_eq_false, not_false_eq_true, true_or, or_true, false_or, or_false, Nat.zero_add, Nat.add_zero, nn_lt, nn_le, nn_gt, nn_ge, nn_eq, nn_qe, this]
    -- the model's first step
    have mgo : g_X9_read F (M' + 1 + 1) 55 (n3 k) (n3 L) f (n3 N) (n3 0) (n3 i) (n3 (2 * i)) ν = (if n3 l = n3 L then (Option.bind (f_X9_in F ((f).toInt64 + (n3 (2 * i)).toInt64) (Int64.ofNat 0) ((n3 n - n3 1)).toInt64 ν) (fun q12 => (if ¬ q12.1 = n3 0 then g_X9_read F (M' + 1) 55 (n3 k) (n3 L) f (n3 N) (n3 0) (n3 i) (n3 (2 * i + 1)) q12.2 else g_X9_read F (M' + 1) 55 (n3 k) (n3 L) f (n3 N) (n3 2) (n3 i) (n3 (2 * i + 1)) q12.2))) else g_X9_read F (M' + 1) 55 (n3 k) (n3 L) f (n3 N) (n3 3) (n3 i) (n3 (2 * i + 1)) ν) := by
      rw [g_X9_read, if_pos rfl, b_X9_read_55, n3_k2, n3_mul, if_neg (by rw [n3_le (by omega) (by omega)]; omega), if_neg (show ¬ ¬ n3 0 = 0 from fun c => c rfl), if_pos (n3_in (by omega) hk), n3_cl (by omega), sm.1, sm.2.1, if_pos (by rw [show (-4 : Int32) = -n3 4 from by rw [n3_lit], nn_qe (by omega) (by omega) (by omega)]; exact id), if_pos (n3_in (by omega) hk), if_pos (n3_in (by omega) hk)]
      have ev : ((n3 (2 * i) - n3 (2 * i) / n3 2 * n3 2) = n3 1) = False := by
        rw [n3_rem (by omega) (by omega), Nat.mul_mod_right, n3_eq (by omega) (by omega)]; exact eq_false (by omega)
      simp only [ev, not_false_eq_true, ↓reduceIte, n3_one, n3_add, n3_k0, show (3 : Int32) = n3 3 from n3_lit 3]
    have fault : ∀ fl, 0 < fl → fl ≤ 3 → f_X3_faultOfPair F (224 + 2 * k) (n3 L) ((f).toInt64 + ((Int64.ofNat 2) * (n3 i).toInt64)) μ = some (n3 fl, μ) → (∃ j, 0 < j ∧ j ≤ 2 ∧ j ≤ M' + 2 ∧ g_X9_read F (M' + 1 + 1) 55 (n3 k) (n3 L) f (n3 N) (n3 0) (n3 i) (n3 (2 * i)) ν = g_X9_read F (M' + 1 + 1 - j) 55 (n3 k) (n3 L) f (n3 N) (n3 fl) (n3 i) (n3 (2 * i + j)) ν) → ∃ r μ1 ν1 b' fl, g_X8_read F (M + 1 + 1) 55 (n3 L) f (n3 N) (224 + 2 * k) (n3 i) (n3 0) (n3 i) μ = some (r, μ1) ∧ g_X9_read F (M' + 1 + 1) 55 (n3 k) (n3 L) f (n3 N) (n3 0) (n3 i) (n3 (2 * i)) ν = some (r, ν1) ∧ Ch (fun q j => (q = 100 ∧ j = 12) ∨ (101 ≤ q ∧ q < 121)) (fun q _ => 101 ≤ q ∧ q < 121) μ μ1 ∧ Ch (fun q j => q = 232 ∧ j = 39) (fun q j => q = 233 ∧ j < 38) ν ν1 ∧ WF b' ∧ b' 37 ≤ 999 ∧ AW μ1 101 b' ∧ AP ν1 0 b' ∧ μ1.1 100 12 = n3 fl ∧ ν1.1 232 39 = n3 fl := by
      intro fl h1 h2 h3 ⟨j, j1, j2, j3, h4⟩
      obtain ⟨μ1, q1, q2, q3, q4⟩ := c_read_end (F := F) (k := k) (L := L) (r := i) (fl := fl) (i := i + 1) (N := N) (m := M) (f := f) hb wb (.inr h1) (by omega) (by omega) (by omega)
      have r1 := m_read_end (F := F) (μ := ν) (k := k) (L := L) (r := i) (fl := fl) (i := 2 * i + j) (N := N) (m := M' + 1 - j) (f := f) (.inr h1) (by omega) (by omega) (by omega)
      rw [show M' + 1 - j + 1 = M' + 1 + 1 - j by omega] at r1
      refine ⟨_, μ1, _, b, fl, ?_, h4.trans r1, q4.weak (fun q j c => by omega) (fun q j c => by omega), (Ch.refl _ _ ν).sI (by omega), wb, bm, q2, hp.agree wb rfl rfl rfl rfl (fun _ _ _ => rfl), q3, fm_sI_eq ⟨rfl, rfl⟩⟩
      rw [go, h3, Option.bind_some]
      exact (if_pos (by rw [n3_eq (by omega) (by omega)]; omega)).trans q1
    by_cases cl : l = L
    · subst cl
      have mg1 : g_X9_read F (M' + 1 + 1) 55 (n3 k) (n3 l) f (n3 N) (n3 0) (n3 i) (n3 (2 * i)) ν = (Option.bind (f_X9_in F ((f).toInt64 + (n3 (2 * i)).toInt64) (Int64.ofNat 0) ((n3 n - n3 1)).toInt64 ν) (fun q12 => (if ¬ q12.1 = n3 0 then g_X9_read F (M' + 1) 55 (n3 k) (n3 l) f (n3 N) (n3 0) (n3 i) (n3 (2 * i + 1)) q12.2 else g_X9_read F (M' + 1) 55 (n3 k) (n3 l) f (n3 N) (n3 2) (n3 i) (n3 (2 * i + 1)) q12.2))) := mgo.trans (if_pos rfl)
      have mg2 : g_X9_read F (M' + 1) 55 (n3 k) (n3 l) f (n3 N) (n3 0) (n3 i) (n3 (2 * i + 1)) ν = (Option.bind (f_X9_in F ((f).toInt64 + (n3 (2 * i + 1)).toInt64) (Int64.ofNat 0) ((n3 n - n3 1)).toInt64 ν) (fun q12 => (if ¬ q12.1 = n3 0 then (if ab_in (n3 (40 * k) + f + n3 (2 * i + 1) - n3 1) 160 = true then (if ab_in (n3 (40 * k) + f + n3 (2 * i + 1)) 160 = true then (Option.bind (f_X9_paid F (q12.2.2.1 252 (n3 (40 * k) + f + n3 (2 * i + 1) - n3 1).toNatClampNeg) (q12.2.2.1 252 (n3 (40 * k) + f + n3 (2 * i + 1)).toNatClampNeg) q12.2) (fun q18 => (if n3 0 ≤ q18.1 then g_X9_read F M' 55 (n3 k) (n3 l) f (n3 N) (n3 0) (n3 (i + 1)) (n3 (2 * i + 1 + 1)) q18.2 else (Option.bind (f_X9_copies F (n3 114) (n3 0) q18.2) (fun q21 => some ((-n3 20 - n3 i), q21.2)))))) else none) else none) else g_X9_read F M' 55 (n3 k) (n3 l) f (n3 N) (n3 2) (n3 i) (n3 (2 * i + 1 + 1)) q12.2))) := by
        rw [g_X9_read, if_pos rfl, b_X9_read_55, n3_k2, n3_mul, if_neg (by rw [n3_le (by omega) (by omega)]; omega), if_neg (show ¬ ¬ n3 0 = 0 from fun c => c rfl), if_pos (n3_in (by omega) hk), n3_cl (by omega), sm.1, sm.2.1, if_pos (by rw [show (-4 : Int32) = -n3 4 from by rw [n3_lit], nn_qe (by omega) (by omega) (by omega)]; exact id), if_pos (n3_in (by omega) hk), if_pos rfl, if_pos (n3_in (by omega) hk)]
        have ev : ((n3 (2 * i + 1) - n3 (2 * i + 1) / n3 2 * n3 2) = n3 1) = True := by
          rw [n3_rem (by omega) (by omega), show (2 * i + 1) % 2 = 1 by omega]; exact eq_true rfl
        simp only [ev, not_true_eq_false, ↓reduceIte, n3_one, n3_add, n3_mul, n3_k0, show (40 : Int32) = n3 40 from n3_lit 40, show (114 : Int32) = n3 114 from n3_lit 114, show (20 : Int32) = n3 20 from n3_lit 20]
      have pr := rd_pair (F := F) (X := f.toInt64 + (Int64.ofNat 2) * (n3 i).toInt64) hl hn sc.1 sc.2.1 two (by have := f.le_toInt; omega) (by have := f.toInt_lt; omega)
      by_cases c1 : f.toInt + 2 * (i : Int) < 0 ∨ (n : Int) < f.toInt + 2 * (i : Int) + 2
      · rw [if_pos c1] at pr
        right
        by_cases c2 : f.toInt + ((2 * i : Nat) : Int) < 0 ∨ (n : Int) ≤ f.toInt + ((2 * i : Nat) : Int)
        · refine fault 2 (by omega) (by omega) pr ⟨1, by omega, by omega, by omega, ?_⟩
          rw [mg1, rd_inF (by omega) (by omega) c2, Option.bind_some]
          exact if_neg (fun c => c rfl)
        · refine fault 2 (by omega) (by omega) pr ⟨2, by omega, by omega, by omega, ?_⟩
          rw [mg1, rd_inT (by omega) (by omega) (by omega) (by omega), Option.bind_some, if_pos (show ¬ n3 1 = n3 0 by decide)]
          dsimp only
          rw [mg2, rd_inF (by omega) (by omega) (by omega), Option.bind_some]
          exact if_neg (fun c => c rfl)
      · rw [if_neg c1] at pr
        obtain ⟨x, hx⟩ : ∃ x : Nat, f.toInt + 2 * (i : Int) = (x : Int) := ⟨(f.toInt + 2 * (i : Int)).toNat, by omega⟩
        have hx1 : x + 2 ≤ n := by omega
        have fe : f = n3 x - n3 (2 * i) := f_eq (d := 2 * i) (by omega) (by omega) (by omega)
        have ix := l_n3 (two.trans hx) (by omega)
        have e1 : n3 (40 * k) + f + n3 (2 * i + 1) - n3 1 = n3 (40 * k + x) := by
          rw [fe, ← n3_add (2 * i) 1, i32_a, n3_add]
        have e2 : n3 (40 * k) + f + n3 (2 * i + 1) = n3 (40 * k + x + 1) := by
          rw [fe, ← n3_add (2 * i) 1, i32_b, n3_add, n3_add]
        rw [pr, Option.bind_some, if_neg (show ¬ ¬ n3 0 = n3 0 from fun c => c rfl), ix, if_pos (n3_in (by omega) (by omega)), n3_add, if_pos (n3_in (by omega) (by omega)), n3_cl (by omega), n3_cl (by omega)] at go
        dsimp only at go
        rw [show 224 + 2 * k + 1 = 225 + 2 * k by omega, sc.2.2 x (by omega), sc.2.2 (x + 1) (by omega)] at go
        have mg3 : g_X9_read F (M' + 1 + 1) 55 (n3 k) (n3 l) f (n3 N) (n3 0) (n3 i) (n3 (2 * i)) ν = (Option.bind (f_X9_paid F (c x) (c (x + 1)) ν) (fun q18 => (if n3 0 ≤ q18.1 then g_X9_read F M' 55 (n3 k) (n3 l) f (n3 N) (n3 0) (n3 (i + 1)) (n3 (2 * i + 1 + 1)) q18.2 else (Option.bind (f_X9_copies F (n3 114) (n3 0) q18.2) (fun q21 => some ((-n3 20 - n3 i), q21.2)))))) := by
          rw [mg1, rd_inT (by omega) (by omega) (by omega) (by omega), Option.bind_some, if_pos (show ¬ n3 1 = n3 0 by decide)]
          dsimp only
          rw [mg2, rd_inT (by omega) (by omega) (by omega) (by omega), Option.bind_some, if_pos (show ¬ n3 1 = n3 0 by decide), e1, e2, if_pos (n3_in (by omega) (by omega)), if_pos (n3_in (by omega) (by omega)), n3_cl (by omega), n3_cl (by omega)]
          dsimp only
          rw [sm.2.2 x (by omega), Nat.add_assoc, sm.2.2 (x + 1) (by omega)]
        rcases payCases wb bm F (c x) (c (x + 1)) with ⟨s, p, es, ep, hc⟩ | ⟨j, j1, j2, cc1, cc2⟩
        · obtain ⟨μ1, q1, q2, q3⟩ := c_hand (F := F) (w := 111) (by decide) hb wb hc.1 hc.2.1 (by omega)
          obtain ⟨ν1, r1, r2, r3⟩ := m_pay1 (F := F) hp wb bm hc (by omega)
          have wl : pass b (betw b (b (18 + s)) p) (13 + s) ≤ 99 := ((pass_wf wb _).2.2.1 s (by rw [pass_n (by have := wb.1; omega) (by omega)]; exact hc.1)).2.1
          have go2 : g_X8_read F (M + 1 + 1) 55 (n3 l) f (n3 N) (224 + 2 * k) (n3 i) (n3 0) (n3 i) μ = g_X8_read F (M + 1) 55 (n3 l) f (n3 N) (224 + 2 * k) (n3 (i + 1)) (n3 0) (n3 (i + 1)) μ1 := by
            rw [go, es, ep, c_pay0 (F := F) hb wb bm hc, Option.bind_some, if_pos rfl, q1, Option.bind_some]
          have mg4 : g_X9_read F (M' + 1 + 1) 55 (n3 k) (n3 l) f (n3 N) (n3 0) (n3 i) (n3 (2 * i)) ν = g_X9_read F M' 55 (n3 k) (n3 l) f (n3 N) (n3 0) (n3 (i + 1)) (n3 (2 * (i + 1))) ν1 := by
            rw [mg3, es, ep, r1, Option.bind_some, if_pos (by rw [n3_le (by omega) (by omega)]; omega)]
            rfl
          rw [go2, mg4]
          rcases rd_joint hk hl hL hn hN wfa hF K (i + 1) (M + 1) M' (hand b s p) μ1 ν1 (by omega) (by omega) (by omega) (hand_wf wb hc.1 hc.2.1) (by rw [hand_37 wb hc.1]; exact hc.2.2.2) q2 (sc.fr q3 hk) r2 (hpa.fm wfa r3 (by omega)) (sm.fm r3) with ⟨r, μ2, ν2, t1, t2, t3, t4, t5⟩ | ⟨r, μ2, ν2, b', fl, t1, t2, t3, t4, t5⟩
          · exact .inl ⟨r, μ2, ν2, t1, t2, (q3.weak (by omega) (by omega)).trans t3, r3.trans t4, t5⟩
          · exact .inr ⟨r, μ2, ν2, b', fl, t1, t2, (q3.ch.weak (fun q j c => by omega) (fun q j c => by omega)).trans t3, (r3.ch.weak (fun _ _ c => False.elim c) (fun q j c => by omega)).trans t4, t5⟩
        · obtain ⟨ν1, r1, r2, r3⟩ := m_copy (F := F) (μ := ν) (P := 0) (Q := 114) (by omega) (by omega) (by omega) (by omega)
          refine .inl ⟨-n3 20 - n3 i, μ, ν1, ?_, ?_, Fr.refl _ _ μ, r3, r2 a hpa wfa⟩
          · rw [go, cc1 μ 111 hb, Option.bind_some]
            exact if_neg (by rw [nn_eq (by omega) (by omega) (by omega)]; exact id)
          · rw [mg3, cc2 ν hp, Option.bind_some, if_neg (neg_ge (by omega) (by omega))]
            dsimp only
            rw [r1, Option.bind_some]
    · right
      refine fault 3 (by omega) (by omega) ?_ ⟨1, by omega, by omega, by omega, ?_⟩
      · have := sc.1
        unfold f_X3_faultOfPair
        rw [e0, Option.bind_some, if_neg (show ¬ n3 1 = 0 by decide)]
        dsimp only
        rw [this, if_neg (by rw [n3_eq (by omega) (by omega)]; exact cl), show (3 : Int32) = n3 3 from n3_lit 3]
      · rw [mgo, if_neg (by rw [n3_eq (by omega) (by omega)]; exact cl)]
        rfl
/-- a sheet that is not there -/
theorem rd_none {k L N : Nat} {f : Int32} (hk : k < 4) (hN : N ≤ 20) (wfa : WF a) (bm : a 37 ≤ 999) (hF : 100 < F) {μ ν : fm_M} (hb : AW μ 111 a) (g1 : μ.1 (224 + 2 * k) 0 = -n3 1) (hp : AP ν 0 a) (g2 : ν.2.1 250 k = -n3 4) :
    ∃ r μ1 ν1 b' fl, g_X8_read F F 55 (n3 L) f (n3 N) (224 + 2 * k) (n3 0) (n3 0) (n3 0) μ = some (r, μ1) ∧ g_X9_read F F 55 (n3 k) (n3 L) f (n3 N) (n3 0) (n3 0) (n3 0) ν = some (r, ν1) ∧ Ch (fun q j => (q = 100 ∧ j = 12) ∨ (101 ≤ q ∧ q < 121)) (fun q _ => 101 ≤ q ∧ q < 121) μ μ1 ∧ Ch (fun q j => q = 232 ∧ j = 39) (fun q j => q = 233 ∧ j < 38) ν ν1 ∧ WF b' ∧ b' 37 ≤ 999 ∧ AW μ1 101 b' ∧ AP ν1 0 b' ∧ μ1.1 100 12 = n3 fl ∧ ν1.1 232 39 = n3 fl := by
  obtain ⟨m, rfl⟩ : ∃ m, F = m + 1 + 1 := ⟨F - 2, by omega⟩
  generalize hG : m + 1 + 1 = G at hF ⊢
  by_cases c : N = 0
  · subst c
    obtain ⟨μ1, q1, q2, q3, q4⟩ := c_read_end (F := G) (k := k) (L := L) (r := 0) (fl := 0) (i := 0) (N := 0) (m := m + 1) (f := f) hb wfa (.inl (by omega)) (by omega) (by omega) (by omega)
    have r1 := m_read_end (F := G) (μ := ν) (k := k) (L := L) (r := 0) (fl := 0) (i := 0) (N := 0) (m := m + 1) (f := f) (.inl (by omega)) (by omega) (by omega) (by omega)
    rw [hG] at q1 r1
    exact ⟨_, μ1, _, a, 0, q1, r1, q4.weak (fun q j c => by omega) (fun q j c => by omega), (Ch.refl _ _ ν).sI (by omega), wfa, bm, q2, hp.agree wfa rfl rfl rfl rfl (fun _ _ _ => rfl), q3, fm_sI_eq ⟨rfl, rfl⟩⟩
  · obtain ⟨μ1, q1, q2, q3, q4⟩ := c_read_end (F := G) (k := k) (L := L) (r := 0) (fl := 1) (i := 0 + 1) (N := N) (m := m) (f := f) hb wfa (.inr (by omega)) (by omega) (by omega) (by omega)
    have r1 := m_read_end (F := G) (μ := ν) (k := k) (L := L) (r := 0) (fl := 1) (i := 1) (N := N) (m := m) (f := f) (.inr (by omega)) (by omega) (by omega) (by omega)
    have go := c_read_go (F := G) (μ := μ) (k := k) (L := L) (i := 0) (N := N) (m := m + 1) (f := f) hk (by omega) (by omega)
    have e0 : f_X3_isThere G (224 + 2 * k) μ = some (n3 0, μ) := by
      simp (disch := omega) only [f_X3_isThere, ↓reduceIte, Option.bind_some, n3_lit, n3_cl, n3_in, n3_ltT, n3_ltF, n3_leT, n3_leF, n3_eqT, n3_eqF, n3_add, n3_sub, not_true_eq_false, not_false_eq_true, true_or, or_true, false_or, or_false, Nat.zero_add, Nat.add_zero, nn_lt, nn_le, nn_gt, nn_ge, nn_eq, nn_qe, g1]
    have pr : ∀ X, f_X3_faultOfPair G (224 + 2 * k) (n3 L) X μ = some (n3 1, μ) := by
      intro X
      unfold f_X3_faultOfPair f_X3_faultOfCells
      rw [e0, Option.bind_some, if_pos (show n3 0 = 0 by decide)]
      dsimp only
      rw [e0, Option.bind_some, if_neg (show ¬ ¬ n3 0 = 0 from fun c => c rfl), Option.bind_some, n3_one]
    have mg : g_X9_read G (m + 1 + 1) 55 (n3 k) (n3 L) f (n3 N) (n3 0) (n3 0) (n3 0) ν = g_X9_read G (m + 1) 55 (n3 k) (n3 L) f (n3 N) (n3 1) (n3 0) (n3 1) ν := by
      rw [g_X9_read, if_pos rfl, b_X9_read_55, n3_k2, n3_mul, if_neg (by rw [n3_le (by omega) (by omega)]; omega), if_neg (show ¬ ¬ n3 0 = 0 from fun c => c rfl), if_pos (n3_in (by omega) hk), n3_cl (by omega), g2, if_neg (show ¬ ¬ -n3 4 = -4 from fun c => c (by decide)), n3_one, n3_add]
    rw [pr, Option.bind_some] at go
    have go := go.trans ((if_pos (show ¬ n3 1 = n3 0 by decide)).trans q1)
    have mg := mg.trans r1
    rw [hG] at go mg
    exact ⟨_, μ1, _, a, 1, go, mg, q4.weak (fun q j c => by omega) (fun q j c => by omega), (Ch.refl _ _ ν).sI (by omega), wfa, bm, q2, hp.agree wfa rfl rfl rfl rfl (fun _ _ _ => rfl), q3, fm_sI_eq ⟨rfl, rfl⟩⟩
/-- both loops, out of what they start from -/
theorem rd_both {k L N : Nat} {f : Int32} (hk : k < 4) (hL : L ≤ 2) (hN : N ≤ 20) (wfa : WF a) (bm : a 37 ≤ 999) (hF : 100 < F) {μ ν : fm_M} (hb : AW μ 111 a) (hp : AP ν 0 a) (hpa : AP ν 114 a) (hs : (μ.1 (224 + 2 * k) 0 = -n3 1 ∧ ν.2.1 250 k = -n3 4) ∨ ∃ l n c, l ≤ 2 ∧ n ≤ 40 ∧ ShC μ k l n c ∧ ShM ν k l n c) :
    (∃ r μ1 ν1, g_X8_read F F 55 (n3 L) f (n3 N) (224 + 2 * k) (n3 0) (n3 0) (n3 0) μ = some (r, μ1) ∧ g_X9_read F F 55 (n3 k) (n3 L) f (n3 N) (n3 0) (n3 0) (n3 0) ν = some (r, ν1) ∧ Fr 111 121 μ μ1 ∧ FM 0 ν ν1 ∧ AP ν1 0 a)
    ∨ (∃ r μ1 ν1 b' fl, g_X8_read F F 55 (n3 L) f (n3 N) (224 + 2 * k) (n3 0) (n3 0) (n3 0) μ = some (r, μ1) ∧ g_X9_read F F 55 (n3 k) (n3 L) f (n3 N) (n3 0) (n3 0) (n3 0) ν = some (r, ν1) ∧ Ch (fun q j => (q = 100 ∧ j = 12) ∨ (101 ≤ q ∧ q < 121)) (fun q _ => 101 ≤ q ∧ q < 121) μ μ1 ∧ Ch (fun q j => q = 232 ∧ j = 39) (fun q j => q = 233 ∧ j < 38) ν ν1 ∧ WF b' ∧ b' 37 ≤ 999 ∧ AW μ1 101 b' ∧ AP ν1 0 b' ∧ μ1.1 100 12 = n3 fl ∧ ν1.1 232 39 = n3 fl) := by
  rcases hs with ⟨g1, g2⟩ | ⟨l, n, c, hl, hn, sc, sm⟩
  · exact .inr (rd_none hk hN wfa bm hF hb g1 hp g2)
  · exact rd_joint hk hl hL hn hN wfa hF N 0 F F a μ ν (by omega) (by omega) (by omega) wfa bm hb sc hp hpa sm
theorem ok_read (h : R μ) (hF : 100 < F) (x y f z : Int32) : OK2 (f_X8_read F x y f z) (f_X9_read F x y f z) μ := by
  obtain ⟨a, wf, bm, hw, hp⟩ := h.1
  rcases n3_cases x 4 (by decide) with ⟨k, hk, rfl⟩ | hx
  · rcases n3_cases y 3 (by decide) with ⟨L, hL, rfl⟩ | hy
    · rcases n3_cases z 21 (by decide) with ⟨N, hN, rfl⟩ | hz
      · have t8 : ∀ μ, f_X8_read F (n3 k) (n3 L) f (n3 N) μ = Option.bind (f_X7_copyFrom F 111 101 μ) (fun q37 => g_X8_read F F 55 (n3 L) f (n3 N) (224 + 2 * k) (n3 0) (n3 0) (n3 0) q37.2) := by
          intro μ
          simp (disch := omega) only [f_X8_read, ↓reduceIte, Option.bind_some, n3_lit, n3_cl, n3_in, n3_ltT, n3_ltF, n3_leT, n3_leF, n3_eqT, n3_eqF, n3_add, n3_sub, not_true_eq_false, not_false_eq_true, true_or, or_true, false_or, or_false, Nat.zero_add, Nat.add_zero, nn_lt, nn_le, nn_gt, nn_ge, nn_eq, nn_qe, c_isSheetT, c_isLaneT, c_isInT]
        have t9 : ∀ μ, f_X9_read F (n3 k) (n3 L) f (n3 N) μ = Option.bind (f_X9_copies F (n3 0) (n3 114) μ) (fun q32 => g_X9_read F F 55 (n3 k) (n3 L) f (n3 N) (n3 0) (n3 0) (n3 0) q32.2) := by
          intro μ
          simp (disch := omega) only [f_X9_read, ↓reduceIte, Option.bind_some, n3_lit, n3_cl, n3_in, n3_ltT, n3_ltF, n3_leT, n3_leF, n3_eqT, n3_eqF, n3_add, n3_sub, not_true_eq_false, not_false_eq_true, true_or, or_true, false_or, or_false, Nat.zero_add, Nat.add_zero, nn_lt, nn_le, nn_gt, nn_ge, nn_eq, nn_qe, m_inT]
        obtain ⟨μ1, q1, q2, q3⟩ := c_copy (F := F) (μ := μ) (w := 111) (w2 := 101) (by omega)
        have hb := q2 a hw wf
        have hh := h.2.2.2.2.1 k hk
        have sh : ∀ ν, (ν.2.1 250 k = μ.2.1 250 k ∧ ν.2.1 251 k = μ.2.1 251 k ∧ ν.2.1 252 = μ.2.1 252) → (μ1.1 (224 + 2 * k) 0 = -n3 1 ∧ ν.2.1 250 k = -n3 4) ∨ ∃ l n c, l ≤ 2 ∧ n ≤ 40 ∧ ShC μ1 k l n c ∧ ShM ν k l n c := by
          intro ν ⟨v1, v2, v3⟩
          rcases hh with ⟨g1, g2⟩ | ⟨l, n, p1, p2, p3, p4, p5, p6, p7⟩
          · exact .inl ⟨by rw [(q3.1 (224 + 2 * k) (by omega)).1]; exact g1, by rw [v1]; exact g2⟩
          · exact .inr ⟨l, n, μ.2.1 (225 + 2 * k), p1, p2, ⟨by rw [(q3.1 (224 + 2 * k) (by omega)).1]; exact p3, by rw [(q3.1 (224 + 2 * k) (by omega)).1]; exact p4, fun j hj => by rw [(q3.1 (225 + 2 * k) (by omega)).2]⟩, ⟨by rw [v1]; exact p5, by rw [v2]; exact p6, fun j hj => by rw [v3]; exact (p7 j hj).symm⟩⟩
        -- the class's end, whatever the reference's memory is
        have total : ∃ r μ2, g_X8_read F F 55 (n3 L) f (n3 N) (224 + 2 * k) (n3 0) (n3 0) (n3 0) μ1 = some (r, μ2) ∧ Ch (fun q j => (q = 100 ∧ j = 12) ∨ (101 ≤ q ∧ q < 121)) (fun q _ => 101 ≤ q ∧ q < 121) μ1 μ2 := by
          obtain ⟨ν0, r1, r2, r3⟩ := m_copy (F := F) (μ := μ) (P := 114) (Q := 0) (by omega) (by omega) (by omega) (by omega)
          rcases rd_both (L := L) (N := N) (f := f) hk (by omega) (by omega) wf bm hF hb (hp.fm wf r3 (by omega)) (r2 a hp wf) (sh ν0 ⟨by rw [r3.2.2.1 250 (by omega)], by rw [r3.2.2.1 251 (by omega)], by rw [r3.2.2.1 252 (by omega)]⟩) with ⟨r, μ2, ν2, t1, t2, t3, t4, t5⟩ | ⟨r, μ2, ν2, b', fl, t1, t2, t3, t4, t5⟩
          · exact ⟨r, μ2, t1, t3.ch.weak (fun q j c => by omega) (fun q j c => by omega)⟩
          · exact ⟨r, μ2, t1, t3⟩
        obtain ⟨r, μ2, t1, t2⟩ := total
        have cc : Ch (fun q j => (q = 100 ∧ j = 12) ∨ (101 ≤ q ∧ q < 121)) (fun q _ => 101 ≤ q ∧ q < 121) μ μ2 := (q3.ch.weak (fun q j c => by omega) (fun q j c => by omega)).trans t2
        have hp2 : AP μ2 0 a := hp.ch wf cc (by omega) (by omega) (by omega) (by omega) (by omega)
        obtain ⟨ν0, r1, r2, r3⟩ := m_copy (F := F) (μ := μ2) (P := 114) (Q := 0) (by omega) (by omega) (by omega) (by omega)
        have s250 : ν0.2.1 250 k = μ.2.1 250 k := by rw [r3.2.2.1 250 (by omega), cc.2.1 250 k (by omega)]
        have s251 : ν0.2.1 251 k = μ.2.1 251 k := by rw [r3.2.2.1 251 (by omega), cc.2.1 251 k (by omega)]
        have s252 : ν0.2.1 252 = μ.2.1 252 := by rw [r3.2.2.1 252 (by omega)]; exact funext fun j => cc.2.1 252 j (by omega)
        have e8 : f_X8_read F (n3 k) (n3 L) f (n3 N) μ = some (r, μ2) := by rw [t8, q1, Option.bind_some]; exact t1
        rcases rd_both (L := L) (N := N) (f := f) hk (by omega) (by omega) wf bm hF hb (hp2.fm wf r3 (by omega)) (r2 a hp2 wf) (sh ν0 ⟨s250, s251, s252⟩) with ⟨r', μ3, ν3, u1, u2, u3, u4, u5⟩ | ⟨r', μ3, ν3, b', fl, u1, u2, u3, u4, wb, bb, u5, u6, u7, u8⟩
        · obtain ⟨rfl, rfl⟩ : r = r' ∧ μ2 = μ3 := by rw [t1] at u1; exact ⟨congrArg Prod.fst (Option.some.inj u1), congrArg Prod.snd (Option.some.inj u1)⟩
          refine ⟨r, μ2, ν3, e8, ?_, ?_⟩
          · rw [t9, r1, Option.bind_some]; exact u2
          · have f1 : Fr 111 121 μ μ2 := (q3.weak (by omega) (by omega)).trans u3
            have hR : R ν0 := h.free ((f1.ch.weak (fun q j c => by omega) (fun q j c => by omega)).trans (r3.ch.weak (fun _ _ c => False.elim c) (fun q j c => by omega)))
            exact hR.world (Fr.refl _ _ ν0) u4 wf bm ((hw.fr f1 (by omega)).fr r3.fr (by omega)) u5
        · obtain ⟨rfl, rfl⟩ : r = r' ∧ μ2 = μ3 := by rw [t1] at u1; exact ⟨congrArg Prod.fst (Option.some.inj u1), congrArg Prod.snd (Option.some.inj u1)⟩
          refine ⟨r, μ2, ν3, e8, ?_, ?_⟩
          · rw [t9, r1, Option.bind_some]; exact u2
          · have c2 : Ch (fun q j => q = 232 ∧ j = 39) (fun q j => q = 233 ∧ (j < 38 ∨ (114 ≤ j ∧ j < 152))) μ2 ν3 := (r3.ch.weak (fun _ _ c => False.elim c) (fun q j c => by omega)).trans (u4.weak (fun q j c => by omega) (fun q j c => by omega))
            have c3 : Ch (fun q j => (q = 100 ∧ j = 12) ∨ (101 ≤ q ∧ q < 121) ∨ (q = 232 ∧ j = 39)) (fun q j => (101 ≤ q ∧ q < 121) ∨ (q = 233 ∧ (j < 38 ∨ (114 ≤ j ∧ j < 152)))) μ ν3 := (cc.weak (fun q j c => by omega) (fun q j c => by omega)).trans (c2.weak (fun q j c => by omega) (fun q j c => by omega))
            obtain ⟨_, hK, hT, hS, hH, hFF, hC⟩ := h
            refine ⟨⟨b', wb, bb, u5.ch c2 (by omega) (by omega), u6⟩, hK.ch c3 (by intro q j c; (try dsimp only at c); omega) (by intro q j c; (try dsimp only at c); omega), hT.ch c3 (by intro q j c; (try dsimp only at c); omega) (by intro q j c; (try dsimp only at c); omega), hS.ch c3 (by intro q j c; (try dsimp only at c); omega) (by intro q j c; (try dsimp only at c); omega), hH.ch c3 (by intro q j c; (try dsimp only at c); omega) (by intro q j c; (try dsimp only at c); omega), ⟨?_, ?_⟩, hC.ch c3 (by intro q j c; (try dsimp only at c); omega)⟩
            · rw [c3.1 100 11 (by omega), c3.1 232 14 (by omega)]; exact hFF.1
            · rw [u8, c2.1 100 12 (by omega), u7]
      · refine OK2.same h (v := -n3 1) ?_ ?_
        · simp (disch := omega) only [f_X8_read, ↓reduceIte, Option.bind_some, n3_lit, n3_cl, n3_in, n3_ltT, n3_ltF, n3_leT, n3_leF, n3_eqT, n3_eqF, n3_add, n3_sub, not_true_eq_false, not_false_eq_true, true_or, or_true, false_or, or_false, Nat.zero_add, Nat.add_zero, nn_lt, nn_le, nn_gt, nn_ge, nn_eq, nn_qe, c_isSheetT, c_isLaneT, c_isInN hz]
        · simp (disch := omega) only [f_X9_read, ↓reduceIte, Option.bind_some, n3_lit, n3_cl, n3_in, n3_ltT, n3_ltF, n3_leT, n3_leF, n3_eqT, n3_eqF, n3_add, n3_sub, not_true_eq_false, not_false_eq_true, true_or, or_true, false_or, or_false, Nat.zero_add, Nat.add_zero, nn_lt, nn_le, nn_gt, nn_ge, nn_eq, nn_qe, m_inT, m_inO hz]
    · refine OK2.same h (v := -n3 1) ?_ ?_
      · simp (disch := omega) only [f_X8_read, ↓reduceIte, Option.bind_some, n3_lit, n3_cl, n3_in, n3_ltT, n3_ltF, n3_leT, n3_leF, n3_eqT, n3_eqF, n3_add, n3_sub, not_true_eq_false, not_false_eq_true, true_or, or_true, false_or, or_false, Nat.zero_add, Nat.add_zero, nn_lt, nn_le, nn_gt, nn_ge, nn_eq, nn_qe, c_isSheetT, c_isLaneF hy]
      · simp (disch := omega) only [f_X9_read, ↓reduceIte, Option.bind_some, n3_lit, n3_cl, n3_in, n3_ltT, n3_ltF, n3_leT, n3_leF, n3_eqT, n3_eqF, n3_add, n3_sub, not_true_eq_false, not_false_eq_true, true_or, or_true, false_or, or_false, Nat.zero_add, Nat.add_zero, nn_lt, nn_le, nn_gt, nn_ge, nn_eq, nn_qe, m_inT, m_inO hy]
  · refine OK2.same h (v := -n3 1) ?_ ?_
    · simp (disch := omega) only [f_X8_read, ↓reduceIte, Option.bind_some, n3_lit, n3_cl, n3_in, n3_ltT, n3_ltF, n3_leT, n3_leF, n3_eqT, n3_eqF, n3_add, n3_sub, not_true_eq_false, not_false_eq_true, true_or, or_true, false_or, or_false, Nat.zero_add, Nat.add_zero, nn_lt, nn_le, nn_gt, nn_ge, nn_eq, nn_qe, c_isSheetF hx]
    · simp (disch := omega) only [f_X9_read, ↓reduceIte, Option.bind_some, n3_lit, n3_cl, n3_in, n3_ltT, n3_ltF, n3_leT, n3_leF, n3_eqT, n3_eqF, n3_add, n3_sub, not_true_eq_false, not_false_eq_true, true_or, or_true, false_or, or_false, Nat.zero_add, Nat.add_zero, nn_lt, nn_le, nn_gt, nn_ge, nn_eq, nn_qe, m_inO hx]
end VS50
