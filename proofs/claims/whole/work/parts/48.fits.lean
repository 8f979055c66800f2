/-! what fits what was seen -/
def fstep (q : Bool) (s p : Nat) (z : Nat × Int32 × Int32 × Int32) : Nat × Int32 × Int32 × Int32 := if q = true then (z.1 + 1, (if z.1 = 0 then n3 (10 * s + p) else z.2.1), z.2.2.1 ||| (n3 1 <<< (n3 s &&& n3 31)), z.2.2.2 ||| (n3 1 <<< (n3 p &&& n3 31))) else z
def fin_ (P : Nat → Nat → Bool) (s : Nat) : Nat → Nat → Nat × Int32 × Int32 × Int32 → Nat × Int32 × Int32 × Int32
  | _, 0, z => z
  | p, k + 1, z => fin_ P s (p + 1) k (fstep (P s p) s p z)
def fout (P : Nat → Nat → Bool) (N : Nat) : Nat → Nat → Nat × Int32 × Int32 × Int32 → Nat × Int32 × Int32 × Int32
  | _, 0, z => z
  | s, k + 1, z => fout P N (s + 1) k (fin_ P s 0 N z)
theorem fstep_le (q : Bool) (s p : Nat) (z : Nat × Int32 × Int32 × Int32) : (fstep q s p z).1 ≤ z.1 + 1 := by
  unfold fstep
  split
  · exact Nat.le_refl _
  · omega
theorem fin_le (P : Nat → Nat → Bool) (s : Nat) : ∀ (k p : Nat) (z : Nat × Int32 × Int32 × Int32), (fin_ P s p k z).1 ≤ z.1 + k
  | 0, _, _ => Nat.le_refl _
  | k + 1, p, z => by
    have h1 := fin_le P s k (p + 1) (fstep (P s p) s p z)
    have h2 := fstep_le (P s p) s p z
    rw [fin_]; omega
theorem fstep_f (s p : Nat) (z : Nat × Int32 × Int32 × Int32) : fstep false s p z = z := rfl
theorem fstep_t (s p : Nat) (z : Nat × Int32 × Int32 × Int32) : fstep true s p z = (z.1 + 1, (if z.1 = 0 then n3 (10 * s + p) else z.2.1), z.2.2.1 ||| (n3 1 <<< (n3 s &&& n3 31)), z.2.2.2 ||| (n3 1 <<< (n3 p &&& n3 31))) := rfl
theorem bi_f : bi false = 0 := rfl
theorem bi_t : bi true = 1 := rfl
section VS48
variable {F : Nat} {μ ν : fm_M} {a : Nat → Nat} {w : Nat}
def FS (μ : fm_M) (z : Nat × Int32 × Int32 × Int32) : Prop := μ.1 125 3 = n3 z.1 ∧ μ.1 125 4 = z.2.1 ∧ μ.1 125 5 = z.2.2.1 ∧ μ.1 125 6 = z.2.2.2
def seenC (μ : fm_M) (t v : Nat → Nat) (S : Nat) : Prop := μ.1 125 0 = n3 S ∧ ∀ i, i < S → t i ≤ 20 ∧ v i ≤ 99 ∧ μ.2.1 126 i = n3 (t i) ∧ μ.2.1 127 i = n3 (v i)
theorem seenC.ch {t v : Nat → Nat} {S : Nat} (h : seenC μ t v S) (hc : Ch (fun q j => q = 125 ∧ j ≠ 0) (fun _ _ => False) μ ν) : seenC ν t v S := by
  refine ⟨(hc.1 125 0 (by omega)).trans h.1, fun i hi => ?_⟩
  rw [hc.2.1 126 i id, hc.2.1 127 i id]
  exact h.2 i hi
def fitP (a t v : Nat → Nat) (S : Nat) : Nat → Nat → Bool := fun s p => allF (seenP t v (a (13 + s)) (rateA (a (8 + s)) (a p))) 0 S
theorem c_fin {t v : Nat → Nat} {S s : Nat} (wf : WF a) (hS : S ≤ 6) (hs : s < a 23) (hF : 100 < F) : ∀ (k p n : Nat) (μ : fm_M) (z : Nat × Int32 × Int32 × Int32), p + k = a 38 → k < n → z.1 + k < 1000 → AW μ 101 a → seenC μ t v S → FS μ z → ∃ ν, g_X4_match F n 33 (n3 s) (n3 p) μ = g_X4_match F (n - (k + 1)) 23 (n3 (s + 1)) (n3 0) ν ∧ Ch (fun q j => q = 125 ∧ j ≠ 0) (fun _ _ => False) μ ν ∧ FS ν (fin_ (fitP a t v S) s p k z)
  | 0, p, n + 1, μ, z, hk, _, _, hw, hc, hz => by
    obtain rfl : p = a 38 := by omega
    refine ⟨μ, ?_, Ch.refl _ _ μ, hz⟩
    have h0 := hw.z.1.1
    have b := wf.1
    rw [g_X4_match, if_neg (by decide), if_pos rfl, b_X4_match_33, h0, if_pos (by rw [n3_le (by omega) (by omega)]; omega)]
    simp (disch := omega) only [↓reduceIte, Option.bind_some, n3_lit, n3_cl, n3_in, n3_ltT, n3_ltF, n3_leT, n3_leF, n3_eqT, n3_eqF, n3_add, n3_sub, not_true_eq_false, not_false_eq_true, true_or, or_true, false_or, or_false, Nat.zero_add, Nat.add_zero, nn_lt, nn_le, nn_gt, nn_ge, nn_eq, nn_qe, Nat.add_sub_cancel]
  | k + 1, p, n + 1, μ, z, hk, hn, hz0, hw, hc, hz => by
    have h0 := hw.z.1.1
    have e := hw.z.2.2.1 s hs
    have e' := hw.z.2.1 p (by omega)
    have b := wf.1
    have ws := wf.2.2.1 s hs
    have wp := wf.2.1 p (by omega)
    have rl := rateA_le (a (8 + s)) (a p)
    have hpr : f_X4_isPair F (n3 (a (13 + s))) (n3 (rateA (a (8 + s)) (a p))) μ = some (n3 (bi (fitP a t v S s p)), μ) := c_pair_l hS hc.1 hc.2 (by omega) (by omega) hF S 0 F (by omega) (by omega)
    have rest : ∀ μ', Ch (fun q j => q = 125 ∧ j ≠ 0) (fun _ _ => False) μ μ' → FS μ' (fstep (fitP a t v S s p) s p z) → g_X4_match F (n + 1) 33 (n3 s) (n3 p) μ = g_X4_match F n 33 (n3 s) (n3 (p + 1)) μ' → ∃ ν, g_X4_match F (n + 1) 33 (n3 s) (n3 p) μ = g_X4_match F (n + 1 - (k + 1 + 1)) 23 (n3 (s + 1)) (n3 0) ν ∧ Ch (fun q j => q = 125 ∧ j ≠ 0) (fun _ _ => False) μ ν ∧ FS ν (fin_ (fitP a t v S) s p (k + 1) z) := fun μ' hc' hz' he => by
      have fl := fstep_le (fitP a t v S s p) s p z
      obtain ⟨ν, q1, q2, q3⟩ := c_fin wf hS hs hF k (p + 1) n μ' _ (by omega) (by omega) (by omega) (hw.ch hc' (fun j c => by omega) (fun q j _ _ c => c)) (hc.ch hc') hz'
      refine ⟨ν, ?_, hc'.trans q2, q3⟩
      rw [he, q1, Nat.add_sub_add_right]
    have start : g_X4_match F (n + 1) 33 (n3 s) (n3 p) μ = (if n3 (bi (fitP a t v S s p)) = n3 0 then g_X4_match F n 33 (n3 s) (n3 (p + 1)) μ else (if ¬ (μ.1 125 3) = n3 0 then g_X4_match F n 33 (n3 s) (n3 (p + 1)) (fm_sI (fm_sI (fm_sI (fm_sI μ 125 4 (μ.1 125 4)) 125 3 ((μ.1 125 3) + n3 1)) 125 5 ((μ.1 125 5) ||| (n3 1 <<< (n3 s &&& n3 31)))) 125 6 ((μ.1 125 6) ||| (n3 1 <<< (n3 p &&& n3 31)))) else g_X4_match F n 33 (n3 s) (n3 (p + 1)) (fm_sI (fm_sI (fm_sI (fm_sI μ 125 4 (n3 (10 * s + p))) 125 3 ((μ.1 125 3) + n3 1)) 125 5 ((μ.1 125 5) ||| (n3 1 <<< (n3 s &&& n3 31)))) 125 6 ((μ.1 125 6) ||| (n3 1 <<< (n3 p &&& n3 31)))))) := by
      rw [g_X4_match, if_neg (by decide), if_pos rfl, b_X4_match_33, h0, if_neg (by rw [n3_le (by omega) (by omega)]; omega)]
      simp (disch := omega) only [↓reduceIte, Option.bind_some, n3_lit, n3_cl, n3_in, n3_ltT, n3_ltF, n3_leT, n3_leF, n3_eqT, n3_eqF, n3_add, n3_sub, not_true_eq_false, not_false_eq_true, true_or, or_true, false_or, or_false, Nat.zero_add, Nat.add_zero, nn_lt, nn_le, nn_gt, nn_ge, nn_eq, nn_qe, e.1, e.2.1, e'.1, c_rate, hpr, n3_mul, fm_sI_ne]
    cases hq : fitP a t v S s p
    · rw [hq] at start rest
      refine rest μ (Ch.refl _ _ μ) ?_ ?_
      · rw [fstep, if_neg (by decide)]; exact hz
      · rw [start, if_pos (show n3 (bi false) = n3 0 from rfl)]
    · rw [hq] at start rest
      obtain ⟨z1, z2, z3, z4⟩ := hz
      by_cases c : z.1 = 0
      · refine rest (fm_sI (fm_sI (fm_sI (fm_sI μ 125 4 (n3 (10 * s + p))) 125 3 ((μ.1 125 3) + n3 1)) 125 5 ((μ.1 125 5) ||| (n3 1 <<< (n3 s &&& n3 31)))) 125 6 ((μ.1 125 6) ||| (n3 1 <<< (n3 p &&& n3 31)))) (((((Ch.refl _ _ μ).sI (by omega)).sI (by omega)).sI (by omega)).sI (by omega)) ?_ ?_
        · rw [fstep, if_pos rfl, if_pos c]
          refine ⟨?_, ?_, ?_, ?_⟩
          · simp (disch := omega) only [fm_sI_ne, fm_sI_eq, z1, n3_add]
          · simp (disch := omega) only [fm_sI_ne, fm_sI_eq]
          · simp (disch := omega) only [fm_sI_ne, fm_sI_eq, z3]
          · simp (disch := omega) only [fm_sI_ne, fm_sI_eq, z4]
        · rw [start, if_neg (by decide), if_neg (by rw [z1, c]; decide)]
      · refine rest (fm_sI (fm_sI (fm_sI (fm_sI μ 125 4 (μ.1 125 4)) 125 3 ((μ.1 125 3) + n3 1)) 125 5 ((μ.1 125 5) ||| (n3 1 <<< (n3 s &&& n3 31)))) 125 6 ((μ.1 125 6) ||| (n3 1 <<< (n3 p &&& n3 31)))) (((((Ch.refl _ _ μ).sI (by omega)).sI (by omega)).sI (by omega)).sI (by omega)) ?_ ?_
        · rw [fstep, if_pos rfl, if_neg c]
          refine ⟨?_, ?_, ?_, ?_⟩
          · simp (disch := omega) only [fm_sI_ne, fm_sI_eq, z1, n3_add]
          · simp (disch := omega) only [fm_sI_ne, fm_sI_eq, z2]
          · simp (disch := omega) only [fm_sI_ne, fm_sI_eq, z3]
          · simp (disch := omega) only [fm_sI_ne, fm_sI_eq, z4]
        · rw [start, if_neg (by decide), if_pos (by rw [z1, n3_eq (by omega) (by omega)]; exact c)]
theorem c_fout {t v : Nat → Nat} {S : Nat} (wf : WF a) (hS : S ≤ 6) (hF : 100 < F) : ∀ (k s n : Nat) (μ : fm_M) (z : Nat × Int32 × Int32 × Int32), s + k = a 23 → 6 * k < n → z.1 + 4 * k < 1000 → AW μ 101 a → seenC μ t v S → FS μ z → ∃ ν, g_X4_match F n 23 (n3 s) (n3 0) μ = some ((), ν) ∧ Ch (fun q j => q = 125 ∧ j ≠ 0) (fun _ _ => False) μ ν ∧ FS ν (fout (fitP a t v S) (a 38) s k z)
  | 0, s, n + 1, μ, z, hk, _, _, hw, hc, hz => by
    obtain rfl : s = a 23 := by omega
    refine ⟨μ, ?_, Ch.refl _ _ μ, hz⟩
    have h3 := hw.z.1.2.1
    have b := wf.1
    rw [g_X4_match, if_pos rfl, b_X4_match_23, h3, if_pos (by rw [n3_le (by omega) (by omega)]; omega)]
  | k + 1, s, n + 1, μ, z, hk, hn, hz0, hw, hc, hz => by
    have h3 := hw.z.1.2.1
    have b := wf.1
    obtain ⟨μ1, q1, q2, q3⟩ := c_fin (F := F) (s := s) wf hS (by omega) hF (a 38) 0 n μ z (by omega) (by omega) (by omega) hw hc hz
    have fl := fin_le (fitP a t v S) s (a 38) 0 z
    obtain ⟨ν, r1, r2, r3⟩ := c_fout wf hS hF k (s + 1) (n - (a 38 + 1)) μ1 _ (by omega) (by omega) (by omega) (hw.ch q2 (fun j c => by omega) (fun q j _ _ c => c)) (hc.ch q2) q3
    refine ⟨ν, ?_, q2.trans r2, r3⟩
    rw [g_X4_match, if_pos rfl, b_X4_match_23, h3, if_neg (by rw [n3_le (by omega) (by omega)]; omega), n3_lit, q1, r1]
theorem m_fin (hp : AP μ 0 a) (wf : WF a) {t v : Nat → Nat} {S s : Nat} {x : Int32} (hS : S ≤ 6) (e0 : μ.1 232 33 = n3 S) (hs0 : ∀ i, i < S → t i ≤ 20 ∧ v i ≤ 99 ∧ μ.2.1 248 (2 * i) = n3 (t i) ∧ μ.2.1 248 (2 * i + 1) = n3 (v i)) (hs : s < a 23) (hF : 100 < F) : ∀ (k p n : Nat) (z : Nat × Int32 × Int32 × Int32), p + k = a 38 → k < n → z.1 + k < 1000 → g_X9_fits F n 43 x (n3 z.1) z.2.1 z.2.2.1 z.2.2.2 (n3 s) (n3 p) μ = g_X9_fits F (n - (k + 1)) 28 x (n3 (fin_ (fitP a t v S) s p k z).1) (fin_ (fitP a t v S) s p k z).2.1 (fin_ (fitP a t v S) s p k z).2.2.1 (fin_ (fitP a t v S) s p k z).2.2.2 (n3 (s + 1)) (n3 0) μ
  | 0, p, n + 1, z, hk, _, _ => by
    obtain rfl : p = a 38 := by omega
    have k1 := hp.z.1.1
    have b := wf.1
    rw [g_X9_fits, if_neg (by decide), if_pos rfl, b_X9_fits_43, k1, if_pos (by rw [n3_le (by omega) (by omega)]; omega)]
    simp (disch := omega) only [↓reduceIte, Option.bind_some, n3_lit, n3_cl, n3_in, n3_ltT, n3_ltF, n3_leT, n3_leF, n3_eqT, n3_eqF, n3_add, n3_sub, not_true_eq_false, not_false_eq_true, true_or, or_true, false_or, or_false, Nat.zero_add, Nat.add_zero, nn_lt, nn_le, nn_gt, nn_ge, nn_eq, nn_qe, Nat.add_sub_cancel, fin_]
  | k + 1, p, n + 1, z, hk, hn, hz0 => by
    have k1 := hp.z.1.1
    have b := wf.1
    have hpr : f_X9_isAsSeen F (n3 s) (n3 p) μ = some (n3 (bi (fitP a t v S s p)), μ) := by
      have := m_pair_l (F := F) hp wf hS e0 hs0 hs (p := p) (by omega) hF S 0 F true (by omega) (by omega)
      rw [Bool.true_and] at this
      exact this
    have fl := fstep_le (fitP a t v S s p) s p z
    have ih := m_fin hp wf (x := x) hS e0 hs0 hs hF k (p + 1) n (fstep (fitP a t v S s p) s p z) (by omega) (by omega) (by omega)
    rw [Nat.add_sub_add_right, fin_, ← ih]
    rw [g_X9_fits, if_neg (by decide), if_pos rfl, b_X9_fits_43, k1, if_neg (by rw [n3_le (by omega) (by omega)]; omega), hpr, Option.bind_some]
    cases hq : fitP a t v S s p
    · rw [fstep_f]
      simp (disch := omega) only [↓reduceIte, Option.bind_some, n3_lit, n3_cl, n3_in, n3_ltT, n3_ltF, n3_leT, n3_leF, n3_eqT, n3_eqF, n3_add, n3_sub, not_true_eq_false, not_false_eq_true, true_or, or_true, false_or, or_false, Nat.zero_add, Nat.add_zero, nn_lt, nn_le, nn_gt, nn_ge, nn_eq, nn_qe, bi_f]
    · rw [fstep_t]
      by_cases c : z.1 = 0
      · simp (disch := omega) only [↓reduceIte, Option.bind_some, n3_lit, n3_cl, n3_in, n3_ltT, n3_ltF, n3_leT, n3_leF, n3_eqT, n3_eqF, n3_add, n3_sub, not_true_eq_false, not_false_eq_true, true_or, or_true, false_or, or_false, Nat.zero_add, Nat.add_zero, nn_lt, nn_le, nn_gt, nn_ge, nn_eq, nn_qe, bi_t, c, n3_mul]
      · simp (disch := omega) only [↓reduceIte, Option.bind_some, n3_lit, n3_cl, n3_in, n3_ltT, n3_ltF, n3_leT, n3_leF, n3_eqT, n3_eqF, n3_add, n3_sub, not_true_eq_false, not_false_eq_true, true_or, or_true, false_or, or_false, Nat.zero_add, Nat.add_zero, nn_lt, nn_le, nn_gt, nn_ge, nn_eq, nn_qe, bi_t, if_neg c, n3_mul]
theorem m_fout (hp : AP μ 0 a) (wf : WF a) {t v : Nat → Nat} {S : Nat} {x : Int32} (hS : S ≤ 6) (e0 : μ.1 232 33 = n3 S) (hs0 : ∀ i, i < S → t i ≤ 20 ∧ v i ≤ 99 ∧ μ.2.1 248 (2 * i) = n3 (t i) ∧ μ.2.1 248 (2 * i + 1) = n3 (v i)) (hF : 100 < F) : ∀ (k s n : Nat) (z : Nat × Int32 × Int32 × Int32), s + k = a 23 → 6 * k < n → z.1 + 4 * k < 1000 → g_X9_fits F n 28 x (n3 z.1) z.2.1 z.2.2.1 z.2.2.2 (n3 s) (n3 0) μ = (if ¬ x = n3 0 then (if ¬ x = n3 1 then (if ¬ x = n3 2 then some ((fout (fitP a t v S) (a 38) s k z).2.2.2, μ) else some ((fout (fitP a t v S) (a 38) s k z).2.2.1, μ)) else some ((fout (fitP a t v S) (a 38) s k z).2.1, μ)) else some (n3 (fout (fitP a t v S) (a 38) s k z).1, μ))
  | 0, s, n + 1, z, hk, _, _ => by
    obtain rfl : s = a 23 := by omega
    have k23 := hp.z.2.1.1
    have b := wf.1
    rw [g_X9_fits, if_pos rfl, b_X9_fits_28, fout]
    simp (disch := omega) only [↓reduceIte, Option.bind_some, n3_lit, n3_cl, n3_in, n3_ltT, n3_ltF, n3_leT, n3_leF, n3_eqT, n3_eqF, n3_add, n3_sub, not_true_eq_false, not_false_eq_true, true_or, or_true, false_or, or_false, Nat.zero_add, Nat.add_zero, nn_lt, nn_le, nn_gt, nn_ge, nn_eq, nn_qe, k23]
  | k + 1, s, n + 1, z, hk, hn, hz0 => by
    have k23 := hp.z.2.1.1
    have b := wf.1
    have q1 := m_fin (F := F) hp wf (x := x) hS e0 hs0 (s := s) (by omega) hF (a 38) 0 n z (by omega) (by omega) (by omega)
    have fl := fin_le (fitP a t v S) s (a 38) 0 z
    have ih := m_fout hp wf (x := x) hS e0 hs0 hF k (s + 1) (n - (a 38 + 1)) (fin_ (fitP a t v S) s 0 (a 38) z) (by omega) (by omega) (by omega)
    rw [fout, ← ih, ← q1, g_X9_fits, if_pos rfl, b_X9_fits_28]
    simp (disch := omega) only [↓reduceIte, Option.bind_some, n3_lit, n3_cl, n3_in, n3_ltT, n3_ltF, n3_leT, n3_leF, n3_eqT, n3_eqF, n3_add, n3_sub, not_true_eq_false, not_false_eq_true, true_or, or_true, false_or, or_false, Nat.zero_add, Nat.add_zero, nn_lt, nn_le, nn_gt, nn_ge, nn_eq, nn_qe, k23]
theorem ok_fits (h : R μ) (hF : 200 < F) (x : Int32) : OK2 (f_X8_fits F x) (f_X9_fits F x) μ := by
  obtain ⟨a, wf, bm, hw, hp⟩ := h.1
  have b := wf.1
  obtain ⟨S, s1, s2, s3, s4⟩ := h.2.2.2.1
  have hsv : ∀ i, i < S → (μ.2.1 126 i).toNatClampNeg ≤ 20 ∧ (μ.2.1 127 i).toNatClampNeg ≤ 99 ∧ μ.2.1 126 i = n3 (μ.2.1 126 i).toNatClampNeg ∧ μ.2.1 127 i = n3 (μ.2.1 127 i).toNatClampNeg ∧ μ.2.1 248 (2 * i) = n3 (μ.2.1 126 i).toNatClampNeg ∧ μ.2.1 248 (2 * i + 1) = n3 (μ.2.1 127 i).toNatClampNeg := fun i hi => by
    obtain ⟨t', v', d1, d2, d3, d4, d5, d6⟩ := s4 i hi
    rw [d3, d4, d5, d6, n3_cl (by omega), n3_cl (by omega)]
    exact ⟨d1, d2, rfl, rfl, rfl, rfl⟩
  generalize ht : (fun i => (μ.2.1 126 i).toNatClampNeg) = t at hsv
  generalize hv : (fun i => (μ.2.1 127 i).toNatClampNeg) = v at hsv
  have hsv : ∀ i, i < S → t i ≤ 20 ∧ v i ≤ 99 ∧ μ.2.1 126 i = n3 (t i) ∧ μ.2.1 127 i = n3 (v i) ∧ μ.2.1 248 (2 * i) = n3 (t i) ∧ μ.2.1 248 (2 * i + 1) = n3 (v i) := by
    rw [← ht, ← hv]; exact hsv
  rcases n3_cases x 4 (by decide) with ⟨j, hj, rfl⟩ | hx
  · have cc : Ch (fun q j => q = 125 ∧ j ≠ 0) (fun _ _ => False) μ (fm_sI (fm_sI (fm_sI (fm_sI μ 125 3 (n3 0)) 125 4 (-n3 4)) 125 5 (n3 0)) 125 6 (n3 0)) := ((((Ch.refl _ _ μ).sI (by omega)).sI (by omega)).sI (by omega)).sI (by omega)
    have sc : seenC μ t v S := ⟨s2, fun i hi => ⟨(hsv i hi).1, (hsv i hi).2.1, (hsv i hi).2.2.1, (hsv i hi).2.2.2.1⟩⟩
    obtain ⟨μ1, q1, q2, q3⟩ := c_fout (F := F) wf s1 (by omega) (a 23) 0 F _ (0, -n3 4, n3 0, n3 0) (by omega) (by omega) (by omega) (hw.ch cc (fun j c => by omega) (fun q j _ _ c => c)) (sc.ch cc) ⟨by simp (disch := omega) only [fm_sI_ne, fm_sI_eq], by simp (disch := omega) only [fm_sI_ne, fm_sI_eq], by simp (disch := omega) only [fm_sI_ne, fm_sI_eq], by simp (disch := omega) only [fm_sI_ne, fm_sI_eq]⟩
    have c2 := cc.trans q2
    have hp1 := hp.ch wf c2 (by omega) (by omega) (fun _ => id) (fun _ => id) (fun _ _ _ => id)
    have em := m_fout (F := F) hp1 wf (x := n3 j) s1 (by rw [c2.1 232 33 (by omega)]; exact s3) (t := t) (v := v) (fun i hi => by rw [c2.2.1 248 _ id, c2.2.1 248 _ id]; exact ⟨(hsv i hi).1, (hsv i hi).2.1, (hsv i hi).2.2.2.2⟩) (by omega) (a 23) 0 F (0, -n3 4, n3 0, n3 0) (by omega) (by omega) (by omega)
    have hR : R μ1 := h.free (c2.weak (fun q j c => by omega) (fun q j c => False.elim c))
    have q1 : f_X4_match F μ = some ((), μ1) := by
      unfold f_X4_match
      simp only [Option.bind_some]
      rw [← q1]
      simp only [n3_lit]
    obtain ⟨z1, z2, z3, z4⟩ := q3
    dsimp only at em
    have em' : f_X9_fits F (n3 j) μ1 = g_X9_fits F F 28 (n3 j) (n3 0) (-n3 4) (n3 0) (n3 0) (n3 0) (n3 0) μ1 := by
      unfold f_X9_fits
      rw [m_inT (by omega) (by omega) (by omega), Option.bind_some, if_pos (show ¬ n3 1 = 0 by decide)]
      simp only [n3_lit]
    have e8 : f_X8_fits F (n3 j) μ = (if (n3 j).toInt < 0 ∨ 2 < (n3 j).toInt then some ((μ1.1 125 6), μ1) else (if (n3 j).toInt = 0 then some ((μ1.1 125 3), μ1) else (if (n3 j).toInt = 1 then some ((μ1.1 125 4), μ1) else some ((μ1.1 125 5), μ1)))) := by
      unfold f_X8_fits
      rw [n3_lit, n3_lit, c_isInT (by omega) (by omega) (by omega), Option.bind_some, if_pos (show ¬ n3 1 = n3 0 by decide), q1, Option.bind_some]
    generalize fout (fitP a t v S) (a 38) 0 (a 23) (0, -n3 4, n3 0, n3 0) = zz at em z1 z2 z3 z4
    rcases (show j = 0 ∨ j = 1 ∨ j = 2 ∨ j = 3 by omega) with rfl | rfl | rfl | rfl
    · exact ⟨n3 zz.1, μ1, μ1, by rw [e8]; simp (disch := omega) only [n3_int, if_neg, if_pos, z1], by rw [em', em]; simp (disch := omega) only [↓reduceIte, Option.bind_some, n3_lit, n3_cl, n3_in, n3_ltT, n3_ltF, n3_leT, n3_leF, n3_eqT, n3_eqF, n3_add, n3_sub, not_true_eq_false, not_false_eq_true, true_or, or_true, false_or, or_false, Nat.zero_add, Nat.add_zero, nn_lt, nn_le, nn_gt, nn_ge, nn_eq, nn_qe], hR⟩
    · exact ⟨zz.2.1, μ1, μ1, by rw [e8]; simp (disch := omega) only [n3_int, if_neg, if_pos, z2], by rw [em', em]; simp (disch := omega) only [↓reduceIte, Option.bind_some, n3_lit, n3_cl, n3_in, n3_ltT, n3_ltF, n3_leT, n3_leF, n3_eqT, n3_eqF, n3_add, n3_sub, not_true_eq_false, not_false_eq_true, true_or, or_true, false_or, or_false, Nat.zero_add, Nat.add_zero, nn_lt, nn_le, nn_gt, nn_ge, nn_eq, nn_qe], hR⟩
    · exact ⟨zz.2.2.1, μ1, μ1, by rw [e8]; simp (disch := omega) only [n3_int, if_neg, if_pos, z3], by rw [em', em]; simp (disch := omega) only [↓reduceIte, Option.bind_some, n3_lit, n3_cl, n3_in, n3_ltT, n3_ltF, n3_leT, n3_leF, n3_eqT, n3_eqF, n3_add, n3_sub, not_true_eq_false, not_false_eq_true, true_or, or_true, false_or, or_false, Nat.zero_add, Nat.add_zero, nn_lt, nn_le, nn_gt, nn_ge, nn_eq, nn_qe], hR⟩
    · exact ⟨zz.2.2.2, μ1, μ1, by rw [e8]; simp (disch := omega) only [n3_int, if_neg, if_pos, z4], by rw [em', em]; simp (disch := omega) only [↓reduceIte, Option.bind_some, n3_lit, n3_cl, n3_in, n3_ltT, n3_ltF, n3_leT, n3_leF, n3_eqT, n3_eqF, n3_add, n3_sub, not_true_eq_false, not_false_eq_true, true_or, or_true, false_or, or_false, Nat.zero_add, Nat.add_zero, nn_lt, nn_le, nn_gt, nn_ge, nn_eq, nn_qe], hR⟩
  · refine OK2.same h (v := -n3 1) ?_ ?_
    · simp (disch := omega) only [f_X8_fits, ↓reduceIte, Option.bind_some, n3_lit, n3_cl, n3_in, n3_ltT, n3_ltF, n3_leT, n3_leF, n3_eqT, n3_eqF, n3_add, n3_sub, not_true_eq_false, not_false_eq_true, true_or, or_true, false_or, or_false, Nat.zero_add, Nat.add_zero, nn_lt, nn_le, nn_gt, nn_ge, nn_eq, nn_qe, c_isInN hx]
    · simp (disch := omega) only [f_X9_fits, ↓reduceIte, Option.bind_some, n3_lit, n3_cl, n3_in, n3_ltT, n3_ltF, n3_leT, n3_leF, n3_eqT, n3_eqF, n3_add, n3_sub, not_true_eq_false, not_false_eq_true, true_or, or_true, false_or, or_false, Nat.zero_add, Nat.add_zero, nn_lt, nn_le, nn_gt, nn_ge, nn_eq, nn_qe, m_inO hx]
end VS48
