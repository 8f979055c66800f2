/-! counts, what fits -/
section VS47
variable {F : Nat} {μ ν : fm_M} {a : Nat → Nat} {w : Nat}
theorem m_count_2 (hp : AP μ 0 a) (wf : WF a) {x : Int32} {A : Nat} : ∀ (k i n : Nat), i + k = a 39 → k < n → g_X9_count F n 41 x (n3 A) (n3 (sumD a i)) (n3 i) μ = g_X9_count F 1 41 x (n3 A) (n3 (sumD a (a 39))) (n3 (a 39)) μ
  | 0, i, n + 1, hk, _ => by
    obtain rfl : i = a 39 := by omega
    have k3 := hp.z.1.2.1
    have b := wf.1
    rw [g_X9_count, g_X9_count, if_neg (by decide : ¬ (41 : Nat) = 7), if_pos rfl, if_neg (by decide : ¬ (41 : Nat) = 7), if_pos rfl]
    unfold b_X9_count_41
    have c : n3 (a 39) ≤ n3 (a 39) := by rw [n3_le (by omega) (by omega)]; omega
    rw [k3, if_pos c, if_pos c]
  | k + 1, i, n + 1, hk, hn => by
    have ih := m_count_2 hp wf (x := x) (A := A) k (i + 1) n (by omega) (by omega)
    have k3 := hp.z.1.2.1
    have b := wf.1
    have e := hp.z.2.2.2.2.2 i (by omega)
    rw [← ih, g_X9_count, if_neg (by decide), if_pos rfl]
    unfold b_X9_count_41
    rw [k3, if_neg (by rw [n3_le (by omega) (by omega)]; omega), sumD]
    simp (disch := omega) only [↓reduceIte, Option.bind_some, n3_lit, n3_cl, n3_in, n3_ltT, n3_ltF, n3_leT, n3_leF, n3_eqT, n3_eqF, n3_add, n3_sub, not_true_eq_false, not_false_eq_true, true_or, or_true, false_or, or_false, Nat.zero_add, Nat.add_zero, nn_lt, nn_le, nn_gt, nn_ge, nn_eq, nn_qe, e]
theorem m_count_1 (hp : AP μ 0 a) (wf : WF a) {x : Int32} : ∀ (k i n : Nat), i + k = a 23 → k + 10 < n → g_X9_count F n 7 x (n3 (sumW a i)) (n3 0) (n3 i) μ = g_X9_count F 1 41 x (n3 (sumW a (a 23))) (n3 (sumD a (a 39))) (n3 (a 39)) μ
  | 0, i, n + 1, hk, hn => by
    obtain rfl : i = a 23 := by omega
    have k23 := hp.z.2.1.1
    have b := wf.1
    have h2 := m_count_2 (F := F) hp wf (x := x) (A := sumW a (a 23)) (a 39) 0 n (by omega) (by omega)
    rw [← h2, g_X9_count, if_pos rfl]
    unfold b_X9_count_7
    simp (disch := omega) only [↓reduceIte, Option.bind_some, n3_lit, n3_cl, n3_in, n3_ltT, n3_ltF, n3_leT, n3_leF, n3_eqT, n3_eqF, n3_add, n3_sub, not_true_eq_false, not_false_eq_true, true_or, or_true, false_or, or_false, Nat.zero_add, Nat.add_zero, nn_lt, nn_le, nn_gt, nn_ge, nn_eq, nn_qe, k23, sumD]
  | k + 1, i, n + 1, hk, hn => by
    have ih := m_count_1 hp wf (x := x) k (i + 1) n (by omega) (by omega)
    have k23 := hp.z.2.1.1
    have b := wf.1
    have e := hp.z.2.2.2.1 i (by omega)
    rw [← ih, g_X9_count, if_pos rfl]
    unfold b_X9_count_7
    simp (disch := omega) only [↓reduceIte, Option.bind_some, n3_lit, n3_cl, n3_in, n3_ltT, n3_ltF, n3_leT, n3_leF, n3_eqT, n3_eqF, n3_add, n3_sub, not_true_eq_false, not_false_eq_true, true_or, or_true, false_or, or_false, Nat.zero_add, Nat.add_zero, nn_lt, nn_le, nn_gt, nn_ge, nn_eq, nn_qe, k23, e.2.1, sumW]
theorem ok_count (h : R μ) (hF : 100 < F) (x : Int32) : OK2 (f_X8_count F x) (f_X9_count F x) μ := by
  obtain ⟨a, wf, bm, hw, hp⟩ := h.1
  have b := wf.1
  obtain ⟨hK, ⟨T, t1, t2, t3, t4⟩, ⟨S, s1, s2, s3, s4⟩, hH, hf, hc⟩ := h.2
  have hm : f_X9_count F x μ = g_X9_count F 1 41 x (n3 (sumW a (a 23))) (n3 (sumD a (a 39))) (n3 (a 39)) μ := m_count_1 hp wf (a 23) 0 F (by omega) (by omega)
  have c1 := c_cnt (F := F) hw wf (by omega)
  have c2 : f_X7_allWarmth F 101 μ = some (n3 (sumW a (a 23)), μ) := c_sumW_l hw wf (a 23) 0 F (by omega) (by omega)
  have c3 : f_X7_allDebts F 101 μ = some (n3 (sumD a (a 39)), μ) := c_sumD_l hw wf (a 39) 0 F (by omega) (by omega)
  have d1 := m_cnt (F := F) hp wf (by omega)
  have k3 := hp.z.1.2.1
  have ew := fun (v : Int32) (h1 : f_X8_count F x μ = some (v, μ)) (h2 : g_X9_count F 1 41 x (n3 (sumW a (a 23))) (n3 (sumD a (a 39))) (n3 (a 39)) μ = some (v, μ)) => OK2.same (f := f_X8_count F x) (g := f_X9_count F x) h h1 (hm.trans h2)
  have eg : ∀ y, g_X9_count F 1 41 y (n3 (sumW a (a 23))) (n3 (sumD a (a 39))) (n3 (a 39)) μ = (if y.toInt < 0 ∨ 6 < y.toInt then some (-n3 1, μ) else (if y.toInt = 0 then some (n3 S, μ) else (if y.toInt = 1 then (if μ.2.1 249 0 = n3 0 then (if μ.2.1 249 1 = n3 0 then some (n3 0, μ) else some (n3 1, μ)) else (if μ.2.1 249 1 = n3 0 then some (n3 1, μ) else some (n3 2, μ))) else (if y.toInt = 2 then some (n3 T, μ) else (if y.toInt = 3 then (if ¬ μ.2.1 250 0 = -n3 4 then some (μ.2.1 251 0, μ) else some (-n3 4, μ)) else (if y.toInt = 4 then some (n3 (cntW a (a 23)), μ) else (if y.toInt = 5 then some (n3 (sumW a (a 23)), μ) else some (n3 (sumD a (a 39)), μ)))))))) := by
    intro y
    rw [g_X9_count, if_neg (by decide), if_pos rfl]
    unfold b_X9_count_41
    rw [k3, if_pos (by rw [n3_le (by omega) (by omega)]; omega)]
    simp (disch := omega) only [↓reduceIte, Option.bind_some, n3_lit, n3_cl, n3_in, n3_ltT, n3_ltF, n3_leT, n3_leF, n3_eqT, n3_eqF, n3_add, n3_sub, not_true_eq_false, not_false_eq_true, true_or, or_true, false_or, or_false, Nat.zero_add, Nat.add_zero, nn_lt, nn_le, nn_gt, nn_ge, nn_eq, nn_qe, s3, t3, d1]
  rcases n3_cases x 7 (by decide) with ⟨i, hi, rfl⟩ | hx
  · rcases (show i = 0 ∨ i = 1 ∨ i = 2 ∨ i = 3 ∨ i = 4 ∨ i = 5 ∨ i = 6 by omega) with rfl | rfl | rfl | rfl | rfl | rfl | rfl
    · refine ew (n3 S) ?_ ?_
      · simp (disch := omega) only [f_X8_count, n3_int, if_neg, if_pos, s2]
      · rw [eg]; simp (disch := omega) only [n3_int, if_neg, if_pos]
    · have a0 := hK 0 (by omega)
      have a1 := hK 1 (by omega)
      have q0 : μ.2.1 249 0 = n3 0 ∨ μ.2.1 249 0 = n3 1 := by rw [← a0.1]; exact a0.2.imp id (fun c => c.1)
      have q1 : μ.2.1 249 1 = n3 0 ∨ μ.2.1 249 1 = n3 1 := by rw [← a1.1]; exact a1.2.imp id (fun c => c.1)
      rcases q0 with q0 | q0 <;> rcases q1 with q1 | q1
      · refine ew (n3 0) ?_ ?_
        · simp (disch := omega) only [f_X8_count, n3_int, if_neg, if_pos, ↓reduceIte, Option.bind_some, n3_lit, n3_cl, n3_in, n3_ltT, n3_ltF, n3_leT, n3_leF, n3_eqT, n3_eqF, n3_add, n3_sub, not_true_eq_false, not_false_eq_true, true_or, or_true, false_or, or_false, Nat.zero_add, Nat.add_zero, nn_lt, nn_le, nn_gt, nn_ge, nn_eq, nn_qe, a0.1, a1.1, q0, q1]
        · rw [eg]; simp (disch := omega) only [n3_int, if_neg, if_pos, ↓reduceIte, Option.bind_some, n3_lit, n3_cl, n3_in, n3_ltT, n3_ltF, n3_leT, n3_leF, n3_eqT, n3_eqF, n3_add, n3_sub, not_true_eq_false, not_false_eq_true, true_or, or_true, false_or, or_false, Nat.zero_add, Nat.add_zero, nn_lt, nn_le, nn_gt, nn_ge, nn_eq, nn_qe, q0, q1]
      · refine ew (n3 1) ?_ ?_
        · simp (disch := omega) only [f_X8_count, n3_int, if_neg, if_pos, ↓reduceIte, Option.bind_some, n3_lit, n3_cl, n3_in, n3_ltT, n3_ltF, n3_leT, n3_leF, n3_eqT, n3_eqF, n3_add, n3_sub, not_true_eq_false, not_false_eq_true, true_or, or_true, false_or, or_false, Nat.zero_add, Nat.add_zero, nn_lt, nn_le, nn_gt, nn_ge, nn_eq, nn_qe, a0.1, a1.1, q0, q1]
        · rw [eg]; simp (disch := omega) only [n3_int, if_neg, if_pos, ↓reduceIte, Option.bind_some, n3_lit, n3_cl, n3_in, n3_ltT, n3_ltF, n3_leT, n3_leF, n3_eqT, n3_eqF, n3_add, n3_sub, not_true_eq_false, not_false_eq_true, true_or, or_true, false_or, or_false, Nat.zero_add, Nat.add_zero, nn_lt, nn_le, nn_gt, nn_ge, nn_eq, nn_qe, q0, q1]
      · refine ew (n3 1) ?_ ?_
        · simp (disch := omega) only [f_X8_count, n3_int, if_neg, if_pos, ↓reduceIte, Option.bind_some, n3_lit, n3_cl, n3_in, n3_ltT, n3_ltF, n3_leT, n3_leF, n3_eqT, n3_eqF, n3_add, n3_sub, not_true_eq_false, not_false_eq_true, true_or, or_true, false_or, or_false, Nat.zero_add, Nat.add_zero, nn_lt, nn_le, nn_gt, nn_ge, nn_eq, nn_qe, a0.1, a1.1, q0, q1]
        · rw [eg]; simp (disch := omega) only [n3_int, if_neg, if_pos, ↓reduceIte, Option.bind_some, n3_lit, n3_cl, n3_in, n3_ltT, n3_ltF, n3_leT, n3_leF, n3_eqT, n3_eqF, n3_add, n3_sub, not_true_eq_false, not_false_eq_true, true_or, or_true, false_or, or_false, Nat.zero_add, Nat.add_zero, nn_lt, nn_le, nn_gt, nn_ge, nn_eq, nn_qe, q0, q1]
      · refine ew (n3 2) ?_ ?_
        · simp (disch := omega) only [f_X8_count, n3_int, if_neg, if_pos, ↓reduceIte, Option.bind_some, n3_lit, n3_cl, n3_in, n3_ltT, n3_ltF, n3_leT, n3_leF, n3_eqT, n3_eqF, n3_add, n3_sub, not_true_eq_false, not_false_eq_true, true_or, or_true, false_or, or_false, Nat.zero_add, Nat.add_zero, nn_lt, nn_le, nn_gt, nn_ge, nn_eq, nn_qe, a0.1, a1.1, q0, q1]
        · rw [eg]; simp (disch := omega) only [n3_int, if_neg, if_pos, ↓reduceIte, Option.bind_some, n3_lit, n3_cl, n3_in, n3_ltT, n3_ltF, n3_leT, n3_leF, n3_eqT, n3_eqF, n3_add, n3_sub, not_true_eq_false, not_false_eq_true, true_or, or_true, false_or, or_false, Nat.zero_add, Nat.add_zero, nn_lt, nn_le, nn_gt, nn_ge, nn_eq, nn_qe, q0, q1]
    · refine ew (n3 T) ?_ ?_
      · simp (disch := omega) only [f_X8_count, n3_int, if_neg, if_pos, t2]
      · rw [eg]; simp (disch := omega) only [n3_int, if_neg, if_pos]
    · rcases hH 0 (by omega) with ⟨g1, g2⟩ | ⟨l, n, p1, p2, p3, p4, p5, p6, p7⟩
      · have g1 : μ.1 224 0 = -n3 1 := g1
        refine ew (-n3 4) ?_ ?_
        · simp (disch := omega) only [f_X8_count, n3_int, if_neg, if_pos, ↓reduceIte, Option.bind_some, n3_lit, n3_cl, n3_in, n3_ltT, n3_ltF, n3_leT, n3_leF, n3_eqT, n3_eqF, n3_add, n3_sub, not_true_eq_false, not_false_eq_true, true_or, or_true, false_or, or_false, Nat.zero_add, Nat.add_zero, nn_lt, nn_le, nn_gt, nn_ge, nn_eq, nn_qe, f_X3_isThere, g1]
        · rw [eg]; simp (disch := omega) only [n3_int, if_neg, if_pos, ↓reduceIte, Option.bind_some, n3_lit, n3_cl, n3_in, n3_ltT, n3_ltF, n3_leT, n3_leF, n3_eqT, n3_eqF, n3_add, n3_sub, not_true_eq_false, not_false_eq_true, true_or, or_true, false_or, or_false, Nat.zero_add, Nat.add_zero, nn_lt, nn_le, nn_gt, nn_ge, nn_eq, nn_qe, g2]
      · have p3 : μ.1 224 0 = n3 l := p3
        have p4 : μ.1 224 1 = n3 n := p4
        refine ew (n3 n) ?_ ?_
        · simp (disch := omega) only [f_X8_count, n3_int, if_neg, if_pos, ↓reduceIte, Option.bind_some, n3_lit, n3_cl, n3_in, n3_ltT, n3_ltF, n3_leT, n3_leF, n3_eqT, n3_eqF, n3_add, n3_sub, not_true_eq_false, not_false_eq_true, true_or, or_true, false_or, or_false, Nat.zero_add, Nat.add_zero, nn_lt, nn_le, nn_gt, nn_ge, nn_eq, nn_qe, f_X3_isThere, p3, p4]
        · rw [eg]; simp (disch := omega) only [n3_int, if_neg, if_pos, ↓reduceIte, Option.bind_some, n3_lit, n3_cl, n3_in, n3_ltT, n3_ltF, n3_leT, n3_leF, n3_eqT, n3_eqF, n3_add, n3_sub, not_true_eq_false, not_false_eq_true, true_or, or_true, false_or, or_false, Nat.zero_add, Nat.add_zero, nn_lt, nn_le, nn_gt, nn_ge, nn_eq, nn_qe, p5, p6]
    · refine ew (n3 (cntW a (a 23))) ?_ ?_
      · simp (disch := omega) only [f_X8_count, n3_int, if_neg, if_pos, c1, Option.bind_some]
      · rw [eg]; simp (disch := omega) only [n3_int, if_neg, if_pos]
    · refine ew (n3 (sumW a (a 23))) ?_ ?_
      · simp (disch := omega) only [f_X8_count, n3_int, if_neg, if_pos, c2, Option.bind_some]
      · rw [eg]; simp (disch := omega) only [n3_int, if_neg, if_pos]
    · refine ew (n3 (sumD a (a 39))) ?_ ?_
      · simp (disch := omega) only [f_X8_count, n3_int, if_neg, if_pos, c3, Option.bind_some]
      · rw [eg]; simp (disch := omega) only [n3_int, if_neg, if_pos]
  · have hx2 := n3_out (by decide) hx
    refine ew (-n3 1) ?_ ?_
    · unfold f_X8_count
      rw [if_pos (by omega), n3_lit]
    · rw [eg, if_pos (by omega)]
def allF (P : Nat → Bool) : Nat → Nat → Bool
  | _, 0 => true
  | i, k + 1 => P i && allF P (i + 1) k
def bi (b : Bool) : Nat := if b = true then 1 else 0
def seenP (t v : Nat → Nat) (x r : Nat) : Nat → Bool := fun i => decide (coolN x r (t i) = v i)
theorem c_pair_l {t v : Nat → Nat} {S x r : Nat} (hS : S ≤ 6) (e0 : μ.1 125 0 = n3 S) (hs : ∀ i, i < S → t i ≤ 20 ∧ v i ≤ 99 ∧ μ.2.1 126 i = n3 (t i) ∧ μ.2.1 127 i = n3 (v i)) (hx : x < 100) (hr : r < 9) (hF : 100 < F) : ∀ (k i n : Nat), i + k = S → k < n → g_X4_isPair F n 2 (n3 x) (n3 r) (n3 i) μ = some (n3 (bi (allF (seenP t v x r) i k)), μ)
  | 0, i, n + 1, hk, _ => by
    obtain rfl : i = S := by omega
    rw [allF]
    simp (disch := omega) only [g_X4_isPair, b_X4_isPair_2, ↓reduceIte, Option.bind_some, n3_lit, n3_cl, n3_in, n3_ltT, n3_ltF, n3_leT, n3_leF, n3_eqT, n3_eqF, n3_add, n3_sub, not_true_eq_false, not_false_eq_true, true_or, or_true, false_or, or_false, Nat.zero_add, Nat.add_zero, nn_lt, nn_le, nn_gt, nn_ge, nn_eq, nn_qe, e0]
    rfl
  | k + 1, i, n + 1, hk, hn => by
    have ih := c_pair_l hS e0 hs hx hr hF k (i + 1) n (by omega) (by omega)
    obtain ⟨q1, q2, q3, q4⟩ := hs i (by omega)
    have := coolN_le x r (t i)
    rw [allF, seenP]
    by_cases c : coolN x r (t i) = v i
    · rw [decide_eq_true c, Bool.true_and]
      simp (disch := omega) only [g_X4_isPair, b_X4_isPair_2, ↓reduceIte, Option.bind_some, n3_lit, n3_cl, n3_in, n3_ltT, n3_ltF, n3_leT, n3_leF, n3_eqT, n3_eqF, n3_add, n3_sub, not_true_eq_false, not_false_eq_true, true_or, or_true, false_or, or_false, Nat.zero_add, Nat.add_zero, nn_lt, nn_le, nn_gt, nn_ge, nn_eq, nn_qe, e0, q3, q4, c_cooledFor]; exact ih
    · rw [decide_eq_false c, Bool.false_and]
      simp (disch := omega) only [g_X4_isPair, b_X4_isPair_2, ↓reduceIte, Option.bind_some, n3_lit, n3_cl, n3_in, n3_ltT, n3_ltF, n3_leT, n3_leF, n3_eqT, n3_eqF, n3_add, n3_sub, not_true_eq_false, not_false_eq_true, true_or, or_true, false_or, or_false, Nat.zero_add, Nat.add_zero, nn_lt, nn_le, nn_gt, nn_ge, nn_eq, nn_qe, e0, q3, q4, c_cooledFor]; rfl
theorem m_pair_l (hp : AP μ 0 a) (wf : WF a) {t v : Nat → Nat} {S s p : Nat} (hS : S ≤ 6) (e0 : μ.1 232 33 = n3 S) (hs : ∀ i, i < S → t i ≤ 20 ∧ v i ≤ 99 ∧ μ.2.1 248 (2 * i) = n3 (t i) ∧ μ.2.1 248 (2 * i + 1) = n3 (v i)) (hx : s < a 23) (hr : p < a 38) (hF : 100 < F) : ∀ (k i n : Nat) (q : Bool), i + k = S → k < n → g_X9_isAsSeen F n 5 (n3 s) (n3 p) (n3 (bi q)) (n3 i) μ = some (n3 (bi (q && allF (seenP t v (a (13 + s)) (rateA (a (8 + s)) (a p))) i k)), μ)
  | 0, i, n + 1, q, hk, _ => by
    obtain rfl : i = S := by omega
    rw [allF, Bool.and_true]
    cases q
    · simp (disch := omega) only [g_X9_isAsSeen, b_X9_isAsSeen_5, ↓reduceIte, Option.bind_some, n3_lit, n3_cl, n3_in, n3_ltT, n3_ltF, n3_leT, n3_leF, n3_eqT, n3_eqF, n3_add, n3_sub, not_true_eq_false, not_false_eq_true, true_or, or_true, false_or, or_false, Nat.zero_add, Nat.add_zero, nn_lt, nn_le, nn_gt, nn_ge, nn_eq, nn_qe, e0, bi]; rfl
    · simp (disch := omega) only [g_X9_isAsSeen, b_X9_isAsSeen_5, ↓reduceIte, Option.bind_some, n3_lit, n3_cl, n3_in, n3_ltT, n3_ltF, n3_leT, n3_leF, n3_eqT, n3_eqF, n3_add, n3_sub, not_true_eq_false, not_false_eq_true, true_or, or_true, false_or, or_false, Nat.zero_add, Nat.add_zero, nn_lt, nn_le, nn_gt, nn_ge, nn_eq, nn_qe, e0, bi]
  | k + 1, i, n + 1, q, hk, hn => by
    cases q
    · have ih := m_pair_l hp wf hS e0 hs hx hr hF k (i + 1) n false (by omega) (by omega)
      rw [Bool.false_and] at ih ⊢
      rw [← ih]
      simp (disch := omega) only [g_X9_isAsSeen, b_X9_isAsSeen_5, ↓reduceIte, Option.bind_some, n3_lit, n3_cl, n3_in, n3_ltT, n3_ltF, n3_leT, n3_leF, n3_eqT, n3_eqF, n3_add, n3_sub, not_true_eq_false, not_false_eq_true, true_or, or_true, false_or, or_false, Nat.zero_add, Nat.add_zero, nn_lt, nn_le, nn_gt, nn_ge, nn_eq, nn_qe, e0, bi]; rfl
    · have ih := m_pair_l hp wf hS e0 hs hx hr hF k (i + 1) n
      obtain ⟨q1, q2, q3, q4⟩ := hs i (by omega)
      have e := hp.z.2.2.2.1 s hx
      have e' := hp.z.2.2.1 p hr
      have kb := hp.z.1.2.2.1
      have b := wf.1
      have ws := wf.2.2.1 s hx
      have wp := wf.2.1 p hr
      have := rateA_le (a (8 + s)) (a p)
      have := coolN_le (a (13 + s)) (rateA (a (8 + s)) (a p)) (t i)
      have e2 : n3 2 * n3 i = n3 (2 * i) := n3_mul 2 i
      rw [allF, Bool.true_and]
      by_cases c : coolN (a (13 + s)) (rateA (a (8 + s)) (a p)) (t i) = v i
      · have ih := ih true (by omega) (by omega)
        rw [Bool.true_and] at ih
        rw [seenP, decide_eq_true c, Bool.true_and]
        refine Eq.trans ?_ ih
        simp (disch := omega) only [g_X9_isAsSeen, b_X9_isAsSeen_5, ↓reduceIte, Option.bind_some, n3_lit, n3_cl, n3_in, n3_ltT, n3_ltF, n3_leT, n3_leF, n3_eqT, n3_eqF, n3_add, n3_sub, not_true_eq_false, not_false_eq_true, true_or, or_true, false_or, or_false, Nat.zero_add, Nat.add_zero, nn_lt, nn_le, nn_gt, nn_ge, nn_eq, nn_qe, e0, bi, e2, e.1, e.2.1, e'.1, kb, q3, q4, m_rateOf, m_afterOf]
      · have ih := ih false (by omega) (by omega)
        rw [Bool.false_and] at ih
        rw [seenP, decide_eq_false c, Bool.false_and]
        refine Eq.trans ?_ ih
        simp (disch := omega) only [g_X9_isAsSeen, b_X9_isAsSeen_5, ↓reduceIte, Option.bind_some, n3_lit, n3_cl, n3_in, n3_ltT, n3_ltF, n3_leT, n3_leF, n3_eqT, n3_eqF, n3_add, n3_sub, not_true_eq_false, not_false_eq_true, true_or, or_true, false_or, or_false, Nat.zero_add, Nat.add_zero, nn_lt, nn_le, nn_gt, nn_ge, nn_eq, nn_qe, e0, bi, e2, e.1, e.2.1, e'.1, kb, q3, q4, m_rateOf, m_afterOf]
        rfl
end VS47
