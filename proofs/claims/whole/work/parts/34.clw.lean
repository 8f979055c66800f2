/-! needs: 30.int 31.abs 32.cls 33.upd -/
/-! time, paying, copies of the class -/
section VS34
variable {F : Nat} {μ ν : fm_M} {a : Nat → Nat} {w : Nat}
def passP (a : Nat → Nat) (n i : Nat) : Nat → Nat := fun k => if 13 ≤ k ∧ k < 13 + i then coolN (a k) (rate a (k - 13)) n else a k
theorem passP_s (a : Nat → Nat) (n i : Nat) : passP a n (i + 1) = st (passP a n i) (13 + i) (coolN (a (13 + i)) (rate a i) n) := by
  funext k
  unfold passP st
  dsimp only
  by_cases h : k = 13 + i
  · subst h
    rw [if_pos (by omega), if_pos rfl, show 13 + i - 13 = i by omega]
  · rw [if_neg h]
    by_cases h2 : 13 ≤ k ∧ k < 13 + i
    · rw [if_pos h2, if_pos (by omega)]
    · rw [if_neg h2, if_neg (by omega)]
theorem passP_e (a : Nat → Nat) (n : Nat) (h : a 23 ≤ 5) : st (passP a n (a 23)) 37 (a 37 + n) = pass a n := by
  funext k
  unfold passP st pass
  dsimp only
  by_cases h2 : k = 37
  · subst h2
    rw [if_pos rfl, if_neg (by omega), if_pos rfl]
  · rw [if_neg h2, if_neg h2]
theorem passP_n {a : Nat → Nat} {n i k : Nat} (h : k < 13 ∨ 13 + i ≤ k) : passP a n i k = a k := if_neg (by omega)
theorem passP_wf (wf : WF a) (n : Nat) : ∀ i, i ≤ a 23 → WF (passP a n i)
  | 0, _ => by
    have : passP a n 0 = a := by funext k; exact passP_n (by omega)
    rw [this]; exact wf
  | i + 1, h => by
    rw [passP_s]
    have := (wf.2.2.1 i (by omega)).2.1
    have b23 := wf.1
    have := coolN_le (a (13 + i)) (rate a i) n
    exact wf_warm (passP_wf wf n i (by omega)) (by rw [passP_n (by omega)]; omega) (by omega)
theorem passP_rate (wf : WF a) {n i s : Nat} (hi : i ≤ a 23) (hs : s < a 23) : rate (passP a n i) s = rate a s := by
  obtain ⟨⟨b38, b23, b39, b24, b25, b25u, b26⟩, wP, wS, wR, wD⟩ := id wf
  have := wS s hs
  unfold rate
  rw [passP_n (k := 8 + s) (by omega), passP_n (k := 18 + s) (by omega), passP_n (k := a (18 + s)) (by omega)]
theorem c_pass_l (wf : WF a) {n : Nat} (hn : n < 1000000) (hF : n < F) : ∀ (k i m : Nat) (μ : fm_M), i + k = a 23 → k < m → AW μ w (passP a n i) → ∃ ν, g_X7_letPass F w m 2 (n3 n) (n3 i) μ = some ((), ν) ∧ AW ν w (pass a n) ∧ Fr w (w + 10) μ ν
  | 0, i, m + 1, μ, h, _, ha => by
    obtain rfl : i = a 23 := by omega
    have wf' := passP_wf wf n (a 23) (Nat.le_refl _)
    have b23 := wf.1
    have h3 := ha.1.2.1
    have h15 := ha.1.2.2.2.2.2.2
    rw [passP_n (by omega)] at h3 h15
    simp (disch := omega) only [g_X7_letPass, b_X7_letPass_2, ↓reduceIte, Option.bind_some, n3_lit, n3_cl, n3_in, n3_ltT, n3_ltF, n3_leT, n3_leF, n3_eqT, n3_eqF, n3_add, n3_sub, not_true_eq_false, not_false_eq_true, true_or, or_true, false_or, or_false, Nat.zero_add, Nat.add_zero, nn_lt, nn_le, nn_gt, nn_ge, nn_eq, nn_qe, h3, h15]
    refine ⟨_, rfl, ?_, (Fr.refl w (w + 10) μ).sI (by omega)⟩
    have := aw_min ha wf' (a 37 + n)
    rw [passP_e a n (by omega)] at this
    exact this
  | k + 1, i, m + 1, μ, h, h2, ha => by
    have wf' := passP_wf wf n i (by omega)
    have b23 := wf.1
    have h3 := ha.1.2.1
    have h4 := (ha.2.2.1 i (by rw [passP_n (by omega)]; omega)).2.1
    rw [passP_n (by omega)] at h3 h4
    have hr := c_rateOf (F := F) ha wf' (s := i) (by rw [passP_n (by omega)]; omega)
    rw [passP_rate wf (by omega) (by omega)] at hr
    have hw := (wf.2.2.1 i (by omega)).2.1
    have hr8 := rate_le a i
    simp (disch := omega) only [g_X7_letPass, b_X7_letPass_2, ↓reduceIte, Option.bind_some, n3_lit, n3_cl, n3_in, n3_ltT, n3_ltF, n3_leT, n3_leF, n3_eqT, n3_eqF, n3_add, n3_sub, not_true_eq_false, not_false_eq_true, true_or, or_true, false_or, or_false, Nat.zero_add, Nat.add_zero, nn_lt, nn_le, nn_gt, nn_ge, nn_eq, nn_qe, h3, h4, hr, c_cooledFor]
    have hu := aw_warm ha wf' (i := i) (by rw [passP_n (by omega)]; omega) (coolN (a (13 + i)) (rate a i) n)
    rw [← passP_s] at hu
    obtain ⟨ν, e, h5, h6⟩ := c_pass_l wf hn hF k (i + 1) m _ (by omega) (by omega) hu
    exact ⟨ν, e, h5, ((Fr.refl w (w + 10) μ).sA (by omega)).trans h6⟩
theorem c_pass (h : AW μ w a) (wf : WF a) {n : Nat} (hn : n < 1000000) (hF : n < F) (hF2 : 5 < F) : ∃ ν, f_X7_letPass F w (n3 n) μ = some ((), ν) ∧ AW ν w (pass a n) ∧ Fr w (w + 10) μ ν := by
  have : passP a n 0 = a := by funext k; exact passP_n (by omega)
  refine c_pass_l wf hn hF (a 23) 0 F μ (by omega) (by have := wf.1; omega) ?_
  rw [this]; exact h
/-- the answer for a place in a row, or none -/
def oi : Option Nat → Int32
  | none => -4
  | some d => n3 d
theorem oi_none : oi none = -n3 4 := by rw [oi, n3_lit]
theorem oi_some (d : Nat) : oi (some d) = n3 d := by rw [oi]
theorem fo_t {a o : Nat → Nat} {f t i k : Nat} (h : a (40 + i) = f ∧ a (44 + i) = t ∧ o i ≠ 0) : fo a o f t i (k + 1) = some i := if_pos h
theorem fo_f {a o : Nat → Nat} {f t i k : Nat} (h : ¬ (a (40 + i) = f ∧ a (44 + i) = t ∧ o i ≠ 0)) : fo a o f t i (k + 1) = fo a o f t (i + 1) k := if_neg h
theorem c_fo_l (h : AW μ w a) (wf : WF a) {b : Nat} {o : Nat → Nat} {f t : Nat} (hb : ∀ i, i < 4 → fm_inA b (n3 i) = true) (hc : ∀ i, i < a 39 → μ.2.1 b i = n3 (o i) ∧ o i ≤ 99) (hf : f < 1000) (ht : t < 1000) : ∀ (k i n : Nat), i + k = a 39 → k < n → g_X7_firstOwed F w b n 3 (n3 f) (n3 t) (n3 i) μ = some (oi (fo a o f t i k), μ)
  | 0, i, n + 1, hk, _ => by
    obtain ⟨⟨h0, h3, h7, h8, h9, h11, h15⟩, hP, hS, hR, hD⟩ := h; obtain ⟨⟨b38, b23, b39, b24, b25, b25u, b26⟩, wP, wS, wR, wD⟩ := id wf
    unfold g_X7_firstOwed b_X7_firstOwed_3
    rw [h11, if_pos rfl, if_pos (by rw [n3_le (by omega) (by omega)]; omega)]; rfl
  | k + 1, i, n + 1, hk, hn => by
    have ih := c_fo_l h wf hb hc hf ht k (i + 1) n (by omega) (by omega)
    obtain ⟨⟨h0, h3, h7, h8, h9, h11, h15⟩, hP, hS, hR, hD⟩ := h; obtain ⟨⟨b38, b23, b39, b24, b25, b25u, b26⟩, wP, wS, wR, wD⟩ := id wf
    have := wD i (by omega)
    have hbi := hb i (by omega)
    have hci := hc i (by omega)
    have hh := hD i (by omega)
    by_cases e1 : a (40 + i) = f
    · by_cases e2 : a (44 + i) = t
      · by_cases e3 : o i = 0
        · rw [fo_f (by omega)]
          simp (disch := omega) only [g_X7_firstOwed, b_X7_firstOwed_3, ↓reduceIte, Option.bind_some, n3_lit, n3_cl, n3_in, n3_ltT, n3_ltF, n3_leT, n3_leF, n3_eqT, n3_eqF, n3_add, n3_sub, not_true_eq_false, not_false_eq_true, true_or, or_true, false_or, or_false, Nat.zero_add, Nat.add_zero, nn_lt, nn_le, nn_gt, nn_ge, nn_eq, nn_qe, h11, hh.1, hh.2.1, hbi, hci.1]; exact ih
        · rw [fo_t (by omega)]
          simp (disch := omega) only [g_X7_firstOwed, b_X7_firstOwed_3, ↓reduceIte, Option.bind_some, n3_lit, n3_cl, n3_in, n3_ltT, n3_ltF, n3_leT, n3_leF, n3_eqT, n3_eqF, n3_add, n3_sub, not_true_eq_false, not_false_eq_true, true_or, or_true, false_or, or_false, Nat.zero_add, Nat.add_zero, nn_lt, nn_le, nn_gt, nn_ge, nn_eq, nn_qe, h11, hh.1, hh.2.1, hbi, hci.1]; rfl
      · rw [fo_f (by omega)]
        simp (disch := omega) only [g_X7_firstOwed, b_X7_firstOwed_3, ↓reduceIte, Option.bind_some, n3_lit, n3_cl, n3_in, n3_ltT, n3_ltF, n3_leT, n3_leF, n3_eqT, n3_eqF, n3_add, n3_sub, not_true_eq_false, not_false_eq_true, true_or, or_true, false_or, or_false, Nat.zero_add, Nat.add_zero, nn_lt, nn_le, nn_gt, nn_ge, nn_eq, nn_qe, h11, hh.1, hh.2.1, hbi, hci.1]; exact ih
    · rw [fo_f (by omega)]
      simp (disch := omega) only [g_X7_firstOwed, b_X7_firstOwed_3, ↓reduceIte, Option.bind_some, n3_lit, n3_cl, n3_in, n3_ltT, n3_ltF, n3_leT, n3_leF, n3_eqT, n3_eqF, n3_add, n3_sub, not_true_eq_false, not_false_eq_true, true_or, or_true, false_or, or_false, Nat.zero_add, Nat.add_zero, nn_lt, nn_le, nn_gt, nn_ge, nn_eq, nn_qe, h11, hh.1, hh.2.1, hbi, hci.1]; exact ih
theorem c_fo (h : AW μ w a) (wf : WF a) {b : Nat} {o : Nat → Nat} {f t : Nat} (hb : ∀ i, i < 4 → fm_inA b (n3 i) = true) (hc : ∀ i, i < a 39 → μ.2.1 b i = n3 (o i) ∧ o i ≤ 99) (hf : f < 1000) (ht : t < 1000) (hF : 5 < F) : f_X7_firstOwed F w b (n3 f) (n3 t) μ = some (oi (fo a o f t 0 (a 39)), μ) :=
  c_fo_l h wf hb hc hf ht (a 39) 0 F (by omega) (by have := wf.1; omega)
theorem c_less {v x : Nat} (hv : v ≤ 99) (hx : x ≤ 99) : f_X7_lessened F (n3 v) (n3 x) μ = some (n3 (less v x), μ) := by
  unfold less
  by_cases h : x < 5
  · simp (disch := omega) only [f_X7_lessened, f_X8_isWarm, ↓reduceIte, Option.bind_some, n3_lit, n3_cl, n3_in, n3_ltT, n3_ltF, n3_leT, n3_leF, n3_eqT, n3_eqF, n3_add, n3_sub, not_true_eq_false, not_false_eq_true, true_or, or_true, false_or, or_false, Nat.zero_add, Nat.add_zero, nn_lt, nn_le, nn_gt, nn_ge, nn_eq, nn_qe, if_pos h]
  · have e : (if n3 0 < n3 v - n3 x then n3 v - n3 x else n3 0) = n3 (v - x) := by
      by_cases h2 : x ≤ v
      · simp (disch := omega) only [↓reduceIte, Option.bind_some, n3_lit, n3_cl, n3_in, n3_ltT, n3_ltF, n3_leT, n3_leF, n3_eqT, n3_eqF, n3_add, n3_sub, not_true_eq_false, not_false_eq_true, true_or, or_true, false_or, or_false, Nat.zero_add, Nat.add_zero, nn_lt, nn_le, nn_gt, nn_ge, nn_eq, nn_qe]
        by_cases h3 : v = x
        · simp (disch := omega) only [↓reduceIte, Option.bind_some, n3_lit, n3_cl, n3_in, n3_ltT, n3_ltF, n3_leT, n3_leF, n3_eqT, n3_eqF, n3_add, n3_sub, not_true_eq_false, not_false_eq_true, true_or, or_true, false_or, or_false, Nat.zero_add, Nat.add_zero, nn_lt, nn_le, nn_gt, nn_ge, nn_eq, nn_qe, h3]
        · simp (disch := omega) only [↓reduceIte, Option.bind_some, n3_lit, n3_cl, n3_in, n3_ltT, n3_ltF, n3_leT, n3_leF, n3_eqT, n3_eqF, n3_add, n3_sub, not_true_eq_false, not_false_eq_true, true_or, or_true, false_or, or_false, Nat.zero_add, Nat.add_zero, nn_lt, nn_le, nn_gt, nn_ge, nn_eq, nn_qe]
      · rw [Nat.sub_eq_zero_of_le (by omega), if_neg]
        rw [show n3 v - n3 x = -(n3 (x - v)) by rw [← n3_sub (by omega : v ≤ x), Int32.neg_sub], Int32.lt_iff_toInt_lt, Int32.toInt_neg, n3_int (by omega), n3_int (by omega)]
        rw [Int.bmod_eq_of_le (by omega) (by omega)]; omega
    simp (disch := omega) only [f_X7_lessened, f_X8_isWarm, ↓reduceIte, Option.bind_some, n3_lit, n3_cl, n3_in, n3_ltT, n3_ltF, n3_leT, n3_leF, n3_eqT, n3_eqF, n3_add, n3_sub, not_true_eq_false, not_false_eq_true, true_or, or_true, false_or, or_false, Nat.zero_add, Nat.add_zero, nn_lt, nn_le, nn_gt, nn_ge, nn_eq, nn_qe, if_neg h, f_J9_max_7cf53]
    by_cases h4 : n3 0 < n3 v - n3 x
    · rw [if_pos h4] at e ⊢; rw [e]; rfl
    · rw [if_neg h4] at e ⊢; rw [e]; rfl
theorem c_copy {w2 : Nat} (hd : w + 10 ≤ w2 ∨ w2 + 10 ≤ w) : ∃ ν, f_X7_copyFrom F w w2 μ = some ((), ν) ∧ (∀ a, AW μ w2 a → WF a → AW ν w a) ∧ Fr w (w + 10) μ ν := by
  unfold f_X7_copyFrom
  simp only [show (0 : Int32).toNatClampNeg = 0 from rfl, show (4 : Int32).toNatClampNeg = 4 from rfl, show (5 : Int32).toNatClampNeg = 5 from rfl, show (6 : Int32).toNatClampNeg = 6 from rfl]
  have f0 := Fr.refl w (w + 10) μ
  generalize e1 : fm_sI μ w 0 (μ.1 w2 0) = m1
  have f1 : Fr w (w + 10) μ m1 := by rw [← e1]; exact f0.sI (by omega)
  have c1 : m1.1 w 0 = μ.1 w2 0 := by rw [← e1]; exact (fm_sI_eq ⟨rfl, rfl⟩).trans (congrFun (f0.1 w2 (by omega)).1 0)
  rw [Option.bind_some]
  clear e1
  generalize e2 : fm_sA m1 (w + 1) (va_cpy (m1.2.1 (w2 + 1)) (m1.2.1 (w + 1)) 0 0 4) = m2
  have f2 : Fr w (w + 10) μ m2 := by rw [← e2]; exact f1.sA (by omega)
  have c1 : m2.1 w 0 = μ.1 w2 0 := by rw [← e2]; exact c1
  have c2 : ∀ i, i < 4 → m2.2.1 (w + 1) i = μ.2.1 (w2 + 1) i := by intro i hi; rw [← e2, fm_sA_eq rfl, cpy_0 hi, (f1.1 (w2 + 1) (by omega)).2]
  rw [Option.bind_some]
  clear e2
  generalize e3 : fm_sA m2 (w + 2) (va_cpy (m2.2.1 (w2 + 2)) (m2.2.1 (w + 2)) 0 0 4) = m3
  have f3 : Fr w (w + 10) μ m3 := by rw [← e3]; exact f2.sA (by omega)
  have c1 : m3.1 w 0 = μ.1 w2 0 := by rw [← e3]; exact c1
  have c2 : ∀ i, i < 4 → m3.2.1 (w + 1) i = μ.2.1 (w2 + 1) i := by rw [← e3, fm_sA_ne (by omega)]; exact c2
  have c3 : ∀ i, i < 4 → m3.2.1 (w + 2) i = μ.2.1 (w2 + 2) i := by intro i hi; rw [← e3, fm_sA_eq rfl, cpy_0 hi, (f2.1 (w2 + 2) (by omega)).2]
  rw [Option.bind_some]
  clear e3
  generalize e4 : fm_sI m3 w 3 (m3.1 w2 3) = m4
  have f4 : Fr w (w + 10) μ m4 := by rw [← e4]; exact f3.sI (by omega)
  have c1 : m4.1 w 0 = μ.1 w2 0 := by rw [← e4]; exact (fm_sI_ne (by omega)).trans c1
  have c2 : ∀ i, i < 4 → m4.2.1 (w + 1) i = μ.2.1 (w2 + 1) i := by rw [← e4]; exact c2
  have c3 : ∀ i, i < 4 → m4.2.1 (w + 2) i = μ.2.1 (w2 + 2) i := by rw [← e4]; exact c3
  have c4 : m4.1 w 3 = μ.1 w2 3 := by rw [← e4]; exact (fm_sI_eq ⟨rfl, rfl⟩).trans (congrFun (f3.1 w2 (by omega)).1 3)
  rw [Option.bind_some]
  clear e4
  generalize e5 : fm_sA m4 (w + 3) (va_cpy (m4.2.1 (w2 + 3)) (m4.2.1 (w + 3)) 0 0 5) = m5
  have f5 : Fr w (w + 10) μ m5 := by rw [← e5]; exact f4.sA (by omega)
  have c1 : m5.1 w 0 = μ.1 w2 0 := by rw [← e5]; exact c1
  have c2 : ∀ i, i < 4 → m5.2.1 (w + 1) i = μ.2.1 (w2 + 1) i := by rw [← e5, fm_sA_ne (by omega)]; exact c2
  have c3 : ∀ i, i < 4 → m5.2.1 (w + 2) i = μ.2.1 (w2 + 2) i := by rw [← e5, fm_sA_ne (by omega)]; exact c3
  have c4 : m5.1 w 3 = μ.1 w2 3 := by rw [← e5]; exact c4
  have c5 : ∀ i, i < 5 → m5.2.1 (w + 3) i = μ.2.1 (w2 + 3) i := by intro i hi; rw [← e5, fm_sA_eq rfl, cpy_0 hi, (f4.1 (w2 + 3) (by omega)).2]
  rw [Option.bind_some]
  clear e5
  generalize e6 : fm_sA m5 (w + 4) (va_cpy (m5.2.1 (w2 + 4)) (m5.2.1 (w + 4)) 0 0 5) = m6
  have f6 : Fr w (w + 10) μ m6 := by rw [← e6]; exact f5.sA (by omega)
  have c1 : m6.1 w 0 = μ.1 w2 0 := by rw [← e6]; exact c1
  have c2 : ∀ i, i < 4 → m6.2.1 (w + 1) i = μ.2.1 (w2 + 1) i := by rw [← e6, fm_sA_ne (by omega)]; exact c2
  have c3 : ∀ i, i < 4 → m6.2.1 (w + 2) i = μ.2.1 (w2 + 2) i := by rw [← e6, fm_sA_ne (by omega)]; exact c3
  have c4 : m6.1 w 3 = μ.1 w2 3 := by rw [← e6]; exact c4
  have c5 : ∀ i, i < 5 → m6.2.1 (w + 3) i = μ.2.1 (w2 + 3) i := by rw [← e6, fm_sA_ne (by omega)]; exact c5
  have c6 : ∀ i, i < 5 → m6.2.1 (w + 4) i = μ.2.1 (w2 + 4) i := by intro i hi; rw [← e6, fm_sA_eq rfl, cpy_0 hi, (f5.1 (w2 + 4) (by omega)).2]
  rw [Option.bind_some]
  clear e6
  generalize e7 : fm_sA m6 (w + 5) (va_cpy (m6.2.1 (w2 + 5)) (m6.2.1 (w + 5)) 0 0 5) = m7
  have f7 : Fr w (w + 10) μ m7 := by rw [← e7]; exact f6.sA (by omega)
  have c1 : m7.1 w 0 = μ.1 w2 0 := by rw [← e7]; exact c1
  have c2 : ∀ i, i < 4 → m7.2.1 (w + 1) i = μ.2.1 (w2 + 1) i := by rw [← e7, fm_sA_ne (by omega)]; exact c2
  have c3 : ∀ i, i < 4 → m7.2.1 (w + 2) i = μ.2.1 (w2 + 2) i := by rw [← e7, fm_sA_ne (by omega)]; exact c3
  have c4 : m7.1 w 3 = μ.1 w2 3 := by rw [← e7]; exact c4
  have c5 : ∀ i, i < 5 → m7.2.1 (w + 3) i = μ.2.1 (w2 + 3) i := by rw [← e7, fm_sA_ne (by omega)]; exact c5
  have c6 : ∀ i, i < 5 → m7.2.1 (w + 4) i = μ.2.1 (w2 + 4) i := by rw [← e7, fm_sA_ne (by omega)]; exact c6
  have c7 : ∀ i, i < 5 → m7.2.1 (w + 5) i = μ.2.1 (w2 + 5) i := by intro i hi; rw [← e7, fm_sA_eq rfl, cpy_0 hi, (f6.1 (w2 + 5) (by omega)).2]
  rw [Option.bind_some]
  clear e7
  generalize e8 : fm_sI m7 w 7 (m7.1 w2 7) = m8
  have f8 : Fr w (w + 10) μ m8 := by rw [← e8]; exact f7.sI (by omega)
  have c1 : m8.1 w 0 = μ.1 w2 0 := by rw [← e8]; exact (fm_sI_ne (by omega)).trans c1
  have c2 : ∀ i, i < 4 → m8.2.1 (w + 1) i = μ.2.1 (w2 + 1) i := by rw [← e8]; exact c2
  have c3 : ∀ i, i < 4 → m8.2.1 (w + 2) i = μ.2.1 (w2 + 2) i := by rw [← e8]; exact c3
  have c4 : m8.1 w 3 = μ.1 w2 3 := by rw [← e8]; exact (fm_sI_ne (by omega)).trans c4
  have c5 : ∀ i, i < 5 → m8.2.1 (w + 3) i = μ.2.1 (w2 + 3) i := by rw [← e8]; exact c5
  have c6 : ∀ i, i < 5 → m8.2.1 (w + 4) i = μ.2.1 (w2 + 4) i := by rw [← e8]; exact c6
  have c7 : ∀ i, i < 5 → m8.2.1 (w + 5) i = μ.2.1 (w2 + 5) i := by rw [← e8]; exact c7
  have c8 : m8.1 w 7 = μ.1 w2 7 := by rw [← e8]; exact (fm_sI_eq ⟨rfl, rfl⟩).trans (congrFun (f7.1 w2 (by omega)).1 7)
  rw [Option.bind_some]
  clear e8
  generalize e9 : fm_sI m8 w 8 (m8.1 w2 8) = m9
  have f9 : Fr w (w + 10) μ m9 := by rw [← e9]; exact f8.sI (by omega)
  have c1 : m9.1 w 0 = μ.1 w2 0 := by rw [← e9]; exact (fm_sI_ne (by omega)).trans c1
  have c2 : ∀ i, i < 4 → m9.2.1 (w + 1) i = μ.2.1 (w2 + 1) i := by rw [← e9]; exact c2
  have c3 : ∀ i, i < 4 → m9.2.1 (w + 2) i = μ.2.1 (w2 + 2) i := by rw [← e9]; exact c3
  have c4 : m9.1 w 3 = μ.1 w2 3 := by rw [← e9]; exact (fm_sI_ne (by omega)).trans c4
  have c5 : ∀ i, i < 5 → m9.2.1 (w + 3) i = μ.2.1 (w2 + 3) i := by rw [← e9]; exact c5
  have c6 : ∀ i, i < 5 → m9.2.1 (w + 4) i = μ.2.1 (w2 + 4) i := by rw [← e9]; exact c6
  have c7 : ∀ i, i < 5 → m9.2.1 (w + 5) i = μ.2.1 (w2 + 5) i := by rw [← e9]; exact c7
  have c8 : m9.1 w 7 = μ.1 w2 7 := by rw [← e9]; exact (fm_sI_ne (by omega)).trans c8
  have c9 : m9.1 w 8 = μ.1 w2 8 := by rw [← e9]; exact (fm_sI_eq ⟨rfl, rfl⟩).trans (congrFun (f8.1 w2 (by omega)).1 8)
  rw [Option.bind_some]
  clear e9
  generalize e10 : fm_sI m9 w 9 (m9.1 w2 9) = m10
  have f10 : Fr w (w + 10) μ m10 := by rw [← e10]; exact f9.sI (by omega)
  have c1 : m10.1 w 0 = μ.1 w2 0 := by rw [← e10]; exact (fm_sI_ne (by omega)).trans c1
  have c2 : ∀ i, i < 4 → m10.2.1 (w + 1) i = μ.2.1 (w2 + 1) i := by rw [← e10]; exact c2
  have c3 : ∀ i, i < 4 → m10.2.1 (w + 2) i = μ.2.1 (w2 + 2) i := by rw [← e10]; exact c3
  have c4 : m10.1 w 3 = μ.1 w2 3 := by rw [← e10]; exact (fm_sI_ne (by omega)).trans c4
  have c5 : ∀ i, i < 5 → m10.2.1 (w + 3) i = μ.2.1 (w2 + 3) i := by rw [← e10]; exact c5
  have c6 : ∀ i, i < 5 → m10.2.1 (w + 4) i = μ.2.1 (w2 + 4) i := by rw [← e10]; exact c6
  have c7 : ∀ i, i < 5 → m10.2.1 (w + 5) i = μ.2.1 (w2 + 5) i := by rw [← e10]; exact c7
  have c8 : m10.1 w 7 = μ.1 w2 7 := by rw [← e10]; exact (fm_sI_ne (by omega)).trans c8
  have c9 : m10.1 w 8 = μ.1 w2 8 := by rw [← e10]; exact (fm_sI_ne (by omega)).trans c9
  have c10 : m10.1 w 9 = μ.1 w2 9 := by rw [← e10]; exact (fm_sI_eq ⟨rfl, rfl⟩).trans (congrFun (f9.1 w2 (by omega)).1 9)
  rw [Option.bind_some]
  clear e10
  generalize e11 : fm_sA m10 (w + 6) (va_cpy (m10.2.1 (w2 + 6)) (m10.2.1 (w + 6)) 0 0 6) = m11
  have f11 : Fr w (w + 10) μ m11 := by rw [← e11]; exact f10.sA (by omega)
  have c1 : m11.1 w 0 = μ.1 w2 0 := by rw [← e11]; exact c1
  have c2 : ∀ i, i < 4 → m11.2.1 (w + 1) i = μ.2.1 (w2 + 1) i := by rw [← e11, fm_sA_ne (by omega)]; exact c2
  have c3 : ∀ i, i < 4 → m11.2.1 (w + 2) i = μ.2.1 (w2 + 2) i := by rw [← e11, fm_sA_ne (by omega)]; exact c3
  have c4 : m11.1 w 3 = μ.1 w2 3 := by rw [← e11]; exact c4
  have c5 : ∀ i, i < 5 → m11.2.1 (w + 3) i = μ.2.1 (w2 + 3) i := by rw [← e11, fm_sA_ne (by omega)]; exact c5
  have c6 : ∀ i, i < 5 → m11.2.1 (w + 4) i = μ.2.1 (w2 + 4) i := by rw [← e11, fm_sA_ne (by omega)]; exact c6
  have c7 : ∀ i, i < 5 → m11.2.1 (w + 5) i = μ.2.1 (w2 + 5) i := by rw [← e11, fm_sA_ne (by omega)]; exact c7
  have c8 : m11.1 w 7 = μ.1 w2 7 := by rw [← e11]; exact c8
  have c9 : m11.1 w 8 = μ.1 w2 8 := by rw [← e11]; exact c9
  have c10 : m11.1 w 9 = μ.1 w2 9 := by rw [← e11]; exact c10
  have c11 : ∀ i, i < 6 → m11.2.1 (w + 6) i = μ.2.1 (w2 + 6) i := by intro i hi; rw [← e11, fm_sA_eq rfl, cpy_0 hi, (f10.1 (w2 + 6) (by omega)).2]
  rw [Option.bind_some]
  clear e11
  generalize e12 : fm_sI m11 w 11 (m11.1 w2 11) = m12
  have f12 : Fr w (w + 10) μ m12 := by rw [← e12]; exact f11.sI (by omega)
  have c1 : m12.1 w 0 = μ.1 w2 0 := by rw [← e12]; exact (fm_sI_ne (by omega)).trans c1
  have c2 : ∀ i, i < 4 → m12.2.1 (w + 1) i = μ.2.1 (w2 + 1) i := by rw [← e12]; exact c2
  have c3 : ∀ i, i < 4 → m12.2.1 (w + 2) i = μ.2.1 (w2 + 2) i := by rw [← e12]; exact c3
  have c4 : m12.1 w 3 = μ.1 w2 3 := by rw [← e12]; exact (fm_sI_ne (by omega)).trans c4
  have c5 : ∀ i, i < 5 → m12.2.1 (w + 3) i = μ.2.1 (w2 + 3) i := by rw [← e12]; exact c5
  have c6 : ∀ i, i < 5 → m12.2.1 (w + 4) i = μ.2.1 (w2 + 4) i := by rw [← e12]; exact c6
  have c7 : ∀ i, i < 5 → m12.2.1 (w + 5) i = μ.2.1 (w2 + 5) i := by rw [← e12]; exact c7
  have c8 : m12.1 w 7 = μ.1 w2 7 := by rw [← e12]; exact (fm_sI_ne (by omega)).trans c8
  have c9 : m12.1 w 8 = μ.1 w2 8 := by rw [← e12]; exact (fm_sI_ne (by omega)).trans c9
  have c10 : m12.1 w 9 = μ.1 w2 9 := by rw [← e12]; exact (fm_sI_ne (by omega)).trans c10
  have c11 : ∀ i, i < 6 → m12.2.1 (w + 6) i = μ.2.1 (w2 + 6) i := by rw [← e12]; exact c11
  have c12 : m12.1 w 11 = μ.1 w2 11 := by rw [← e12]; exact (fm_sI_eq ⟨rfl, rfl⟩).trans (congrFun (f11.1 w2 (by omega)).1 11)
  rw [Option.bind_some]
  clear e12
  generalize e13 : fm_sA m12 (w + 7) (va_cpy (m12.2.1 (w2 + 7)) (m12.2.1 (w + 7)) 0 0 4) = m13
  have f13 : Fr w (w + 10) μ m13 := by rw [← e13]; exact f12.sA (by omega)
  have c1 : m13.1 w 0 = μ.1 w2 0 := by rw [← e13]; exact c1
  have c2 : ∀ i, i < 4 → m13.2.1 (w + 1) i = μ.2.1 (w2 + 1) i := by rw [← e13, fm_sA_ne (by omega)]; exact c2
  have c3 : ∀ i, i < 4 → m13.2.1 (w + 2) i = μ.2.1 (w2 + 2) i := by rw [← e13, fm_sA_ne (by omega)]; exact c3
  have c4 : m13.1 w 3 = μ.1 w2 3 := by rw [← e13]; exact c4
  have c5 : ∀ i, i < 5 → m13.2.1 (w + 3) i = μ.2.1 (w2 + 3) i := by rw [← e13, fm_sA_ne (by omega)]; exact c5
  have c6 : ∀ i, i < 5 → m13.2.1 (w + 4) i = μ.2.1 (w2 + 4) i := by rw [← e13, fm_sA_ne (by omega)]; exact c6
  have c7 : ∀ i, i < 5 → m13.2.1 (w + 5) i = μ.2.1 (w2 + 5) i := by rw [← e13, fm_sA_ne (by omega)]; exact c7
  have c8 : m13.1 w 7 = μ.1 w2 7 := by rw [← e13]; exact c8
  have c9 : m13.1 w 8 = μ.1 w2 8 := by rw [← e13]; exact c9
  have c10 : m13.1 w 9 = μ.1 w2 9 := by rw [← e13]; exact c10
  have c11 : ∀ i, i < 6 → m13.2.1 (w + 6) i = μ.2.1 (w2 + 6) i := by rw [← e13, fm_sA_ne (by omega)]; exact c11
  have c12 : m13.1 w 11 = μ.1 w2 11 := by rw [← e13]; exact c12
  have c13 : ∀ i, i < 4 → m13.2.1 (w + 7) i = μ.2.1 (w2 + 7) i := by intro i hi; rw [← e13, fm_sA_eq rfl, cpy_0 hi, (f12.1 (w2 + 7) (by omega)).2]
  rw [Option.bind_some]
  clear e13
  generalize e14 : fm_sA m13 (w + 8) (va_cpy (m13.2.1 (w2 + 8)) (m13.2.1 (w + 8)) 0 0 4) = m14
  have f14 : Fr w (w + 10) μ m14 := by rw [← e14]; exact f13.sA (by omega)
  have c1 : m14.1 w 0 = μ.1 w2 0 := by rw [← e14]; exact c1
  have c2 : ∀ i, i < 4 → m14.2.1 (w + 1) i = μ.2.1 (w2 + 1) i := by rw [← e14, fm_sA_ne (by omega)]; exact c2
  have c3 : ∀ i, i < 4 → m14.2.1 (w + 2) i = μ.2.1 (w2 + 2) i := by rw [← e14, fm_sA_ne (by omega)]; exact c3
  have c4 : m14.1 w 3 = μ.1 w2 3 := by rw [← e14]; exact c4
  have c5 : ∀ i, i < 5 → m14.2.1 (w + 3) i = μ.2.1 (w2 + 3) i := by rw [← e14, fm_sA_ne (by omega)]; exact c5
  have c6 : ∀ i, i < 5 → m14.2.1 (w + 4) i = μ.2.1 (w2 + 4) i := by rw [← e14, fm_sA_ne (by omega)]; exact c6
  have c7 : ∀ i, i < 5 → m14.2.1 (w + 5) i = μ.2.1 (w2 + 5) i := by rw [← e14, fm_sA_ne (by omega)]; exact c7
  have c8 : m14.1 w 7 = μ.1 w2 7 := by rw [← e14]; exact c8
  have c9 : m14.1 w 8 = μ.1 w2 8 := by rw [← e14]; exact c9
  have c10 : m14.1 w 9 = μ.1 w2 9 := by rw [← e14]; exact c10
  have c11 : ∀ i, i < 6 → m14.2.1 (w + 6) i = μ.2.1 (w2 + 6) i := by rw [← e14, fm_sA_ne (by omega)]; exact c11
  have c12 : m14.1 w 11 = μ.1 w2 11 := by rw [← e14]; exact c12
  have c13 : ∀ i, i < 4 → m14.2.1 (w + 7) i = μ.2.1 (w2 + 7) i := by rw [← e14, fm_sA_ne (by omega)]; exact c13
  have c14 : ∀ i, i < 4 → m14.2.1 (w + 8) i = μ.2.1 (w2 + 8) i := by intro i hi; rw [← e14, fm_sA_eq rfl, cpy_0 hi, (f13.1 (w2 + 8) (by omega)).2]
  rw [Option.bind_some]
  clear e14
  generalize e15 : fm_sA m14 (w + 9) (va_cpy (m14.2.1 (w2 + 9)) (m14.2.1 (w + 9)) 0 0 4) = m15
  have f15 : Fr w (w + 10) μ m15 := by rw [← e15]; exact f14.sA (by omega)
  have c1 : m15.1 w 0 = μ.1 w2 0 := by rw [← e15]; exact c1
  have c2 : ∀ i, i < 4 → m15.2.1 (w + 1) i = μ.2.1 (w2 + 1) i := by rw [← e15, fm_sA_ne (by omega)]; exact c2
  have c3 : ∀ i, i < 4 → m15.2.1 (w + 2) i = μ.2.1 (w2 + 2) i := by rw [← e15, fm_sA_ne (by omega)]; exact c3
  have c4 : m15.1 w 3 = μ.1 w2 3 := by rw [← e15]; exact c4
  have c5 : ∀ i, i < 5 → m15.2.1 (w + 3) i = μ.2.1 (w2 + 3) i := by rw [← e15, fm_sA_ne (by omega)]; exact c5
  have c6 : ∀ i, i < 5 → m15.2.1 (w + 4) i = μ.2.1 (w2 + 4) i := by rw [← e15, fm_sA_ne (by omega)]; exact c6
  have c7 : ∀ i, i < 5 → m15.2.1 (w + 5) i = μ.2.1 (w2 + 5) i := by rw [← e15, fm_sA_ne (by omega)]; exact c7
  have c8 : m15.1 w 7 = μ.1 w2 7 := by rw [← e15]; exact c8
  have c9 : m15.1 w 8 = μ.1 w2 8 := by rw [← e15]; exact c9
  have c10 : m15.1 w 9 = μ.1 w2 9 := by rw [← e15]; exact c10
  have c11 : ∀ i, i < 6 → m15.2.1 (w + 6) i = μ.2.1 (w2 + 6) i := by rw [← e15, fm_sA_ne (by omega)]; exact c11
  have c12 : m15.1 w 11 = μ.1 w2 11 := by rw [← e15]; exact c12
  have c13 : ∀ i, i < 4 → m15.2.1 (w + 7) i = μ.2.1 (w2 + 7) i := by rw [← e15, fm_sA_ne (by omega)]; exact c13
  have c14 : ∀ i, i < 4 → m15.2.1 (w + 8) i = μ.2.1 (w2 + 8) i := by rw [← e15, fm_sA_ne (by omega)]; exact c14
  have c15 : ∀ i, i < 4 → m15.2.1 (w + 9) i = μ.2.1 (w2 + 9) i := by intro i hi; rw [← e15, fm_sA_eq rfl, cpy_0 hi, (f14.1 (w2 + 9) (by omega)).2]
  rw [Option.bind_some]
  clear e15
  generalize e16 : fm_sI m15 w 15 (m15.1 w2 15) = m16
  have f16 : Fr w (w + 10) μ m16 := by rw [← e16]; exact f15.sI (by omega)
  have c1 : m16.1 w 0 = μ.1 w2 0 := by rw [← e16]; exact (fm_sI_ne (by omega)).trans c1
  have c2 : ∀ i, i < 4 → m16.2.1 (w + 1) i = μ.2.1 (w2 + 1) i := by rw [← e16]; exact c2
  have c3 : ∀ i, i < 4 → m16.2.1 (w + 2) i = μ.2.1 (w2 + 2) i := by rw [← e16]; exact c3
  have c4 : m16.1 w 3 = μ.1 w2 3 := by rw [← e16]; exact (fm_sI_ne (by omega)).trans c4
  have c5 : ∀ i, i < 5 → m16.2.1 (w + 3) i = μ.2.1 (w2 + 3) i := by rw [← e16]; exact c5
  have c6 : ∀ i, i < 5 → m16.2.1 (w + 4) i = μ.2.1 (w2 + 4) i := by rw [← e16]; exact c6
  have c7 : ∀ i, i < 5 → m16.2.1 (w + 5) i = μ.2.1 (w2 + 5) i := by rw [← e16]; exact c7
  have c8 : m16.1 w 7 = μ.1 w2 7 := by rw [← e16]; exact (fm_sI_ne (by omega)).trans c8
  have c9 : m16.1 w 8 = μ.1 w2 8 := by rw [← e16]; exact (fm_sI_ne (by omega)).trans c9
  have c10 : m16.1 w 9 = μ.1 w2 9 := by rw [← e16]; exact (fm_sI_ne (by omega)).trans c10
  have c11 : ∀ i, i < 6 → m16.2.1 (w + 6) i = μ.2.1 (w2 + 6) i := by rw [← e16]; exact c11
  have c12 : m16.1 w 11 = μ.1 w2 11 := by rw [← e16]; exact (fm_sI_ne (by omega)).trans c12
  have c13 : ∀ i, i < 4 → m16.2.1 (w + 7) i = μ.2.1 (w2 + 7) i := by rw [← e16]; exact c13
  have c14 : ∀ i, i < 4 → m16.2.1 (w + 8) i = μ.2.1 (w2 + 8) i := by rw [← e16]; exact c14
  have c15 : ∀ i, i < 4 → m16.2.1 (w + 9) i = μ.2.1 (w2 + 9) i := by rw [← e16]; exact c15
  have c16 : m16.1 w 15 = μ.1 w2 15 := by rw [← e16]; exact (fm_sI_eq ⟨rfl, rfl⟩).trans (congrFun (f15.1 w2 (by omega)).1 15)
  rw [Option.bind_some]
  clear e16
  refine ⟨_, rfl, fun a h wf => ?_, f16⟩
  obtain ⟨⟨h0, h3, h7, h8, h9, h11, h15⟩, hP, hS, hR, hD⟩ := h; obtain ⟨⟨b38, b23, b39, b24, b25, b25u, b26⟩, wP, wS, wR, wD⟩ := id wf
  refine ⟨⟨c1.trans h0, c4.trans h3, c8.trans h7, c9.trans h8, c10.trans h9, c12.trans h11, c16.trans h15⟩, fun i hi => ?_, fun i hi => ?_, fun i hi => ?_, fun i hi => ?_⟩
  · exact ⟨(c2 i (by omega)).trans (hP i hi).1, (c3 i (by omega)).trans (hP i hi).2⟩
  · exact ⟨(c5 i (by omega)).trans (hS i hi).1, (c6 i (by omega)).trans (hS i hi).2.1, (c7 i (by omega)).trans (hS i hi).2.2⟩
  · exact (c11 i (by omega)).trans (hR i hi)
  · exact ⟨(c13 i (by omega)).trans (hD i hi).1, (c14 i (by omega)).trans (hD i hi).2.1, (c15 i (by omega)).trans (hD i hi).2.2⟩
end VS34
