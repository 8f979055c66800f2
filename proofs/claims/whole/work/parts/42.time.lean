/-! time, paying, sums -/
def cntW (a : Nat → Nat) : Nat → Nat
  | 0 => 0
  | i + 1 => cntW a i + (if a (13 + i) < 5 then 0 else 1)
def sumW (a : Nat → Nat) : Nat → Nat
  | 0 => 0
  | i + 1 => sumW a i + a (13 + i)
def sumD (a : Nat → Nat) : Nat → Nat
  | 0 => 0
  | i + 1 => sumD a i + a (33 + i)
def sumP (a : Nat → Nat) (p : Nat) : Nat → Nat
  | 0 => 0
  | i + 1 => sumP a p i + (if a (18 + i) = p then a (13 + i) else 0)
def maskP (a : Nat → Nat) (p : Nat) : Nat → Int32
  | 0 => n3 0
  | i + 1 => if a (18 + i) = p then maskP a p i ||| (n3 1 <<< (n3 i &&& n3 31)) else maskP a p i
theorem n3_or0 (x : Int32) : x ||| n3 0 = x := Int32.or_zero
theorem n3_add0 (x : Int32) : x + n3 0 = x := Int32.add_zero x
section VS42
variable {F : Nat} {μ ν : fm_M} {a : Nat → Nat} {w : Nat}
theorem c_cnt_l (h : AW μ w a) (wf : WF a) : ∀ (k i n : Nat), i + k = a 23 → k < n → g_X7_countWarm F w n 4 (n3 (cntW a i)) (n3 i) μ = some (n3 (cntW a (a 23)), μ)
  | 0, i, n + 1, hk, _ => by
    obtain rfl : i = a 23 := by omega
    obtain ⟨⟨h0, h3, h7, h8, h9, h11, h15⟩, hP, hS, hR, hD⟩ := h; obtain ⟨⟨b38, b23, b39, b24, b25, b25u, b26⟩, wP, wS, wR, wD⟩ := id wf
    simp (disch := omega) only [g_X7_countWarm, b_X7_countWarm_4, ↓reduceIte, Option.bind_some, n3_lit, n3_cl, n3_in, n3_ltT, n3_ltF, n3_leT, n3_leF, n3_eqT, n3_eqF, n3_add, n3_sub, not_true_eq_false, not_false_eq_true, true_or, or_true, false_or, or_false, Nat.zero_add, Nat.add_zero, nn_lt, nn_le, nn_gt, nn_ge, nn_eq, nn_qe, h3]
  | k + 1, i, n + 1, hk, hn => by
    have ih := c_cnt_l h wf k (i + 1) n (by omega) (by omega)
    obtain ⟨⟨h0, h3, h7, h8, h9, h11, h15⟩, hP, hS, hR, hD⟩ := h; obtain ⟨⟨b38, b23, b39, b24, b25, b25u, b26⟩, wP, wS, wR, wD⟩ := id wf
    have := wS i (by omega)
    have e := hS i (by omega)
    rw [cntW] at ih
    by_cases c : a (13 + i) < 5
    · rw [if_pos c] at ih
      simp (disch := omega) only [g_X7_countWarm, b_X7_countWarm_4, ↓reduceIte, Option.bind_some, n3_lit, n3_cl, n3_in, n3_ltT, n3_ltF, n3_leT, n3_leF, n3_eqT, n3_eqF, n3_add, n3_sub, not_true_eq_false, not_false_eq_true, true_or, or_true, false_or, or_false, Nat.zero_add, Nat.add_zero, nn_lt, nn_le, nn_gt, nn_ge, nn_eq, nn_qe, h3, e.2.1, c_warmF]; exact ih
    · rw [if_neg c] at ih
      simp (disch := omega) only [g_X7_countWarm, b_X7_countWarm_4, ↓reduceIte, Option.bind_some, n3_lit, n3_cl, n3_in, n3_ltT, n3_ltF, n3_leT, n3_leF, n3_eqT, n3_eqF, n3_add, n3_sub, not_true_eq_false, not_false_eq_true, true_or, or_true, false_or, or_false, Nat.zero_add, Nat.add_zero, nn_lt, nn_le, nn_gt, nn_ge, nn_eq, nn_qe, h3, e.2.1, c_warmT]; exact ih
theorem c_cnt (h : AW μ w a) (wf : WF a) (hF : 5 < F) : f_X7_countWarm F w μ = some (n3 (cntW a (a 23)), μ) := c_cnt_l h wf (a 23) 0 F (by omega) (by have := wf.1; omega)
theorem m_cnt_l (hp : AP μ 0 a) (wf : WF a) : ∀ (k i n : Nat), i + k = a 23 → k < n → g_X9_warmOnes F n 4 (n3 (cntW a i)) (n3 i) μ = some (n3 (cntW a (a 23)), μ)
  | 0, i, n + 1, hk, _ => by
    obtain rfl : i = a 23 := by omega
    obtain ⟨⟨k1, k3, kb, ko⟩, ⟨k23, k24, k25, k26, k37⟩, kP, kS, kR, kD⟩ := hp.z; obtain ⟨⟨b38, b23, b39, b24, b25, b25u, b26⟩, wP, wS, wR, wD⟩ := id wf
    simp (disch := omega) only [g_X9_warmOnes, b_X9_warmOnes_4, ↓reduceIte, Option.bind_some, n3_lit, n3_cl, n3_in, n3_ltT, n3_ltF, n3_leT, n3_leF, n3_eqT, n3_eqF, n3_add, n3_sub, not_true_eq_false, not_false_eq_true, true_or, or_true, false_or, or_false, Nat.zero_add, Nat.add_zero, nn_lt, nn_le, nn_gt, nn_ge, nn_eq, nn_qe, k23]
  | k + 1, i, n + 1, hk, hn => by
    have ih := m_cnt_l hp wf k (i + 1) n (by omega) (by omega)
    obtain ⟨⟨k1, k3, kb, ko⟩, ⟨k23, k24, k25, k26, k37⟩, kP, kS, kR, kD⟩ := hp.z; obtain ⟨⟨b38, b23, b39, b24, b25, b25u, b26⟩, wP, wS, wR, wD⟩ := id wf
    have := wS i (by omega)
    have e := kS i (by omega)
    rw [cntW] at ih
    by_cases c : a (13 + i) < 5
    · rw [if_pos c] at ih
      simp (disch := omega) only [g_X9_warmOnes, b_X9_warmOnes_4, ↓reduceIte, Option.bind_some, n3_lit, n3_cl, n3_in, n3_ltT, n3_ltF, n3_leT, n3_leF, n3_eqT, n3_eqF, n3_add, n3_sub, not_true_eq_false, not_false_eq_true, true_or, or_true, false_or, or_false, Nat.zero_add, Nat.add_zero, nn_lt, nn_le, nn_gt, nn_ge, nn_eq, nn_qe, k23, e.2.1]; exact ih
    · rw [if_neg c] at ih
      simp (disch := omega) only [g_X9_warmOnes, b_X9_warmOnes_4, ↓reduceIte, Option.bind_some, n3_lit, n3_cl, n3_in, n3_ltT, n3_ltF, n3_leT, n3_leF, n3_eqT, n3_eqF, n3_add, n3_sub, not_true_eq_false, not_false_eq_true, true_or, or_true, false_or, or_false, Nat.zero_add, Nat.add_zero, nn_lt, nn_le, nn_gt, nn_ge, nn_eq, nn_qe, k23, e.2.1]; exact ih
theorem m_cnt (h : AP μ 0 a) (wf : WF a) (hF : 5 < F) : f_X9_warmOnes F μ = some (n3 (cntW a (a 23)), μ) := m_cnt_l h wf (a 23) 0 F (by omega) (by have := wf.1; omega)
theorem c_sumW_l (h : AW μ w a) (wf : WF a) : ∀ (k i n : Nat), i + k = a 23 → k < n → g_X7_allWarmth F w n 4 (n3 (sumW a i)) (n3 i) μ = some (n3 (sumW a (a 23)), μ)
  | 0, i, n + 1, hk, _ => by
    obtain rfl : i = a 23 := by omega
    obtain ⟨⟨h0, h3, h7, h8, h9, h11, h15⟩, hP, hS, hR, hD⟩ := h; obtain ⟨⟨b38, b23, b39, b24, b25, b25u, b26⟩, wP, wS, wR, wD⟩ := id wf
    simp (disch := omega) only [g_X7_allWarmth, b_X7_allWarmth_4, ↓reduceIte, Option.bind_some, n3_lit, n3_cl, n3_in, n3_ltT, n3_ltF, n3_leT, n3_leF, n3_eqT, n3_eqF, n3_add, n3_sub, not_true_eq_false, not_false_eq_true, true_or, or_true, false_or, or_false, Nat.zero_add, Nat.add_zero, nn_lt, nn_le, nn_gt, nn_ge, nn_eq, nn_qe, h3]
  | k + 1, i, n + 1, hk, hn => by
    have ih := c_sumW_l h wf k (i + 1) n (by omega) (by omega)
    obtain ⟨⟨h0, h3, h7, h8, h9, h11, h15⟩, hP, hS, hR, hD⟩ := h; obtain ⟨⟨b38, b23, b39, b24, b25, b25u, b26⟩, wP, wS, wR, wD⟩ := id wf
    have e := hS i (by omega)
    rw [sumW] at ih
    simp (disch := omega) only [g_X7_allWarmth, b_X7_allWarmth_4, ↓reduceIte, Option.bind_some, n3_lit, n3_cl, n3_in, n3_ltT, n3_ltF, n3_leT, n3_leF, n3_eqT, n3_eqF, n3_add, n3_sub, not_true_eq_false, not_false_eq_true, true_or, or_true, false_or, or_false, Nat.zero_add, Nat.add_zero, nn_lt, nn_le, nn_gt, nn_ge, nn_eq, nn_qe, h3, e.2.1]; exact ih
theorem c_sumD_l (h : AW μ w a) (wf : WF a) : ∀ (k i n : Nat), i + k = a 39 → k < n → g_X7_allDebts F w n 4 (n3 (sumD a i)) (n3 i) μ = some (n3 (sumD a (a 39)), μ)
  | 0, i, n + 1, hk, _ => by
    obtain rfl : i = a 39 := by omega
    obtain ⟨⟨h0, h3, h7, h8, h9, h11, h15⟩, hP, hS, hR, hD⟩ := h; obtain ⟨⟨b38, b23, b39, b24, b25, b25u, b26⟩, wP, wS, wR, wD⟩ := id wf
    simp (disch := omega) only [g_X7_allDebts, b_X7_allDebts_4, ↓reduceIte, Option.bind_some, n3_lit, n3_cl, n3_in, n3_ltT, n3_ltF, n3_leT, n3_leF, n3_eqT, n3_eqF, n3_add, n3_sub, not_true_eq_false, not_false_eq_true, true_or, or_true, false_or, or_false, Nat.zero_add, Nat.add_zero, nn_lt, nn_le, nn_gt, nn_ge, nn_eq, nn_qe, h11]
  | k + 1, i, n + 1, hk, hn => by
    have ih := c_sumD_l h wf k (i + 1) n (by omega) (by omega)
    obtain ⟨⟨h0, h3, h7, h8, h9, h11, h15⟩, hP, hS, hR, hD⟩ := h; obtain ⟨⟨b38, b23, b39, b24, b25, b25u, b26⟩, wP, wS, wR, wD⟩ := id wf
    have e := hD i (by omega)
    rw [sumD] at ih
    simp (disch := omega) only [g_X7_allDebts, b_X7_allDebts_4, ↓reduceIte, Option.bind_some, n3_lit, n3_cl, n3_in, n3_ltT, n3_ltF, n3_leT, n3_leF, n3_eqT, n3_eqF, n3_add, n3_sub, not_true_eq_false, not_false_eq_true, true_or, or_true, false_or, or_false, Nat.zero_add, Nat.add_zero, nn_lt, nn_le, nn_gt, nn_ge, nn_eq, nn_qe, h11, e.2.2]; exact ih
theorem c_sumP_l (h : AW μ w a) (wf : WF a) {p : Nat} (hp : p < 1000) : ∀ (k i n : Nat), i + k = a 23 → k < n → g_X7_warmthOf F w n 4 (n3 p) (n3 (sumP a p i)) (n3 i) μ = some (n3 (sumP a p (a 23)), μ)
  | 0, i, n + 1, hk, _ => by
    obtain rfl : i = a 23 := by omega
    obtain ⟨⟨h0, h3, h7, h8, h9, h11, h15⟩, hP, hS, hR, hD⟩ := h; obtain ⟨⟨b38, b23, b39, b24, b25, b25u, b26⟩, wP, wS, wR, wD⟩ := id wf
    simp (disch := omega) only [g_X7_warmthOf, b_X7_warmthOf_4, ↓reduceIte, Option.bind_some, n3_lit, n3_cl, n3_in, n3_ltT, n3_ltF, n3_leT, n3_leF, n3_eqT, n3_eqF, n3_add, n3_sub, not_true_eq_false, not_false_eq_true, true_or, or_true, false_or, or_false, Nat.zero_add, Nat.add_zero, nn_lt, nn_le, nn_gt, nn_ge, nn_eq, nn_qe, h3]
  | k + 1, i, n + 1, hk, hn => by
    have ih := c_sumP_l h wf hp k (i + 1) n (by omega) (by omega)
    obtain ⟨⟨h0, h3, h7, h8, h9, h11, h15⟩, hP, hS, hR, hD⟩ := h; obtain ⟨⟨b38, b23, b39, b24, b25, b25u, b26⟩, wP, wS, wR, wD⟩ := id wf
    have := wS i (by omega)
    have e := hS i (by omega)
    rw [sumP] at ih
    by_cases c : a (18 + i) = p
    · rw [if_pos c] at ih
      simp (disch := omega) only [g_X7_warmthOf, b_X7_warmthOf_4, ↓reduceIte, Option.bind_some, n3_lit, n3_cl, n3_in, n3_ltT, n3_ltF, n3_leT, n3_leF, n3_eqT, n3_eqF, n3_add, n3_sub, not_true_eq_false, not_false_eq_true, true_or, or_true, false_or, or_false, Nat.zero_add, Nat.add_zero, nn_lt, nn_le, nn_gt, nn_ge, nn_eq, nn_qe, h3, e.2.1, e.2.2]; exact ih
    · rw [if_neg c] at ih
      simp (disch := omega) only [g_X7_warmthOf, b_X7_warmthOf_4, ↓reduceIte, Option.bind_some, n3_lit, n3_cl, n3_in, n3_ltT, n3_ltF, n3_leT, n3_leF, n3_eqT, n3_eqF, n3_add, n3_sub, not_true_eq_false, not_false_eq_true, true_or, or_true, false_or, or_false, Nat.zero_add, Nat.add_zero, nn_lt, nn_le, nn_gt, nn_ge, nn_eq, nn_qe, h3, e.2.1, e.2.2]; exact ih
theorem c_mask_l (h : AW μ w a) (wf : WF a) {p : Nat} (hp : p < 1000) : ∀ (k i n : Nat), i + k = a 23 → k < n → g_X7_stonesOf F w n 4 (n3 p) (maskP a p i) (n3 i) μ = some (maskP a p (a 23), μ)
  | 0, i, n + 1, hk, _ => by
    obtain rfl : i = a 23 := by omega
    obtain ⟨⟨h0, h3, h7, h8, h9, h11, h15⟩, hP, hS, hR, hD⟩ := h; obtain ⟨⟨b38, b23, b39, b24, b25, b25u, b26⟩, wP, wS, wR, wD⟩ := id wf
    simp (disch := omega) only [g_X7_stonesOf, b_X7_stonesOf_4, ↓reduceIte, Option.bind_some, n3_lit, n3_cl, n3_in, n3_ltT, n3_ltF, n3_leT, n3_leF, n3_eqT, n3_eqF, n3_add, n3_sub, not_true_eq_false, not_false_eq_true, true_or, or_true, false_or, or_false, Nat.zero_add, Nat.add_zero, nn_lt, nn_le, nn_gt, nn_ge, nn_eq, nn_qe, h3]
  | k + 1, i, n + 1, hk, hn => by
    have ih := c_mask_l h wf hp k (i + 1) n (by omega) (by omega)
    obtain ⟨⟨h0, h3, h7, h8, h9, h11, h15⟩, hP, hS, hR, hD⟩ := h; obtain ⟨⟨b38, b23, b39, b24, b25, b25u, b26⟩, wP, wS, wR, wD⟩ := id wf
    have := wS i (by omega)
    have e := hS i (by omega)
    rw [maskP] at ih
    by_cases c : a (18 + i) = p
    · rw [if_pos c] at ih
      simp (disch := omega) only [g_X7_stonesOf, b_X7_stonesOf_4, ↓reduceIte, Option.bind_some, n3_lit, n3_cl, n3_in, n3_ltT, n3_ltF, n3_leT, n3_leF, n3_eqT, n3_eqF, n3_add, n3_sub, not_true_eq_false, not_false_eq_true, true_or, or_true, false_or, or_false, Nat.zero_add, Nat.add_zero, nn_lt, nn_le, nn_gt, nn_ge, nn_eq, nn_qe, h3, e.2.2]; exact ih
    · rw [if_neg c] at ih
      simp (disch := omega) only [g_X7_stonesOf, b_X7_stonesOf_4, ↓reduceIte, Option.bind_some, n3_lit, n3_cl, n3_in, n3_ltT, n3_ltF, n3_leT, n3_leF, n3_eqT, n3_eqF, n3_add, n3_sub, not_true_eq_false, not_false_eq_true, true_or, or_true, false_or, or_false, Nat.zero_add, Nat.add_zero, nn_lt, nn_le, nn_gt, nn_ge, nn_eq, nn_qe, h3, e.2.2]; exact ih
theorem c_mask (h : AW μ w a) (wf : WF a) {p : Nat} (hp : p < 1000) (hF : 5 < F) : f_X7_stonesOf F w (n3 p) μ = some (maskP a p (a 23), μ) := c_mask_l h wf hp (a 23) 0 F (by omega) (by have := wf.1; omega)
theorem m_one_l (hp : AP μ 0 a) (wf : WF a) {p : Nat} {y : Int32} (hpl : p < 1000) : ∀ (k i n : Nat), i + k = a 23 → k < n → g_X9_one F n 18 (n3 p) y (maskP a p i) (n3 (sumP a p i)) (n3 i) μ = g_X9_one F 1 18 (n3 p) y (maskP a p (a 23)) (n3 (sumP a p (a 23))) (n3 (a 23)) μ
  | 0, i, n + 1, hk, _ => by
    obtain rfl : i = a 23 := by omega
    obtain ⟨⟨k1, k3, kb, ko⟩, ⟨k23, k24, k25, k26, k37⟩, kP, kS, kR, kD⟩ := hp.z; obtain ⟨⟨b38, b23, b39, b24, b25, b25u, b26⟩, wP, wS, wR, wD⟩ := id wf
    simp (disch := omega) only [g_X9_one, b_X9_one_18, ↓reduceIte, Option.bind_some, n3_lit, n3_cl, n3_in, n3_ltT, n3_ltF, n3_leT, n3_leF, n3_eqT, n3_eqF, n3_add, n3_sub, not_true_eq_false, not_false_eq_true, true_or, or_true, false_or, or_false, Nat.zero_add, Nat.add_zero, nn_lt, nn_le, nn_gt, nn_ge, nn_eq, nn_qe, k23]
  | k + 1, i, n + 1, hk, hn => by
    have ih := m_one_l (y := y) hp wf hpl k (i + 1) n (by omega) (by omega)
    rw [← ih]
    obtain ⟨⟨k1, k3, kb, ko⟩, ⟨k23, k24, k25, k26, k37⟩, kP, kS, kR, kD⟩ := hp.z; obtain ⟨⟨b38, b23, b39, b24, b25, b25u, b26⟩, wP, wS, wR, wD⟩ := id wf
    have := wS i (by omega)
    have e := kS i (by omega)
    rw [sumP, maskP]
    by_cases c : a (18 + i) = p
    · rw [if_pos c, if_pos c]
      rw [g_X9_one]
      simp (disch := omega) only [b_X9_one_18, ↓reduceIte, Option.bind_some, n3_lit, n3_cl, n3_in, n3_ltT, n3_ltF, n3_leT, n3_leF, n3_eqT, n3_eqF, n3_add, n3_sub, not_true_eq_false, not_false_eq_true, true_or, or_true, false_or, or_false, Nat.zero_add, Nat.add_zero, nn_lt, nn_le, nn_gt, nn_ge, nn_eq, nn_qe, k23, e.2.1, e.2.2]
    · rw [if_neg c, if_neg c]
      rw [g_X9_one]
      simp (disch := omega) only [b_X9_one_18, ↓reduceIte, Option.bind_some, n3_lit, n3_cl, n3_in, n3_ltT, n3_ltF, n3_leT, n3_leF, n3_eqT, n3_eqF, n3_add, n3_sub, not_true_eq_false, not_false_eq_true, true_or, or_true, false_or, or_false, Nat.zero_add, Nat.add_zero, nn_lt, nn_le, nn_gt, nn_ge, nn_eq, nn_qe, k23, e.2.1, e.2.2, n3_or0]
theorem ok_one (h : R μ) (hF : 100 < F) (x y : Int32) : OK2 (f_X8_one F x y) (f_X9_one F x y) μ := by
  obtain ⟨a, wf, bm, hw, hp⟩ := h.1; obtain ⟨⟨h0, h3, h7, h8, h9, h11, h15⟩, hP, hS, hR, hD⟩ := hw.z; obtain ⟨⟨k1, k3, kb, ko⟩, ⟨k23, k24, k25, k26, k37⟩, kP, kS, kR, kD⟩ := hp.z; obtain ⟨⟨b38, b23, b39, b24, b25, b25u, b26⟩, wP, wS, wR, wD⟩ := id wf
  rcases n3_cases x (a 38) (by omega) with ⟨i, hi, rfl⟩ | hx
  · have hd := c_oneT (F := F) hw wf hi
    have kd := m_oneT (F := F) hp wf hi
    have hm := m_one_l (F := F) (y := y) hp wf (p := i) (by omega) (a 23) 0 F (by omega) (by omega)
    have s1 : f_X7_stonesOf F 101 (n3 i) μ = some (maskP a i (a 23), μ) := c_mask hw wf (by omega) (by omega)
    have s2 : f_X7_warmthOf F 101 (n3 i) μ = some (n3 (sumP a i (a 23)), μ) := c_sumP_l hw wf (by omega) (a 23) 0 F (by omega) (by omega)
    have e0 : maskP a i 0 = n3 0 := rfl
    have e1 : sumP a i 0 = 0 := rfl
    rw [e0, e1] at hm
    have := wP i hi
    rcases n3_cases y 4 (by decide) with ⟨j, hj, rfl⟩ | hy
    · rcases (show j = 0 ∨ j = 1 ∨ j = 2 ∨ j = 3 by omega) with rfl | rfl | rfl | rfl
      · refine OK2.same h (v := n3 (a i)) ?_ ?_
        · simp (disch := omega) only [f_X8_one, n3_int, if_neg, if_pos, ↓reduceIte, Option.bind_some, n3_lit, n3_cl, n3_in, n3_ltT, n3_ltF, n3_leT, n3_leF, n3_eqT, n3_eqF, n3_add, n3_sub, not_true_eq_false, not_false_eq_true, true_or, or_true, false_or, or_false, Nat.zero_add, Nat.add_zero, nn_lt, nn_le, nn_gt, nn_ge, nn_eq, nn_qe, hd, hP]
        · simp (disch := omega) only [f_X9_one, ↓reduceIte, Option.bind_some, n3_lit, n3_cl, n3_in, n3_ltT, n3_ltF, n3_leT, n3_leF, n3_eqT, n3_eqF, n3_add, n3_sub, not_true_eq_false, not_false_eq_true, true_or, or_true, false_or, or_false, Nat.zero_add, Nat.add_zero, nn_lt, nn_le, nn_gt, nn_ge, nn_eq, nn_qe, kd, hm]
          simp (disch := omega) only [g_X9_one, b_X9_one_18, n3_int, if_neg, if_pos, ↓reduceIte, Option.bind_some, n3_lit, n3_cl, n3_in, n3_ltT, n3_ltF, n3_leT, n3_leF, n3_eqT, n3_eqF, n3_add, n3_sub, not_true_eq_false, not_false_eq_true, true_or, or_true, false_or, or_false, Nat.zero_add, Nat.add_zero, nn_lt, nn_le, nn_gt, nn_ge, nn_eq, nn_qe, k23, kP]
      · refine OK2.same h (v := n3 (a (4 + i))) ?_ ?_
        · simp (disch := omega) only [f_X8_one, n3_int, if_neg, if_pos, ↓reduceIte, Option.bind_some, n3_lit, n3_cl, n3_in, n3_ltT, n3_ltF, n3_leT, n3_leF, n3_eqT, n3_eqF, n3_add, n3_sub, not_true_eq_false, not_false_eq_true, true_or, or_true, false_or, or_false, Nat.zero_add, Nat.add_zero, nn_lt, nn_le, nn_gt, nn_ge, nn_eq, nn_qe, hd, hP]
        · simp (disch := omega) only [f_X9_one, ↓reduceIte, Option.bind_some, n3_lit, n3_cl, n3_in, n3_ltT, n3_ltF, n3_leT, n3_leF, n3_eqT, n3_eqF, n3_add, n3_sub, not_true_eq_false, not_false_eq_true, true_or, or_true, false_or, or_false, Nat.zero_add, Nat.add_zero, nn_lt, nn_le, nn_gt, nn_ge, nn_eq, nn_qe, kd, hm]
          simp (disch := omega) only [g_X9_one, b_X9_one_18, n3_int, if_neg, if_pos, ↓reduceIte, Option.bind_some, n3_lit, n3_cl, n3_in, n3_ltT, n3_ltF, n3_leT, n3_leF, n3_eqT, n3_eqF, n3_add, n3_sub, not_true_eq_false, not_false_eq_true, true_or, or_true, false_or, or_false, Nat.zero_add, Nat.add_zero, nn_lt, nn_le, nn_gt, nn_ge, nn_eq, nn_qe, k23, kP]
      · refine OK2.same h (v := maskP a i (a 23)) ?_ ?_
        · simp (disch := omega) only [f_X8_one, n3_int, if_neg, if_pos, ↓reduceIte, Option.bind_some, n3_lit, n3_cl, n3_in, n3_ltT, n3_ltF, n3_leT, n3_leF, n3_eqT, n3_eqF, n3_add, n3_sub, not_true_eq_false, not_false_eq_true, true_or, or_true, false_or, or_false, Nat.zero_add, Nat.add_zero, nn_lt, nn_le, nn_gt, nn_ge, nn_eq, nn_qe, hd, s1]
        · simp (disch := omega) only [f_X9_one, ↓reduceIte, Option.bind_some, n3_lit, n3_cl, n3_in, n3_ltT, n3_ltF, n3_leT, n3_leF, n3_eqT, n3_eqF, n3_add, n3_sub, not_true_eq_false, not_false_eq_true, true_or, or_true, false_or, or_false, Nat.zero_add, Nat.add_zero, nn_lt, nn_le, nn_gt, nn_ge, nn_eq, nn_qe, kd, hm]
          simp (disch := omega) only [g_X9_one, b_X9_one_18, n3_int, if_neg, if_pos, ↓reduceIte, Option.bind_some, n3_lit, n3_cl, n3_in, n3_ltT, n3_ltF, n3_leT, n3_leF, n3_eqT, n3_eqF, n3_add, n3_sub, not_true_eq_false, not_false_eq_true, true_or, or_true, false_or, or_false, Nat.zero_add, Nat.add_zero, nn_lt, nn_le, nn_gt, nn_ge, nn_eq, nn_qe, k23, kP]
      · refine OK2.same h (v := n3 (sumP a i (a 23))) ?_ ?_
        · simp (disch := omega) only [f_X8_one, n3_int, if_neg, if_pos, ↓reduceIte, Option.bind_some, n3_lit, n3_cl, n3_in, n3_ltT, n3_ltF, n3_leT, n3_leF, n3_eqT, n3_eqF, n3_add, n3_sub, not_true_eq_false, not_false_eq_true, true_or, or_true, false_or, or_false, Nat.zero_add, Nat.add_zero, nn_lt, nn_le, nn_gt, nn_ge, nn_eq, nn_qe, hd, s2]
        · simp (disch := omega) only [f_X9_one, ↓reduceIte, Option.bind_some, n3_lit, n3_cl, n3_in, n3_ltT, n3_ltF, n3_leT, n3_leF, n3_eqT, n3_eqF, n3_add, n3_sub, not_true_eq_false, not_false_eq_true, true_or, or_true, false_or, or_false, Nat.zero_add, Nat.add_zero, nn_lt, nn_le, nn_gt, nn_ge, nn_eq, nn_qe, kd, hm]
          simp (disch := omega) only [g_X9_one, b_X9_one_18, n3_int, if_neg, if_pos, ↓reduceIte, Option.bind_some, n3_lit, n3_cl, n3_in, n3_ltT, n3_ltF, n3_leT, n3_leF, n3_eqT, n3_eqF, n3_add, n3_sub, not_true_eq_false, not_false_eq_true, true_or, or_true, false_or, or_false, Nat.zero_add, Nat.add_zero, nn_lt, nn_le, nn_gt, nn_ge, nn_eq, nn_qe, k23, kP]
    · have hy2 := n3_out (by decide) hy
      refine OK2.same h (v := -n3 1) ?_ ?_
      · simp (disch := omega) only [f_X8_one, if_pos, ↓reduceIte, Option.bind_some, n3_lit, n3_cl, n3_in, n3_ltT, n3_ltF, n3_leT, n3_leF, n3_eqT, n3_eqF, n3_add, n3_sub, not_true_eq_false, not_false_eq_true, true_or, or_true, false_or, or_false, Nat.zero_add, Nat.add_zero, nn_lt, nn_le, nn_gt, nn_ge, nn_eq, nn_qe, hd]
      · simp (disch := omega) only [f_X9_one, ↓reduceIte, Option.bind_some, n3_lit, n3_cl, n3_in, n3_ltT, n3_ltF, n3_leT, n3_leF, n3_eqT, n3_eqF, n3_add, n3_sub, not_true_eq_false, not_false_eq_true, true_or, or_true, false_or, or_false, Nat.zero_add, Nat.add_zero, nn_lt, nn_le, nn_gt, nn_ge, nn_eq, nn_qe, kd, hm]
        simp (disch := omega) only [g_X9_one, b_X9_one_18, if_pos, ↓reduceIte, Option.bind_some, n3_lit, n3_cl, n3_in, n3_ltT, n3_ltF, n3_leT, n3_leF, n3_eqT, n3_eqF, n3_add, n3_sub, not_true_eq_false, not_false_eq_true, true_or, or_true, false_or, or_false, Nat.zero_add, Nat.add_zero, nn_lt, nn_le, nn_gt, nn_ge, nn_eq, nn_qe, k23]
  · refine OK2.same h (v := -n3 1) ?_ ?_
    · simp (disch := omega) only [f_X8_one, ↓reduceIte, Option.bind_some, n3_lit, n3_cl, n3_in, n3_ltT, n3_ltF, n3_leT, n3_leF, n3_eqT, n3_eqF, n3_add, n3_sub, not_true_eq_false, not_false_eq_true, true_or, or_true, false_or, or_false, Nat.zero_add, Nat.add_zero, nn_lt, nn_le, nn_gt, nn_ge, nn_eq, nn_qe, c_oneF hw hx]
    · simp (disch := omega) only [f_X9_one, ↓reduceIte, Option.bind_some, n3_lit, n3_cl, n3_in, n3_ltT, n3_ltF, n3_leT, n3_leF, n3_eqT, n3_eqF, n3_add, n3_sub, not_true_eq_false, not_false_eq_true, true_or, or_true, false_or, or_false, Nat.zero_add, Nat.add_zero, nn_lt, nn_le, nn_gt, nn_ge, nn_eq, nn_qe, m_oneF hp wf hx]
theorem ok_go (h : R μ) (hF : 100 < F) (x : Int32) : OK2 (f_X8_go F x) (f_X9_go F x) μ := by
  obtain ⟨a, wf, bm, hw, hp⟩ := h.1
  have b23 := wf.1
  rcases n3_cases x 61 (by decide) with ⟨n, hn, rfl⟩ | hx
  · by_cases c : a 37 + n < 1000
    · obtain ⟨μ1, e1, h1, f1⟩ := c_pass (F := F) hw wf (n := n) (by omega) (by omega) (by omega)
      have hp1 := hp.fr f1 (by omega)
      obtain ⟨μ2, e2, h2, f2⟩ := m_pass (F := F) hp1 wf (by omega) (n := n) (by omega) (by omega) (by omega)
      have w1 := pass_wf wf n
      have e3 := c_cnt (F := F) h1 w1 (by omega)
      have e4 := m_cnt (F := F) h2 w1 (by omega)
      obtain ⟨⟨h0, h3, h7, h8, h9, h11, h15⟩, hP, hS, hR, hD⟩ := hw.z
      have k37 := hp1.z.2.1.2.2.2.2
      refine ⟨n3 (cntW (pass a n) (pass a n 23)), μ1, μ2, ?_, ?_, h.world (f1.weak (by omega) (by omega)) f2 w1 (by rw [pass_m (by omega)]; omega) h1 h2⟩
      · simp (disch := omega) only [f_X8_go, ↓reduceIte, Option.bind_some, n3_lit, n3_cl, n3_in, n3_ltT, n3_ltF, n3_leT, n3_leF, n3_eqT, n3_eqF, n3_add, n3_sub, not_true_eq_false, not_false_eq_true, true_or, or_true, false_or, or_false, Nat.zero_add, Nat.add_zero, nn_lt, nn_le, nn_gt, nn_ge, nn_eq, nn_qe, c_isInT, h15, e1, e3]
      · simp (disch := omega) only [f_X9_go, ↓reduceIte, Option.bind_some, n3_lit, n3_cl, n3_in, n3_ltT, n3_ltF, n3_leT, n3_leF, n3_eqT, n3_eqF, n3_add, n3_sub, not_true_eq_false, not_false_eq_true, true_or, or_true, false_or, or_false, Nat.zero_add, Nat.add_zero, nn_lt, nn_le, nn_gt, nn_ge, nn_eq, nn_qe, m_inT, k37, e2, e4]
    · obtain ⟨⟨h0, h3, h7, h8, h9, h11, h15⟩, hP, hS, hR, hD⟩ := hw.z; obtain ⟨⟨k1, k3, kb, ko⟩, ⟨k23, k24, k25, k26, k37⟩, kP, kS, kR, kD⟩ := hp.z
      refine OK2.same h (v := -n3 3) ?_ ?_
      · simp (disch := omega) only [f_X8_go, ↓reduceIte, Option.bind_some, n3_lit, n3_cl, n3_in, n3_ltT, n3_ltF, n3_leT, n3_leF, n3_eqT, n3_eqF, n3_add, n3_sub, not_true_eq_false, not_false_eq_true, true_or, or_true, false_or, or_false, Nat.zero_add, Nat.add_zero, nn_lt, nn_le, nn_gt, nn_ge, nn_eq, nn_qe, c_isInT, h15]
      · simp (disch := omega) only [f_X9_go, ↓reduceIte, Option.bind_some, n3_lit, n3_cl, n3_in, n3_ltT, n3_ltF, n3_leT, n3_leF, n3_eqT, n3_eqF, n3_add, n3_sub, not_true_eq_false, not_false_eq_true, true_or, or_true, false_or, or_false, Nat.zero_add, Nat.add_zero, nn_lt, nn_le, nn_gt, nn_ge, nn_eq, nn_qe, m_inT, k37]
  · refine OK2.same h (v := -n3 1) ?_ ?_
    · simp (disch := omega) only [f_X8_go, ↓reduceIte, Option.bind_some, n3_lit, n3_cl, n3_in, n3_ltT, n3_ltF, n3_leT, n3_leF, n3_eqT, n3_eqF, n3_add, n3_sub, not_true_eq_false, not_false_eq_true, true_or, or_true, false_or, or_false, Nat.zero_add, Nat.add_zero, nn_lt, nn_le, nn_gt, nn_ge, nn_eq, nn_qe, c_isInN hx]
    · simp (disch := omega) only [f_X9_go, ↓reduceIte, Option.bind_some, n3_lit, n3_cl, n3_in, n3_ltT, n3_ltF, n3_leT, n3_leF, n3_eqT, n3_eqF, n3_add, n3_sub, not_true_eq_false, not_false_eq_true, true_or, or_true, false_or, or_false, Nat.zero_add, Nat.add_zero, nn_lt, nn_le, nn_gt, nn_ge, nn_eq, nn_qe, m_inO hx]
/-- what paying wants -/
def canPay (a : Nat → Nat) (s p : Nat) : Prop := s < a 23 ∧ p < a 38 ∧ a (18 + s) ≠ p ∧ a 37 + betw a (a (18 + s)) p ≤ 999
theorem c_pay0 (h : AW μ w a) (wf : WF a) (bm : a 37 ≤ 999) {s p : Nat} (hc : canPay a s p) : f_X7_refusalToPay F w (n3 s) (n3 p) μ = some (n3 0, μ) := by
  obtain ⟨hs, hp, hn, hm⟩ := hc
  have wO := wf.2.2.1 s hs
  have hb := c_betw (F := F) h wf wO.2.2 hp
  have hd := c_stoneT (F := F) h wf hs
  have hd2 := c_oneT (F := F) h wf hp
  obtain ⟨⟨h0, h3, h7, h8, h9, h11, h15⟩, hP, hS, hR, hD⟩ := h; obtain ⟨⟨b38, b23, b39, b24, b25, b25u, b26⟩, wP, wS, wR, wD⟩ := id wf
  have e := hS s hs
  simp (disch := omega) only [f_X7_refusalToPay, ↓reduceIte, Option.bind_some, n3_lit, n3_cl, n3_in, n3_ltT, n3_ltF, n3_leT, n3_leF, n3_eqT, n3_eqF, n3_add, n3_sub, not_true_eq_false, not_false_eq_true, true_or, or_true, false_or, or_false, Nat.zero_add, Nat.add_zero, nn_lt, nn_le, nn_gt, nn_ge, nn_eq, nn_qe, hd, hd2, e.2.2, hb, h15]
theorem m_pay1 (h : AP μ 0 a) (wf : WF a) (bm : a 37 ≤ 999) {s p : Nat} (hc : canPay a s p) (hF : 50 < F) : ∃ ν, f_X9_paid F (n3 s) (n3 p) μ = some (n3 (pass a (betw a (a (18 + s)) p) (13 + s)), ν) ∧ AP ν 0 (hand a s p) ∧ FM 0 μ ν := by
  obtain ⟨hs, hq, hn, hm⟩ := hc
  have wO := wf.2.2.1 s hs
  obtain ⟨ν, e1, h1, f1⟩ := m_hand (F := F) h wf (by omega) hs hq hF
  refine ⟨ν, ?_, h1, f1⟩
  have hb := m_wayOn (F := F) h wf (by omega) wO.2.2 hq
  have hd := m_stoneT (F := F) h wf hs
  have hd2 := m_oneT (F := F) h wf hq
  have k37 := h.z.2.1.2.2.2.2
  have e := h.z.2.2.2.1 s hs
  obtain ⟨⟨b38, b23, b39, b24, b25, b25u, b26⟩, wP, wS, wR, wD⟩ := id wf
  simp (disch := omega) only [f_X9_paid, ↓reduceIte, Option.bind_some, n3_lit, n3_cl, n3_in, n3_ltT, n3_ltF, n3_leT, n3_leF, n3_eqT, n3_eqF, n3_add, n3_sub, not_true_eq_false, not_false_eq_true, true_or, or_true, false_or, or_false, Nat.zero_add, Nat.add_zero, nn_lt, nn_le, nn_gt, nn_ge, nn_eq, nn_qe, hd, hd2, e.2.2, hb, k37, e1]
theorem payCases (wf : WF a) (bm : a 37 ≤ 999) (F : Nat) (x y : Int32) : (∃ s p, x = n3 s ∧ y = n3 p ∧ canPay a s p) ∨ (∃ j, 1 ≤ j ∧ j ≤ 3 ∧ (∀ μ w, AW μ w a → f_X7_refusalToPay F w x y μ = some (-n3 j, μ)) ∧ (∀ μ, AP μ 0 a → f_X9_paid F x y μ = some (-n3 j, μ))) := by
  have b := wf.1
  rcases n3_cases x (a 23) (by omega) with ⟨s, hs, rfl⟩ | hx
  · rcases n3_cases y (a 38) (by omega) with ⟨p, hq, rfl⟩ | hy
    · have wO := wf.2.2.1 s hs
      have bb := betw_le wf wO.2.2 hq
      by_cases c1 : a (18 + s) = p
      · refine .inr ⟨2, by omega, by omega, fun μ w h => ?_, fun μ h => ?_⟩
        · have hd := c_stoneT (F := F) h wf hs
          have hd2 := c_oneT (F := F) h wf hq
          obtain ⟨⟨h0, h3, h7, h8, h9, h11, h15⟩, hP, hS, hR, hD⟩ := h
          have e := hS s hs
          simp (disch := omega) only [f_X7_refusalToPay, ↓reduceIte, Option.bind_some, n3_lit, n3_cl, n3_in, n3_ltT, n3_ltF, n3_leT, n3_leF, n3_eqT, n3_eqF, n3_add, n3_sub, not_true_eq_false, not_false_eq_true, true_or, or_true, false_or, or_false, Nat.zero_add, Nat.add_zero, nn_lt, nn_le, nn_gt, nn_ge, nn_eq, nn_qe, hd, hd2, e.2.2]
        · have hd := m_stoneT (F := F) h wf hs
          have hd2 := m_oneT (F := F) h wf hq
          have e := h.z.2.2.2.1 s hs
          simp (disch := omega) only [f_X9_paid, ↓reduceIte, Option.bind_some, n3_lit, n3_cl, n3_in, n3_ltT, n3_ltF, n3_leT, n3_leF, n3_eqT, n3_eqF, n3_add, n3_sub, not_true_eq_false, not_false_eq_true, true_or, or_true, false_or, or_false, Nat.zero_add, Nat.add_zero, nn_lt, nn_le, nn_gt, nn_ge, nn_eq, nn_qe, hd, hd2, e.2.2]
      · by_cases c2 : a 37 + betw a (a (18 + s)) p ≤ 999
        · exact .inl ⟨s, p, rfl, rfl, hs, hq, c1, c2⟩
        · refine .inr ⟨3, by omega, by omega, fun μ w h => ?_, fun μ h => ?_⟩
          · have hd := c_stoneT (F := F) h wf hs
            have hd2 := c_oneT (F := F) h wf hq
            have hb := c_betw (F := F) h wf wO.2.2 hq
            obtain ⟨⟨h0, h3, h7, h8, h9, h11, h15⟩, hP, hS, hR, hD⟩ := h
            have e := hS s hs
            simp (disch := omega) only [f_X7_refusalToPay, ↓reduceIte, Option.bind_some, n3_lit, n3_cl, n3_in, n3_ltT, n3_ltF, n3_leT, n3_leF, n3_eqT, n3_eqF, n3_add, n3_sub, not_true_eq_false, not_false_eq_true, true_or, or_true, false_or, or_false, Nat.zero_add, Nat.add_zero, nn_lt, nn_le, nn_gt, nn_ge, nn_eq, nn_qe, hd, hd2, e.2.2, hb, h15]
          · have hd := m_stoneT (F := F) h wf hs
            have hd2 := m_oneT (F := F) h wf hq
            have hb := m_wayOn (F := F) h wf (by omega) wO.2.2 hq
            have e := h.z.2.2.2.1 s hs
            have k37 := h.z.2.1.2.2.2.2
            simp (disch := omega) only [f_X9_paid, ↓reduceIte, Option.bind_some, n3_lit, n3_cl, n3_in, n3_ltT, n3_ltF, n3_leT, n3_leF, n3_eqT, n3_eqF, n3_add, n3_sub, not_true_eq_false, not_false_eq_true, true_or, or_true, false_or, or_false, Nat.zero_add, Nat.add_zero, nn_lt, nn_le, nn_gt, nn_ge, nn_eq, nn_qe, hd, hd2, e.2.2, hb, k37]
    · refine .inr ⟨1, by omega, by omega, fun μ w h => ?_, fun μ h => ?_⟩
      · have hd := c_stoneT (F := F) h wf hs
        simp (disch := omega) only [f_X7_refusalToPay, ↓reduceIte, Option.bind_some, n3_lit, n3_cl, n3_in, n3_ltT, n3_ltF, n3_leT, n3_leF, n3_eqT, n3_eqF, n3_add, n3_sub, not_true_eq_false, not_false_eq_true, true_or, or_true, false_or, or_false, Nat.zero_add, Nat.add_zero, nn_lt, nn_le, nn_gt, nn_ge, nn_eq, nn_qe, hd, c_oneF h hy]
      · have hd := m_stoneT (F := F) h wf hs
        simp (disch := omega) only [f_X9_paid, ↓reduceIte, Option.bind_some, n3_lit, n3_cl, n3_in, n3_ltT, n3_ltF, n3_leT, n3_leF, n3_eqT, n3_eqF, n3_add, n3_sub, not_true_eq_false, not_false_eq_true, true_or, or_true, false_or, or_false, Nat.zero_add, Nat.add_zero, nn_lt, nn_le, nn_gt, nn_ge, nn_eq, nn_qe, hd, m_oneF h wf hy]
  · refine .inr ⟨1, by omega, by omega, fun μ w h => ?_, fun μ h => ?_⟩
    · simp (disch := omega) only [f_X7_refusalToPay, ↓reduceIte, Option.bind_some, n3_lit, n3_cl, n3_in, n3_ltT, n3_ltF, n3_leT, n3_leF, n3_eqT, n3_eqF, n3_add, n3_sub, not_true_eq_false, not_false_eq_true, true_or, or_true, false_or, or_false, Nat.zero_add, Nat.add_zero, nn_lt, nn_le, nn_gt, nn_ge, nn_eq, nn_qe, c_stoneF h hx]
    · simp (disch := omega) only [f_X9_paid, ↓reduceIte, Option.bind_some, n3_lit, n3_cl, n3_in, n3_ltT, n3_ltF, n3_leT, n3_leF, n3_eqT, n3_eqF, n3_add, n3_sub, not_true_eq_false, not_false_eq_true, true_or, or_true, false_or, or_false, Nat.zero_add, Nat.add_zero, nn_lt, nn_le, nn_gt, nn_ge, nn_eq, nn_qe, m_stoneF h wf hx]
theorem hand_37 {s p : Nat} (wf : WF a) (hs : s < a 23) : hand a s p 37 = a 37 + betw a (a (18 + s)) p := by
  have b := wf.1
  unfold hand
  rw [lessO_n (by omega) (fun i hi => by have := fo_lt _ _ _ hi; omega), st_ne (by omega), pass_m (by omega)]
theorem ok_pay (h : R μ) (hF : 100 < F) (x y : Int32) : OK2 (f_X8_pay F x y) (f_X9_pay F x y) μ := by
  obtain ⟨a, wf, bm, hw, hp⟩ := h.1
  rcases payCases wf bm F x y with ⟨s, p, rfl, rfl, hc⟩ | ⟨j, j1, j2, c1, c2⟩
  · have e0 := c_pay0 (F := F) hw wf bm hc
    obtain ⟨μ1, e1, h1, f1⟩ := c_hand (F := F) (by decide) hw wf hc.1 hc.2.1 (by omega)
    have hp1 := hp.fr f1 (by omega)
    obtain ⟨μ2, e2, h2, f2⟩ := m_pay1 (F := F) hp1 wf bm hc (by omega)
    have w1 := hand_wf wf hc.1 hc.2.1
    refine ⟨n3 (pass a (betw a (a (18 + s)) p) (13 + s)), μ1, μ2, ?_, ?_, h.world (f1.weak (by omega) (by omega)) f2 w1 (by rw [hand_37 wf hc.1]; exact hc.2.2.2) h1 h2⟩
    · simp (disch := omega) only [f_X8_pay, ↓reduceIte, Option.bind_some, n3_lit, n3_cl, n3_in, n3_ltT, n3_ltF, n3_leT, n3_leF, n3_eqT, n3_eqF, n3_add, n3_sub, not_true_eq_false, not_false_eq_true, true_or, or_true, false_or, or_false, Nat.zero_add, Nat.add_zero, nn_lt, nn_le, nn_gt, nn_ge, nn_eq, nn_qe, e0, e1]
    · simp (disch := omega) only [f_X9_pay, ↓reduceIte, Option.bind_some, n3_lit, n3_cl, n3_in, n3_ltT, n3_ltF, n3_leT, n3_leF, n3_eqT, n3_eqF, n3_add, n3_sub, not_true_eq_false, not_false_eq_true, true_or, or_true, false_or, or_false, Nat.zero_add, Nat.add_zero, nn_lt, nn_le, nn_gt, nn_ge, nn_eq, nn_qe, e2]
  · refine OK2.same h (v := -n3 j) ?_ ?_
    · have e := c1 μ 101 hw
      simp (disch := omega) only [f_X8_pay, ↓reduceIte, Option.bind_some, n3_lit, n3_cl, n3_in, n3_ltT, n3_ltF, n3_leT, n3_leF, n3_eqT, n3_eqF, n3_add, n3_sub, not_true_eq_false, not_false_eq_true, true_or, or_true, false_or, or_false, Nat.zero_add, Nat.add_zero, nn_lt, nn_le, nn_gt, nn_ge, nn_eq, nn_qe, e]
    · have e := c2 μ hp
      simp (disch := omega) only [f_X9_pay, ↓reduceIte, Option.bind_some, n3_lit, n3_cl, n3_in, n3_ltT, n3_ltF, n3_leT, n3_leF, n3_eqT, n3_eqF, n3_add, n3_sub, not_true_eq_false, not_false_eq_true, true_or, or_true, false_or, or_false, Nat.zero_add, Nat.add_zero, nn_lt, nn_le, nn_gt, nn_ge, nn_eq, nn_qe, e]
end VS42
