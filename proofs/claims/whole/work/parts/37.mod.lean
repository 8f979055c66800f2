/-! needs: 30.int 31.abs 32.cls 33.upd 34.clw 35.hand 36.upm -/
/-! time, paying, copies of the reference -/
def mP (a : Nat → Nat) (but i : Nat) : Nat → Nat := fun k => if 13 ≤ k ∧ k < 13 + i ∧ k ≠ 13 + but then cool (a k) (rate a (k - 13)) else a k
theorem mP_n {a : Nat → Nat} {but i k : Nat} (h : k < 13 ∨ 13 + i ≤ k) : mP a but i k = a k := if_neg (by omega)
theorem mP_s {a : Nat → Nat} {but i : Nat} (h : i ≠ but) : mP a but (i + 1) = st (mP a but i) (13 + i) (cool (a (13 + i)) (rate a i)) := by
  funext k
  unfold mP st
  dsimp only
  by_cases h3 : k = 13 + i
  · subst h3
    rw [if_pos (by omega), if_pos rfl, show 13 + i - 13 = i by omega]
  · rw [if_neg h3]
    by_cases h2 : 13 ≤ k ∧ k < 13 + i ∧ k ≠ 13 + but
    · rw [if_pos h2, if_pos (by omega)]
    · rw [if_neg h2, if_neg (by omega)]
theorem mP_b {a : Nat → Nat} {i : Nat} : mP a i (i + 1) = st (mP a i i) (13 + i) (a (13 + i)) := by
  funext k
  unfold mP st
  dsimp only
  by_cases h3 : k = 13 + i
  · subst h3
    rw [if_neg (by omega), if_pos rfl]
  · rw [if_neg h3]
    by_cases h2 : 13 ≤ k ∧ k < 13 + i ∧ k ≠ 13 + i
    · rw [if_pos h2, if_pos (by omega)]
    · rw [if_neg h2, if_neg (by omega)]
/-- a minute, but for one stone -/
def minB (a : Nat → Nat) (but : Nat) : Nat → Nat := st (mP a but (a 23)) 37 (a 37 + 1)
theorem minB_pass {a : Nat → Nat} {but : Nat} (hb : 5 ≤ but) (h : a 23 ≤ 5) : minB a but = pass a 1 := by
  rw [← passP_e a 1 h]
  unfold minB
  congr 1
  funext k
  unfold mP passP
  by_cases h2 : 13 ≤ k ∧ k < 13 + a 23
  · rw [if_pos (by omega), if_pos h2]; rfl
  · rw [if_neg (by omega), if_neg h2]
theorem minB_st {a : Nat → Nat} {s v : Nat} (hs : s < a 23) (h : a 23 ≤ 5) : st (minB a s) (13 + s) v = st (pass a 1) (13 + s) v := by
  rw [← minB_pass (but := 99) (by omega) h]
  funext k
  by_cases h2 : k = 13 + s
  · rw [st_eq h2, st_eq h2]
  · rw [st_ne h2, st_ne h2]
    unfold minB
    by_cases h3 : k = 37
    · rw [st_eq h3, st_eq h3]
    · rw [st_ne h3, st_ne h3]
      unfold mP
      by_cases h4 : 13 ≤ k ∧ k < 13 + a 23
      · rw [if_pos (by omega), if_pos (by omega)]
      · rw [if_neg (by omega), if_neg (by omega)]
section VS37
variable {F : Nat} {μ ν : fm_M} {a : Nat → Nat} {P : Nat}
theorem mP_wf (wf : WF a) (but : Nat) : ∀ i, i ≤ a 23 → WF (mP a but i)
  | 0, _ => by
    have : mP a but 0 = a := by funext k; exact mP_n (by omega)
    rw [this]; exact wf
  | i + 1, h => by
    have := (wf.2.2.1 i (by omega)).2.1
    have b23 := wf.1
    by_cases e : i = but
    · subst e
      rw [mP_b]
      exact wf_warm (mP_wf wf i i (by omega)) (by rw [mP_n (by omega)]; omega) (by omega)
    · rw [mP_s e]
      have := cool_le (a (13 + i)) (rate a i)
      exact wf_warm (mP_wf wf but i (by omega)) (by rw [mP_n (by omega)]; omega) (by omega)
theorem mP_rate (wf : WF a) {but i s : Nat} (hi : i ≤ a 23) (hs : s < a 23) : rate (mP a but i) s = rate a s := by
  obtain ⟨⟨b38, b23, b39, b24, b25, b25u, b26⟩, wP, wS, wR, wD⟩ := id wf
  have := wS s hs
  unfold rate
  rw [mP_n (k := 8 + s) (by omega), mP_n (k := 18 + s) (by omega), mP_n (k := a (18 + s)) (by omega)]
theorem m_rateOn (h : AP μ P a) (wf : WF a) (hPl : P ≤ 190) {s : Nat} (hs : s < a 23) : f_X9_rateOn F (n3 P) (n3 s) μ = some (n3 (rate a s), μ) := by
  obtain ⟨⟨h1, h3, hb, ho⟩, ⟨h23, h24, h25, h26, h37⟩, hP, hS, hR, hD⟩ := h; obtain ⟨⟨b38, b23, b39, b24, b25, b25u, b26⟩, wP, wS, wR, wD⟩ := id wf
  have := wS s hs
  have := wP (a (18 + s)) (by omega)
  simp (disch := omega) only [f_X9_rateOn, ↓reduceIte, Option.bind_some, n3_lit, n3_cl, n3_in, n3_ltT, n3_ltF, n3_leT, n3_leF, n3_eqT, n3_eqF, n3_add, n3_sub, not_true_eq_false, not_false_eq_true, true_or, or_true, false_or, or_false, Nat.zero_add, Nat.add_zero, nn_lt, nn_le, nn_gt, nn_ge, nn_eq, nn_qe, h1, h3, hb, ho, h23, h24, h25, h26, h37, hP, hS, hR, hD, m_rateOf]
  rfl
theorem m_apart {x y : Nat} (h : x < 1000) (h2 : y < 1000) : f_X9_apart F (n3 x) (n3 y) μ = some (n3 (dist x y), μ) := by
  unfold f_X9_apart dist
  by_cases hc : x < y
  · simp (disch := omega) only [↓reduceIte, Option.bind_some, n3_lit, n3_cl, n3_in, n3_ltT, n3_ltF, n3_leT, n3_leF, n3_eqT, n3_eqF, n3_add, n3_sub, not_true_eq_false, not_false_eq_true, true_or, or_true, false_or, or_false, Nat.zero_add, Nat.add_zero, nn_lt, nn_le, nn_gt, nn_ge, nn_eq, nn_qe, if_pos hc]
  · simp (disch := omega) only [↓reduceIte, Option.bind_some, n3_lit, n3_cl, n3_in, n3_ltT, n3_ltF, n3_leT, n3_leF, n3_eqT, n3_eqF, n3_add, n3_sub, not_true_eq_false, not_false_eq_true, true_or, or_true, false_or, or_false, Nat.zero_add, Nat.add_zero, nn_lt, nn_le, nn_gt, nn_ge, nn_eq, nn_qe, if_neg hc]
theorem m_wayOn (h : AP μ P a) (wf : WF a) (hPl : P ≤ 190) {p q : Nat} (hp : p < a 38) (hq : q < a 38) : f_X9_wayOn F (n3 P) (n3 p) (n3 q) μ = some (n3 (betw a p q), μ) := by
  obtain ⟨⟨h1, h3, hb, ho⟩, ⟨h23, h24, h25, h26, h37⟩, hP, hS, hR, hD⟩ := h; obtain ⟨⟨b38, b23, b39, b24, b25, b25u, b26⟩, wP, wS, wR, wD⟩ := id wf
  have := wP p hp
  have := wP q hq
  simp (disch := omega) only [f_X9_wayOn, ↓reduceIte, Option.bind_some, n3_lit, n3_cl, n3_in, n3_ltT, n3_ltF, n3_leT, n3_leF, n3_eqT, n3_eqF, n3_add, n3_sub, not_true_eq_false, not_false_eq_true, true_or, or_true, false_or, or_false, Nat.zero_add, Nat.add_zero, nn_lt, nn_le, nn_gt, nn_ge, nn_eq, nn_qe, h1, h3, hb, ho, h23, h24, h25, h26, h37, hP, hS, hR, hD, m_apart]
  rfl
theorem m_min_l (wf : WF a) (hPl : P ≤ 190) {but : Nat} {x : Int32} (hx : ∀ i, i < 5 → (n3 i = x ↔ i = but)) : ∀ (k i m : Nat) (μ : fm_M), i + k = a 23 → k < m → AP μ P (mP a but i) → ∃ ν, g_X9_minuteOn F m 2 (n3 P) x (n3 i) μ = some ((), ν) ∧ AP ν P (minB a but) ∧ FM P μ ν
  | 0, i, m + 1, μ, h, _, ha => by
    obtain rfl : i = a 23 := by omega
    have wf' := mP_wf wf but (a 23) (Nat.le_refl _)
    have b23 := wf.1
    have h23 := ha.2.1.1
    have h37 := ha.2.1.2.2.2.2
    rw [mP_n (by omega)] at h23 h37
    simp (disch := omega) only [g_X9_minuteOn, b_X9_minuteOn_2, ↓reduceIte, Option.bind_some, n3_lit, n3_cl, n3_in, n3_ltT, n3_ltF, n3_leT, n3_leF, n3_eqT, n3_eqF, n3_add, n3_sub, not_true_eq_false, not_false_eq_true, true_or, or_true, false_or, or_false, Nat.zero_add, Nat.add_zero, nn_lt, nn_le, nn_gt, nn_ge, nn_eq, nn_qe, h23, h37]
    exact ⟨_, rfl, ap_min ha wf' (a 37 + 1), (FM.refl P μ).sA (by omega)⟩
  | k + 1, i, m + 1, μ, h, h2, ha => by
    have wf' := mP_wf wf but i (by omega)
    have b23 := wf.1
    have h23 := ha.2.1.1
    have h4 := (ha.2.2.2.1 i (by rw [mP_n (by omega)]; omega)).2.1
    rw [mP_n (by omega)] at h23 h4
    have hr := m_rateOn (F := F) ha wf' hPl (s := i) (by rw [mP_n (by omega)]; omega)
    rw [mP_rate wf (by omega) (by omega)] at hr
    have hw := (wf.2.2.1 i (by omega)).2.1
    have hr8 := rate_le a i
    by_cases e : i = but
    · have ex : n3 i = x := (hx i (by omega)).mpr e
      subst e
      have hu := ap_warm ha wf' (i := i) (by rw [mP_n (by omega)]; omega) (a (13 + i))
      rw [← mP_b] at hu
      simp (disch := omega) only [g_X9_minuteOn, b_X9_minuteOn_2, ↓reduceIte, Option.bind_some, n3_lit, n3_cl, n3_in, n3_ltT, n3_ltF, n3_leT, n3_leF, n3_eqT, n3_eqF, n3_add, n3_sub, not_true_eq_false, not_false_eq_true, true_or, or_true, false_or, or_false, Nat.zero_add, Nat.add_zero, nn_lt, nn_le, nn_gt, nn_ge, nn_eq, nn_qe, h23, h4, eq_true ex]
      obtain ⟨ν, e, h5, h6⟩ := m_min_l wf hPl hx k (i + 1) m _ (by omega) (by omega) hu
      exact ⟨ν, e, h5, ((FM.refl P μ).sA (by omega)).trans h6⟩
    · have ex : ¬ n3 i = x := fun c => e ((hx i (by omega)).mp c)
      have hu := ap_warm ha wf' (i := i) (by rw [mP_n (by omega)]; omega) (cool (a (13 + i)) (rate a i))
      rw [← mP_s e] at hu
      simp (disch := omega) only [g_X9_minuteOn, b_X9_minuteOn_2, ↓reduceIte, Option.bind_some, n3_lit, n3_cl, n3_in, n3_ltT, n3_ltF, n3_leT, n3_leF, n3_eqT, n3_eqF, n3_add, n3_sub, not_true_eq_false, not_false_eq_true, true_or, or_true, false_or, or_false, Nat.zero_add, Nat.add_zero, nn_lt, nn_le, nn_gt, nn_ge, nn_eq, nn_qe, h23, h4, eq_false ex, hr, m_cooled]
      obtain ⟨ν, e, h5, h6⟩ := m_min_l wf hPl hx k (i + 1) m _ (by omega) (by omega) hu
      exact ⟨ν, e, h5, ((FM.refl P μ).sA (by omega)).trans h6⟩
theorem m_min (h : AP μ P a) (wf : WF a) (hPl : P ≤ 190) {but : Nat} {x : Int32} (hx : ∀ i, i < 5 → (n3 i = x ↔ i = but)) (hF : 5 < F) : ∃ ν, f_X9_minuteOn F (n3 P) x μ = some ((), ν) ∧ AP ν P (minB a but) ∧ FM P μ ν := by
  have : mP a but 0 = a := by funext k; exact mP_n (by omega)
  refine m_min_l wf hPl hx (a 23) 0 F μ (by omega) (by have := wf.1; omega) ?_
  rw [this]; exact h
theorem m_pass_l (wf : WF a) (hPl : P ≤ 190) {n : Nat} (hn : n < 1000000) (hF : 5 < F) : ∀ (k i m : Nat) (μ : fm_M), i + k = n → k < m → AP μ P (pass a i) → ∃ ν, g_X9_goesOn F m 2 (n3 P) (n3 n) (n3 i) μ = some ((), ν) ∧ AP ν P (pass a n) ∧ FM P μ ν
  | 0, i, m + 1, μ, h, _, ha => by
    obtain rfl : i = n := by omega
    simp (disch := omega) only [g_X9_goesOn, b_X9_goesOn_2, ↓reduceIte, Option.bind_some, n3_lit, n3_cl, n3_in, n3_ltT, n3_ltF, n3_leT, n3_leF, n3_eqT, n3_eqF, n3_add, n3_sub, not_true_eq_false, not_false_eq_true, true_or, or_true, false_or, or_false, Nat.zero_add, Nat.add_zero, nn_lt, nn_le, nn_gt, nn_ge, nn_eq, nn_qe]
    exact ⟨μ, rfl, ha, FM.refl P μ⟩
  | k + 1, i, m + 1, μ, h, h2, ha => by
    have w1 := pass_wf wf i
    have b23 := w1.1
    obtain ⟨μ1, e1, h3, f1⟩ := m_min (F := F) ha w1 hPl (but := 99) (x := -n3 1) (fun j hj => ⟨fun c => by rw [nn_qe (by omega) (by omega) (by omega)] at c; exact c.elim, fun c => by omega⟩) hF
    rw [minB_pass (by omega) (by omega), pass_pass wf] at h3
    simp (disch := omega) only [g_X9_goesOn, b_X9_goesOn_2, ↓reduceIte, Option.bind_some, n3_lit, n3_cl, n3_in, n3_ltT, n3_ltF, n3_leT, n3_leF, n3_eqT, n3_eqF, n3_add, n3_sub, not_true_eq_false, not_false_eq_true, true_or, or_true, false_or, or_false, Nat.zero_add, Nat.add_zero, nn_lt, nn_le, nn_gt, nn_ge, nn_eq, nn_qe, e1]
    obtain ⟨ν, e, h5, h6⟩ := m_pass_l wf hPl hn hF k (i + 1) m _ (by omega) (by omega) h3
    exact ⟨ν, e, h5, f1.trans h6⟩
theorem pass_0 (wf : WF a) : pass a 0 = a := by
  funext k
  unfold pass
  split
  · rfl
  · split
    · rename_i e; rw [e]; rfl
    · rfl
theorem m_pass (h : AP μ P a) (wf : WF a) (hPl : P ≤ 190) {n : Nat} (hn : n < 1000000) (hF : n < F) (hF2 : 5 < F) : ∃ ν, f_X9_goesOn F (n3 P) (n3 n) μ = some ((), ν) ∧ AP ν P (pass a n) ∧ FM P μ ν :=
  m_pass_l wf hPl hn hF2 n 0 F μ (by omega) hF (by rw [pass_0 wf]; exact h)
theorem m_pay_l (wf : WF a) (hPl : P ≤ 190) {f t x : Nat} {r : Int32} (hf : f < 1000) (ht : t < 1000) (hx : x ≤ 99) (h5 : 5 ≤ x) : ∀ (k i m : Nat) (μ : fm_M), i + k = a 39 → k < m → AP μ P a → ∃ ν, g_X9_paysOn F m 68 (n3 P) (n3 t) (n3 f) r (n3 x) (n3 i) μ = some (r, ν) ∧ AP ν P (lessO a x (fo a (fun i => a (33 + i)) f t i k)) ∧ FM P μ ν
  | 0, i, m + 1, μ, hk, _, ha => by
    have b39 := wf.1
    have h3 := ha.1.2.1
    simp (disch := omega) only [g_X9_paysOn, b_X9_paysOn_68, ↓reduceIte, Option.bind_some, n3_lit, n3_cl, n3_in, n3_ltT, n3_ltF, n3_leT, n3_leF, n3_eqT, n3_eqF, n3_add, n3_sub, not_true_eq_false, not_false_eq_true, true_or, or_true, false_or, or_false, Nat.zero_add, Nat.add_zero, nn_lt, nn_le, nn_gt, nn_ge, nn_eq, nn_qe, h3]
    exact ⟨μ, rfl, ha, FM.refl P μ⟩
  | k + 1, i, m + 1, μ, hk, hm, ha => by
    have b39 := wf.1
    have h3 := ha.1.2.1
    have ho := ha.1.2.2.2 i (by omega)
    have hd := ha.2.2.2.2.2 i (by omega)
    have wd := wf.2.2.2.2 i (by omega)
    have e2 : n3 2 * n3 i = n3 (2 * i) := n3_mul 2 i
    by_cases c : a (40 + i) = f ∧ a (44 + i) = t ∧ a (33 + i) ≠ 0
    · rw [fo_t (o := fun i => a (33 + i)) (by exact c)]
      have stop : ∀ ν : fm_M, ν.1 = μ.1 → g_X9_paysOn F m 68 (n3 P) (n3 t) (n3 f) r (n3 0) (n3 (i + 1)) ν = some (r, ν) := by
        intro ν hν
        have h3' : ν.1 232 3 = n3 (a 39) := by rw [hν]; exact h3
        match m, hm with
        | m + 1, _ =>
          by_cases c2 : a 39 ≤ i + 1
          · simp (disch := omega) only [g_X9_paysOn, b_X9_paysOn_68, ↓reduceIte, Option.bind_some, n3_lit, n3_cl, n3_in, n3_ltT, n3_ltF, n3_leT, n3_leF, n3_eqT, n3_eqF, n3_add, n3_sub, not_true_eq_false, not_false_eq_true, true_or, or_true, false_or, or_false, Nat.zero_add, Nat.add_zero, nn_lt, nn_le, nn_gt, nn_ge, nn_eq, nn_qe, h3']
          · simp (disch := omega) only [g_X9_paysOn, b_X9_paysOn_68, ↓reduceIte, Option.bind_some, n3_lit, n3_cl, n3_in, n3_ltT, n3_ltF, n3_leT, n3_leF, n3_eqT, n3_eqF, n3_add, n3_sub, not_true_eq_false, not_false_eq_true, true_or, or_true, false_or, or_false, Nat.zero_add, Nat.add_zero, nn_lt, nn_le, nn_gt, nn_ge, nn_eq, nn_qe, h3']
      have hl : less (a (33 + i)) x = if a (33 + i) ≤ x then 0 else a (33 + i) - x := by
        unfold less
        rw [if_neg (by omega)]
        split <;> omega
      have hu := ap_amt ha wf (i := i) (by omega) (less (a (33 + i)) x)
      by_cases c3 : a (33 + i) ≤ x
      · rw [hl, if_pos c3] at hu
        simp (disch := omega) only [g_X9_paysOn, b_X9_paysOn_68, ↓reduceIte, Option.bind_some, n3_lit, n3_cl, n3_in, n3_ltT, n3_ltF, n3_leT, n3_leF, n3_eqT, n3_eqF, n3_add, n3_sub, not_true_eq_false, not_false_eq_true, true_or, or_true, false_or, or_false, Nat.zero_add, Nat.add_zero, nn_lt, nn_le, nn_gt, nn_ge, nn_eq, nn_qe, h3, e2, ho.1, ho.2, hd]
        rw [stop (fm_sA μ 233 _) rfl]
        refine ⟨_, rfl, ?_, (FM.refl P μ).sA (by omega)⟩
        show AP _ P (st a (33 + i) (less (a (33 + i)) x))
        rw [hl, if_pos c3]; exact hu
      · rw [hl, if_neg c3] at hu
        simp (disch := omega) only [g_X9_paysOn, b_X9_paysOn_68, ↓reduceIte, Option.bind_some, n3_lit, n3_cl, n3_in, n3_ltT, n3_ltF, n3_leT, n3_leF, n3_eqT, n3_eqF, n3_add, n3_sub, not_true_eq_false, not_false_eq_true, true_or, or_true, false_or, or_false, Nat.zero_add, Nat.add_zero, nn_lt, nn_le, nn_gt, nn_ge, nn_eq, nn_qe, h3, e2, ho.1, ho.2, hd]
        rw [stop (fm_sA μ 233 _) rfl]
        refine ⟨_, rfl, ?_, (FM.refl P μ).sA (by omega)⟩
        show AP _ P (st a (33 + i) (less (a (33 + i)) x))
        rw [hl, if_neg c3]; exact hu
    · rw [fo_f (o := fun i => a (33 + i)) (by exact c)]
      obtain ⟨ν, e, q1, q2⟩ := m_pay_l (r := r) wf hPl hf ht hx h5 k (i + 1) m μ (by omega) (by omega) ha
      refine ⟨ν, ?_, q1, q2⟩
      rw [← e]
      by_cases c1 : a (40 + i) = f
      · by_cases c2 : a (44 + i) = t
        · simp (disch := omega) only [g_X9_paysOn, b_X9_paysOn_68, ↓reduceIte, Option.bind_some, n3_lit, n3_cl, n3_in, n3_ltT, n3_ltF, n3_leT, n3_leF, n3_eqT, n3_eqF, n3_add, n3_sub, not_true_eq_false, not_false_eq_true, true_or, or_true, false_or, or_false, Nat.zero_add, Nat.add_zero, nn_lt, nn_le, nn_gt, nn_ge, nn_eq, nn_qe, h3, e2, ho.1, ho.2, hd]
        · simp (disch := omega) only [g_X9_paysOn, b_X9_paysOn_68, ↓reduceIte, Option.bind_some, n3_lit, n3_cl, n3_in, n3_ltT, n3_ltF, n3_leT, n3_leF, n3_eqT, n3_eqF, n3_add, n3_sub, not_true_eq_false, not_false_eq_true, true_or, or_true, false_or, or_false, Nat.zero_add, Nat.add_zero, nn_lt, nn_le, nn_gt, nn_ge, nn_eq, nn_qe, h3, e2, ho.1, ho.2, hd]
      · simp (disch := omega) only [g_X9_paysOn, b_X9_paysOn_68, ↓reduceIte, Option.bind_some, n3_lit, n3_cl, n3_in, n3_ltT, n3_ltF, n3_leT, n3_leF, n3_eqT, n3_eqF, n3_add, n3_sub, not_true_eq_false, not_false_eq_true, true_or, or_true, false_or, or_false, Nat.zero_add, Nat.add_zero, nn_lt, nn_le, nn_gt, nn_ge, nn_eq, nn_qe, h3, e2, ho.1, ho.2, hd]
theorem lessO_0 {a : Nat → Nat} {x : Nat} (h : x < 5) (d : Option Nat) : lessO a x d = a := by
  cases d with
  | none => rfl
  | some i =>
    show st a (33 + i) (if x < 5 then a (33 + i) else a (33 + i) - x) = a
    rw [if_pos h]
    funext k
    by_cases e : k = 33 + i
    · rw [st_eq e, e]
    · rw [st_ne e]
theorem m_hand (h : AP μ P a) (wf : WF a) (hPl : P ≤ 190) {s p : Nat} (hs : s < a 23) (hp : p < a 38) (hF : 50 < F) : ∃ ν, f_X9_paysOn F (n3 P) (n3 s) (n3 p) μ = some (n3 (pass a (betw a (a (18 + s)) p) (13 + s)), ν) ∧ AP ν P (hand a s p) ∧ FM P μ ν := by
  have wO := wf.2.2.1 s hs
  have bb := betw_le wf wO.2.2 hp
  have b23 := wf.1
  have hb := m_wayOn (F := F) h wf hPl wO.2.2 hp
  have hown := (h.2.2.2.1 s hs).2.2
  obtain ⟨μ1, e1, h1, f1⟩ := m_pass (F := F) h wf hPl (n := betw a (a (18 + s)) p) (by omega) (by omega) (by omega)
  have w1 := pass_wf wf (betw a (a (18 + s)) p)
  have e23 : pass a (betw a (a (18 + s)) p) 23 = a 23 := pass_n (by omega) (by omega)
  have e38 : pass a (betw a (a (18 + s)) p) 38 = a 38 := pass_n (by omega) (by omega)
  have e39 : st (pass a (betw a (a (18 + s)) p)) (18 + s) p 39 = a 39 := by rw [st_ne (by omega), pass_n (by omega) (by omega)]
  have h2 := ap_owner h1 w1 (i := s) (by omega) p
  have w2 := wf_owner w1 (i := s) (v := p) (by omega) (by omega)
  have hwm := (h1.2.2.2.1 s (by omega)).2.1
  have hpw : pass a (betw a (a (18 + s)) p) (13 + s) ≤ 99 := (w1.2.2.1 s (by omega)).2.1
  simp (disch := omega) only [f_X9_paysOn, ↓reduceIte, Option.bind_some, n3_lit, n3_cl, n3_in, n3_ltT, n3_ltF, n3_leT, n3_leF, n3_eqT, n3_eqF, n3_add, n3_sub, not_true_eq_false, not_false_eq_true, true_or, or_true, false_or, or_false, Nat.zero_add, Nat.add_zero, nn_lt, nn_le, nn_gt, nn_ge, nn_eq, nn_qe, hown, hb, e1]
  generalize hm : fm_sA μ1 233 (upd (μ1.2.1 233) (P + 18 + s) (n3 p)) = m at h2 ⊢
  have f2 : FM P μ m := by rw [← hm]; exact f1.sA (by omega)
  have hwm2 : m.2.1 233 (P + 13 + s) = n3 (pass a (betw a (a (18 + s)) p) (13 + s)) := by rw [← hm, fm_sA_eq rfl, upd_ne (by omega)]; exact hwm
  rw [hwm2]
  have ef := fo_congr (a := st (pass a (betw a (a (18 + s)) p)) (18 + s) p) (b := a) (o := fun i => st (pass a (betw a (a (18 + s)) p)) (18 + s) p (33 + i)) (u := fun i => a (33 + i)) (f := a (18 + s)) (t := p) (a 39) 0 (fun j _ hj => ⟨by rw [st_ne (by omega), pass_n (by omega) (by omega)], by rw [st_ne (by omega), pass_n (by omega) (by omega)], by rw [st_ne (by omega), pass_n (by omega) (by omega)]⟩)
  by_cases c : pass a (betw a (a (18 + s)) p) (13 + s) < 5
  · simp (disch := omega) only [↓reduceIte, Option.bind_some, n3_lit, n3_cl, n3_in, n3_ltT, n3_ltF, n3_leT, n3_leF, n3_eqT, n3_eqF, n3_add, n3_sub, not_true_eq_false, not_false_eq_true, true_or, or_true, false_or, or_false, Nat.zero_add, Nat.add_zero, nn_lt, nn_le, nn_gt, nn_ge, nn_eq, nn_qe]
    unfold hand
    rw [lessO_0 c]
    have h3 := h2.1.2.1
    rw [e39] at h3
    have : g_X9_paysOn F F 68 (n3 P) (n3 p) (n3 (a (18 + s))) (n3 (pass a (betw a (a (18 + s)) p) (13 + s))) (n3 0) (n3 0) m = some (n3 (pass a (betw a (a (18 + s)) p) (13 + s)), m) := by
      match F, hF with
      | F + 1, _ =>
        by_cases c2 : a 39 = 0
        · simp (disch := omega) only [g_X9_paysOn, b_X9_paysOn_68, ↓reduceIte, Option.bind_some, n3_lit, n3_cl, n3_in, n3_ltT, n3_ltF, n3_leT, n3_leF, n3_eqT, n3_eqF, n3_add, n3_sub, not_true_eq_false, not_false_eq_true, true_or, or_true, false_or, or_false, Nat.zero_add, Nat.add_zero, nn_lt, nn_le, nn_gt, nn_ge, nn_eq, nn_qe, h3]
        · simp (disch := omega) only [g_X9_paysOn, b_X9_paysOn_68, ↓reduceIte, Option.bind_some, n3_lit, n3_cl, n3_in, n3_ltT, n3_ltF, n3_leT, n3_leF, n3_eqT, n3_eqF, n3_add, n3_sub, not_true_eq_false, not_false_eq_true, true_or, or_true, false_or, or_false, Nat.zero_add, Nat.add_zero, nn_lt, nn_le, nn_gt, nn_ge, nn_eq, nn_qe, h3]
    rw [this]
    exact ⟨m, rfl, h2, f2⟩
  · simp (disch := omega) only [↓reduceIte, Option.bind_some, n3_lit, n3_cl, n3_in, n3_ltT, n3_ltF, n3_leT, n3_leF, n3_eqT, n3_eqF, n3_add, n3_sub, not_true_eq_false, not_false_eq_true, true_or, or_true, false_or, or_false, Nat.zero_add, Nat.add_zero, nn_lt, nn_le, nn_gt, nn_ge, nn_eq, nn_qe]
    obtain ⟨ν, e, q1, q2⟩ := m_pay_l (F := F) (r := n3 (pass a (betw a (a (18 + s)) p) (13 + s))) w2 hPl (f := a (18 + s)) (t := p) (by omega) (by omega) hpw (by omega) (a 39) 0 F m (by omega) (by omega) h2
    rw [e]
    rw [ef] at q1
    exact ⟨ν, rfl, q1, f2.trans q2⟩
/-- a page copied -/
theorem m_copy_l {Q : Nat} (hP : P ≤ 190) (hQ : Q ≤ 190) (hd : Q + 38 ≤ P ∨ P + 38 ≤ Q) : ∀ (k i m : Nat) (μ : fm_M), i + k = 38 → k < m → ∃ ν, g_X9_copies F m 2 (n3 Q) (n3 P) (n3 i) μ = some ((), ν) ∧ FM P μ ν ∧ (∀ j, j < i → ν.2.1 233 (P + j) = μ.2.1 233 (P + j)) ∧ (∀ j, i ≤ j → j < 38 → ν.2.1 233 (P + j) = μ.2.1 233 (Q + j))
  | 0, i, m + 1, μ, h, _ => by
    simp (disch := omega) only [g_X9_copies, b_X9_copies_2, ↓reduceIte, Option.bind_some, n3_lit, n3_cl, n3_in, n3_ltT, n3_ltF, n3_leT, n3_leF, n3_eqT, n3_eqF, n3_add, n3_sub, not_true_eq_false, not_false_eq_true, true_or, or_true, false_or, or_false, Nat.zero_add, Nat.add_zero, nn_lt, nn_le, nn_gt, nn_ge, nn_eq, nn_qe]
    exact ⟨μ, rfl, FM.refl P μ, fun _ _ => rfl, fun j h1 h2 => by omega⟩
  | k + 1, i, m + 1, μ, h, hm => by
    simp (disch := omega) only [g_X9_copies, b_X9_copies_2, ↓reduceIte, Option.bind_some, n3_lit, n3_cl, n3_in, n3_ltT, n3_ltF, n3_leT, n3_leF, n3_eqT, n3_eqF, n3_add, n3_sub, not_true_eq_false, not_false_eq_true, true_or, or_true, false_or, or_false, Nat.zero_add, Nat.add_zero, nn_lt, nn_le, nn_gt, nn_ge, nn_eq, nn_qe]
    obtain ⟨ν, e, q1, q2, q3⟩ := m_copy_l hP hQ hd k (i + 1) m (fm_sA μ 233 (upd (μ.2.1 233) (P + i) (μ.2.1 233 (Q + i)))) (by omega) (by omega)
    refine ⟨ν, e, ((FM.refl P μ).sA (by omega)).trans q1, fun j hj => ?_, fun j h1 h2 => ?_⟩
    · rw [q2 j (by omega), fm_sA_eq rfl, upd_ne (by omega)]
    · by_cases e2 : j = i
      · rw [q2 j (by omega), fm_sA_eq rfl, upd_eq (by omega), e2]
      · rw [q3 j (by omega) h2, fm_sA_eq rfl, upd_ne (by omega)]
theorem m_copy {Q : Nat} (hP : P ≤ 190) (hQ : Q ≤ 190) (hd : Q + 38 ≤ P ∨ P + 38 ≤ Q) (hF : 38 < F) : ∃ ν, f_X9_copies F (n3 Q) (n3 P) μ = some ((), ν) ∧ (∀ a, AP μ Q a → WF a → AP ν P a) ∧ FM P μ ν := by
  obtain ⟨ν, e, q1, _, q3⟩ := m_copy_l (F := F) hP hQ hd 38 0 F μ (by omega) hF
  refine ⟨ν, e, fun a h wf => ?_, q1⟩
  obtain ⟨⟨h1, h3, hb, ho⟩, ⟨h23, h24, h25, h26, h37⟩, hP, hS, hR, hD⟩ := h; obtain ⟨⟨b38, b23, b39, b24, b25, b25u, b26⟩, wP, wS, wR, wD⟩ := id wf
  have q3 : ∀ j, j < 38 → ν.2.1 233 (P + j) = μ.2.1 233 (Q + j) := fun j hj => q3 j (by omega) hj
  have q4 : ∀ j i, j + i < 38 → ν.2.1 233 (P + j + i) = μ.2.1 233 (Q + j + i) := fun j i hj => by rw [Nat.add_assoc, q3 _ hj, Nat.add_assoc]
  unfold AP
  rw [q1.1, q1.2.2.1 234 (by omega), q1.2.2.1 235 (by omega), q3 23 (by omega), q3 24 (by omega), q3 25 (by omega), q3 26 (by omega), q3 37 (by omega)]
  refine ⟨⟨h1, h3, hb, ho⟩, ⟨h23, h24, h25, h26, h37⟩, fun i hi => ?_, fun i hi => ?_, fun i hi => ?_, fun i hi => ?_⟩
  · rw [q3 i (by omega), q4 4 i (by omega)]; exact hP i hi
  · rw [q4 8 i (by omega), q4 13 i (by omega), q4 18 i (by omega)]; exact hS i hi
  · rw [q4 27 i (by omega)]; exact hR i hi
  · rw [q4 33 i (by omega)]; exact hD i hi
end VS37
