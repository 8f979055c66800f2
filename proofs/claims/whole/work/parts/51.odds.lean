/-! the wind by odds: lasts, mean -/
def OK2L (f g : fm_M → Option (Int64 × fm_M)) (μ : fm_M) : Prop := ∃ v μ1 μ2, f μ = some (v, μ1) ∧ g μ1 = some (v, μ2) ∧ R μ2
theorem OK2L.same {f g : fm_M → Option (Int64 × fm_M)} {μ : fm_M} (h : R μ) {v : Int64} (h1 : f μ = some (v, μ)) (h2 : g μ = some (v, μ)) : OK2L f g μ := ⟨v, μ, μ, h1, h2, h⟩
theorem l_big {n : Nat} (h : n < 9223372036854775808) : (Int64.ofNat n).toInt = n := Int64.toInt_ofNat_of_lt h
theorem l_eq {m n : Nat} (h : m < 9223372036854775808) (h2 : n < 9223372036854775808) : (Int64.ofNat m = Int64.ofNat n) = (m = n) := by
  rw [eq_iff_iff, ← Int64.toInt_inj, l_big h, l_big h2]; omega
theorem l_ne0 {m : Nat} (h : m < 9223372036854775808) (h2 : m ≠ 0) : ¬ Int64.ofNat m = 0 := by
  rw [show (0 : Int64) = Int64.ofNat 0 from rfl, l_eq h (by omega)]; exact h2
theorem cmp_eq {x y : Int64} (h : x = y) : lg_cmp x y = 0 := by
  unfold lg_cmp
  rw [if_neg (by rw [h]; intro c; have := Int64.lt_iff_toInt_lt.mp c; omega), if_pos h]
theorem cmp_ne {x y : Int64} (h : ¬ x = y) : ¬ lg_cmp x y = 0 := by
  unfold lg_cmp
  by_cases c : x > y
  · rw [if_pos c]; decide
  · rw [if_neg c, if_neg h]; decide
theorem l_rem {m d : Nat} (hm : m < 9223372036854775808) (hd : d < 9223372036854775808) : Int64.ofNat m - Int64.ofNat m / Int64.ofNat d * Int64.ofNat d = Int64.ofNat (m % d) := by
  rw [← Int64.ofNat_div hm hd, ← Int64.ofNat_mul, ← Int64.ofNat_sub _ _ (Nat.div_mul_le_self m d)]
  congr 1
  have := Nat.div_add_mod m d
  rw [Nat.mul_comm] at this
  omega
theorem half_mod {a b : Nat} (h : a % b ≠ 0) (hb : 0 < b) : 2 * (b % (a % b)) < b := by
  have h1 := Nat.mod_lt a hb
  have h2 := Nat.mod_lt b (Nat.pos_of_ne_zero h)
  have h3 : b % (a % b) ≤ b - a % b := by
    rw [Nat.mod_eq_sub_mod (by omega)]
    exact Nat.mod_le _ _
  omega
section VS51
variable {F : Nat} {μ ν : fm_M} {a : Nat → Nat} {w : Nat}
theorem c_gcd : ∀ (k x y i m : Nat), y < 2 ^ k → x < 4611686018427387904 → y < 4611686018427387904 → i + 2 * k < 200 → 2 * k < m → g_X8_commonDivisor F m 9 (Int64.ofNat x) (Int64.ofNat y) (n3 i) μ = some (Int64.ofNat (Nat.gcd x y), μ)
  | 0, x, y, i, m + 1, hy, hx, hy2, hi, hm => by
    obtain rfl : y = 0 := by omega
    rw [g_X8_commonDivisor, if_pos rfl, b_X8_commonDivisor_9, if_neg (by rw [n3_lit, n3_le (by omega) (by omega)]; omega), if_pos (cmp_eq rfl), Nat.gcd_zero_right]
  | k + 1, x, y, i, m + 1, hy, hx, hy2, hi, hm => by
    by_cases c : y = 0
    · subst c
      rw [g_X8_commonDivisor, if_pos rfl, b_X8_commonDivisor_9, if_neg (by rw [n3_lit, n3_le (by omega) (by omega)]; omega), if_pos (cmp_eq rfl), Nat.gcd_zero_right]
    · have s1 : g_X8_commonDivisor F (m + 1) 9 (Int64.ofNat x) (Int64.ofNat y) (n3 i) μ = g_X8_commonDivisor F m 9 (Int64.ofNat y) (Int64.ofNat (x % y)) (n3 (i + 1)) μ := by
        rw [g_X8_commonDivisor, if_pos rfl, b_X8_commonDivisor_9, if_neg (by rw [n3_lit, n3_le (by omega) (by omega)]; omega), if_neg (cmp_ne (by rw [l_eq (by omega) (by omega)]; exact c)), if_pos (l_ne0 (by omega) c), l_rem (by omega) (by omega), n3_one, n3_add]
      have e1 : Nat.gcd x y = Nat.gcd y (x % y) := by rw [Nat.gcd_comm x y, Nat.gcd_rec y x, Nat.gcd_comm]
      have l1 := Nat.mod_lt x (Nat.pos_of_ne_zero c)
      obtain ⟨m, rfl⟩ : ∃ q, m = q + 1 := ⟨m - 1, by omega⟩
      by_cases c2 : x % y = 0
      · rw [s1, e1, c2, g_X8_commonDivisor, if_pos rfl, b_X8_commonDivisor_9, if_neg (by rw [n3_lit, n3_le (by omega) (by omega)]; omega), if_pos (cmp_eq rfl), Nat.gcd_zero_right]
      · have s2 : g_X8_commonDivisor F (m + 1) 9 (Int64.ofNat y) (Int64.ofNat (x % y)) (n3 (i + 1)) μ = g_X8_commonDivisor F m 9 (Int64.ofNat (x % y)) (Int64.ofNat (y % (x % y))) (n3 (i + 1 + 1)) μ := by
          rw [g_X8_commonDivisor, if_pos rfl, b_X8_commonDivisor_9, if_neg (by rw [n3_lit, n3_le (by omega) (by omega)]; omega), if_neg (cmp_ne (by rw [l_eq (by omega) (by omega)]; exact c2)), if_pos (l_ne0 (by omega) c2), l_rem (by omega) (by omega), n3_one, n3_add]
        have hh := half_mod c2 (Nat.pos_of_ne_zero c)
        have e2 : Nat.gcd y (x % y) = Nat.gcd (x % y) (y % (x % y)) := by rw [Nat.gcd_comm y, Nat.gcd_rec (x % y) y, Nat.gcd_comm]
        rw [s1, s2, e1, e2]
        exact c_gcd k (x % y) (y % (x % y)) (i + 1 + 1) m (by rw [Nat.pow_succ] at hy; omega) (by omega) (by omega) (by omega) (by omega)
theorem m_gcd {u d : Int64} {j : Int32} : ∀ (k x y m : Nat), y < 2 ^ k → x < 4611686018427387904 → y < 4611686018427387904 → 0 < Nat.gcd x y → 2 * k < m → g_X9_lowest F m 6 u d j (Int64.ofNat x) (Int64.ofNat y) μ = some (if j = 0 then u / Int64.ofNat (Nat.gcd x y) else d / Int64.ofNat (Nat.gcd x y), μ)
  | 0, x, y, m + 1, hy, hx, hy2, hg, hm => by
    obtain rfl : y = 0 := by omega
    rw [Nat.gcd_zero_right] at hg ⊢
    rw [g_X9_lowest, if_pos rfl, b_X9_lowest_6, if_pos (cmp_eq rfl)]
    by_cases c : j = 0
    · rw [if_neg (fun n => n c), if_pos (l_ne0 (by omega) (by omega)), if_pos c]
    · rw [if_pos c, if_pos (l_ne0 (by omega) (by omega)), if_neg c]
  | k + 1, x, y, m + 1, hy, hx, hy2, hg, hm => by
    have stop : ∀ x m, x < 4611686018427387904 → 0 < x → g_X9_lowest F (m + 1) 6 u d j (Int64.ofNat x) (Int64.ofNat 0) μ = some (if j = 0 then u / Int64.ofNat x else d / Int64.ofNat x, μ) := by
      intro x m hx h0
      rw [g_X9_lowest, if_pos rfl, b_X9_lowest_6, if_pos (cmp_eq rfl)]
      by_cases c : j = 0
      · rw [if_neg (fun n => n c), if_pos (l_ne0 (by omega) (by omega)), if_pos c]
      · rw [if_pos c, if_pos (l_ne0 (by omega) (by omega)), if_neg c]
    by_cases c : y = 0
    · subst c
      rw [Nat.gcd_zero_right] at hg ⊢
      exact stop x m hx hg
    · have s1 : g_X9_lowest F (m + 1) 6 u d j (Int64.ofNat x) (Int64.ofNat y) μ = g_X9_lowest F m 6 u d j (Int64.ofNat y) (Int64.ofNat (x % y)) μ := by
        rw [g_X9_lowest, if_pos rfl, b_X9_lowest_6, if_neg (cmp_ne (by rw [l_eq (by omega) (by omega)]; exact c)), if_pos (l_ne0 (by omega) c), l_rem (by omega) (by omega)]
      have e1 : Nat.gcd x y = Nat.gcd y (x % y) := by rw [Nat.gcd_comm x y, Nat.gcd_rec y x, Nat.gcd_comm]
      have l1 := Nat.mod_lt x (Nat.pos_of_ne_zero c)
      obtain ⟨m, rfl⟩ : ∃ q, m = q + 1 := ⟨m - 1, by omega⟩
      by_cases c2 : x % y = 0
      · rw [s1, e1, c2, Nat.gcd_zero_right]
        exact stop y m (by omega) (by omega)
      · have s2 : g_X9_lowest F (m + 1) 6 u d j (Int64.ofNat y) (Int64.ofNat (x % y)) μ = g_X9_lowest F m 6 u d j (Int64.ofNat (x % y)) (Int64.ofNat (y % (x % y))) μ := by
          rw [g_X9_lowest, if_pos rfl, b_X9_lowest_6, if_neg (cmp_ne (by rw [l_eq (by omega) (by omega)]; exact c2)), if_pos (l_ne0 (by omega) c2), l_rem (by omega) (by omega)]
        have hh := half_mod c2 (Nat.pos_of_ne_zero c)
        have e2 : Nat.gcd y (x % y) = Nat.gcd (x % y) (y % (x % y)) := by rw [Nat.gcd_comm y, Nat.gcd_rec (x % y) y, Nat.gcd_comm]
        rw [e1, e2] at hg
        rw [s1, s2, e1, e2]
        exact m_gcd k (x % y) (y % (x % y)) m (by rw [Nat.pow_succ] at hy; omega) (by omega) (by omega) hg (by omega)
/-- a fraction in lowest terms -/
def frP (W n : Nat) (j : Int32) : Int64 := if j = 0 then Int64.ofNat W / Int64.ofNat (Nat.gcd W (10 ^ n)) else Int64.ofNat (10 ^ n) / Int64.ofNat (Nat.gcd W (10 ^ n))
theorem p10_n {n : Nat} (hn : n < 7) : ab_p10.getD n 0 = Int64.ofNat (10 ^ n) := by
  rcases (show n = 0 ∨ n = 1 ∨ n = 2 ∨ n = 3 ∨ n = 4 ∨ n = 5 ∨ n = 6 by omega) with rfl | rfl | rfl | rfl | rfl | rfl | rfl <;> rfl
theorem p10_le {n : Nat} (hn : n < 7) : 0 < 10 ^ n ∧ 10 ^ n ≤ 1000000 := by
  rcases (show n = 0 ∨ n = 1 ∨ n = 2 ∨ n = 3 ∨ n = 4 ∨ n = 5 ∨ n = 6 by omega) with rfl | rfl | rfl | rfl | rfl | rfl | rfl <;> decide
theorem c_frac {W n : Nat} (hW : W < 1073741824) (hn : n < 7) (hF : 100 < F) (j : Int32) : f_X8_fractionPart F (Int64.ofNat W) (n3 n) j μ = some (frP W n j, μ) := by
  have p := p10_le hn
  have g0 : 0 < Nat.gcd W (10 ^ n) := Nat.gcd_pos_of_pos_right _ p.1
  have g1 : Nat.gcd W (10 ^ n) ≤ 10 ^ n := Nat.gcd_le_right _ p.1
  have q := c_gcd (F := F) (μ := μ) 30 (10 ^ n) W 0 F (by show W < 1073741824; exact hW) (by omega) (by omega) (by omega) (by omega)
  rw [Nat.gcd_comm] at q
  have q2 : f_X8_commonDivisor F (Int64.ofNat W) (Int64.ofNat (10 ^ n)) μ = some (Int64.ofNat (Nat.gcd W (10 ^ n)), μ) := q
  have q3 : f_J9_max_f86c9 F (Int64.ofNat 1) (Int64.ofNat (Nat.gcd W (10 ^ n))) μ = some (Int64.ofNat (Nat.gcd W (10 ^ n)), μ) := by
    unfold f_J9_max_f86c9
    by_cases c : Nat.gcd W (10 ^ n) = 1
    · rw [c, if_neg]
      rw [cmp_eq rfl]; decide
    · rw [if_pos]
      rw [lt_cmp, l_big (by omega), l_big (by omega)]; omega
  unfold f_X8_fractionPart frP
  rw [if_pos (n3_in (by omega) hn), n3_cl (by omega), p10_n hn, q2, Option.bind_some]
  dsimp only
  rw [q3, Option.bind_some]
  dsimp only
  by_cases c : j = 0
  · rw [if_neg (fun n => n c), if_pos (l_ne0 (by omega) (by omega)), if_pos c]
  · rw [if_pos c, if_pos (l_ne0 (by omega) (by omega)), if_neg c]
theorem m_frac {W n : Nat} (hW : W < 1073741824) (hn : n < 7) (hF : 100 < F) (j : Int32) : f_X9_lowest F (Int64.ofNat W) (Int64.ofNat (10 ^ n)) j μ = some (frP W n j, μ) := by
  have p := p10_le hn
  have g0 : 0 < Nat.gcd W (10 ^ n) := Nat.gcd_pos_of_pos_right _ p.1
  exact m_gcd 30 W (10 ^ n) F (by show 10 ^ n < 1073741824; omega) (by omega) (by omega) g0 (by omega)
/-- the weights -/
def wt (fin : Nat → Nat) (r w : Nat) : Nat → Nat → Nat
  | 0, v => fin v
  | n + 1, v => (10 - w) * wt fin r w n (cool v r) + w * wt fin r w n (cool (cool v r) r)
def finJ (j v : Nat) : Nat := if j = 0 then (if v < 5 then 0 else 1) else v
theorem wt_le {fin : Nat → Nat} {r w : Nat} (hw : w ≤ 10) (hf : ∀ v, v < 100 → fin v ≤ 99) : ∀ n v, v < 100 → wt fin r w n v ≤ 99 * 10 ^ n
  | 0, v, hv => by
    have := hf v hv
    rw [wt]; omega
  | n + 1, v, hv => by
    have l1 := cool_le v r
    have l2 := cool_le (cool v r) r
    have i1 := wt_le (r := r) hw hf n (cool v r) (by omega)
    have i2 := wt_le (r := r) hw hf n (cool (cool v r) r) (by omega)
    have j1 := Nat.mul_le_mul_left (10 - w) i1
    have j2 := Nat.mul_le_mul_left w i2
    have j3 : (10 - w) * (99 * 10 ^ n) + w * (99 * 10 ^ n) = 10 * (99 * 10 ^ n) := by rw [← Nat.add_mul, Nat.sub_add_cancel hw]
    rw [wt, Nat.pow_succ]
    omega
theorem finJ_le (j : Nat) : ∀ v, v < 100 → finJ j v ≤ 99 := by
  intro v hv
  unfold finJ
  split
  · split <;> omega
  · omega
theorem c_wtW {r w : Nat} (hr : r < 9) (hw : w ≤ 10) : ∀ (n e v : Nat), n < e → n < 1000 → v < 100 → f_X8_weightOfWarm F e (n3 v) (n3 r) (n3 w) (n3 n) μ = some (Int64.ofNat (wt (finJ 0) r w n v), μ)
  | 0, e + 1, v, _, _, hv => by
    rw [f_X8_weightOfWarm, f0_X8_weightOfWarm, if_neg (show ¬ (0 : Int32) < n3 0 by decide), wt, finJ, if_pos rfl]
    by_cases c : v < 5
    · rw [c_warmF c, Option.bind_some, if_pos c]
      exact if_pos rfl
    · rw [c_warmT (by omega) (by omega), Option.bind_some, if_neg c]
      exact if_neg (show ¬ n3 1 = 0 by decide)
  | n + 1, e + 1, v, h1, h2, hv => by
    have l1 := cool_le v r
    have l2 := cool_le (cool v r) r
    have i1 := c_wtW hr hw n e (cool v r) (by omega) (by omega) (by omega)
    have i2 := c_wtW hr hw n e (cool (cool v r) r) (by omega) (by omega) (by omega)
    rw [f_X8_weightOfWarm, wt, Int64.ofNat_add, Int64.ofNat_mul, Int64.ofNat_mul]
    simp (disch := omega) only [f0_X8_weightOfWarm, ↓reduceIte, Option.bind_some, n3_lit, n3_cl, n3_in, n3_ltT, n3_ltF, n3_leT, n3_leF, n3_eqT, n3_eqF, n3_add, n3_sub, not_true_eq_false, not_false_eq_true, true_or, or_true, false_or, or_false, Nat.zero_add, Nat.add_zero, nn_lt, nn_le, nn_gt, nn_ge, nn_eq, nn_qe, c_cooled, Nat.add_sub_cancel, i1, i2, n3_64]
theorem c_wtM {r w : Nat} (hr : r < 9) (hw : w ≤ 10) : ∀ (n e v : Nat), n < e → n < 1000 → v < 100 → f_X8_weightOfWarmth F e (n3 v) (n3 r) (n3 w) (n3 n) μ = some (Int64.ofNat (wt (finJ 1) r w n v), μ)
  | 0, e + 1, v, _, _, hv => by
    rw [f_X8_weightOfWarmth, f0_X8_weightOfWarmth, if_neg (show ¬ (0 : Int32) < n3 0 by decide), wt, finJ, if_neg (by decide), n3_64 (by omega)]
  | n + 1, e + 1, v, h1, h2, hv => by
    have l1 := cool_le v r
    have l2 := cool_le (cool v r) r
    have i1 := c_wtM hr hw n e (cool v r) (by omega) (by omega) (by omega)
    have i2 := c_wtM hr hw n e (cool (cool v r) r) (by omega) (by omega) (by omega)
    rw [f_X8_weightOfWarmth, wt, Int64.ofNat_add, Int64.ofNat_mul, Int64.ofNat_mul]
    simp (disch := omega) only [f0_X8_weightOfWarmth, ↓reduceIte, Option.bind_some, n3_lit, n3_cl, n3_in, n3_ltT, n3_ltF, n3_leT, n3_leF, n3_eqT, n3_eqF, n3_add, n3_sub, not_true_eq_false, not_false_eq_true, true_or, or_true, false_or, or_false, Nat.zero_add, Nat.add_zero, nn_lt, nn_le, nn_gt, nn_ge, nn_eq, nn_qe, c_cooled, Nat.add_sub_cancel, i1, i2, n3_64]
/-- one row of winds -/
def inn (fin : Nat → Nat) (r w : Nat) : Nat → Nat → Nat → Nat → Nat
  | 0, _, v, g => g * fin v
  | k + 1, s, v, g => if s % 2 = 1 then inn fin r w k (s / 2) (cool (cool v r) r) (g * w) else inn fin r w k (s / 2) (cool v r) (g * (10 - w))
def sm (f : Nat → Nat) : Nat → Nat
  | 0 => 0
  | n + 1 => sm f n + f n
theorem sm_two (f : Nat → Nat) : ∀ n, sm f (2 * n) = sm (fun i => f (2 * i)) n + sm (fun i => f (2 * i + 1)) n
  | 0 => rfl
  | n + 1 => by
    rw [show 2 * (n + 1) = 2 * n + 1 + 1 by omega, sm, sm, sm_two f n, sm, sm]
    omega
theorem sm_congr {f g : Nat → Nat} (h : ∀ i, f i = g i) (n : Nat) : sm f n = sm g n := by rw [funext h]
theorem sm_inn (fin : Nat → Nat) (r w : Nat) : ∀ (n v g : Nat), sm (fun s => inn fin r w n s v g) (2 ^ n) = g * wt fin r w n v
  | 0, v, g => by
    show sm _ 1 = _
    rw [sm, sm, inn, wt, Nat.zero_add]
  | n + 1, v, g => by
    rw [Nat.pow_succ, Nat.mul_comm, sm_two]
    rw [sm_congr (g := fun s => inn fin r w n s (cool v r) (g * (10 - w))) (fun i => by rw [inn, if_neg (by omega), show 2 * i / 2 = i by omega]), sm_congr (f := fun i => inn fin r w (n + 1) (2 * i + 1) v g) (g := fun s => inn fin r w n s (cool (cool v r) r) (g * w)) (fun i => by rw [inn, if_pos (by omega), show (2 * i + 1) / 2 = i by omega]), sm_inn fin r w n, sm_inn fin r w n, wt, Nat.mul_add, Nat.mul_assoc, Nat.mul_assoc]
theorem v_bit : ((List.range 64).all fun s => (List.range 6).all fun t => decide (((n3 s >>> (n3 t &&& 31)) &&& 1) = n3 (s / 2 ^ t % 2))) = true := by decide +kernel
theorem v_bit' {s t : Nat} (h : s < 64) (h2 : t < 6) : ((n3 s >>> (n3 t &&& 31)) &&& 1) = n3 (s / 2 ^ t % 2) :=
  of_decide_eq_true (List.all_eq_true.mp (List.all_eq_true.mp v_bit s (List.mem_range.mpr h)) t (List.mem_range.mpr h2))
theorem m_windy {v r : Nat} (hv : v < 100) (hr : r < 9) : f_X9_windy F (n3 v) (n3 r) μ = some (n3 (cool (cool v r) r), μ) := by
  have l1 := cool_le v r
  unfold f_X9_windy
  rw [m_cooled hv hr, Option.bind_some]
  dsimp only
  rw [m_cooled (by omega) hr, Option.bind_some]
theorem m_inn {r w n s x j : Nat} {z : Int32} {up dn : Int64} (hr : r < 9) (hw : w ≤ 10) (hs : s < 64) (hn : n ≤ 6) (hj : j ≤ 1) : ∀ (k t m v g : Nat), t + k = n → v < 100 → g_X9_byWind F (m + k + 1) 76 (n3 x) (n3 n) (n3 j) z (n3 r) (n3 w) up dn (n3 s) (n3 v) (Int64.ofNat g) (n3 t) μ = g_X9_byWind F m 51 (n3 x) (n3 n) (n3 j) z (n3 r) (n3 w) (up + Int64.ofNat (inn (finJ j) r w k (s / 2 ^ t) v g)) dn (n3 (s + 1)) 0 0 0 μ
  | 0, t, m, v, g, ht, hv => by
    obtain rfl : t = n := by omega
    rw [g_X9_byWind, if_neg (by decide), if_neg (by decide), if_pos rfl, b_X9_byWind_76, if_pos (by rw [n3_le (by omega) (by omega)]; omega), Nat.add_zero, inn, finJ, n3_one, n3_add, Int64.ofNat_mul]
    rcases (show j = 0 ∨ j = 1 by omega) with rfl | rfl
    · rw [if_pos (show n3 0 = 0 by decide), if_pos rfl]
      by_cases c : v < 5
      · rw [if_pos (show n3 v < 5 by rw [n3_lit, n3_lt (by omega) (by omega)]; exact c), if_pos c]
        rfl
      · rw [if_neg (show ¬ n3 v < 5 by rw [n3_lit, n3_lt (by omega) (by omega)]; exact c), if_neg c]
        rfl
    · rw [if_neg (show ¬ n3 1 = 0 by decide), if_neg (by decide), n3_64 (by omega)]
  | k + 1, t, m, v, g, ht, hv => by
    have l1 := cool_le v r
    have l2 := cool_le (cool v r) r
    have i1 := m_inn (x := x) (z := z) (up := up) (dn := dn) hr hw hs hn hj k (t + 1) m
    rw [show s / 2 ^ (t + 1) = s / 2 ^ t / 2 by rw [Nat.pow_succ, Nat.div_div_eq_div_mul]] at i1
    rw [← Nat.add_assoc m k 1, g_X9_byWind, if_neg (by decide), if_neg (by decide), if_pos rfl, b_X9_byWind_76, if_neg (by rw [n3_le (by omega) (by omega)]; omega), v_bit' hs (by omega), inn]
    by_cases c : s / 2 ^ t % 2 = 1
    · rw [if_neg (show ¬ ¬ n3 (s / 2 ^ t % 2) = 1 by rw [c]; exact fun n => n rfl), if_pos c, m_windy hv hr, Option.bind_some]
      dsimp only
      rw [n3_64 (by omega), ← Int64.ofNat_mul, n3_one, n3_add]
      exact i1 _ _ (by omega) (by omega)
    · rw [if_pos (show ¬ n3 (s / 2 ^ t % 2) = 1 by rw [n3_one, n3_eq (by omega) (by omega)]; exact c), if_neg c, m_cooled hv hr, Option.bind_some]
      dsimp only
      rw [n3_k10, n3_sub (by omega), n3_64 (by omega), ← Int64.ofNat_mul, n3_one, n3_add]
      exact i1 _ _ (by omega) (by omega)
theorem v_two : ((List.range 7).all fun n => decide ((1 <<< (n3 n &&& 31) : Int32) = n3 (2 ^ n))) = true := by decide +kernel
theorem v_two' {n : Nat} (h : n < 7) : (1 <<< (n3 n &&& 31) : Int32) = n3 (2 ^ n) := of_decide_eq_true (List.all_eq_true.mp v_two n (List.mem_range.mpr h))
theorem m_out (hp : AP μ 0 a) (wf : WF a) {r w n x j : Nat} {z : Int32} {dn : Int64} (hx : x < a 23) (hr : r < 9) (hw : w ≤ 10) (hn : n ≤ 6) (h2 : 2 ^ n ≤ 64) (hj : j ≤ 1) : ∀ (K s m : Nat), s + K = 2 ^ n → g_X9_byWind F (m + 1 + K * (n + 2)) 51 (n3 x) (n3 n) (n3 j) z (n3 r) (n3 w) (Int64.ofNat (sm (fun s => inn (finJ j) r w n s (a (13 + x)) 1) s)) dn (n3 s) 0 0 0 μ = f_X9_lowest F (Int64.ofNat (sm (fun s => inn (finJ j) r w n s (a (13 + x)) 1) (2 ^ n))) dn z μ
  | 0, s, m, hs => by
    obtain rfl : s = 2 ^ n := by omega
    rw [Nat.zero_mul, Nat.add_zero, g_X9_byWind, if_neg (by decide), if_pos rfl, b_X9_byWind_51, v_two' (by omega), if_pos (by rw [n3_le (by omega) (by omega)]; omega)]
    generalize f_X9_lowest F _ _ _ _ = o
    cases o <;> rfl
  | K + 1, s, m, hs => by
    have wS := wf.2.2.1 x hx
    have b := wf.1
    have e := (hp.z.2.2.2.1 x hx).2.1
    have i1 := m_out hp wf (z := z) (dn := dn) hx hr hw hn h2 hj K (s + 1) m (by omega)
    have q := m_inn (F := F) (μ := μ) (x := x) (z := z) (dn := dn) (up := Int64.ofNat (sm (fun s => inn (finJ j) r w n s (a (13 + x)) 1) s)) hr hw (s := s) (by omega) hn hj n 0 (m + 1 + K * (n + 2)) (a (13 + x)) 1 (by omega) (by omega)
    rw [Nat.pow_zero, Nat.div_one, ← Int64.ofNat_add] at q
    rw [← i1, sm, ← q, show m + 1 + (K + 1) * (n + 2) = m + 1 + K * (n + 2) + n + 1 + 1 by rw [Nat.add_mul]; omega, g_X9_byWind, if_neg (by decide), if_pos rfl, b_X9_byWind_51, v_two' (by omega), if_neg (by rw [n3_le (by omega) (by omega)]; omega), n3_k13, n3_add, if_pos (n3_in (by omega) (by omega)), n3_cl (by omega), e]
    rfl
theorem m_down {r w n x j : Nat} {z : Int32} {up : Int64} (hn : n ≤ 6) : ∀ (k t m : Nat), t + k = n → g_X9_byWind F (m + k + 1) 28 (n3 x) (n3 n) (n3 j) z (n3 r) (n3 w) up (Int64.ofNat (10 ^ t)) (n3 t) 0 0 0 μ = g_X9_byWind F m 51 (n3 x) (n3 n) (n3 j) z (n3 r) (n3 w) up (Int64.ofNat (10 ^ n)) 0 0 0 0 μ
  | 0, t, m, ht => by
    obtain rfl : t = n := by omega
    rw [g_X9_byWind, if_pos rfl, b_X9_byWind_28, if_pos (by rw [n3_le (by omega) (by omega)]; omega)]
  | k + 1, t, m, ht => by
    have i1 := m_down (r := r) (w := w) (x := x) (j := j) (z := z) (up := up) hn k (t + 1) m (by omega)
    rw [← i1, ← Nat.add_assoc m k 1, g_X9_byWind, if_pos rfl, b_X9_byWind_28, if_neg (by rw [n3_le (by omega) (by omega)]; omega), ← Int64.ofNat_mul, n3_one, n3_add, Nat.pow_succ]
theorem m_byWind (hp : AP μ 0 a) (wf : WF a) {n x j : Nat} {z : Int32} (hx : x < a 23) (hn : n ≤ 6) (hj : j ≤ 1) (hF : 1000 < F) : f_X9_byWind F (n3 x) (n3 n) (n3 j) z μ = some (frP (wt (finJ j) (rate a x) (a 26) n (a (13 + x))) n z, μ) := by
  have b := wf.1
  have kr := m_rateOn (F := F) hp wf (by omega) hx
  have k26 := hp.z.2.1.2.2.2.1
  have r8 := rate_le a x
  have wS := wf.2.2.1 x hx
  have p2 : 2 ^ n ≤ 64 := by
    rcases (show n = 0 ∨ n = 1 ∨ n = 2 ∨ n = 3 ∨ n = 4 ∨ n = 5 ∨ n = 6 by omega) with rfl | rfl | rfl | rfl | rfl | rfl | rfl <;> decide
  have hmul : 2 ^ n * (n + 2) ≤ 64 * 8 := Nat.mul_le_mul p2 (by omega)
  obtain ⟨m, hm⟩ : ∃ m, F = m + 1 + 2 ^ n * (n + 2) + n + 1 := ⟨F - (1 + 2 ^ n * (n + 2) + n + 1), by omega⟩
  have d1 := m_down (F := F) (μ := μ) (r := rate a x) (w := a 26) (x := x) (j := j) (z := z) (up := Int64.ofNat 0) hn n 0 (m + 1 + 2 ^ n * (n + 2)) (by omega)
  have o1 := m_out (F := F) hp wf (r := rate a x) (w := a 26) (j := j) (z := z) (dn := Int64.ofNat (10 ^ n)) hx (by omega) (by omega) hn p2 hj (2 ^ n) 0 m (by omega)
  rw [sm_inn, Nat.one_mul] at o1
  have hW := wt_le (r := rate a x) (w := a 26) (by omega) (finJ_le j) n (a (13 + x)) (by omega)
  have p10 := p10_le (n := n) (by omega)
  have fr := m_frac (F := F) (μ := μ) (W := wt (finJ j) (rate a x) (a 26) n (a (13 + x))) (n := n) (by omega) (by omega) (by omega) z
  have kr' : f_X9_rateOn F 0 (n3 x) μ = some (n3 (rate a x), μ) := kr
  unfold f_X9_byWind
  rw [kr', Option.bind_some, if_pos (by decide)]
  dsimp only
  rw [show (26 : Int32).toNatClampNeg = 26 from rfl, k26, n3_k2, n3_sc]
  rw [← hm] at d1
  exact d1.trans (o1.trans fr)
theorem ok_lasts (h : R μ) (hF : 1000 < F) (x y z : Int32) : OK2L (f_X8_lasts F x y z) (f_X9_lasts F x y z) μ := by
  obtain ⟨a, wf, bm, hw, hp⟩ := h.1
  have b := wf.1
  rcases n3_cases x (a 23) (by omega) with ⟨s, hs, rfl⟩ | hx
  · have hd := c_stoneT (F := F) hw wf hs
    have kd := m_stoneT (F := F) hp wf hs
    rcases n3_cases y 7 (by decide) with ⟨n, hn, rfl⟩ | hy
    · rcases n3_cases z 2 (by decide) with ⟨j, hj, rfl⟩ | hz
      · have kb : f_X9_byWind F (n3 s) (n3 n) (n3 0) (n3 j) μ = _ := m_byWind (F := F) hp wf (n := n) (x := s) (j := 0) (z := n3 j) hs (by omega) (by omega) hF
        have hr := c_rateOf (F := F) hw wf hs
        have r8 := rate_le a s
        have wS := wf.2.2.1 s hs
        have e := hw.z.2.2.1 s hs
        have h9 := hw.z.1.2.2.2.2.1
        have cw := c_wtW (F := F) (μ := μ) (r := rate a s) (w := a 26) (by omega) (by omega) n 8 (a (13 + s)) (by omega) (by omega) (by omega)
        have hW := wt_le (r := rate a s) (w := a 26) (by omega) (finJ_le 0) n (a (13 + s)) (by omega)
        have p10 := p10_le (n := n) (by omega)
        have fr := c_frac (F := F) (μ := μ) (W := wt (finJ 0) (rate a s) (a 26) n (a (13 + s))) (n := n) (by omega) (by omega) (by omega) (n3 j)
        refine OK2L.same h (v := frP (wt (finJ 0) (rate a s) (a 26) n (a (13 + s))) n (n3 j)) ?_ ?_
        · simp (disch := omega) only [f_X8_lasts, ↓reduceIte, Option.bind_some, n3_lit, n3_cl, n3_in, n3_ltT, n3_ltF, n3_leT, n3_leF, n3_eqT, n3_eqF, n3_add, n3_sub, not_true_eq_false, not_false_eq_true, true_or, or_true, false_or, or_false, Nat.zero_add, Nat.add_zero, nn_lt, nn_le, nn_gt, nn_ge, nn_eq, nn_qe, hd, c_isInT, hr, e.2.1, h9, cw, fr]
        · simp (disch := omega) only [f_X9_lasts, ↓reduceIte, Option.bind_some, n3_lit, n3_cl, n3_in, n3_ltT, n3_ltF, n3_leT, n3_leF, n3_eqT, n3_eqF, n3_add, n3_sub, not_true_eq_false, not_false_eq_true, true_or, or_true, false_or, or_false, Nat.zero_add, Nat.add_zero, nn_lt, nn_le, nn_gt, nn_ge, nn_eq, nn_qe, kd, m_inT, kb]
      · refine OK2L.same h (v := Int64.ofNat 18446744073709551615) ?_ ?_
        · simp (disch := omega) only [f_X8_lasts, ↓reduceIte, Option.bind_some, n3_lit, n3_cl, n3_in, n3_ltT, n3_ltF, n3_leT, n3_leF, n3_eqT, n3_eqF, n3_add, n3_sub, not_true_eq_false, not_false_eq_true, true_or, or_true, false_or, or_false, Nat.zero_add, Nat.add_zero, nn_lt, nn_le, nn_gt, nn_ge, nn_eq, nn_qe, hd, c_isInT, c_isInN hz]
        · simp (disch := omega) only [f_X9_lasts, ↓reduceIte, Option.bind_some, n3_lit, n3_cl, n3_in, n3_ltT, n3_ltF, n3_leT, n3_leF, n3_eqT, n3_eqF, n3_add, n3_sub, not_true_eq_false, not_false_eq_true, true_or, or_true, false_or, or_false, Nat.zero_add, Nat.add_zero, nn_lt, nn_le, nn_gt, nn_ge, nn_eq, nn_qe, kd, m_inT, m_inO hz]
    · refine OK2L.same h (v := Int64.ofNat 18446744073709551615) ?_ ?_
      · simp (disch := omega) only [f_X8_lasts, ↓reduceIte, Option.bind_some, n3_lit, n3_cl, n3_in, n3_ltT, n3_ltF, n3_leT, n3_leF, n3_eqT, n3_eqF, n3_add, n3_sub, not_true_eq_false, not_false_eq_true, true_or, or_true, false_or, or_false, Nat.zero_add, Nat.add_zero, nn_lt, nn_le, nn_gt, nn_ge, nn_eq, nn_qe, hd, c_isInN hy]
      · simp (disch := omega) only [f_X9_lasts, ↓reduceIte, Option.bind_some, n3_lit, n3_cl, n3_in, n3_ltT, n3_ltF, n3_leT, n3_leF, n3_eqT, n3_eqF, n3_add, n3_sub, not_true_eq_false, not_false_eq_true, true_or, or_true, false_or, or_false, Nat.zero_add, Nat.add_zero, nn_lt, nn_le, nn_gt, nn_ge, nn_eq, nn_qe, kd, m_inO hy]
  · refine OK2L.same h (v := Int64.ofNat 18446744073709551615) ?_ ?_
    · simp (disch := omega) only [f_X8_lasts, ↓reduceIte, Option.bind_some, n3_lit, n3_cl, n3_in, n3_ltT, n3_ltF, n3_leT, n3_leF, n3_eqT, n3_eqF, n3_add, n3_sub, not_true_eq_false, not_false_eq_true, true_or, or_true, false_or, or_false, Nat.zero_add, Nat.add_zero, nn_lt, nn_le, nn_gt, nn_ge, nn_eq, nn_qe, c_stoneF hw hx]
    · simp (disch := omega) only [f_X9_lasts, ↓reduceIte, Option.bind_some, n3_lit, n3_cl, n3_in, n3_ltT, n3_ltF, n3_leT, n3_leF, n3_eqT, n3_eqF, n3_add, n3_sub, not_true_eq_false, not_false_eq_true, true_or, or_true, false_or, or_false, Nat.zero_add, Nat.add_zero, nn_lt, nn_le, nn_gt, nn_ge, nn_eq, nn_qe, m_stoneF hp wf hx]
theorem ok_mean (h : R μ) (hF : 1000 < F) (x y z : Int32) : OK2L (f_X8_mean F x y z) (f_X9_mean F x y z) μ := by
  obtain ⟨a, wf, bm, hw, hp⟩ := h.1
  have b := wf.1
  rcases n3_cases x (a 23) (by omega) with ⟨s, hs, rfl⟩ | hx
  · have hd := c_stoneT (F := F) hw wf hs
    have kd := m_stoneT (F := F) hp wf hs
    rcases n3_cases y 7 (by decide) with ⟨n, hn, rfl⟩ | hy
    · rcases n3_cases z 2 (by decide) with ⟨j, hj, rfl⟩ | hz
      · have kb : f_X9_byWind F (n3 s) (n3 n) (n3 1) (n3 j) μ = _ := m_byWind (F := F) hp wf (n := n) (x := s) (j := 1) (z := n3 j) hs (by omega) (by omega) hF
        have hr := c_rateOf (F := F) hw wf hs
        have r8 := rate_le a s
        have wS := wf.2.2.1 s hs
        have e := hw.z.2.2.1 s hs
        have h9 := hw.z.1.2.2.2.2.1
        have cw := c_wtM (F := F) (μ := μ) (r := rate a s) (w := a 26) (by omega) (by omega) n 8 (a (13 + s)) (by omega) (by omega) (by omega)
        have hW := wt_le (r := rate a s) (w := a 26) (by omega) (finJ_le 1) n (a (13 + s)) (by omega)
        have p10 := p10_le (n := n) (by omega)
        have fr := c_frac (F := F) (μ := μ) (W := wt (finJ 1) (rate a s) (a 26) n (a (13 + s))) (n := n) (by omega) (by omega) (by omega) (n3 j)
        refine OK2L.same h (v := frP (wt (finJ 1) (rate a s) (a 26) n (a (13 + s))) n (n3 j)) ?_ ?_
        · simp (disch := omega) only [f_X8_mean, ↓reduceIte, Option.bind_some, n3_lit, n3_cl, n3_in, n3_ltT, n3_ltF, n3_leT, n3_leF, n3_eqT, n3_eqF, n3_add, n3_sub, not_true_eq_false, not_false_eq_true, true_or, or_true, false_or, or_false, Nat.zero_add, Nat.add_zero, nn_lt, nn_le, nn_gt, nn_ge, nn_eq, nn_qe, hd, c_isInT, hr, e.2.1, h9, cw, fr]
        · simp (disch := omega) only [f_X9_mean, ↓reduceIte, Option.bind_some, n3_lit, n3_cl, n3_in, n3_ltT, n3_ltF, n3_leT, n3_leF, n3_eqT, n3_eqF, n3_add, n3_sub, not_true_eq_false, not_false_eq_true, true_or, or_true, false_or, or_false, Nat.zero_add, Nat.add_zero, nn_lt, nn_le, nn_gt, nn_ge, nn_eq, nn_qe, kd, m_inT, kb]
      · refine OK2L.same h (v := Int64.ofNat 18446744073709551615) ?_ ?_
        · simp (disch := omega) only [f_X8_mean, ↓reduceIte, Option.bind_some, n3_lit, n3_cl, n3_in, n3_ltT, n3_ltF, n3_leT, n3_leF, n3_eqT, n3_eqF, n3_add, n3_sub, not_true_eq_false, not_false_eq_true, true_or, or_true, false_or, or_false, Nat.zero_add, Nat.add_zero, nn_lt, nn_le, nn_gt, nn_ge, nn_eq, nn_qe, hd, c_isInT, c_isInN hz]
        · simp (disch := omega) only [f_X9_mean, ↓reduceIte, Option.bind_some, n3_lit, n3_cl, n3_in, n3_ltT, n3_ltF, n3_leT, n3_leF, n3_eqT, n3_eqF, n3_add, n3_sub, not_true_eq_false, not_false_eq_true, true_or, or_true, false_or, or_false, Nat.zero_add, Nat.add_zero, nn_lt, nn_le, nn_gt, nn_ge, nn_eq, nn_qe, kd, m_inT, m_inO hz]
    · refine OK2L.same h (v := Int64.ofNat 18446744073709551615) ?_ ?_
      · simp (disch := omega) only [f_X8_mean, ↓reduceIte, Option.bind_some, n3_lit, n3_cl, n3_in, n3_ltT, n3_ltF, n3_leT, n3_leF, n3_eqT, n3_eqF, n3_add, n3_sub, not_true_eq_false, not_false_eq_true, true_or, or_true, false_or, or_false, Nat.zero_add, Nat.add_zero, nn_lt, nn_le, nn_gt, nn_ge, nn_eq, nn_qe, hd, c_isInN hy]
      · simp (disch := omega) only [f_X9_mean, ↓reduceIte, Option.bind_some, n3_lit, n3_cl, n3_in, n3_ltT, n3_ltF, n3_leT, n3_leF, n3_eqT, n3_eqF, n3_add, n3_sub, not_true_eq_false, not_false_eq_true, true_or, or_true, false_or, or_false, Nat.zero_add, Nat.add_zero, nn_lt, nn_le, nn_gt, nn_ge, nn_eq, nn_qe, kd, m_inO hy]
  · refine OK2L.same h (v := Int64.ofNat 18446744073709551615) ?_ ?_
    · simp (disch := omega) only [f_X8_mean, ↓reduceIte, Option.bind_some, n3_lit, n3_cl, n3_in, n3_ltT, n3_ltF, n3_leT, n3_leF, n3_eqT, n3_eqF, n3_add, n3_sub, not_true_eq_false, not_false_eq_true, true_or, or_true, false_or, or_false, Nat.zero_add, Nat.add_zero, nn_lt, nn_le, nn_gt, nn_ge, nn_eq, nn_qe, c_stoneF hw hx]
    · simp (disch := omega) only [f_X9_mean, ↓reduceIte, Option.bind_some, n3_lit, n3_cl, n3_in, n3_ltT, n3_ltF, n3_leT, n3_leF, n3_eqT, n3_eqF, n3_add, n3_sub, not_true_eq_false, not_false_eq_true, true_or, or_true, false_or, or_false, Nat.zero_add, Nat.add_zero, nn_lt, nn_le, nn_gt, nn_ge, nn_eq, nn_qe, m_stoneF hp wf hx]
end VS51
