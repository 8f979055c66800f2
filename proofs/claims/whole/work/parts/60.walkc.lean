/-! the fewest walks: what is sought, and the class -/
def orP (v : Nat) : Nat := if v < 5 then 0 else v
/-- a walk, as the class does it -/
def wu (D H r : Nat) : Nat → Nat → Nat → Nat
  | 0, _, v => v
  | K + 1, k, v => if v = 0 then 0 else wu D H r K (k + 1) (if k = D + 1 then mx v H else orP (cool v r))
/-- a row, with what staying gives -/
def stR (r : Nat) (base : Nat → Nat) : Nat → Nat
  | 0 => base 0
  | t + 1 => mx (base (t + 1)) (orP (cool (stR r base t) r))
def bs0 (w0 : Nat) (t : Nat) : Nat := if t = 0 then orP w0 else 0
def bsW (D H r : Nat) (old : Nat → Nat) (t : Nat) : Nat := if 2 * D + 1 ≤ t then wu D H r (2 * D + 1) 1 (old (t - (2 * D + 1))) else 0
def PR (D H r w0 : Nat) : Nat → Nat → Nat
  | 0 => stR r (bs0 w0)
  | j + 1 => stR r (bsW D H r (PR D H r w0 j))
/-- what comes to the last minute by walks that begin before t -/
def bn (D H r n : Nat) (old : Nat → Nat) : Nat → Nat
  | 0 => 0
  | t + 1 => if n ≤ t + 2 * D + 1 then mx (bn D H r n old t) (wu D H r (n - t) 1 (old t)) else bn D H r n old t
def FN (D H r w0 n : Nat) : Nat → Nat
  | 0 => PR D H r w0 0 n
  | j + 1 => mx (bn D H r n (PR D H r w0 j) n) (if n = 0 then 0 else orP (cool (PR D H r w0 (j + 1) (n - 1)) r))
theorem orP_le (v : Nat) : orP v ≤ v := by unfold orP; split <;> omega
theorem orP_or (v : Nat) : orP v = 0 ∨ (5 ≤ orP v ∧ orP v = v) := by unfold orP; split <;> omega
theorem mx_or {x y : Nat} : (mx x y = x ∧ y ≤ x) ∨ (mx x y = y ∧ x < y) := by unfold mx; split <;> omega
theorem wu_0 (D H r : Nat) : ∀ K k, wu D H r K k 0 = 0
  | 0, _ => rfl
  | K + 1, k => by rw [wu, if_pos rfl]
theorem wu_le {D H r : Nat} (hH : H ≤ 99) : ∀ K k v, v ≤ 99 → wu D H r K k v ≤ 99
  | 0, _, v, h => h
  | K + 1, k, v, h => by
    rw [wu]
    split
    · omega
    · refine wu_le hH K (k + 1) _ ?_
      split
      · rcases mx_or (x := v) (y := H) with c | c <;> omega
      · have := orP_le (cool v r)
        have := cool_le v r
        omega
theorem stR_le {r : Nat} {base : Nat → Nat} (h : ∀ t, base t ≤ 99) : ∀ t, stR r base t ≤ 99
  | 0 => h 0
  | t + 1 => by
    have i := stR_le (r := r) h t
    have h1 := h (t + 1)
    have h2 := orP_le (cool (stR r base t) r)
    have h3 := cool_le (stR r base t) r
    rw [stR]
    rcases mx_or (x := base (t + 1)) (y := orP (cool (stR r base t) r)) with c | c <;> omega
theorem PR_le {D H r w0 : Nat} (hH : H ≤ 99) (hw : w0 ≤ 99) : ∀ j t, PR D H r w0 j t ≤ 99
  | 0, t => stR_le (fun t => by unfold bs0; split; have := orP_le w0; omega; omega) t
  | j + 1, t => stR_le (fun t => by unfold bsW; split; exact wu_le hH _ _ _ (PR_le hH hw j _); omega) t
theorem stR_congr {r : Nat} {b c : Nat → Nat} : ∀ t, (∀ i, i ≤ t → b i = c i) → stR r b t = stR r c t
  | 0, h => h 0 (Nat.le_refl _)
  | t + 1, h => by rw [stR, stR, h (t + 1) (Nat.le_refl _), stR_congr t (fun i hi => h i (by omega))]
section VS60
variable {F : Nat} {μ ν : fm_M} {a b : Nat → Nat} {w : Nat}
theorem inA_W2 {p i : Nat} (hp : p = 202 ∨ p = 203) (hi : i < 61) : fm_inA p (n3 i) = true := by
  rcases hp with rfl | rfl <;> exact n3_in (by omega) hi
theorem c_orP {v : Nat} (hv : v < 1000) : f_X6_orPebble F (n3 v) μ = some (n3 (orP v), μ) := by
  unfold f_X6_orPebble orP
  by_cases c : v < 5
  · rw [c_warmF c, Option.bind_some, if_pos c]; exact if_pos rfl
  · rw [c_warmT (by omega) (by omega), Option.bind_some, if_neg c]; exact if_neg (show ¬ n3 1 = 0 by decide)
theorem c_max {x y : Nat} (hx : x < 1000) (hy : y < 1000) : f_J9_max_7cf53 F (n3 x) (n3 y) μ = some (n3 (mx x y), μ) := by
  unfold f_J9_max_7cf53 mx
  by_cases c : x < y
  · rw [if_pos (by rw [n3_lt (by omega) (by omega)]; exact c), if_pos c]
  · rw [if_neg (by rw [n3_lt (by omega) (by omega)]; exact c), if_neg c]
theorem c_min {x y : Nat} (hx : x < 1000) (hy : y < 1000) : f_J9_min_7cf53 F (n3 x) (n3 y) μ = some (n3 (min x y), μ) := by
  unfold f_J9_min_7cf53
  by_cases c : y < x
  · rw [if_pos (by rw [n3_lt (by omega) (by omega)]; exact c), show min x y = y by omega]
  · rw [if_neg (by rw [n3_lt (by omega) (by omega)]; exact c), show min x y = x by omega]
theorem c_clear_l {p : Nat} (hp : p = 202 ∨ p = 203) : ∀ (K i f : Nat) (μ : fm_M), i + K = 61 → K < f → μ.2.2.2.1 = p → (∀ t, t < i → μ.2.1 p t = n3 0) → ∃ ν, g_X6_clearRow F f 2 (n3 i) μ = some ((), ν) ∧ (∀ t, t < 61 → ν.2.1 p t = n3 0) ∧ Ch (fun _ _ => False) (fun q _ => q = p) μ ν
  | 0, i, f + 1, μ, hi, _, hw, h => by
    obtain rfl : i = 61 := by omega
    refine ⟨μ, ?_, h, Ch.refl _ _ μ⟩
    rw [g_X6_clearRow, if_pos rfl, b_X6_clearRow_2, if_pos (by decide)]
  | K + 1, i, f + 1, μ, hi, hf, hw, h => by
    obtain ⟨ν, r1, r2, r3⟩ := c_clear_l hp K (i + 1) f (fm_sA μ p (upd (μ.2.1 p) i (n3 0))) (by omega) (by omega) hw (fun t ht => by
      rw [fm_sA_eq rfl]
      by_cases c : t = i
      · rw [upd_eq c]
      · rw [upd_ne c]; exact h t (by omega))
    refine ⟨ν, ?_, r2, ((Ch.refl _ _ μ).sG (fun _ => rfl)).trans r3⟩
    rw [← r1, g_X6_clearRow, if_pos rfl, b_X6_clearRow_2, if_neg (by rw [n3_k60, n3_lt (by omega) (by omega)]; omega), hw, if_pos (inA_W2 hp (by omega)), Option.bind_some, n3_cl (by omega), n3_one, n3_add]
    rfl
theorem c_clear {p : Nat} (hp : p = 202 ∨ p = 203) (hw : μ.2.2.2.1 = p) (hF : 100 < F) : ∃ ν, f_X6_clearRow F μ = some ((), ν) ∧ (∀ t, t < 61 → ν.2.1 p t = n3 0) ∧ Ch (fun _ _ => False) (fun q _ => q = p) μ ν :=
  c_clear_l hp 61 0 F μ (by omega) (by omega) hw (fun t ht => by omega)
def WS (n r D H : Nat) (μ : fm_M) : Prop := μ.1 201 2 = n3 n ∧ μ.1 201 3 = n3 r ∧ μ.1 201 4 = n3 D ∧ μ.1 201 5 = n3 H
theorem WS.ch {n r D H : Nat} {pI pA : Nat → Nat → Prop} (h : WS n r D H μ) (hc : Ch pI pA μ ν) (h1 : ∀ j, ¬ pI 201 j) : WS n r D H ν := by
  unfold WS
  rw [hc.1 _ _ (h1 _), hc.1 _ _ (h1 _), hc.1 _ _ (h1 _), hc.1 _ _ (h1 _)]; exact h
theorem c_stay_l {p n r D H : Nat} {base : Nat → Nat} (hp : p = 202 ∨ p = 203) (hn : n ≤ 60) (hr : r < 9) (hb : ∀ t, base t ≤ 99) : ∀ (K i f : Nat) (μ : fm_M), i + K = n → K < f → WS n r D H μ → μ.2.2.2.1 = p → (∀ t, t ≤ i → μ.2.1 p t = n3 (stR r base t)) → (∀ t, i < t → t ≤ 60 → μ.2.1 p t = n3 (base t)) → ∃ ν, g_X6_stay F f 2 (n3 (i + 1)) μ = some ((), ν) ∧ (∀ t, t ≤ n → ν.2.1 p t = n3 (stR r base t)) ∧ Ch (fun _ _ => False) (fun q _ => q = p) μ ν
  | 0, i, f + 1, μ, hi, _, hs, hw, h1, h2 => by
    obtain rfl : i = n := by omega
    refine ⟨μ, ?_, h1, Ch.refl _ _ μ⟩
    rw [g_X6_stay, if_pos rfl, b_X6_stay_2, hs.1, if_pos (by rw [n3_lt (by omega) (by omega)]; omega)]
  | K + 1, i, f + 1, μ, hi, hf, hs, hw, h1, h2 => by
    have l1 := stR_le (r := r) hb i
    have l2 := hb (i + 1)
    have l3 := cool_le (stR r base i) r
    have l4 := orP_le (cool (stR r base i) r)
    have hc : f_X8_cooled F (n3 (stR r base i)) (n3 r) μ = some (n3 (cool (stR r base i) r), μ) := c_cooled (by omega) hr
    obtain ⟨ν, r1, r2, r3⟩ := c_stay_l (D := D) (H := H) hp hn hr hb K (i + 1) f (fm_sA μ p (upd (μ.2.1 p) (i + 1) (n3 (stR r base (i + 1))))) (by omega) (by omega) (hs.ch ((Ch.refl (fun _ _ => False) (fun q _ => q = p) μ).sG (fun _ => rfl)) (fun _ => id)) hw (fun t ht => by
      rw [fm_sA_eq rfl]
      by_cases c : t = i + 1
      · rw [upd_eq c, c]
      · rw [upd_ne c]; exact h1 t (by omega)) (fun t ht ht2 => by
      rw [fm_sA_eq rfl, upd_ne (by omega)]; exact h2 t (by omega) ht2)
    refine ⟨ν, ?_, r2, ((Ch.refl _ _ μ).sG (fun _ => rfl)).trans r3⟩
    rw [← r1, g_X6_stay, if_pos rfl, b_X6_stay_2, hs.1, if_neg (by rw [n3_lt (by omega) (by omega)]; omega), hw, if_pos (inA_W2 hp (by omega)), n3_one, n3_sub (by omega), Nat.add_sub_cancel, if_pos (inA_W2 hp (by omega)), n3_cl (by omega), n3_cl (by omega), h1 i (by omega), h2 (i + 1) (by omega) (by omega), hs.2.1, hc, Option.bind_some]
    dsimp only
    rw [c_orP (by omega), Option.bind_some]
    dsimp only
    rw [c_max (by omega) (by omega), Option.bind_some, if_pos (inA_W2 hp (by omega)), Option.bind_some, n3_add, stR]
theorem c_stay {p n r D H : Nat} {base : Nat → Nat} (hp : p = 202 ∨ p = 203) (hn : n ≤ 60) (hr : r < 9) (hb : ∀ t, base t ≤ 99) (hs : WS n r D H μ) (hw : μ.2.2.2.1 = p) (h : ∀ t, t ≤ 60 → μ.2.1 p t = n3 (base t)) (hF : 100 < F) : ∃ ν, f_X6_stay F μ = some ((), ν) ∧ (∀ t, t ≤ n → ν.2.1 p t = n3 (stR r base t)) ∧ Ch (fun _ _ => False) (fun q _ => q = p) μ ν :=
  c_stay_l (F := F) (D := D) (H := H) hp hn hr hb n 0 F μ (by omega) (by omega) hs hw (fun t ht => by have e : t = 0 := Nat.le_zero.mp ht; subst e; exact h 0 (Nat.zero_le _)) (fun t _ ht => h t ht)
theorem c_until_l {n r D H back t : Nat} (hs : WS n r D H μ) (hr : r < 9) (hD : D ≤ 9) (hH : H ≤ 99) (hb : back ≤ 60) (ht : t ≤ 60) : ∀ (K k v f : Nat), t + k + K = back + 1 → K < f → v ≤ 99 → g_X6_walkedUntil F f 8 (n3 back) (n3 t) (n3 v) (n3 (t + k)) μ = some (n3 (wu D H r K k v), μ)
  | 0, k, v, f + 1, hk, _, hv => by
    rw [g_X6_walkedUntil, if_pos rfl, b_X6_walkedUntil_8, if_pos (by rw [n3_lt (by omega) (by omega)]; omega), wu]
  | K + 1, k, v, f + 1, hk, hf, hv => by
    have l3 := cool_le v r
    have l4 := orP_le (cool v r)
    rw [g_X6_walkedUntil, if_pos rfl, b_X6_walkedUntil_8, if_neg (by rw [n3_lt (by omega) (by omega)]; omega), wu]
    by_cases c : v = 0
    · rw [if_pos (show n3 v ≤ 0 by rw [c]; decide), if_pos c, c]
    · rw [if_neg (show ¬ n3 v ≤ 0 by rw [n3_k0, n3_le (by omega) (by omega)]; omega), if_neg c, hs.2.2.1, n3_add, n3_one, n3_add, n3_add]
      by_cases c2 : k = D + 1
      · rw [if_neg (show ¬ ¬ n3 (t + k) = n3 (t + D + 1) from fun q => q (by rw [c2, Nat.add_assoc])), if_pos c2, hs.2.2.2, c_max (by omega) (by omega), Option.bind_some]
        exact c_until_l hs hr hD hH hb ht K (k + 1) (mx v H) f (by omega) (by omega) (by rcases mx_or (x := v) (y := H) with c | c <;> omega)
      · rw [if_pos (show ¬ n3 (t + k) = n3 (t + D + 1) by rw [n3_eq (by omega) (by omega)]; omega), if_neg c2, hs.2.1, c_cooled (by omega) hr, Option.bind_some]
        dsimp only
        rw [c_orP (by omega), Option.bind_some]
        exact c_until_l hs hr hD hH hb ht K (k + 1) (orP (cool v r)) f (by omega) (by omega) (by omega)
theorem c_until {n r D H back t v : Nat} (hs : WS n r D H μ) (hr : r < 9) (hD : D ≤ 9) (hH : H ≤ 99) (hb : back ≤ 60) (ht : t ≤ back) (hv : v ≤ 99) (hF : 100 < F) : f_X6_walkedUntil F (n3 back) (n3 t) (n3 v) μ = some (n3 (wu D H r (back - t) 1 v), μ) := by
  have := c_until_l (F := F) hs hr hD hH hb (t := t) (by omega) (back - t) 1 v F (by omega) (by omega) hv
  unfold f_X6_walkedUntil
  rw [n3_one, n3_add]
  exact this
/-- the new row when the walks that begin before t are in it -/
def wrow (D H r n : Nat) (old : Nat → Nat) (t x : Nat) : Nat := if x = n then bn D H r n old t else if x < n ∧ 2 * D + 1 ≤ x ∧ x - (2 * D + 1) < t then wu D H r (2 * D + 1) 1 (old (x - (2 * D + 1))) else 0
theorem bn_le {D H r n : Nat} {old : Nat → Nat} (hH : H ≤ 99) (ho : ∀ t, old t ≤ 99) : ∀ t, bn D H r n old t ≤ 99
  | 0 => by rw [bn]; omega
  | t + 1 => by
    have i := bn_le (D := D) (H := H) (r := r) (n := n) hH ho t
    have j := wu_le (D := D) (r := r) hH (n - t) 1 (old t) (ho t)
    rw [bn]
    split
    · rcases mx_or (x := bn D H r n old t) (y := wu D H r (n - t) 1 (old t)) with c | c <;> omega
    · exact i
theorem wrow_le {D H r n : Nat} {old : Nat → Nat} (hH : H ≤ 99) (ho : ∀ t, old t ≤ 99) (t x : Nat) : wrow D H r n old t x ≤ 99 := by
  unfold wrow
  split
  · exact bn_le hH ho t
  · split
    · exact wu_le hH _ _ _ (ho _)
    · omega
theorem wrow_s {D H r n t : Nat} {old : Nat → Nat} (ht : t < n) (x : Nat) : wrow D H r n old (t + 1) x = if x = min n (t + 2 * D + 1) then mx (wrow D H r n old t x) (wu D H r (x - t) 1 (old t)) else wrow D H r n old t x := by
  unfold wrow
  by_cases c : x = n
  · rw [if_pos c, if_pos c, bn]
    by_cases c2 : n ≤ t + 2 * D + 1
    · rw [if_pos c2, if_pos (by omega), c]
    · rw [if_neg c2, if_neg (by omega)]
  · rw [if_neg c, if_neg c]
    by_cases c2 : x = t + 2 * D + 1
    · by_cases c3 : x < n
      · rw [if_pos (by omega), if_pos (by omega), if_neg (by omega), show x - (2 * D + 1) = t by omega, show x - t = 2 * D + 1 by omega]
        unfold mx
        split <;> omega
      · rw [if_neg (by omega), if_neg (by omega), if_neg (by omega)]
    · rw [if_neg (show ¬ x = min n (t + 2 * D + 1) by omega)]
      by_cases c3 : x < n ∧ 2 * D + 1 ≤ x ∧ x - (2 * D + 1) < t
      · rw [if_pos (by omega), if_pos c3]
      · rw [if_neg (by omega), if_neg c3]
theorem c_once_l {p q n r D H : Nat} {old : Nat → Nat} (hp : (p = 202 ∧ q = 203) ∨ (p = 203 ∧ q = 202)) (hn : n ≤ 60) (hr : r < 9) (hD : D ≤ 9) (hH : H ≤ 99) (ho : ∀ t, old t ≤ 99) (hF : 100 < F) : ∀ (K t f : Nat) (μ : fm_M), t + K = n → K < f → WS n r D H μ → μ.2.2.2 = (p, q) → (∀ x, x < n → μ.2.1 q x = n3 (old x)) → (∀ x, x ≤ 60 → μ.2.1 p x = n3 (wrow D H r n old t x)) → ∃ ν, g_X6_walkOnce F f 24 (n3 t) μ = some ((), ν) ∧ (∀ x, x ≤ 60 → ν.2.1 p x = n3 (wrow D H r n old n x)) ∧ Ch (fun _ _ => False) (fun b _ => b = p) μ ν
  | 0, t, f + 1, μ, ht, _, hs, hw, h1, h2 => by
    obtain rfl : t = n := by omega
    refine ⟨μ, ?_, h2, Ch.refl _ _ μ⟩
    rw [g_X6_walkOnce, if_pos rfl, b_X6_walkOnce_24, hs.1, if_pos (by rw [n3_le (by omega) (by omega)]; omega)]
  | K + 1, t, f + 1, μ, ht, hf, hs, hw, h1, h2 => by
    have hp' : p = 202 ∨ p = 203 := by omega
    have hq' : q = 202 ∨ q = 203 := by omega
    have w1 : μ.2.2.2.1 = p := by rw [hw]
    have w2 : μ.2.2.2.2 = q := by rw [hw]
    have l0 := ho t
    by_cases c : old t = 0
    · obtain ⟨ν, r1, r2, r3⟩ := c_once_l hp hn hr hD hH ho hF K (t + 1) f μ (by omega) (by omega) hs hw h1 (fun x hx => by
        rw [wrow_s (by omega), h2 x hx, c, wu_0]
        split
        · unfold mx
          rw [if_neg (by omega)]
        · rfl)
      refine ⟨ν, ?_, r2, r3⟩
      rw [g_X6_walkOnce, if_pos rfl, b_X6_walkOnce_24, hs.1, if_neg (by rw [n3_le (by omega) (by omega)]; omega), w2, if_pos (inA_W2 hq' (by omega)), n3_cl (by omega), h1 t (by omega), if_pos (show n3 (old t) ≤ 0 by rw [c]; decide), n3_one, n3_add]
      exact r1
    · have lb := wrow_le (D := D) (r := r) (n := n) hH ho t (min n (t + 2 * D + 1))
      have lu := wu_le (D := D) (r := r) hH (min n (t + 2 * D + 1) - t) 1 (old t) l0
      obtain ⟨ν, r1, r2, r3⟩ := c_once_l hp hn hr hD hH ho hF K (t + 1) f (fm_sA μ p (upd (μ.2.1 p) (min n (t + 2 * D + 1)) (n3 (mx (wrow D H r n old t (min n (t + 2 * D + 1))) (wu D H r (min n (t + 2 * D + 1) - t) 1 (old t)))))) (by omega) (by omega) (hs.ch ((Ch.refl (fun _ _ => False) (fun b _ => b = p) μ).sG (fun _ => rfl)) (fun _ => id)) hw (fun x hx => by rw [fm_sA_ne (by omega)]; exact h1 x hx) (fun x hx => by
        rw [wrow_s (by omega), fm_sA_eq rfl]
        by_cases cx : x = min n (t + 2 * D + 1)
        · rw [upd_eq cx, if_pos cx, cx]
        · rw [upd_ne cx, if_neg cx]; exact h2 x hx)
      refine ⟨ν, ?_, r2, ((Ch.refl _ _ μ).sG (fun _ => rfl)).trans r3⟩
      rw [← r1, g_X6_walkOnce, if_pos rfl, b_X6_walkOnce_24, hs.1, if_neg (by rw [n3_le (by omega) (by omega)]; omega), w2, if_pos (inA_W2 hq' (by omega)), n3_cl (by omega), h1 t (by omega), if_neg (show ¬ n3 (old t) ≤ 0 by rw [n3_k0, n3_le (by omega) (by omega)]; omega), hs.2.2.1, n3_k2, n3_mul, n3_add, n3_one, n3_add, c_min (by omega) (by omega), Option.bind_some]
      dsimp only
      rw [w1, w2, if_pos (inA_W2 hp' (by omega)), if_pos (inA_W2 hq' (by omega)), h1 t (by omega), c_until hs hr hD hH (by omega) (by omega) l0 hF, Option.bind_some]
      dsimp only
      rw [n3_cl (by omega), h2 _ (by omega), c_max (by omega) (by omega), Option.bind_some, if_pos (inA_W2 hp' (by omega)), Option.bind_some, n3_add]
end VS60
