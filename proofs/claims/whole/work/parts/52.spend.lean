/-! when to spend it -/
def mx (x y : Nat) : Nat := if x < y then y else x
def bw (a : Nat → Nat) (r : Nat) : Nat → Nat → Nat
  | 0, v => v / a 32
  | k + 1, v => mx (v / a (27 + (4 - k)) * 10 ^ (k + 1)) ((10 - a 26) * bw a r k (cool v r) + a 26 * bw a r k (cool (cool v r) r))
def bwl (a : Nat → Nat) (r k v : Nat) : Nat := (10 - a 26) * bw a r k (cool v r) + a 26 * bw a r k (cool (cool v r) r)
theorem mx_le {x y z : Nat} (h : x ≤ z) (h2 : y ≤ z) : mx x y ≤ z := by unfold mx; split <;> assumption
theorem bw_le {a : Nat → Nat} (wf : WF a) (r : Nat) : ∀ k v, v < 100 → bw a r k v ≤ 99 * 10 ^ k
  | 0, v, hv => by
    have := Nat.div_le_self v (a 32)
    rw [bw]; omega
  | k + 1, v, hv => by
    have b := wf.1
    have l1 := cool_le v r
    have l2 := cool_le (cool v r) r
    have i1 := bw_le wf r k (cool v r) (by omega)
    have i2 := bw_le wf r k (cool (cool v r) r) (by omega)
    have j1 := Nat.mul_le_mul_left (10 - a 26) i1
    have j2 := Nat.mul_le_mul_left (a 26) i2
    have j3 : (10 - a 26) * (99 * 10 ^ k) + a 26 * (99 * 10 ^ k) = 10 * (99 * 10 ^ k) := by rw [← Nat.add_mul, Nat.sub_add_cancel (by omega)]
    have d := Nat.div_le_self v (a (27 + (4 - k)))
    have j4 := Nat.mul_le_mul_right (10 ^ (k + 1)) (show v / a (27 + (4 - k)) ≤ 99 by omega)
    rw [bw]
    refine mx_le j4 ?_
    rw [Nat.pow_succ]
    omega
theorem bwl_le {a : Nat → Nat} (wf : WF a) (r k v : Nat) (hv : v < 100) : bwl a r k v ≤ 99 * 10 ^ (k + 1) := by
  have b := wf.1
  have l1 := cool_le v r
  have l2 := cool_le (cool v r) r
  have i1 := bw_le wf r k (cool v r) (by omega)
  have i2 := bw_le wf r k (cool (cool v r) r) (by omega)
  have j1 := Nat.mul_le_mul_left (10 - a 26) i1
  have j2 := Nat.mul_le_mul_left (a 26) i2
  have j3 : (10 - a 26) * (99 * 10 ^ k) + a 26 * (99 * 10 ^ k) = 10 * (99 * 10 ^ k) := by rw [← Nat.add_mul, Nat.sub_add_cancel (by omega)]
  rw [bwl, Nat.pow_succ]
  omega
theorem sJ_1 (μ : fm_M) (q : Nat) (g : Nat → Int64) : (fm_sJ μ q g).1 = μ.1 := rfl
theorem sJ_2 (μ : fm_M) (q : Nat) (g : Nat → Int64) : (fm_sJ μ q g).2.1 = μ.2.1 := rfl
theorem sJ_4 (μ : fm_M) (q : Nat) (g : Nat → Int64) : (fm_sJ μ q g).2.2.2 = μ.2.2.2 := rfl
theorem sJ_eq {μ : fm_M} {q : Nat} {g : Nat → Int64} {b : Nat} (h : b = q) : (fm_sJ μ q g).2.2.1 b = g := if_pos h
theorem sJ_ne {μ : fm_M} {q : Nat} {g : Nat → Int64} {b : Nat} (h : b ≠ q) : (fm_sJ μ q g).2.2.1 b = μ.2.2.1 b := if_neg h
theorem sI_J (μ : fm_M) (q k : Nat) (x : Int32) : (fm_sI μ q k x).2.2.1 = μ.2.2.1 := rfl
theorem updL_eq {g : Nat → Int64} {k : Nat} {x : Int64} {j : Nat} (h : j = k) : vp_updL g k x j = x := if_pos h
theorem updL_ne {g : Nat → Int64} {k : Nat} {x : Int64} {j : Nat} (h : j ≠ k) : vp_updL g k x j = g j := if_neg h
theorem Ch.sJ {pI pA : Nat → Nat → Prop} {μ ν : fm_M} (h : Ch pI pA μ ν) (q : Nat) (g : Nat → Int64) : Ch pI pA μ (fm_sJ ν q g) := ⟨h.1, h.2.1, h.2.2⟩
section VS52
variable {F : Nat} {μ ν : fm_M} {a : Nat → Nat} {w : Nat}
theorem c_maxL {m n : Nat} (hm : m < 4611686018427387904) (hn : n < 4611686018427387904) : f_J9_max_f86c9 F (Int64.ofNat m) (Int64.ofNat n) μ = some (Int64.ofNat (mx m n), μ) := by
  unfold f_J9_max_f86c9 mx
  by_cases c : m < n
  · rw [if_pos (by rw [lt_cmp, l_big (by omega), l_big (by omega)]; omega), if_pos c]
  · rw [if_neg (by rw [lt_cmp, l_big (by omega), l_big (by omega)]; omega), if_neg c]
theorem c_later {rec : Int32 → Int32 → Int32 → fm_M → Option (Int64 × fm_M)} (h : AW μ 101 a) (wf : WF a) {r k v t : Nat} (hr : r < 9) (hv : v < 100) (ih : ∀ u, u < 100 → rec (n3 u) (n3 r) (n3 (t + 1)) μ = some (Int64.ofNat (bw a r k u), μ)) : f_X8_weightBoughtLater F rec (n3 v) (n3 r) (n3 t) μ = some (Int64.ofNat (bwl a r k v), μ) := by
  have b := wf.1
  have l1 := cool_le v r
  have l2 := cool_le (cool v r) r
  have h9 := h.z.1.2.2.2.2.1
  have i1 := ih (cool v r) (by omega)
  have i2 := ih (cool (cool v r) r) (by omega)
  rw [bwl, Int64.ofNat_add, Int64.ofNat_mul, Int64.ofNat_mul]
  simp (disch := omega) only [f_X8_weightBoughtLater, ↓reduceIte, Option.bind_some, n3_lit, n3_cl, n3_in, n3_ltT, n3_ltF, n3_leT, n3_leF, n3_eqT, n3_eqF, n3_add, n3_sub, not_true_eq_false, not_false_eq_true, true_or, or_true, false_or, or_false, Nat.zero_add, Nat.add_zero, nn_lt, nn_le, nn_gt, nn_ge, nn_eq, nn_qe, c_cooled, i1, i2, h9, n3_64]
theorem c_bw (h : AW μ 101 a) (wf : WF a) {r : Nat} (hr : r < 9) : ∀ (k e v t : Nat), k < e → t + k = 5 → v < 100 → f_X8_weightBought F e (n3 v) (n3 r) (n3 t) μ = some (Int64.ofNat (bw a r k v), μ)
  | 0, e + 1, v, t, _, ht, hv => by
    obtain rfl : t = 5 := by omega
    have hb := c_bought (F := F) h wf (x := v) (t := 5) (by omega) (by omega)
    have d := Nat.div_le_self v (a (27 + 5))
    rw [f_X8_weightBought, f0_X8_weightBought, if_neg (show ¬ n3 5 < 5 by decide), n3_k5, hb, Option.bind_some, bw]
    dsimp only
    rw [n3_64 (by omega)]
  | k + 1, e + 1, v, t, he, ht, hv => by
    obtain rfl : t = 4 - k := by omega
    have hb := c_bought (F := F) h wf (x := v) (t := 4 - k) (by omega) (by omega)
    have d := Nat.div_le_self v (a (27 + (4 - k)))
    have lt := c_later (F := F) (rec := f_X8_weightBought F e) h wf (r := r) (k := k) (v := v) (t := 4 - k) hr hv (fun u hu => c_bw h wf hr k e u (4 - k + 1) (by omega) (by omega) hu)
    have p := p10_le (n := k + 1) (by omega)
    have lb := bwl_le wf r k v hv
    have j4 := Nat.mul_le_mul (show v / a (27 + (4 - k)) ≤ 99 by omega) p.2
    rw [f_X8_weightBought, f0_X8_weightBought, if_pos (show n3 (4 - k) < 5 by rw [n3_lit, n3_lt (by omega) (by omega)]; omega), hb, Option.bind_some]
    dsimp only
    rw [n3_k5, n3_sub (by omega), if_pos (n3_in (by omega) (by omega)), lt, Option.bind_some]
    dsimp only
    rw [n3_cl (by omega), n3_64 (by omega), show 5 - (4 - k) = k + 1 by omega, p10_n (by omega), ← Int64.ofNat_mul, c_maxL (by omega) (by omega), Option.bind_some, bw, bwl]
/-- the row of worths is as it should be -/
def WOK (μ : fm_M) (q : Nat) (p : Nat → Nat) (n : Nat) : Prop := ∀ u, u < n → μ.2.2.1 q u = Int64.ofNat (p u)
theorem m_sp_l {nv p : Nat → Nat} {W k : Nat} {x1 x2 x3 x6 : Int32} {x4 : Int64} {fl : Int32} (wf : WF a) (hfl : fl = 0 ∨ fl = 1) (step : ∀ v μ m, v < 100 → AP μ 0 a → (k = 0 ∨ WOK μ 246 p 100) → (μ.1 232 31 = 0 ∨ μ.1 232 31 = 1) → g_X9_spent F (m + 1) 36 x1 x2 x3 x4 x6 (n3 v) μ = g_X9_spent F m 36 x1 x2 x3 x4 x6 (n3 (v + 1)) (fm_sJ (fm_sI μ 232 31 (if v = W then fl else μ.1 232 31)) 247 (vp_updL (μ.2.2.1 247) v (Int64.ofNat (nv v))))) : ∀ (K v m : Nat) (μ : fm_M), v + K = 100 → AP μ 0 a → (k = 0 ∨ WOK μ 246 p 100) → (μ.1 232 31 = 0 ∨ μ.1 232 31 = 1) → (W < v → μ.1 232 31 = fl) → WOK μ 247 nv v → ∃ ν, g_X9_spent F (m + K + 1) 36 x1 x2 x3 x4 x6 (n3 v) μ = g_X9_spent F m 173 x1 x2 x3 x4 x6 0 ν ∧ AP ν 0 a ∧ (W < 100 → ν.1 232 31 = fl) ∧ (ν.1 232 31 = 0 ∨ ν.1 232 31 = 1) ∧ WOK ν 247 nv 100 ∧ Ch (fun q j => q = 232 ∧ j = 31) (fun _ _ => False) μ ν
  | 0, v, m, μ, hv, hp, hk, h01, hW, hn => by
    obtain rfl : v = 100 := by omega
    refine ⟨μ, ?_, hp, hW, h01, hn, Ch.refl _ _ μ⟩
    rw [g_X9_spent, if_neg (by decide), if_pos rfl, b_X9_spent_36, if_pos (by decide)]
  | K + 1, v, m, μ, hv, hp, hk, h01, hW, hn => by
    have st := step v μ (m + K + 1) (by omega) hp hk h01
    have hc : Ch (fun q j => q = 232 ∧ j = 31) (fun _ _ => False) μ (fm_sJ (fm_sI μ 232 31 (if v = W then fl else μ.1 232 31)) 247 (vp_updL (μ.2.2.1 247) v (Int64.ofNat (nv v)))) := ((Ch.refl _ _ μ).sI (by omega)).sJ _ _
    have e31 : (fm_sJ (fm_sI μ 232 31 (if v = W then fl else μ.1 232 31)) 247 (vp_updL (μ.2.2.1 247) v (Int64.ofNat (nv v)))).1 232 31 = if v = W then fl else μ.1 232 31 := by rw [sJ_1]; exact fm_sI_eq ⟨rfl, rfl⟩
    obtain ⟨ν, r1, r2, r3, r4, r5, r6⟩ := m_sp_l wf hfl step K (v + 1) m _ (by omega) (hp.ch wf hc (by omega) (by omega) (fun _ => id) (fun _ => id) (fun _ _ _ => id)) (hk.imp id (fun q u hu => by rw [sJ_ne (by omega), sI_J]; exact q u hu)) (by rw [e31]; split; exact hfl; exact h01) (by
      intro c
      rw [e31]
      split
      · rfl
      · exact hW (by omega)) (by
      intro u hu
      rw [sJ_eq rfl]
      by_cases c : u = v
      · rw [updL_eq c, c]
      · rw [updL_ne c]; exact hn u (by omega))
    exact ⟨ν, by rw [← Nat.add_assoc m K 1, st]; exact r1, r2, r3, r4, r5, hc.trans r6⟩
theorem m_sp_c {nv : Nat → Nat} {x1 x2 x3 x6 : Int32} {x4 : Int64} (wf : WF a) : ∀ (K v m : Nat) (μ : fm_M), v + K = 100 → AP μ 0 a → WOK μ 247 nv 100 → WOK μ 246 nv v → ∃ ν, g_X9_spent F (m + K + 1) 173 x1 x2 x3 x4 x6 (n3 v) μ = g_X9_spent F m 28 x1 x2 x3 (x4 * Int64.ofNat 10) (x6 + -1) 0 ν ∧ AP ν 0 a ∧ WOK ν 246 nv 100 ∧ ν.1 = μ.1 ∧ Ch (fun _ _ => False) (fun _ _ => False) μ ν
  | 0, v, m, μ, hv, hp, h7, h6 => by
    obtain rfl : v = 100 := by omega
    refine ⟨μ, ?_, hp, h6, rfl, Ch.refl _ _ μ⟩
    rw [g_X9_spent, if_neg (by decide), if_neg (by decide), if_pos rfl, b_X9_spent_173, if_pos (by decide)]
  | K + 1, v, m, μ, hv, hp, h7, h6 => by
    have hc : Ch (fun _ _ => False) (fun _ _ => False) μ (fm_sJ μ 246 (vp_updL (μ.2.2.1 246) v (Int64.ofNat (nv v)))) := (Ch.refl _ _ μ).sJ _ _
    obtain ⟨ν, r1, r2, r3, r4, r5⟩ := m_sp_c (x1 := x1) (x2 := x2) (x3 := x3) (x6 := x6) (x4 := x4) wf K (v + 1) m (fm_sJ μ 246 (vp_updL (μ.2.2.1 246) v (Int64.ofNat (nv v)))) (by omega) (hp.ch wf hc id id (fun _ => id) (fun _ => id) (fun _ _ _ => id)) (fun u hu => by rw [sJ_ne (by omega)]; exact h7 u hu) (fun u hu => by
      rw [sJ_eq rfl]
      by_cases c : u = v
      · rw [updL_eq c, c]
      · rw [updL_ne c]; exact h6 u (by omega))
    refine ⟨ν, ?_, r2, r3, r4, hc.trans r5⟩
    rw [← r1, ← Nat.add_assoc m K 1, g_X9_spent, if_neg (by decide), if_neg (by decide), if_pos rfl, b_X9_spent_173, if_neg (by rw [n3_lit, n3_le (by omega) (by omega)]; omega), if_pos (n3_in (by omega) (by omega)), if_pos (n3_in (by omega) (by omega)), Option.bind_some, n3_cl (by omega), h7 v (by omega), n3_one, n3_add]
/-- the last minute -/
theorem m_step5 (wf : WF a) {s r W : Nat} {x3 : Int32} (hs : s < a 23) (hW : W = a (13 + s)) : ∀ v μ m, v < 100 → AP μ 0 a → (0 = 0 ∨ WOK μ 246 (fun _ => 0) 100) → (μ.1 232 31 = 0 ∨ μ.1 232 31 = 1) → g_X9_spent F (m + 1) 36 (n3 s) (n3 r) x3 (Int64.ofNat 1) (n3 5) (n3 v) μ = g_X9_spent F m 36 (n3 s) (n3 r) x3 (Int64.ofNat 1) (n3 5) (n3 (v + 1)) (fm_sJ (fm_sI μ 232 31 (if v = W then 1 else μ.1 232 31)) 247 (vp_updL (μ.2.2.1 247) v (Int64.ofNat (bw a r 0 v)))) := by
  intro v μ m hv hp _ h01
  have b := wf.1
  have wS := wf.2.2.1 s hs
  have hb := m_bought (F := F) hp wf (x := v) (t := 5) (by omega) (by omega)
  have d := Nat.div_le_self v (a (27 + 5))
  have e := (hp.z.2.2.2.1 s hs).2.1
  have eX : Int64.ofNat 1 * (n3 (v / a (27 + 5))).toInt64 = Int64.ofNat (bw a r 0 v) := by
    rw [n3_64 (by omega), ← Int64.ofNat_mul, Nat.one_mul, bw]
  have bl : bw a r 0 v ≤ 99 := by have := bw_le wf r 0 v hv; omega
  have cm : ¬ lg_cmp (Int64.ofNat (bw a r 0 v)) (Int64.ofNat 18446744073709551615) < 0 := by
    rw [lt_cmp, l_big (by omega), show (Int64.ofNat 18446744073709551615).toInt = -1 by decide]; omega
  rw [g_X9_spent, if_neg (by decide), if_pos rfl, b_X9_spent_36, if_neg (by rw [n3_lit, n3_le (by omega) (by omega)]; omega), hb, Option.bind_some]
  dsimp only
  rw [if_neg (show ¬ ¬ n3 5 = 5 from fun n => n (by decide)), n3_k13, n3_add, if_pos (n3_in (by omega) (by omega)), n3_cl (by omega), e, eX, n3_one, n3_add]
  by_cases c : v = W
  · rw [if_neg (show ¬ ¬ n3 v = n3 (a (13 + s)) from fun n => n (by rw [c, hW])), if_neg cm, Option.bind_some, if_neg cm, if_pos (n3_in (by omega) (by omega)), Option.bind_some, n3_cl (by omega), if_pos c]
    rfl
  · rw [if_pos (show ¬ n3 v = n3 (a (13 + s)) by rw [n3_eq (by omega) (by omega), ← hW]; exact c), if_pos (by rw [← n3_one]; exact h01), Option.bind_some, if_neg cm, if_pos (n3_in (by omega) (by omega)), Option.bind_some, n3_cl (by omega), if_neg c]
    rfl
theorem m_stepk (wf : WF a) {s r W k : Nat} (hr : r < 9) (hk : k < 5) (hs : s < a 23) (hW : W = a (13 + s)) : ∀ v μ m, v < 100 → AP μ 0 a → (k + 1 = 0 ∨ WOK μ 246 (bw a r k) 100) → (μ.1 232 31 = 0 ∨ μ.1 232 31 = 1) → g_X9_spent F (m + 1) 36 (n3 s) (n3 r) (n3 (a 26)) (Int64.ofNat (10 ^ (k + 1))) (n3 (4 - k)) (n3 v) μ = g_X9_spent F m 36 (n3 s) (n3 r) (n3 (a 26)) (Int64.ofNat (10 ^ (k + 1))) (n3 (4 - k)) (n3 (v + 1)) (fm_sJ (fm_sI μ 232 31 (if v = W then (if W / a (27 + (4 - k)) * 10 ^ (k + 1) < bwl a r k W then 0 else 1) else μ.1 232 31)) 247 (vp_updL (μ.2.2.1 247) v (Int64.ofNat (bw a r (k + 1) v)))) := by
  intro v μ m hv hp hJ h01
  have hJ : WOK μ 246 (bw a r k) 100 := hJ.resolve_left (by omega)
  have b := wf.1
  have wS := wf.2.2.1 s hs
  have l1 := cool_le v r
  have l2 := cool_le (cool v r) r
  have hb := m_bought (F := F) hp wf (x := v) (t := 4 - k) (by omega) (by omega)
  have d := Nat.div_le_self v (a (27 + (4 - k)))
  have e := (hp.z.2.2.2.1 s hs).2.1
  have p := p10_le (n := k + 1) (by omega)
  have lb := bwl_le wf r k v hv
  have j4 := Nat.mul_le_mul (show v / a (27 + (4 - k)) ≤ 99 by omega) p.2
  have eX : Int64.ofNat (10 ^ (k + 1)) * (n3 (v / a (27 + (4 - k)))).toInt64 = Int64.ofNat (v / a (27 + (4 - k)) * 10 ^ (k + 1)) := by
    rw [n3_64 (by omega), ← Int64.ofNat_mul, Nat.mul_comm]
  have eY : Int64.ofNat (a 26) * Int64.ofNat (bw a r k (cool (cool v r) r)) + Int64.ofNat (10 - a 26) * Int64.ofNat (bw a r k (cool v r)) = Int64.ofNat (bwl a r k v) := by
    rw [← Int64.ofNat_mul, ← Int64.ofNat_mul, ← Int64.ofNat_add, Nat.add_comm, bwl]
  have eB : bw a r (k + 1) v = mx (v / a (27 + (4 - k)) * 10 ^ (k + 1)) (bwl a r k v) := by rw [bw, bwl]
  rw [g_X9_spent, if_neg (by decide), if_pos rfl, b_X9_spent_36, if_neg (by rw [n3_lit, n3_le (by omega) (by omega)]; omega), hb, Option.bind_some]
  dsimp only
  rw [if_pos (show ¬ n3 (4 - k) = 5 by rw [n3_lit, n3_eq (by omega) (by omega)]; omega), m_windy hv hr, Option.bind_some]
  dsimp only
  rw [if_pos (n3_in (by omega) (by omega)), m_cooled hv hr, Option.bind_some]
  dsimp only
  rw [if_pos (n3_in (by omega) (by omega)), n3_cl (by omega), n3_cl (by omega), hJ _ (by omega), hJ _ (by omega), n3_k10, n3_sub (by omega), n3_64 (by omega), n3_64 (by omega), eY, Option.bind_some, n3_k13, n3_add, if_pos (n3_in (by omega) (by omega)), n3_cl (by omega), e, eX, n3_one, n3_add]
  by_cases cc : v / a (27 + (4 - k)) * 10 ^ (k + 1) < bwl a r k v
  · have cm : lg_cmp (Int64.ofNat (v / a (27 + (4 - k)) * 10 ^ (k + 1))) (Int64.ofNat (bwl a r k v)) < 0 := by
      rw [lt_cmp, l_big (by omega), l_big (by omega)]; omega
    rw [eB, mx, if_pos cc]
    by_cases c : v = W
    · rw [if_neg (show ¬ ¬ n3 v = n3 (a (13 + s)) from fun n => n (by rw [c, hW])), if_pos cm, Option.bind_some, if_pos cm, if_pos (n3_in (by omega) (by omega)), Option.bind_some, n3_cl (by omega), if_pos c, ← c, if_pos cc]
      rfl
    · rw [if_pos (show ¬ n3 v = n3 (a (13 + s)) by rw [n3_eq (by omega) (by omega), ← hW]; exact c), if_pos (by rw [← n3_one]; exact h01), Option.bind_some, if_pos cm, if_pos (n3_in (by omega) (by omega)), Option.bind_some, n3_cl (by omega), if_neg c]
      rfl
  · have cm : ¬ lg_cmp (Int64.ofNat (v / a (27 + (4 - k)) * 10 ^ (k + 1))) (Int64.ofNat (bwl a r k v)) < 0 := by
      rw [lt_cmp, l_big (by omega), l_big (by omega)]; omega
    rw [eB, mx, if_neg cc]
    by_cases c : v = W
    · rw [if_neg (show ¬ ¬ n3 v = n3 (a (13 + s)) from fun n => n (by rw [c, hW])), if_neg cm, Option.bind_some, if_neg cm, if_pos (n3_in (by omega) (by omega)), Option.bind_some, n3_cl (by omega), if_pos c, ← c, if_neg cc]
      rfl
    · rw [if_pos (show ¬ n3 v = n3 (a (13 + s)) by rw [n3_eq (by omega) (by omega), ← hW]; exact c), if_pos (by rw [← n3_one]; exact h01), Option.bind_some, if_neg cm, if_pos (n3_in (by omega) (by omega)), Option.bind_some, n3_cl (by omega), if_neg c]
      rfl
/-- one minute of the reference's table -/
theorem m_sp_row {nv p : Nat → Nat} {W k t : Nat} {x1 x2 x3 : Int32} {x4 : Int64} {fl : Int32} (wf : WF a) (hW : W < 100) (ht : t ≤ 5) (hfl : fl = 0 ∨ fl = 1) (step : ∀ v μ m, v < 100 → AP μ 0 a → (k = 0 ∨ WOK μ 246 p 100) → (μ.1 232 31 = 0 ∨ μ.1 232 31 = 1) → g_X9_spent F (m + 1) 36 x1 x2 x3 x4 (n3 t) (n3 v) μ = g_X9_spent F m 36 x1 x2 x3 x4 (n3 t) (n3 (v + 1)) (fm_sJ (fm_sI μ 232 31 (if v = W then fl else μ.1 232 31)) 247 (vp_updL (μ.2.2.1 247) v (Int64.ofNat (nv v))))) (m : Nat) (μ : fm_M) (hp : AP μ 0 a) (hk : k = 0 ∨ WOK μ 246 p 100) (h01 : μ.1 232 31 = 0 ∨ μ.1 232 31 = 1) : ∃ ν, g_X9_spent F (m + 203) 28 x1 x2 x3 x4 (n3 t) 0 μ = g_X9_spent F m 28 x1 x2 x3 (x4 * Int64.ofNat 10) (n3 t + -1) 0 ν ∧ AP ν 0 a ∧ ν.1 232 31 = fl ∧ WOK ν 246 nv 100 ∧ Ch (fun q j => q = 232 ∧ j = 31) (fun _ _ => False) μ ν := by
  obtain ⟨μ1, r1, r2, r3, r4, r5, r6⟩ := m_sp_l (F := F) wf hfl step 100 0 (m + 101) μ (by omega) hp hk h01 (by omega) (fun u hu => by omega)
  obtain ⟨μ2, q1, q2, q3, q4, q5⟩ := m_sp_c (F := F) (x1 := x1) (x2 := x2) (x3 := x3) (x6 := n3 t) (x4 := x4) wf 100 0 m μ1 (by omega) r2 r5 (fun u hu => by omega)
  refine ⟨μ2, ?_, q2, by rw [q4]; exact r3 hW, q3, r6.trans (q5.weak (fun _ _ c => False.elim c) (fun _ _ c => c))⟩
  rw [show m + 203 = m + 101 + 100 + 1 + 1 by omega, g_X9_spent, if_pos rfl, b_X9_spent_28, if_neg (by rw [n3_k0, n3_lt (by omega) (by omega)]; omega)]
  exact r1.trans q1
theorem sub_k {k : Nat} (h : k ≤ 4) : n3 5 - n3 (k + 1 + 1) = n3 (4 - k) + -1 := by
  rcases (show k = 0 ∨ k = 1 ∨ k = 2 ∨ k = 3 ∨ k = 4 by omega) with rfl | rfl | rfl | rfl | rfl <;> decide
theorem m_sp_out (wf : WF a) {s r : Nat} (hr : r < 9) (hs : s < a 23) : ∀ (K k m : Nat) (μ : fm_M), k + K = 5 → AP μ 0 a → WOK μ 246 (bw a r k) 100 → (μ.1 232 31 = if k = 0 then 1 else if a (13 + s) / a (27 + (5 - k)) * 10 ^ k < bwl a r (k - 1) (a (13 + s)) then 0 else 1) → ∃ ν, g_X9_spent F (m + 1 + K * 203) 28 (n3 s) (n3 r) (n3 (a 26)) (Int64.ofNat (10 ^ (k + 1))) (n3 5 - n3 (k + 1)) 0 μ = some (Int64.ofNat (bw a r 5 (a (13 + s))), ν) ∧ (ν.1 232 31 = if a (13 + s) / a 27 * 10 ^ 5 < bwl a r 4 (a (13 + s)) then 0 else 1) ∧ Ch (fun q j => q = 232 ∧ j = 31) (fun _ _ => False) μ ν
  | 0, k, m, μ, hk, hp, hw, hf => by
    obtain rfl : k = 5 := by omega
    have b := wf.1
    have wS := wf.2.2.1 s hs
    have e := (hp.z.2.2.2.1 s hs).2.1
    rw [if_neg (by decide), show 5 - 5 = 0 from rfl, show 5 - 1 = 4 from rfl, Nat.add_zero] at hf
    refine ⟨μ, ?_, hf, Ch.refl _ _ μ⟩
    rw [Nat.zero_mul, Nat.add_zero, g_X9_spent, if_pos rfl, b_X9_spent_28, if_pos (by decide), n3_k13, n3_add, if_pos (n3_in (by omega) (by omega)), n3_cl (by omega), e, if_pos (n3_in (by omega) (by omega)), n3_cl (by omega), hw _ (by omega)]
  | K + 1, k, m, μ, hk, hp, hw, hf => by
    have b := wf.1
    have wS := wf.2.2.1 s hs
    have st := m_stepk (F := F) wf (s := s) (r := r) (W := a (13 + s)) (k := k) hr (by omega) hs rfl
    obtain ⟨μ1, r1, r2, r3, r4, r5⟩ := m_sp_row (F := F) (t := 4 - k) wf (by omega) (by omega) (by split; exact .inl rfl; exact .inr rfl) st (m + 1 + K * 203) μ hp (.inr hw) (by rw [hf]; split; exact .inr rfl; split; exact .inl rfl; exact .inr rfl)
    obtain ⟨ν, q1, q2, q3⟩ := m_sp_out wf hr hs K (k + 1) m μ1 (by omega) r2 r4 (by
      rw [if_neg (show ¬ k + 1 = 0 by omega), r3, show 5 - (k + 1) = 4 - k by omega, Nat.add_sub_cancel])
    refine ⟨ν, ?_, q2, r5.trans q3⟩
    rw [show m + 1 + (K + 1) * 203 = m + 1 + K * 203 + 203 by omega, n3_sub (show k + 1 ≤ 5 by omega), show 5 - (k + 1) = 4 - k by omega, r1, ← q1, ← Int64.ofNat_mul, ← Nat.pow_succ, sub_k (show k ≤ 4 by omega)]
theorem m_spent (hp : AP μ 0 a) (wf : WF a) {s : Nat} (hs : s < a 23) (hF : 2000 < F) : ∃ ν, f_X9_spent F (n3 s) μ = some (Int64.ofNat (bw a (rate a s) 5 (a (13 + s))), ν) ∧ (ν.1 232 31 = if a (13 + s) / a 27 * 10 ^ 5 < bwl a (rate a s) 4 (a (13 + s)) then 0 else 1) ∧ Ch (fun q j => q = 232 ∧ j = 31) (fun _ _ => False) μ ν := by
  have b := wf.1
  have wS := wf.2.2.1 s hs
  have r8 := rate_le a s
  have kr : f_X9_rateOn F 0 (n3 s) μ = some (n3 (rate a s), μ) := m_rateOn (F := F) hp wf (by omega) hs
  have k26 := hp.z.2.1.2.2.2.1
  obtain ⟨m, hm⟩ : ∃ m, F = m + 1 + 5 * 203 + 203 := ⟨F - 1219, by omega⟩
  have c0 : Ch (fun q j => q = 232 ∧ j = 31) (fun _ _ => False) μ (fm_sI μ 232 31 0) := (Ch.refl _ _ μ).sI (by omega)
  have hp0 := hp.ch wf c0 (by omega) (by omega) (fun _ => id) (fun _ => id) (fun _ _ _ => id)
  have st := m_step5 (F := F) (r := rate a s) (x3 := n3 (a 26)) wf (s := s) (W := a (13 + s)) hs rfl
  obtain ⟨μ1, r1, r2, r3, r4, r5⟩ := m_sp_row (F := F) (t := 5) wf (by omega) (by omega) (.inr rfl) st (m + 1 + 5 * 203) (fm_sI μ 232 31 0) hp0 (.inl rfl) (.inl (fm_sI_eq ⟨rfl, rfl⟩))
  obtain ⟨ν, q1, q2, q3⟩ := m_sp_out (F := F) wf (s := s) (r := rate a s) (by omega) hs 5 0 m μ1 (by omega) r2 r4 (by rw [r3, if_pos rfl])
  refine ⟨ν, ?_, q2, (c0.trans r5).trans q3⟩
  unfold f_X9_spent
  rw [kr, Option.bind_some, if_pos (by decide), Option.bind_some]
  dsimp only
  rw [show (26 : Int32).toNatClampNeg = 26 from rfl, k26, n3_k2, n3_sc, ← q1]
  rw [← hm] at r1
  rw [show (5 : Int32) = n3 5 from n3_lit 5, r1, ← Int64.ofNat_mul]
  rfl
theorem ok_spend (h : R μ) (hF : 2000 < F) (x y : Int32) : OK2L (f_X8_spend F x y) (f_X9_spend F x y) μ := by
  obtain ⟨a, wf, bm, hw, hp⟩ := h.1
  have b := wf.1
  rcases n3_cases x (a 23) (by omega) with ⟨s, hs, rfl⟩ | hx
  · have hd := c_stoneT (F := F) hw wf hs
    have kd := m_stoneT (F := F) hp wf hs
    rcases n3_cases y 3 (by decide) with ⟨j, hj, rfl⟩ | hy
    · have hr := c_rateOf (F := F) hw wf hs
      have r8 := rate_le a s
      have wS := wf.2.2.1 s hs
      have e := hw.z.2.2.1 s hs
      have hb := c_bought (F := F) hw wf (x := a (13 + s)) (t := 0) (by omega) (by omega)
      have d := Nat.div_le_self (a (13 + s)) (a 27)
      have lt := c_later (F := F) (rec := f_X8_weightBought F 8) hw wf (r := rate a s) (k := 4) (v := a (13 + s)) (t := 0) (by omega) (by omega) (fun u hu => c_bw hw wf (by omega) 4 8 u 1 (by omega) (by omega) hu)
      have lb := bwl_le wf (rate a s) 4 (a (13 + s)) (by omega)
      have bl := bw_le wf (rate a s) 5 (a (13 + s)) (by omega)
      have j4 := Nat.mul_le_mul_right 100000 (show a (13 + s) / a 27 ≤ 99 by omega)
      have eB : bw a (rate a s) 5 (a (13 + s)) = mx (a (13 + s) / a 27 * 100000) (bwl a (rate a s) 4 (a (13 + s))) := by
        rw [bw, bwl]
      obtain ⟨ν, s1, s2, s3⟩ := m_spent (F := F) hp wf hs hF
      have hR : R ν := h.free (s3.weak (fun q j c => by omega) (fun q j c => False.elim c))
      have eX : (n3 (a (13 + s) / a 27)).toInt64 * ab_p10.getD 5 0 = Int64.ofNat (a (13 + s) / a 27 * 100000) := by
        rw [n3_64 (by omega), p10_n (by omega), ← Int64.ofNat_mul]
      have t8 : f_X8_spend F (n3 s) (n3 j) μ = (if ¬ n3 j = n3 2 then (Option.bind (f_J9_max_f86c9 F (Int64.ofNat (a (13 + s) / a 27 * 100000)) (Int64.ofNat (bwl a (rate a s) 4 (a (13 + s)))) μ) (fun q16 => (Option.bind (f_X8_fractionPart F q16.1 (n3 5) (n3 j) q16.2) (fun q18 => some (q18.1, q18.2))))) else (if (lg_cmp (Int64.ofNat (a (13 + s) / a 27 * 100000)) (Int64.ofNat (bwl a (rate a s) 4 (a (13 + s))))) < 0 then some ((Int64.ofNat 0), μ) else some ((Int64.ofNat 1), μ))) := by
        unfold f_X8_spend
        rw [hd, Option.bind_some, if_neg (show ¬ n3 1 = 0 by decide)]
        dsimp only
        rw [n3_k0, n3_k2, c_isInT (by omega) (by omega) (by omega), Option.bind_some, if_pos (show ¬ n3 1 = n3 0 by decide), if_pos (n3_in (by omega) (by omega)), n3_cl (by omega)]
        dsimp only
        rw [hr, Option.bind_some]
        dsimp only
        rw [e.2.1, hb, Option.bind_some, if_pos (by decide)]
        dsimp only
        rw [lt, Option.bind_some]
        dsimp only
        rw [show (5 : Int32).toNatClampNeg = 5 from rfl, eX, show (5 : Int32) = n3 5 from n3_lit 5]
      have t9 : f_X9_spend F (n3 s) (n3 j) μ = (if ¬ n3 j = n3 2 then (Option.bind (f_X9_lowest F (Int64.ofNat (bw a (rate a s) 5 (a (13 + s)))) (Int64.ofNat 100000) (n3 j) ν) (fun q10 => some (q10.1, q10.2))) else (if (ν.1 232 31) = 0 then some ((Int64.ofNat 0), ν) else some ((Int64.ofNat 1), ν))) := by
        unfold f_X9_spend
        rw [kd, Option.bind_some, if_neg (show ¬ n3 1 = 0 by decide)]
        dsimp only
        rw [m_inT (by omega) (by omega) (by omega), Option.bind_some, if_pos (show ¬ n3 1 = 0 by decide)]
        dsimp only
        rw [s1, Option.bind_some, n3_k2]
      by_cases c : j = 2
      · subst c
        rw [if_neg (fun n => n rfl)] at t8 t9
        by_cases cc : a (13 + s) / a 27 * 100000 < bwl a (rate a s) 4 (a (13 + s))
        · refine ⟨Int64.ofNat 0, μ, ν, ?_, ?_, hR⟩
          · rw [t8, if_pos (by rw [lt_cmp, l_big (by omega), l_big (by omega)]; omega)]
          · rw [t9, s2, if_pos (if_pos cc)]
        · refine ⟨Int64.ofNat 1, μ, ν, ?_, ?_, hR⟩
          · rw [t8, if_neg (by rw [lt_cmp, l_big (by omega), l_big (by omega)]; omega)]
          · rw [t9, s2, if_neg (by rw [if_neg (by exact cc)]; decide)]
      · rw [if_pos (by rw [n3_eq (by omega) (by omega)]; exact c)] at t8 t9
        refine ⟨frP (bw a (rate a s) 5 (a (13 + s))) 5 (n3 j), μ, ν, ?_, ?_, hR⟩
        · rw [t8, c_maxL (by omega) (by omega), Option.bind_some, ← eB]
          dsimp only
          rw [c_frac (by omega) (by omega) (by omega), Option.bind_some]
        · rw [t9, show (100000 : Nat) = 10 ^ 5 from rfl, m_frac (by omega) (by omega) (by omega), Option.bind_some]
    · refine OK2L.same h (v := Int64.ofNat 18446744073709551615) ?_ ?_
      · simp (disch := omega) only [f_X8_spend, ↓reduceIte, Option.bind_some, n3_lit, n3_cl, n3_in, n3_ltT, n3_ltF, n3_leT, n3_leF, n3_eqT, n3_eqF, n3_add, n3_sub, not_true_eq_false, not_false_eq_true, true_or, or_true, false_or, or_false, Nat.zero_add, Nat.add_zero, nn_lt, nn_le, nn_gt, nn_ge, nn_eq, nn_qe, hd, c_isInN hy]
      · simp (disch := omega) only [f_X9_spend, ↓reduceIte, Option.bind_some, n3_lit, n3_cl, n3_in, n3_ltT, n3_ltF, n3_leT, n3_leF, n3_eqT, n3_eqF, n3_add, n3_sub, not_true_eq_false, not_false_eq_true, true_or, or_true, false_or, or_false, Nat.zero_add, Nat.add_zero, nn_lt, nn_le, nn_gt, nn_ge, nn_eq, nn_qe, kd, m_inO hy]
  · refine OK2L.same h (v := Int64.ofNat 18446744073709551615) ?_ ?_
    · simp (disch := omega) only [f_X8_spend, ↓reduceIte, Option.bind_some, n3_lit, n3_cl, n3_in, n3_ltT, n3_ltF, n3_leT, n3_leF, n3_eqT, n3_eqF, n3_add, n3_sub, not_true_eq_false, not_false_eq_true, true_or, or_true, false_or, or_false, Nat.zero_add, Nat.add_zero, nn_lt, nn_le, nn_gt, nn_ge, nn_eq, nn_qe, c_stoneF hw hx]
    · simp (disch := omega) only [f_X9_spend, ↓reduceIte, Option.bind_some, n3_lit, n3_cl, n3_in, n3_ltT, n3_ltF, n3_leT, n3_leF, n3_eqT, n3_eqF, n3_add, n3_sub, not_true_eq_false, not_false_eq_true, true_or, or_true, false_or, or_false, Nat.zero_add, Nat.add_zero, nn_lt, nn_le, nn_gt, nn_ge, nn_eq, nn_qe, m_stoneF hp wf hx]
end VS52
