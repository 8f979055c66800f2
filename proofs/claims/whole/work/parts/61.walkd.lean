/-! the fewest walks: the class's answer -/
def oW : Option Nat → Int32
  | none => -n3 4
  | some j => n3 j
def fnd (D H r w0 n j : Nat) : Option Nat := if 0 < FN D H r w0 n j then some j else none
section VS61
variable {F : Nat} {μ ν : fm_M} {a b : Nat → Nat} {w : Nat}
theorem fm_sW_1 (μ : fm_M) (p q : Nat) : (fm_sW μ p q).1 = μ.1 := rfl
theorem fm_sW_2 (μ : fm_M) (p q : Nat) : (fm_sW μ p q).2.1 = μ.2.1 := rfl
theorem fm_sW_4 (μ : fm_M) (p q : Nat) : (fm_sW μ p q).2.2.2 = (p, q) := rfl
theorem Ch.sW {pI pA : Nat → Nat → Prop} (h : Ch pI pA μ ν) {p q p' q' : Nat} : Ch pI pA (fm_sW (fm_sW μ p q) p' q') ν ↔ Ch pI pA (fm_sW μ p' q') ν := Iff.rfl
theorem wrow_n {D H r n : Nat} {old : Nat → Nat} : ∀ t, t < n → wrow D H r n old n t = bsW D H r old t := by
  intro t ht
  unfold wrow bsW
  rw [if_neg (by omega)]
  by_cases c : 2 * D + 1 ≤ t
  · rw [if_pos (by omega), if_pos c]
  · rw [if_neg (by omega), if_neg c]
theorem FN_s {D H r w0 n j : Nat} : stR r (wrow D H r n (PR D H r w0 j) n) n = FN D H r w0 n (j + 1) := by
  rw [FN]
  cases n with
  | zero =>
    rw [stR, if_pos rfl]
    unfold wrow
    rw [if_pos rfl, bn]
    rfl
  | succ m =>
    rw [stR, if_neg (by omega), Nat.add_sub_cancel]
    congr 1
    · unfold wrow
      rw [if_pos rfl]
    · rw [PR, stR_congr m (fun i hi => wrow_n i (by omega))]
theorem c_once {p q n r D H : Nat} {old : Nat → Nat} (hp : (p = 202 ∧ q = 203) ∨ (p = 203 ∧ q = 202)) (hn : n ≤ 60) (hr : r < 9) (hD : D ≤ 9) (hH : H ≤ 99) (ho : ∀ t, old t ≤ 99) (hF : 100 < F) (hs : WS n r D H μ) (hw : μ.2.2.2 = (p, q)) (h1 : ∀ x, x < n → μ.2.1 p x = n3 (old x)) : ∃ ν, f_X6_walkOnce F μ = some ((), ν) ∧ (∀ x, x ≤ 60 → ν.2.1 q x = n3 (wrow D H r n old n x)) ∧ Ch (fun _ _ => False) (fun b _ => b = q) (fm_sW μ q p) ν := by
  have w1 : μ.2.2.2.1 = p := by rw [hw]
  have w2 : μ.2.2.2.2 = q := by rw [hw]
  obtain ⟨m1, q1, q2, q3⟩ := c_clear (F := F) (μ := fm_sW μ q p) (p := q) (by omega) rfl hF
  have hs1 : WS n r D H m1 := WS.ch (μ := fm_sW μ q p) hs q3 (fun _ => id)
  obtain ⟨ν, r1, r2, r3⟩ := c_once_l (F := F) (p := q) (q := p) (old := old) (by omega) hn hr hD hH ho hF n 0 F m1 (by omega) (by omega) hs1 q3.2.2 (fun x hx => by rw [q3.2.1 p x (by omega), fm_sW_2]; exact h1 x hx) (fun x hx => by
    rw [q2 x (by omega)]
    unfold wrow
    split
    · rw [bn]
    · rw [if_neg (by omega)])
  refine ⟨ν, ?_, r2, q3.trans r3⟩
  unfold f_X6_walkOnce
  rw [Option.bind_some, Option.bind_some, w1, w2]
  have e : fm_sW (fm_sW μ p p) q (fm_sW μ p p).2.2.2.2 = fm_sW μ q p := rfl
  rw [e, q1, Option.bind_some]
  exact r1
theorem c_least_l {n r D H w0 : Nat} (hn : n ≤ 60) (hr : r < 9) (hD : D ≤ 9) (hH : H ≤ 99) (hw0 : w0 ≤ 99) (hF : 100 < F) : ∀ (K j f p q : Nat) (μ : fm_M), j + K = n + 1 → K < f → ((p = 202 ∧ q = 203) ∨ (p = 203 ∧ q = 202)) → WS n r D H μ → μ.2.2.2 = (p, q) → (∀ t, t < n → μ.2.1 p t = n3 (PR D H r w0 j t)) → (μ.2.1 p n = n3 (FN D H r w0 n j) ∧ FN D H r w0 n j ≤ 99) → ∃ ν p' q', g_X6_leastWalks F f 66 (n3 j) μ = some (oW (frs (fnd D H r w0 n) K j), ν) ∧ ((p' = 202 ∧ q' = 203) ∨ (p' = 203 ∧ q' = 202)) ∧ Ch (fun _ _ => False) (fun b _ => b = 202 ∨ b = 203) (fm_sW μ p' q') ν
  | 0, j, f + 1, p, q, μ, hj, _, hp, hs, hw, h1, h2 => by
    refine ⟨μ, p, q, ?_, hp, ?_⟩
    · rw [g_X6_leastWalks, if_pos rfl, b_X6_leastWalks_66, hs.1, if_pos (by rw [n3_lt (by omega) (by omega)]; omega), n3_k4]
      rfl
    · exact ⟨fun _ _ _ => rfl, fun _ _ _ => rfl, hw⟩
  | K + 1, j, f + 1, p, q, μ, hj, hf, hp, hs, hw, h1, h2 => by
    have w1 : μ.2.2.2.1 = p := by rw [hw]
    have hp' : p = 202 ∨ p = 203 := by omega
    rw [g_X6_leastWalks, if_pos rfl, b_X6_leastWalks_66, hs.1, if_neg (by rw [n3_lt (by omega) (by omega)]; omega), w1, if_pos (inA_W2 hp' (by omega)), n3_cl (by omega), h2.1, frs]
    by_cases c : 0 < FN D H r w0 n j
    · have e : fnd D H r w0 n j = some j := if_pos c
      refine ⟨μ, p, q, ?_, hp, ⟨fun _ _ _ => rfl, fun _ _ _ => rfl, hw⟩⟩
      rw [if_neg (by rw [n3_k0, n3_le (by omega) (by omega)]; omega), e]
      rfl
    · have e : fnd D H r w0 n j = none := if_neg c
      have pl := PR_le (D := D) (r := r) hH hw0 j
      obtain ⟨m1, q1, q2, q3⟩ := c_once (F := F) hp hn hr hD hH pl hF hs hw h1
      have hs1 : WS n r D H m1 := WS.ch (μ := fm_sW μ q p) hs q3 (fun _ => id)
      obtain ⟨m2, s1, s2, s3⟩ := c_stay (F := F) (p := q) (base := wrow D H r n (PR D H r w0 j) n) (by omega) hn hr (fun t => wrow_le hH pl n t) hs1 (by rw [q3.2.2]; rfl) q2 hF
      have c3 : Ch (fun _ _ => False) (fun b _ => b = 202 ∨ b = 203) (fm_sW μ q p) m2 := (q3.weak (fun _ _ c => c) (fun b _ c => by omega)).trans (s3.weak (fun _ _ c => c) (fun b _ c => by omega))
      have hfn := s2 n (Nat.le_refl _)
      rw [FN_s] at hfn
      have fl : FN D H r w0 n (j + 1) ≤ 99 := by rw [← FN_s]; exact stR_le (fun t => wrow_le hH pl n t) n
      obtain ⟨ν, p', q', r1, r2, r3⟩ := c_least_l hn hr hD hH hw0 hF K (j + 1) f q p m2 (by omega) (by omega) (by omega) (hs1.ch s3 (fun _ => id)) (by rw [s3.2.2, q3.2.2]; rfl) (fun t ht => by
        rw [s2 t (by omega), PR]
        exact congrArg n3 (stR_congr t (fun i hi => wrow_n i (by omega)))) ⟨hfn, fl⟩
      refine ⟨ν, p', q', ?_, r2, ?_⟩
      · rw [if_pos (by rw [n3_k0, n3_le (by omega) (by omega)]; omega), e, q1, Option.bind_some]
        dsimp only
        rw [s1, Option.bind_some, n3_one, n3_add]
        exact r1
      · exact ⟨fun x y h => (r3.1 x y h).trans (c3.1 x y h), fun x y h => (r3.2.1 x y h).trans (c3.2.1 x y h), r3.2.2⟩
theorem c_least (hw : AW μ 101 a) (wf : WF a) {s n : Nat} (hs : s < a 23) (hn : n ≤ 60) (hc : μ.2.2.2 = (202, 203) ∨ μ.2.2.2 = (203, 202)) (hF : 100 < F) : ∃ ν p' q', f_X6_leastWalks F (n3 s) (n3 n) μ = some (oW (frs (fnd (ovenW a s) (a 25) (rate a s) (a (13 + s)) n) (n + 1) 0), ν) ∧ ((p' = 202 ∧ q' = 203) ∨ (p' = 203 ∧ q' = 202)) ∧ Ch (fun q _ => q = 201) (fun b _ => b = 202 ∨ b = 203) (fm_sW μ p' q') ν := by
  have b4 := wf.1
  have wS := wf.2.2.1 s hs
  have r8 := rate_le a s
  have bo := ovenW_le wf hs
  obtain ⟨p, q, hpq, hw3⟩ : ∃ p q, ((p = 202 ∧ q = 203) ∨ (p = 203 ∧ q = 202)) ∧ μ.2.2.2 = (p, q) := by
    rcases hc with c | c
    · exact ⟨202, 203, .inl ⟨rfl, rfl⟩, c⟩
    · exact ⟨203, 202, .inr ⟨rfl, rfl⟩, c⟩
  generalize hm1 : fm_sI μ 201 2 (n3 n) = m1
  have c1 : Ch (fun q _ => q = 201) (fun _ _ => False) μ m1 := by rw [← hm1]; exact (Ch.refl _ _ μ).sI rfl
  have hw1 : AW m1 101 a := hw.ch c1 (by omega) (fun _ _ _ _ => id)
  have e1 := c_rateOf (F := F) hw1 wf hs
  generalize hm2 : fm_sI m1 201 3 (n3 (rate a s)) = m2
  have c2 : Ch (fun q _ => q = 201) (fun _ _ => False) m1 m2 := by rw [← hm2]; exact (Ch.refl _ _ m1).sI rfl
  have hw2 : AW m2 101 a := hw1.ch c2 (by omega) (fun _ _ _ _ => id)
  have e2 := c_ovenW (F := F) hw2 wf hs
  generalize hm3 : fm_sI m2 201 4 (n3 (ovenW a s)) = m3
  have c3 : Ch (fun q _ => q = 201) (fun _ _ => False) m2 m3 := by rw [← hm3]; exact (Ch.refl _ _ m2).sI rfl
  have hw4 : AW m3 101 a := hw2.ch c3 (by omega) (fun _ _ _ _ => id)
  have e3 : m3.1 101 8 = n3 (a 25) := hw4.z.1.2.2.2.1
  generalize hm4 : fm_sI m3 201 5 (n3 (a 25)) = m4
  have c4 : Ch (fun q _ => q = 201) (fun _ _ => False) m3 m4 := by rw [← hm4]; exact (Ch.refl _ _ m3).sI rfl
  have cc := ((c1.trans c2).trans c3).trans c4
  have ws : WS n (rate a s) (ovenW a s) (a 25) m4 := by
    refine ⟨?_, ?_, ?_, ?_⟩
    · rw [← hm4, ← hm3, ← hm2, ← hm1]; simp (disch := omega) only [fm_sI_ne, fm_sI_eq]
    · rw [← hm4, ← hm3, ← hm2]; simp (disch := omega) only [fm_sI_ne, fm_sI_eq]
    · rw [← hm4, ← hm3]; simp (disch := omega) only [fm_sI_ne, fm_sI_eq]
    · rw [← hm4]; simp (disch := omega) only [fm_sI_eq]
  have hw5 : m4.2.2.2 = (p, q) := by rw [cc.2.2]; exact hw3
  obtain ⟨m5, q1, q2, q3⟩ := c_clear (F := F) (μ := m4) (p := p) (by omega) (by rw [hw5]) hF
  have ew : m5.2.1 105 s = n3 (a (13 + s)) := by rw [q3.2.1 105 s (by omega), cc.2.1 105 s id]; exact (hw.z.2.2.1 s hs).2.1
  have ol := orP_le (a (13 + s))
  have w5 : m5.2.2.2 = (p, q) := by rw [q3.2.2]; exact hw5
  have w51 : m5.2.2.2.1 = p := by rw [w5]
  generalize hm6 : fm_sA m5 p (upd (m5.2.1 p) 0 (n3 (orP (a (13 + s))))) = m6
  have c6 : Ch (fun _ _ => False) (fun b _ => b = p) m5 m6 := by rw [← hm6]; exact (Ch.refl _ _ m5).sG (fun _ => rfl)
  have ws6 : WS n (rate a s) (ovenW a s) (a 25) m6 := (ws.ch q3 (fun _ => id)).ch c6 (fun _ => id)
  obtain ⟨m7, s1, s2, s3⟩ := c_stay (F := F) (μ := m6) (p := p) (base := bs0 (a (13 + s))) (by omega) hn (by omega) (fun t => by unfold bs0; split <;> omega) ws6 (by rw [c6.2.2, w5]) (fun t ht => by
    rw [← hm6, fm_sA_eq rfl]
    unfold bs0
    by_cases c : t = 0
    · rw [upd_eq c, if_pos c]
    · rw [upd_ne c, if_neg c]; exact q2 t (by omega)) hF
  obtain ⟨ν, p', q', r1, r2, r3⟩ := c_least_l (F := F) (w0 := a (13 + s)) hn (by omega) (by omega) (by omega) (by omega) hF (n + 1) 0 F p q m7 (by omega) (by omega) hpq (ws6.ch s3 (fun _ => id)) (by rw [s3.2.2, c6.2.2]; exact w5) (fun t ht => s2 t (by omega)) ⟨s2 n (Nat.le_refl _), PR_le (D := ovenW a s) (H := a 25) (r := rate a s) (w0 := a (13 + s)) (by omega) (by omega) 0 n⟩
  refine ⟨ν, p', q', ?_, r2, ?_⟩
  · unfold f_X6_leastWalks
    rw [n3_k60, c_min (by omega) (by omega), Option.bind_some, show min n 60 = n by omega, n3_k0]
    dsimp only
    rw [c_max (by omega) (by omega), Option.bind_some, show mx 0 n = n by unfold mx; split <;> omega, Option.bind_some]
    dsimp only
    rw [hm1, e1, Option.bind_some, Option.bind_some]
    dsimp only
    rw [hm2, e2, Option.bind_some, Option.bind_some]
    dsimp only
    rw [hm3, Option.bind_some, e3, hm4, q1, Option.bind_some, if_pos (n3_in (by omega) (by omega)), n3_cl (by omega)]
    dsimp only
    rw [ew, c_orP (by omega), Option.bind_some, w51, if_pos (inA_W2 (by omega) (by omega)), Option.bind_some, n3_cl (by omega)]
    dsimp only
    rw [hm6, s1, Option.bind_some]
    exact r1
  · have t : ∀ x y, ¬ x = 201 → m7.1 x y = μ.1 x y := fun x y h => by rw [s3.1 x y id, c6.1 x y id, q3.1 x y id, cc.1 x y h]
    have t2 : ∀ x y, ¬ (x = 202 ∨ x = 203) → m7.2.1 x y = μ.2.1 x y := fun x y h => by rw [s3.2.1 x y (by omega), c6.2.1 x y (by omega), q3.2.1 x y (by omega), cc.2.1 x y id]
    exact ⟨fun x y h => (r3.1 x y id).trans (t x y h), fun x y h => (r3.2.1 x y h).trans (t2 x y h), r3.2.2⟩
/-! order -/
theorem v_mono : ((List.range 99).all fun v => (List.range 9).all fun r => decide (cool v r ≤ cool (v + 1) r)) = true := by decide +kernel
theorem cool_mono {r : Nat} (hr : r < 9) : ∀ (d v : Nat), v + d ≤ 99 → cool v r ≤ cool (v + d) r
  | 0, v, _ => Nat.le_refl _
  | d + 1, v, h => by
    have i := cool_mono hr d v (by omega)
    have j := of_decide_eq_true (List.all_eq_true.mp (List.all_eq_true.mp v_mono (v + d) (List.mem_range.mpr (by omega))) r (List.mem_range.mpr hr))
    rw [← Nat.add_assoc]
    omega
theorem cool_m {r v u : Nat} (hr : r < 9) (h : v ≤ u) (hu : u ≤ 99) : cool v r ≤ cool u r := by
  have := cool_mono hr (u - v) v (by omega)
  rwa [show v + (u - v) = u by omega] at this
theorem orP_m {v u : Nat} (h : v ≤ u) : orP v ≤ orP u := by unfold orP; split <;> split <;> omega
theorem mx_m {v u H : Nat} (h : v ≤ u) : mx v H ≤ mx u H := by unfold mx; split <;> split <;> omega
theorem wu_m {D H r : Nat} (hr : r < 9) (hH : H ≤ 99) : ∀ (K k v u : Nat), v ≤ u → u ≤ 99 → wu D H r K k v ≤ wu D H r K k u
  | 0, _, v, u, h, _ => h
  | K + 1, k, v, u, h, hu => by
    rw [wu, wu]
    by_cases c : v = 0
    · rw [if_pos c]; exact Nat.zero_le _
    · rw [if_neg c, if_neg (show ¬ u = 0 by omega)]
      by_cases c2 : k = D + 1
      · rw [if_pos c2, if_pos c2]
        exact wu_m hr hH K (k + 1) _ _ (mx_m h) (by rcases mx_or (x := u) (y := H) with c | c <;> omega)
      · rw [if_neg c2, if_neg c2]
        have := orP_le (cool u r)
        have := cool_le u r
        exact wu_m hr hH K (k + 1) _ _ (orP_m (cool_m hr h hu)) (by omega)
/-- a walk, as the reference does it: step k of K, checked up to the last minute -/
def wk (D H r n t : Nat) : Nat → Nat → Nat → Option Nat
  | 0, _, v => some v
  | K + 1, k, v => if t + k ≤ n ∧ (if k = D + 1 then mx v H else cool v r) < 5 then none else wk D H r n t K (k + 1) (if k = D + 1 then mx v H else cool v r)
theorem wu_pos {D H r : Nat} (hH : 5 ≤ H) : ∀ (K k v : Nat), v = 0 ∨ 5 ≤ v → wu D H r K k v = 0 ∨ 5 ≤ wu D H r K k v
  | 0, _, v, h => h
  | K + 1, k, v, h => by
    rw [wu]
    split
    · exact .inl rfl
    · refine wu_pos hH K (k + 1) _ ?_
      split
      · rcases mx_or (x := v) (y := H) with c | c <;> omega
      · rcases orP_or (cool v r) with c | c <;> omega
theorem wk_full {D H r n t : Nat} (hH : 5 ≤ H) : ∀ (K k v : Nat), 5 ≤ v → t + k + K ≤ n + 1 → wk D H r n t K k v = if wu D H r K k v = 0 then none else some (wu D H r K k v)
  | 0, _, v, h, _ => by rw [wk, wu, if_neg (by omega)]
  | K + 1, k, v, h, hk => by
    rw [wk, wu, if_neg (show ¬ v = 0 by omega)]
    by_cases c2 : k = D + 1
    · have m5 : 5 ≤ mx v H := by rcases mx_or (x := v) (y := H) with c | c <;> omega
      rw [if_pos c2, if_pos c2, if_neg (by omega)]
      exact wk_full hH K (k + 1) _ m5 (by omega)
    · rw [if_neg c2, if_neg c2]
      by_cases c3 : cool v r < 5
      · rw [if_pos ⟨by omega, c3⟩, show orP (cool v r) = 0 from if_pos c3, wu_0, if_pos rfl]
      · rw [if_neg (fun q => c3 q.2), show orP (cool v r) = cool v r from if_neg c3]
        exact wk_full hH K (k + 1) _ (by omega) (by omega)
theorem wk_late {D H r n t : Nat} : ∀ (K k v : Nat), n < t + k → ∃ x, wk D H r n t K k v = some x
  | 0, _, v, _ => ⟨v, rfl⟩
  | K + 1, k, v, h => by
    rw [wk, if_neg (by omega)]
    exact wk_late K (k + 1) _ (by omega)
theorem wk_part {D H r n t : Nat} (hH : 5 ≤ H) : ∀ (K1 K2 k v : Nat), 5 ≤ v → t + k + K1 = n + 1 → (wk D H r n t (K1 + K2) k v = none ↔ wu D H r K1 k v = 0)
  | 0, K2, k, v, h, hk => by
    rw [Nat.zero_add, wu]
    obtain ⟨x, hx⟩ := wk_late (D := D) (H := H) (r := r) (n := n) (t := t) K2 k v (by omega)
    rw [hx]
    constructor
    · intro c; cases c
    · intro c; omega
  | K1 + 1, K2, k, v, h, hk => by
    rw [show K1 + 1 + K2 = K1 + K2 + 1 by omega, wk, wu, if_neg (show ¬ v = 0 by omega)]
    by_cases c2 : k = D + 1
    · have m5 : 5 ≤ mx v H := by rcases mx_or (x := v) (y := H) with c | c <;> omega
      rw [if_pos c2, if_pos c2, if_neg (by omega)]
      exact wk_part hH K1 K2 (k + 1) _ m5 (by omega)
    · rw [if_neg c2, if_neg c2]
      by_cases c3 : cool v r < 5
      · rw [if_pos ⟨by omega, c3⟩, show orP (cool v r) = 0 from if_pos c3, wu_0]
        simp only
      · rw [if_neg (fun q => c3 q.2), show orP (cool v r) = cool v r from if_neg c3]
        exact wk_part hH K1 K2 (k + 1) _ (by omega) (by omega)
end VS61
