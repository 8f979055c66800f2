/-! the fewest walks: the reference in memory, both -/
def wkT (F : Nat) (gg : Nat → Int32 → Int32 → Int32 → Int32 → Int32 → fm_M → Option (Int32 × fm_M)) (l1 l2 l3 l4 l5 X : Int32) (ν : fm_M) : Option (Int32 × fm_M) := (Option.bind (f_X9_ovenWay F l1 ν) (fun q25 => (Option.bind (f_X9_walked F l1 l4 l5 l2 q25.2) (fun q27 => (if q27.1 = (-4) then (if q27.1 = (-4) then (if ¬ l4 = l2 then gg 90 l1 l2 l3 l4 (l5 + 1) q27.2 else (if l3 ≤ X then gg 90 l1 l2 l3 l4 (l5 + 1) q27.2 else gg 90 l1 l2 X l4 (l5 + 1) q27.2)) else (if ((l4 + (2 * q25.1)) + 1) ≤ l2 then (if ¬ l4 = l2 then gg 90 l1 l2 l3 l4 (l5 + 1) q27.2 else (if l3 ≤ X then gg 90 l1 l2 l3 l4 (l5 + 1) q27.2 else gg 90 l1 l2 X l4 (l5 + 1) q27.2)) else (if l3 ≤ (X + 1) then (if ¬ l4 = l2 then gg 90 l1 l2 l3 l4 (l5 + 1) q27.2 else (if l3 ≤ X then gg 90 l1 l2 l3 l4 (l5 + 1) q27.2 else gg 90 l1 l2 X l4 (l5 + 1) q27.2)) else (if ¬ l4 = l2 then gg 90 l1 l2 (X + 1) l4 (l5 + 1) q27.2 else (if (X + 1) ≤ X then gg 90 l1 l2 (X + 1) l4 (l5 + 1) q27.2 else gg 90 l1 l2 X l4 (l5 + 1) q27.2))))) else (if l2 < ((l4 + (2 * q25.1)) + 1) then (if q27.1 = (-4) then (if ¬ l4 = l2 then gg 90 l1 l2 l3 l4 (l5 + 1) q27.2 else (if l3 ≤ X then gg 90 l1 l2 l3 l4 (l5 + 1) q27.2 else gg 90 l1 l2 X l4 (l5 + 1) q27.2)) else (if ((l4 + (2 * q25.1)) + 1) ≤ l2 then (if ¬ l4 = l2 then gg 90 l1 l2 l3 l4 (l5 + 1) q27.2 else (if l3 ≤ X then gg 90 l1 l2 l3 l4 (l5 + 1) q27.2 else gg 90 l1 l2 X l4 (l5 + 1) q27.2)) else (if l3 ≤ (X + 1) then (if ¬ l4 = l2 then gg 90 l1 l2 l3 l4 (l5 + 1) q27.2 else (if l3 ≤ X then gg 90 l1 l2 l3 l4 (l5 + 1) q27.2 else gg 90 l1 l2 X l4 (l5 + 1) q27.2)) else (if ¬ l4 = l2 then gg 90 l1 l2 (X + 1) l4 (l5 + 1) q27.2 else (if (X + 1) ≤ X then gg 90 l1 l2 (X + 1) l4 (l5 + 1) q27.2 else gg 90 l1 l2 X l4 (l5 + 1) q27.2))))) else (Option.bind (f_X9_reaches F ((l4 + (2 * q25.1)) + 1) q27.1 (X + 1) q27.2) (fun q53 => (if q27.1 = (-4) then (if ¬ l4 = l2 then gg 90 l1 l2 l3 l4 (l5 + 1) q53.2 else (if l3 ≤ X then gg 90 l1 l2 l3 l4 (l5 + 1) q53.2 else gg 90 l1 l2 X l4 (l5 + 1) q53.2)) else (if ((l4 + (2 * q25.1)) + 1) ≤ l2 then (if ¬ l4 = l2 then gg 90 l1 l2 l3 l4 (l5 + 1) q53.2 else (if l3 ≤ X then gg 90 l1 l2 l3 l4 (l5 + 1) q53.2 else gg 90 l1 l2 X l4 (l5 + 1) q53.2)) else (if l3 ≤ (X + 1) then (if ¬ l4 = l2 then gg 90 l1 l2 l3 l4 (l5 + 1) q53.2 else (if l3 ≤ X then gg 90 l1 l2 l3 l4 (l5 + 1) q53.2 else gg 90 l1 l2 X l4 (l5 + 1) q53.2)) else (if ¬ l4 = l2 then gg 90 l1 l2 (X + 1) l4 (l5 + 1) q53.2 else (if (X + 1) ≤ X then gg 90 l1 l2 (X + 1) l4 (l5 + 1) q53.2 else gg 90 l1 l2 X l4 (l5 + 1) q53.2)))))))))))))
theorem b90_eq (F : Nat) (gg : Nat → Int32 → Int32 → Int32 → Int32 → Int32 → fm_M → Option (Int32 × fm_M)) (l1 l2 l3 l4 l5 : Int32) (μ : fm_M) : b_X9_walks_90 F gg l1 l2 l3 l4 l5 μ = (if 100 ≤ l5 then gg 81 l1 l2 l3 (l4 + 1) 0 μ else (if ab_in ((100 * l4) + l5) 6100 = true then (if 1000 ≤ (μ.2.1 245 ((100 * l4) + l5).toNatClampNeg) then (if ¬ l4 = l2 then gg 90 l1 l2 l3 l4 (l5 + 1) μ else (if l3 ≤ (μ.2.1 245 ((100 * l4) + l5).toNatClampNeg) then gg 90 l1 l2 l3 l4 (l5 + 1) μ else gg 90 l1 l2 (μ.2.1 245 ((100 * l4) + l5).toNatClampNeg) l4 (l5 + 1) μ)) else (if l2 ≤ l4 then (if ¬ l4 = l2 then gg 90 l1 l2 l3 l4 (l5 + 1) μ else (if l3 ≤ (μ.2.1 245 ((100 * l4) + l5).toNatClampNeg) then gg 90 l1 l2 l3 l4 (l5 + 1) μ else gg 90 l1 l2 (μ.2.1 245 ((100 * l4) + l5).toNatClampNeg) l4 (l5 + 1) μ)) else (Option.bind (f_X9_rateOn F 0 l1 μ) (fun q20 => (Option.bind (f_X9_cooled F l5 q20.1 q20.2) (fun q22 => (if q22.1 < 5 then wkT F gg l1 l2 l3 l4 l5 (μ.2.1 245 ((100 * l4) + l5).toNatClampNeg) q22.2 else (Option.bind (f_X9_reaches F (l4 + 1) q22.1 (μ.2.1 245 ((100 * l4) + l5).toNatClampNeg) q22.2) (fun q66 => wkT F gg l1 l2 l3 l4 l5 (μ.2.1 245 ((100 * l4) + l5).toNatClampNeg) q66.2))))))))) else none)) := rfl
section VS63
variable {F : Nat} {μ ν : fm_M} {a b : Nat → Nat} {w : Nat}
/-- the table in memory -/
def HT (μ : fm_M) (h : Nat → Nat → Nat) : Prop := ∀ t v, h t v ≤ 1000 ∧ (t ≤ 60 → v < 100 → μ.2.1 245 (100 * t + v) = n3 (h t v))
theorem m_reaches {h : Nat → Nat → Nat} {t v m : Nat} (hh : HT μ h) (ht : t ≤ 60) (hv : v < 100) (hm : m ≤ 1000) : ∃ ν, f_X9_reaches F (n3 t) (n3 v) (n3 m) μ = some ((), ν) ∧ HT ν (up2 h t v m) ∧ Ch (fun _ _ => False) (fun q _ => q = 245) μ ν := by
  have e := (hh t v).2 ht hv
  have l := (hh t v).1
  have key : ∀ x, x = min m (h t v) → HT (fm_sA μ 245 (upd (μ.2.1 245) (100 * t + v) (n3 x))) (up2 h t v m) := by
    intro x hx t' v'
    have l' := (hh t' v').1
    unfold up2
    by_cases c : t' = t ∧ v' = v
    · rw [if_pos c, ← hx]
      refine ⟨by omega, fun _ _ => ?_⟩
      rw [fm_sA_eq rfl, upd_eq (by omega)]
    · rw [if_neg c]
      refine ⟨l', fun q1 q2 => ?_⟩
      rw [fm_sA_eq rfl, upd_ne (by omega)]
      exact (hh t' v').2 q1 q2
  unfold f_X9_reaches
  rw [n3_k100, n3_mul, n3_add, if_pos (n3_in (by omega) (by omega)), n3_cl (by omega), e]
  by_cases c : h t v ≤ m
  · rw [if_pos (by rw [n3_le (by omega) (by omega)]; exact c), if_pos (n3_in (by omega) (by omega)), if_pos (n3_in (by omega) (by omega)), Option.bind_some]
    exact ⟨_, rfl, key _ (by omega), (Ch.refl _ _ μ).sG (fun _ => rfl)⟩
  · rw [if_neg (by rw [n3_le (by omega) (by omega)]; exact c), if_pos (n3_in (by omega) (by omega)), Option.bind_some]
    exact ⟨_, rfl, key _ (by omega), (Ch.refl _ _ μ).sG (fun _ => rfl)⟩
theorem m_wk_l (hp : AP μ 0 a) (wf : WF a) {s n t : Nat} (hs : s < a 23) (hn : n ≤ 60) (ht : t ≤ 60) : ∀ (K k v f : Nat), k + K = 2 * ovenW a s + 2 → K < f → v ≤ 99 → g_X9_walked F f 13 (n3 s) (n3 t) (n3 n) (n3 (ovenW a s)) (n3 v) (n3 k) μ = some (oW (wk (ovenW a s) (a 25) (rate a s) n t K k v), μ)
  | 0, k, v, f + 1, hk, _, hv => by
    have b4 := wf.1
    have bo := ovenW_le wf hs
    rw [g_X9_walked, if_pos rfl, b_X9_walked_13, n3_k2, n3_mul, n3_one, n3_add, if_pos (by rw [n3_lt (by omega) (by omega)]; omega)]
    rfl
  | K + 1, k, v, f + 1, hk, hf, hv => by
    have b4 := wf.1
    have bo := ovenW_le wf hs
    have r8 := rate_le a s
    have cl := cool_le v (rate a s)
    have kh := m_heatNow (F := F) hp
    have kr : f_X9_rateOn F 0 (n3 s) μ = some (n3 (rate a s), μ) := m_rateOn (F := F) hp wf (by omega) hs
    have kc : f_X9_cooled F (n3 v) (n3 (rate a s)) μ = some (n3 (cool v (rate a s)), μ) := m_cooled (by omega) (by omega)
    have ih := fun v' hv' => m_wk_l hp wf hs hn ht K (k + 1) v' f (by omega) (by omega) hv'
    have tail : ∀ v', v' ≤ 99 → (if n3 n < n3 (t + k) then g_X9_walked F f 13 (n3 s) (n3 t) (n3 n) (n3 (ovenW a s)) (n3 v') (n3 k + n3 1) μ else (if 5 ≤ n3 v' then g_X9_walked F f 13 (n3 s) (n3 t) (n3 n) (n3 (ovenW a s)) (n3 v') (n3 k + n3 1) μ else some (-4, μ))) = some (oW (if t + k ≤ n ∧ v' < 5 then none else wk (ovenW a s) (a 25) (rate a s) n t K (k + 1) v'), μ) := by
      intro v' hv'
      rw [n3_add]
      by_cases c : n < t + k
      · rw [if_pos (by rw [n3_lt (by omega) (by omega)]; exact c), if_neg (by omega)]
        exact ih v' hv'
      · rw [if_neg (by rw [n3_lt (by omega) (by omega)]; exact c)]
        by_cases c2 : v' < 5
        · rw [if_neg (by rw [n3_k5, n3_le (by omega) (by omega)]; omega), if_pos ⟨by omega, c2⟩, n3_k4]
          rfl
        · rw [if_pos (by rw [n3_k5, n3_le (by omega) (by omega)]; omega), if_neg (fun q => c2 q.2)]
          exact ih v' hv'
    rw [g_X9_walked, if_pos rfl, b_X9_walked_13, n3_k2, n3_mul, n3_one, n3_add, if_neg (by rw [n3_lt (by omega) (by omega)]; omega), n3_add, n3_add, wk]
    by_cases c : k = ovenW a s + 1
    · rw [if_pos (show n3 k = n3 (ovenW a s + 1) by rw [c]), if_pos c, kh, Option.bind_some]
      by_cases c2 : a 25 ≤ v
      · have e : mx v (a 25) = v := by unfold mx; split <;> omega
        rw [if_pos (by rw [n3_le (by omega) (by omega)]; exact c2), e]
        exact tail v hv
      · have e : mx v (a 25) = a 25 := by unfold mx; split <;> omega
        rw [if_neg (by rw [n3_le (by omega) (by omega)]; exact c2), e]
        dsimp only
        rw [kh, Option.bind_some]
        exact tail (a 25) (by omega)
    · rw [if_neg (show ¬ n3 k = n3 (ovenW a s + 1) by rw [n3_eq (by omega) (by omega)]; exact c), if_neg c, kr, Option.bind_some]
      dsimp only
      rw [kc, Option.bind_some]
      exact tail (cool v (rate a s)) (by omega)
theorem m_walked (hp : AP μ 0 a) (wf : WF a) {s n t v : Nat} (hs : s < a 23) (hn : n ≤ 60) (ht : t ≤ 60) (hv : v ≤ 99) (hF : 100 < F) : f_X9_walked F (n3 s) (n3 t) (n3 v) (n3 n) μ = some (oW (wk (ovenW a s) (a 25) (rate a s) n t (2 * ovenW a s + 1) 1 v), μ) := by
  have bo := ovenW_le wf hs
  unfold f_X9_walked
  rw [m_ovenW hp wf hs, Option.bind_some, n3_one]
  exact m_wk_l hp wf hs hn ht (2 * ovenW a s + 1) 1 v F (by omega) (by omega) hv
theorem wk_le {D H r n t : Nat} (hH : H ≤ 99) : ∀ (K k v x : Nat), v ≤ 99 → wk D H r n t K k v = some x → x ≤ 99
  | 0, _, v, x, h, e => by rw [wk] at e; cases e; exact h
  | K + 1, k, v, x, h, e => by
    rw [wk] at e
    generalize hy : (if k = D + 1 then mx v H else cool v r) = y at e
    have yl : y ≤ 99 := by
      rw [← hy]
      split
      · rcases mx_or (x := v) (y := H) with c | c <;> omega
      · have := cool_le v r
        omega
    split at e
    · cases e
    · exact wk_le hH K (k + 1) y x yl e
theorem m_wkT {s n t v m L f : Nat} {h : Nat → Nat → Nat} (hp : AP ν 0 a) (wf : WF a) (hs : s < a 23) (hn : n ≤ 60) (ht : t < n) (hv : v ≤ 99) (hm : m < 1000) (hL : L ≤ 1000) (hh : HT ν h) (hF : 100 < F) : ∃ ρ, wkT F (g_X9_walks F f) (n3 s) (n3 n) (n3 L) (n3 t) (n3 v) (n3 m) ν = g_X9_walks F f 90 (n3 s) (n3 n) (n3 (match wk (ovenW a s) (a 25) (rate a s) n t (2 * ovenW a s + 1) 1 v with | none => L | some _ => if n < t + 2 * ovenW a s + 1 ∧ m + 1 < L then m + 1 else L)) (n3 t) (n3 (v + 1)) ρ ∧ HT ρ (match wk (ovenW a s) (a 25) (rate a s) n t (2 * ovenW a s + 1) 1 v with | none => h | some x => if t + 2 * ovenW a s + 1 ≤ n then up2 h (t + 2 * ovenW a s + 1) x (m + 1) else h) ∧ Ch (fun _ _ => False) (fun q _ => q = 245) ν ρ := by
  have b4 := wf.1
  have bo := ovenW_le wf hs
  have nt : ¬ n3 t = n3 n := by rw [n3_eq (by omega) (by omega)]; omega
  unfold wkT
  rw [m_ovenW hp wf hs, Option.bind_some]
  dsimp only
  rw [m_walked hp wf hs hn (by omega) hv hF, Option.bind_some]
  dsimp only
  cases hx : wk (ovenW a s) (a 25) (rate a s) n t (2 * ovenW a s + 1) 1 v with
  | none =>
    refine ⟨ν, ?_, hh, Ch.refl _ _ ν⟩
    rw [if_pos (show oW none = -4 by decide), if_pos (show oW none = -4 by decide), if_pos nt, n3_one, n3_add]
  | some x =>
    have xl := wk_le (show a 25 ≤ 99 by omega) _ _ _ _ hv hx
    have nx : ¬ oW (some x) = -4 := by
      show ¬ n3 x = -4
      rw [show (-4 : Int32) = -n3 4 by decide, nn_qe (by omega) (by omega) (by omega)]; exact id
    rw [if_neg nx, if_neg nx, n3_k2, n3_mul, n3_add, n3_one, n3_add, n3_add, n3_add]
    dsimp only
    by_cases c : t + 2 * ovenW a s + 1 ≤ n
    · obtain ⟨ρ, r1, r2, r3⟩ := m_reaches (F := F) (t := t + 2 * ovenW a s + 1) (v := x) (m := m + 1) hh (by omega) (by omega) (by omega)
      refine ⟨ρ, ?_, by rw [if_pos c]; exact r2, r3⟩
      have r1 : f_X9_reaches F (n3 (t + 2 * ovenW a s + 1)) (oW (some x)) (n3 (m + 1)) ν = some ((), ρ) := r1
      rw [if_neg (show ¬ n3 n < n3 (t + 2 * ovenW a s + 1) by rw [n3_lt (by omega) (by omega)]; omega), r1, Option.bind_some, if_neg nx, if_pos (show n3 (t + 2 * ovenW a s + 1) ≤ n3 n by rw [n3_le (by omega) (by omega)]; exact c), if_pos nt, if_neg (show ¬ (n < t + 2 * ovenW a s + 1 ∧ m + 1 < L) by omega)]
    · refine ⟨ν, ?_, by rw [if_neg c]; exact hh, Ch.refl _ _ ν⟩
      rw [if_pos (show n3 n < n3 (t + 2 * ovenW a s + 1) by rw [n3_lt (by omega) (by omega)]; omega), if_neg (show ¬ n3 (t + 2 * ovenW a s + 1) ≤ n3 n by rw [n3_le (by omega) (by omega)]; exact c)]
      by_cases c2 : m + 1 < L
      · rw [if_neg (show ¬ n3 L ≤ n3 (m + 1) by rw [n3_le (by omega) (by omega)]; omega), if_pos nt, if_pos (show n < t + 2 * ovenW a s + 1 ∧ m + 1 < L by omega)]
      · rw [if_pos (show n3 L ≤ n3 (m + 1) by rw [n3_le (by omega) (by omega)]; omega), if_pos nt, if_neg (show ¬ (n < t + 2 * ovenW a s + 1 ∧ m + 1 < L) by omega)]
theorem m_w90 (wf : WF a) {s n t : Nat} (hs : s < a 23) (hn : n ≤ 60) (ht : t ≤ n) (hF : 100 < F) : ∀ (K v f : Nat) (μ : fm_M) (h : Nat → Nat → Nat) (L : Nat), v + K = 100 → 5 ≤ v → AP μ 0 a → HT μ h → INV (ovenW a s) (a 25) (rate a s) (a (13 + s)) n t v h L → ∃ ν h' L', g_X9_walks F (f + K + 1) 90 (n3 s) (n3 n) (n3 L) (n3 t) (n3 v) μ = g_X9_walks F f 81 (n3 s) (n3 n) (n3 L') (n3 (t + 1)) 0 ν ∧ HT ν h' ∧ INV (ovenW a s) (a 25) (rate a s) (a (13 + s)) n (t + 1) 5 h' L' ∧ AP ν 0 a ∧ Ch (fun _ _ => False) (fun q _ => q = 245) μ ν
  | 0, v, f, μ, h, L, hv, _, hp, hh, hi => by
    obtain rfl : v = 100 := by omega
    refine ⟨μ, h, L, ?_, hh, hi.next, hp, Ch.refl _ _ μ⟩
    rw [g_X9_walks, if_neg (by decide), if_neg (by decide), if_pos rfl, b90_eq, if_pos (by decide), n3_one, n3_add]
  | K + 1, v, f, μ, h, L, hv, h5, hp, hh, hi => by
    have b4 := wf.1
    have wS := wf.2.2.1 s hs
    have bo := ovenW_le wf hs
    have r8 := rate_le a s
    have e := (hh t v).2 (by omega) (by omega)
    have l := (hh t v).1
    have hL := hi.2.2.2.1
    have ih := m_w90 wf hs hn ht hF K (v + 1) f
    have cl := cool_le v (rate a s)
    have fin : ∀ μ1 h1 L1, AP μ1 0 a → HT μ1 h1 → INV (ovenW a s) (a 25) (rate a s) (a (13 + s)) n t (v + 1) h1 L1 → Ch (fun _ _ => False) (fun q _ => q = 245) μ μ1 → g_X9_walks F (f + K + 1 + 1) 90 (n3 s) (n3 n) (n3 L) (n3 t) (n3 v) μ = g_X9_walks F (f + K + 1) 90 (n3 s) (n3 n) (n3 L1) (n3 t) (n3 (v + 1)) μ1 → ∃ ν h' L', g_X9_walks F (f + (K + 1) + 1) 90 (n3 s) (n3 n) (n3 L) (n3 t) (n3 v) μ = g_X9_walks F f 81 (n3 s) (n3 n) (n3 L') (n3 (t + 1)) 0 ν ∧ HT ν h' ∧ INV (ovenW a s) (a 25) (rate a s) (a (13 + s)) n (t + 1) 5 h' L' ∧ AP ν 0 a ∧ Ch (fun _ _ => False) (fun q _ => q = 245) μ ν := by
      intro μ1 h1 L1 q1 q2 q3 q4 q5
      obtain ⟨ν, h', L', r1, r2, r3, r4, r5⟩ := ih μ1 h1 L1 (by omega) (by omega) q1 q2 q3
      exact ⟨ν, h', L', by rw [← Nat.add_assoc f K 1, q5]; exact r1, r2, r3, r4, q4.trans r5⟩
    have start : g_X9_walks F (f + K + 1 + 1) 90 (n3 s) (n3 n) (n3 L) (n3 t) (n3 v) μ = (if 1000 ≤ n3 (h t v) then (if ¬ n3 t = n3 n then g_X9_walks F (f + K + 1) 90 (n3 s) (n3 n) (n3 L) (n3 t) (n3 (v + 1)) μ else (if n3 L ≤ n3 (h t v) then g_X9_walks F (f + K + 1) 90 (n3 s) (n3 n) (n3 L) (n3 t) (n3 (v + 1)) μ else g_X9_walks F (f + K + 1) 90 (n3 s) (n3 n) (n3 (h t v)) (n3 t) (n3 (v + 1)) μ)) else (if n3 n ≤ n3 t then (if ¬ n3 t = n3 n then g_X9_walks F (f + K + 1) 90 (n3 s) (n3 n) (n3 L) (n3 t) (n3 (v + 1)) μ else (if n3 L ≤ n3 (h t v) then g_X9_walks F (f + K + 1) 90 (n3 s) (n3 n) (n3 L) (n3 t) (n3 (v + 1)) μ else g_X9_walks F (f + K + 1) 90 (n3 s) (n3 n) (n3 (h t v)) (n3 t) (n3 (v + 1)) μ)) else (if n3 (cool v (rate a s)) < 5 then wkT F (g_X9_walks F (f + K + 1)) (n3 s) (n3 n) (n3 L) (n3 t) (n3 v) (n3 (h t v)) μ else (Option.bind (f_X9_reaches F (n3 (t + 1)) (n3 (cool v (rate a s))) (n3 (h t v)) μ) (fun q66 => wkT F (g_X9_walks F (f + K + 1)) (n3 s) (n3 n) (n3 L) (n3 t) (n3 v) (n3 (h t v)) q66.2))))) := by
      have kr : f_X9_rateOn F 0 (n3 s) μ = some (n3 (rate a s), μ) := m_rateOn (F := F) hp wf (by omega) hs
      have kc : f_X9_cooled F (n3 v) (n3 (rate a s)) μ = some (n3 (cool v (rate a s)), μ) := m_cooled (by omega) (by omega)
      rw [g_X9_walks, if_neg (by decide), if_neg (by decide), if_pos rfl, b90_eq, if_neg (by rw [n3_k100, n3_le (by omega) (by omega)]; omega), n3_k100, n3_mul, n3_add, if_pos (n3_in (by omega) (by omega)), n3_cl (by omega), e, kr, Option.bind_some]
      dsimp only
      rw [kc, Option.bind_some, n3_one, n3_add, n3_add]
    by_cases c : h t v < 1000
    · have nb : ¬ (1000 : Int32) ≤ n3 (h t v) := by rw [n3_lit, n3_le (by omega) (by omega)]; omega
      rw [if_neg nb] at start
      by_cases c2 : t < n
      · rw [if_neg (by rw [n3_le (by omega) (by omega)]; omega)] at start
        have st := hi.step (by omega) (by omega) (by omega) (by omega) c2 hn c
        by_cases c3 : 5 ≤ cool v (rate a s)
        · obtain ⟨μ1, r1, r2, r3⟩ := m_reaches (F := F) (t := t + 1) (v := cool v (rate a s)) (m := h t v) hh (by omega) (by omega) (by omega)
          have hp1 : AP μ1 0 a := hp.ch wf r3 id id (by omega) (by omega) (by omega)
          obtain ⟨ρ, q1, q2, q3⟩ := m_wkT (F := F) (L := L) (f := f + K + 1) (m := h t v) hp1 wf hs hn c2 (show v ≤ 99 by omega) c hL r2 hF
          rw [if_neg (by rw [n3_k5, n3_lt (by omega) (by omega)]; omega), r1, Option.bind_some] at start
          unfold stH stL at st
          rw [if_pos c3] at st
          exact fin ρ _ _ (hp1.ch wf q3 id id (by omega) (by omega) (by omega)) q2 st (r3.trans q3) (start.trans q1)
        · obtain ⟨ρ, q1, q2, q3⟩ := m_wkT (F := F) (L := L) (f := f + K + 1) (m := h t v) hp wf hs hn c2 (show v ≤ 99 by omega) c hL hh hF
          rw [if_pos (by rw [n3_k5, n3_lt (by omega) (by omega)]; omega)] at start
          unfold stH stL at st
          rw [if_neg c3] at st
          exact fin ρ _ _ (hp.ch wf q3 id id (by omega) (by omega) (by omega)) q2 st q3 (start.trans q1)
      · obtain rfl : t = n := by omega
        rw [if_pos (by rw [n3_le (by omega) (by omega)]; omega), if_neg (fun q => q rfl)] at start
        have st := hi.last
        by_cases c3 : h t v < L
        · rw [if_neg (by rw [n3_le (by omega) (by omega)]; omega)] at start
          rw [if_pos c3] at st
          exact fin μ h _ hp hh st (Ch.refl _ _ μ) start
        · rw [if_pos (by rw [n3_le (by omega) (by omega)]; omega)] at start
          rw [if_neg c3] at st
          exact fin μ h _ hp hh st (Ch.refl _ _ μ) start
    · have yb : (1000 : Int32) ≤ n3 (h t v) := by rw [n3_lit, n3_le (by omega) (by omega)]; omega
      rw [if_pos yb, if_pos (show n3 L ≤ n3 (h t v) by rw [n3_le (by omega) (by omega)]; omega)] at start
      have start : g_X9_walks F (f + K + 1 + 1) 90 (n3 s) (n3 n) (n3 L) (n3 t) (n3 v) μ = g_X9_walks F (f + K + 1) 90 (n3 s) (n3 n) (n3 L) (n3 t) (n3 (v + 1)) μ := by
        rw [start]
        split <;> rfl
      exact fin μ h L hp hh (hi.skip ht c) (Ch.refl _ _ μ) start
theorem m_w81 (wf : WF a) {s n : Nat} (hs : s < a 23) (hn : n ≤ 60) (hF : 100 < F) : ∀ (K t f : Nat) (μ : fm_M) (h : Nat → Nat → Nat) (L : Nat), t + K = n + 1 → AP μ 0 a → HT μ h → INV (ovenW a s) (a 25) (rate a s) (a (13 + s)) n t 5 h L → ∃ ν, g_X9_walks F (f + 1 + K * 97) 81 (n3 s) (n3 n) (n3 L) (n3 t) 0 μ = some (oW (frs (fnd (ovenW a s) (a 25) (rate a s) (a (13 + s)) n) (n + 1) 0), ν) ∧ Ch (fun _ _ => False) (fun q _ => q = 245) μ ν
  | 0, t, f, μ, h, L, ht, hp, hh, hi => by
    obtain rfl : t = n + 1 := by omega
    have b4 := wf.1
    have wS := wf.2.2.1 s hs
    have hL := hi.2.2.2.1
    have an := hi.answer (by omega) (by omega) (by omega) hn
    refine ⟨μ, ?_, Ch.refl _ _ μ⟩
    rw [Nat.zero_mul, Nat.add_zero, g_X9_walks, if_neg (by decide), if_pos rfl, b_X9_walks_81, if_pos (by rw [n3_lt (by omega) (by omega)]; omega), ← an]
    by_cases c : L = 1000
    · rw [if_neg (show ¬ ¬ n3 L = 1000 from fun q => q (by rw [c]; rfl)), if_pos c, n3_k4]
    · rw [if_pos (show ¬ n3 L = 1000 by rw [n3_lit, n3_eq (by omega) (by omega)]; exact c), if_neg c]
  | K + 1, t, f, μ, h, L, ht, hp, hh, hi => by
    obtain ⟨μ1, h1, L1, q1, q2, q3, q4, q5⟩ := m_w90 (F := F) wf hs hn (t := t) (by omega) hF 95 5 (f + 1 + K * 97) μ h L (by omega) (by omega) hp hh hi
    obtain ⟨ν, r1, r2⟩ := m_w81 wf hs hn hF K (t + 1) f μ1 h1 L1 (by omega) q4 q2 q3
    refine ⟨ν, ?_, q5.trans r2⟩
    rw [← r1, ← q1, show f + 1 + (K + 1) * 97 = f + 1 + K * 97 + 95 + 1 + 1 by omega, g_X9_walks, if_neg (by decide), if_pos rfl, b_X9_walks_81, if_neg (by rw [n3_lt (by omega) (by omega)]; omega), n3_k5]
theorem m_w24 {s n C : Nat} (hC : C = 6100) {hF : 100 < F} : ∀ (K i f : Nat) (μ : fm_M), i + K = C → (∀ j, j < i → μ.2.1 245 j = n3 1000) → ∃ ν, g_X9_walks F (f + 1 + K) 24 (n3 s) (n3 n) (n3 i) 0 0 μ = g_X9_walks F (f + 1) 24 (n3 s) (n3 n) (n3 C) 0 0 ν ∧ (∀ j, j < C → ν.2.1 245 j = n3 1000) ∧ Ch (fun _ _ => False) (fun q _ => q = 245) μ ν
  | 0, i, f, μ, hi, hj => by
    obtain rfl : i = C := by omega
    exact ⟨μ, rfl, hj, Ch.refl _ _ μ⟩
  | K + 1, i, f, μ, hi, hj => by
    obtain ⟨ν, r1, r2, r3⟩ := m_w24 (s := s) (n := n) hC (hF := hF) K (i + 1) f (fm_sA μ 245 (upd (μ.2.1 245) i (n3 1000))) (by omega) (fun j hj2 => by
      rw [fm_sA_eq rfl]
      by_cases c : j = i
      · rw [upd_eq c]
      · rw [upd_ne c]; exact hj j (by omega))
    refine ⟨ν, ?_, r2, ((Ch.refl _ _ μ).sG (fun _ => rfl)).trans r3⟩
    rw [← r1, ← Nat.add_assoc (f + 1) K 1, g_X9_walks, if_pos rfl, b_X9_walks_24, if_neg (by rw [show (6100 : Int32) = n3 6100 from n3_lit 6100, n3_le (by omega) (by omega)]; omega), if_pos (n3_in (by omega) (by omega)), Option.bind_some, n3_cl (by omega), n3_one, n3_add, show (1000 : Int32) = n3 1000 from n3_lit 1000]
theorem INV.start {D H r w0 n : Nat} (hw : w0 ≤ 99) (h : Nat → Nat → Nat) (he : h = if 5 ≤ w0 then up2 (fun _ _ => 1000) 0 w0 0 else fun _ _ => 1000) : INV D H r w0 n 0 5 h 1000 := by
  subst he
  refine ⟨fun t v q => ?_, fun t v h5 _ _ q => by omega, fun q => ?_, Nat.le_refl _, fun q => by omega⟩
  · by_cases c : 5 ≤ w0
    · rw [if_pos c] at q ⊢
      rcases up2_or (fun _ _ => 1000) 0 w0 0 t v with e | ⟨e1, e2, e3⟩
      · rw [e] at q; omega
      · rw [e3, e1, e2]
        refine ⟨c, by omega, by omega, by omega, ?_⟩
        show w0 ≤ bs0 w0 0
        have : bs0 w0 0 = w0 := (if_pos rfl).trans (if_neg (by omega))
        omega
    · rw [if_neg c] at q; omega
  · rw [if_pos q]
    have := up2_at (fun _ _ => 1000) 0 w0 0
    omega
theorem m_walks (hp : AP μ 0 a) (wf : WF a) {s n : Nat} (hs : s < a 23) (hn : n ≤ 60) (hF : 20000 < F) : ∃ ν, g_X9_walks F F 24 (n3 s) (n3 n) 0 0 0 μ = some (oW (frs (fnd (ovenW a s) (a 25) (rate a s) (a (13 + s)) n) (n + 1) 0), ν) ∧ Ch (fun _ _ => False) (fun q _ => q = 245) μ ν := by
  have b4 := wf.1
  have wS := wf.2.2.1 s hs
  obtain ⟨f, hf⟩ : ∃ f, F = f + 1 + (n + 1) * 97 + 1 + 6100 := ⟨F - (1 + (n + 1) * 97 + 1 + 6100), by omega⟩
  obtain ⟨μ1, q1, q2, q3⟩ := m_w24 (F := F) (s := s) (n := n) (C := 6100) rfl (hF := by omega) 6100 0 (f + 1 + (n + 1) * 97) μ (by omega) (fun j hj => by omega)
  have hp1 : AP μ1 0 a := hp.ch wf q3 id id (by omega) (by omega) (by omega)
  have e13 := (hp1.z.2.2.2.1 s hs).2.1
  have h1 : HT μ1 (fun _ _ => 1000) := fun t v => ⟨Nat.le_refl _, fun q1 q2' => q2 _ (by omega)⟩
  rw [← hf] at q1
  have st : g_X9_walks F (f + 1 + (n + 1) * 97 + 1) 24 (n3 s) (n3 n) (n3 6100) 0 0 μ1 = (if n3 (a (13 + s)) < 5 then g_X9_walks F (f + 1 + (n + 1) * 97) 81 (n3 s) (n3 n) (n3 1000) (n3 0) 0 μ1 else (Option.bind (f_X9_reaches F (n3 0) (n3 (a (13 + s))) (n3 0) μ1) (fun q5 => g_X9_walks F (f + 1 + (n + 1) * 97) 81 (n3 s) (n3 n) (n3 1000) (n3 0) 0 q5.2))) := by
    rw [g_X9_walks, if_pos rfl, b_X9_walks_24, if_pos (by decide), n3_k13, n3_add, if_pos (n3_in (by omega) (by omega)), n3_cl (by omega), e13, if_pos (n3_in (by omega) (by omega))]
    rfl
  have q1 : g_X9_walks F F 24 (n3 s) (n3 n) 0 0 0 μ = _ := q1
  rw [q1, st]
  by_cases c : a (13 + s) < 5
  · have i0 := INV.start (D := ovenW a s) (H := a 25) (r := rate a s) (w0 := a (13 + s)) (n := n) (by omega) (fun _ _ => 1000) (by rw [if_neg (by omega)])
    obtain ⟨ν, r1, r2⟩ := m_w81 (F := F) wf hs hn (by omega) (n + 1) 0 f μ1 _ 1000 (by omega) hp1 h1 i0
    exact ⟨ν, by rw [if_pos (by rw [n3_k5, n3_lt (by omega) (by omega)]; exact c)]; exact r1, q3.trans r2⟩
  · obtain ⟨μ2, s1, s2, s3⟩ := m_reaches (F := F) (t := 0) (v := a (13 + s)) (m := 0) h1 (by omega) (by omega) (by omega)
    have i0 := INV.start (D := ovenW a s) (H := a 25) (r := rate a s) (w0 := a (13 + s)) (n := n) (by omega) (up2 (fun _ _ => 1000) 0 (a (13 + s)) 0) (by rw [if_pos (by omega)])
    obtain ⟨ν, r1, r2⟩ := m_w81 (F := F) wf hs hn (by omega) (n + 1) 0 f μ2 _ 1000 (by omega) (hp1.ch wf s3 id id (by omega) (by omega) (by omega)) s2 i0
    refine ⟨ν, ?_, (q3.trans s3).trans r2⟩
    rw [if_neg (by rw [n3_k5, n3_lt (by omega) (by omega)]; exact c), s1, Option.bind_some]
    exact r1
theorem R.sW (h : R μ) {p q : Nat} (hp : (p = 202 ∧ q = 203) ∨ (p = 203 ∧ q = 202)) : R (fm_sW μ p q) := by
  obtain ⟨ha, hK, hT, hS, hH, hF, hC⟩ := h
  refine ⟨ha, hK, hT, hS, hH, hF, hC.1, hC.2.1, ?_⟩
  rcases hp with ⟨rfl, rfl⟩ | ⟨rfl, rfl⟩
  · exact .inl rfl
  · exact .inr rfl
theorem ok_walks (h : R μ) (hF : 20000 < F) (x y : Int32) : OK2 (f_X8_walks F x y) (f_X9_walks F x y) μ := by
  obtain ⟨a, wf, bm, hw, hp⟩ := h.1
  have b := wf.1
  rcases n3_cases x (a 23) (by omega) with ⟨s, hs, rfl⟩ | hx
  · have hd := c_stoneT (F := F) hw wf hs
    have kd := m_stoneT (F := F) hp wf hs
    rcases n3_cases y 61 (by decide) with ⟨n, hn, rfl⟩ | hy
    · obtain ⟨μ1, p', q', q1, q2, q3⟩ := c_least (F := F) hw wf hs (n := n) (by omega) h.2.2.2.2.2.2.2.2 (by omega)
      have hR : R μ1 := (h.sW q2).free (q3.weak (fun q j c => by omega) (fun q j c => by omega))
      have hp1 : AP μ1 0 a := AP.ch (μ := fm_sW μ p' q') hp wf q3 (by omega) (by omega) (by omega) (by omega) (by omega)
      have kd1 := m_stoneT (F := F) hp1 wf hs
      obtain ⟨μ2, r1, r2⟩ := m_walks (F := F) hp1 wf hs (n := n) (by omega) hF
      refine ⟨oW (frs (fnd (ovenW a s) (a 25) (rate a s) (a (13 + s)) n) (n + 1) 0), μ1, μ2, ?_, ?_, hR.free (r2.weak (fun _ _ c => False.elim c) (fun q j c => by omega))⟩
      · unfold f_X8_walks
        rw [hd, Option.bind_some, if_neg (show ¬ n3 1 = 0 by decide)]
        dsimp only
        rw [n3_k0, n3_k60, c_isInT (by omega) (by omega) (by omega), Option.bind_some, if_pos (show ¬ n3 1 = n3 0 by decide)]
        dsimp only
        rw [q1, Option.bind_some]
      · unfold f_X9_walks
        rw [kd1, Option.bind_some, if_neg (show ¬ n3 1 = 0 by decide)]
        dsimp only
        rw [m_inT (by omega) (by omega) (by omega), Option.bind_some, if_pos (show ¬ n3 1 = 0 by decide)]
        exact r1
    · refine OK2.same h (v := -n3 1) ?_ ?_
      · simp (disch := omega) only [f_X8_walks, ↓reduceIte, Option.bind_some, n3_lit, n3_cl, n3_in, n3_ltT, n3_ltF, n3_leT, n3_leF, n3_eqT, n3_eqF, n3_add, n3_sub, not_true_eq_false, not_false_eq_true, true_or, or_true, false_or, or_false, Nat.zero_add, Nat.add_zero, nn_lt, nn_le, nn_gt, nn_ge, nn_eq, nn_qe, hd, c_isInN hy]
      · simp (disch := omega) only [f_X9_walks, ↓reduceIte, Option.bind_some, n3_lit, n3_cl, n3_in, n3_ltT, n3_ltF, n3_leT, n3_leF, n3_eqT, n3_eqF, n3_add, n3_sub, not_true_eq_false, not_false_eq_true, true_or, or_true, false_or, or_false, Nat.zero_add, Nat.add_zero, nn_lt, nn_le, nn_gt, nn_ge, nn_eq, nn_qe, kd, m_inO hy]
  · refine OK2.same h (v := -n3 1) ?_ ?_
    · simp (disch := omega) only [f_X8_walks, ↓reduceIte, Option.bind_some, n3_lit, n3_cl, n3_in, n3_ltT, n3_ltF, n3_leT, n3_leF, n3_eqT, n3_eqF, n3_add, n3_sub, not_true_eq_false, not_false_eq_true, true_or, or_true, false_or, or_false, Nat.zero_add, Nat.add_zero, nn_lt, nn_le, nn_gt, nn_ge, nn_eq, nn_qe, c_stoneF hw hx]
    · simp (disch := omega) only [f_X9_walks, ↓reduceIte, Option.bind_some, n3_lit, n3_cl, n3_in, n3_ltT, n3_ltF, n3_leT, n3_leF, n3_eqT, n3_eqF, n3_add, n3_sub, not_true_eq_false, not_false_eq_true, true_or, or_true, false_or, or_false, Nat.zero_add, Nat.add_zero, nn_lt, nn_le, nn_gt, nn_ge, nn_eq, nn_qe, m_stoneF hp wf hx]
end VS63
