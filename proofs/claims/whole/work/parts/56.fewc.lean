/-! the fewest stones: the class's find -/
def pc5 (u : Nat) : Nat := u / 2 ^ 0 % 2 + u / 2 ^ 1 % 2 + u / 2 ^ 2 % 2 + u / 2 ^ 3 % 2 + u / 2 ^ 4 % 2
def bcE (x : Int32) : Int32 := ((f_J6_bitCount_0f7a4 0 x ((fun _ _ => 0), (fun _ _ => 0), (fun _ _ => 0), 0, 0)).map Prod.fst).getD 0
theorem v_pc : ((List.range 32).all fun u => decide (bcE (n3 u) = n3 (pc5 u))) = true := by decide +kernel
theorem c_bc {F : Nat} {μ : fm_M} {u : Nat} (hu : u < 32) : f_J6_bitCount_0f7a4 F (n3 u) μ = some (n3 (pc5 u), μ) := by
  have e : f_J6_bitCount_0f7a4 F (n3 u) μ = some (bcE (n3 u), μ) := rfl
  rw [e, of_decide_eq_true (List.all_eq_true.mp v_pc u (List.mem_range.mpr hu))]
theorem v_set : ((List.range 32).all fun u => (List.range 5).all fun s => (List.range 5).all fun t => decide ((u ||| 2 ^ s) / 2 ^ t % 2 = if t = s then 1 else u / 2 ^ t % 2)) = true := by decide +kernel
theorem v_set' {u s t : Nat} (hu : u < 32) (hs : s < 5) (ht : t < 5) : (u ||| 2 ^ s) / 2 ^ t % 2 = if t = s then 1 else u / 2 ^ t % 2 :=
  of_decide_eq_true (List.all_eq_true.mp (List.all_eq_true.mp (List.all_eq_true.mp v_set u (List.mem_range.mpr hu)) s (List.mem_range.mpr hs)) t (List.mem_range.mpr ht))
section VS56
variable {F : Nat} {μ ν : fm_M} {a b : Nat → Nat} {w : Nat}
theorem mask_l {p : Nat} : ∀ i, i ≤ 5 → ∃ u, maskP a p i = n3 u ∧ u < 32 ∧ ∀ s, s < 5 → (u / 2 ^ s % 2 = 1 ↔ (s < i ∧ a (18 + s) = p))
  | 0, _ => ⟨0, rfl, by omega, fun s hs => by
      rw [Nat.zero_div]
      constructor
      · intro c; cases c
      · intro c; omega⟩
  | i + 1, hi => by
    obtain ⟨u, h1, h2, h3⟩ := mask_l (p := p) i (by omega)
    rw [maskP]
    by_cases c : a (18 + i) = p
    · have q := v_m5' h2 (show i < 5 by omega)
      refine ⟨u ||| 2 ^ i, ?_, q.2.2, fun s hs => ?_⟩
      · rw [if_pos c, h1]; exact q.2.1
      · rw [v_set' h2 (by omega) hs]
        by_cases c2 : s = i
        · rw [if_pos c2]
          constructor
          · intro _; rw [c2]; exact ⟨by omega, c⟩
          · intro _; rfl
        · rw [if_neg c2, h3 s hs]
          constructor
          · intro q; exact ⟨by omega, q.2⟩
          · intro q; exact ⟨by omega, q.2⟩
    · refine ⟨u, by rw [if_neg c]; exact h1, h2, fun s hs => ?_⟩
      rw [h3 s hs]
      constructor
      · intro q; exact ⟨by omega, q.2⟩
      · intro q
        refine ⟨?_, q.2⟩
        by_cases c2 : s = i
        · rw [c2] at q; exact absurd q.2 c
        · omega
theorem mask_u (wf : WF a) (p : Nat) : ∃ u, maskP a p (a 23) = n3 u ∧ UM p u a := by
  have b4 := wf.1
  obtain ⟨u, h1, h2, h3⟩ := mask_l (a := a) (p := p) (a 23) (by omega)
  exact ⟨u, h1, h2, h3⟩
theorem srch_pc {dbt cr d : Nat} (hne : cr ≠ dbt) : ∀ (k : Nat) (b : Nat → Nat) (u : Nat) (r : List Nat), WF b → cr < b 38 → UM dbt u b → srch dbt cr d k b = some r → k ≤ pc5 u
  | 0, _, _, _, _, _, _, _ => Nat.zero_le _
  | k + 1, b, u, r, wf, hc, hu, h => by
    have b4 := wf.1
    rw [srch] at h
    obtain ⟨s, s1, s2, hs⟩ := frs_some _ _ h
    (try dsimp only at hs)
    split at hs
    · rename_i c
      cases hq : srch dbt cr d k (hand b s cr) with
      | none => rw [hq] at hs; cases hs
      | some q =>
        have ih := srch_pc hne k (hand b s cr) (u - 2 ^ s) q (hand_wf wf c.1 hc) (by rw [hand_n wf c.1 (by omega)]; exact hc) (UM_hand wf hu c.1 c.2 hne) hq
        have hb := (hu.2 s (by omega)).mpr c
        have cl := (v_clr' hu.1 (by omega) hb).2
        have c0 := cl 0 (by omega)
        have c1 := cl 1 (by omega)
        have c2 := cl 2 (by omega)
        have c3 := cl 3 (by omega)
        have c4 := cl 4 (by omega)
        unfold pc5 at ih ⊢
        rcases (show s = 0 ∨ s = 1 ∨ s = 2 ∨ s = 3 ∨ s = 4 by omega) with rfl | rfl | rfl | rfl | rfl
        all_goals
          simp only [Nat.reduceEqDiff, ↓reduceIte] at c0 c1 c2 c3 c4
          omega
    · cases hs
theorem pc_le {dbt u : Nat} (wf : WF a) (hu : UM dbt u a) : pc5 u ≤ a 23 := by
  have b4 := wf.1
  have h0 := hu.2 0 (by omega)
  have h1 := hu.2 1 (by omega)
  have h2 := hu.2 2 (by omega)
  have h3 := hu.2 3 (by omega)
  have h4 := hu.2 4 (by omega)
  have t0 := Nat.mod_lt (u / 2 ^ 0) (show 0 < 2 by omega)
  have t1 := Nat.mod_lt (u / 2 ^ 1) (show 0 < 2 by omega)
  have t2 := Nat.mod_lt (u / 2 ^ 2) (show 0 < 2 by omega)
  have t3 := Nat.mod_lt (u / 2 ^ 3) (show 0 < 2 by omega)
  have t4 := Nat.mod_lt (u / 2 ^ 4) (show 0 < 2 by omega)
  unfold pc5
  generalize u / 2 ^ 0 % 2 = x0 at *
  generalize u / 2 ^ 1 % 2 = x1 at *
  generalize u / 2 ^ 2 % 2 = x2 at *
  generalize u / 2 ^ 3 % 2 = x3 at *
  generalize u / 2 ^ 4 % 2 = x4 at *
  have g0 : x0 = 1 → 0 < a 23 := fun c => (h0.mp c).1
  have g1 : x1 = 1 → 1 < a 23 := fun c => (h1.mp c).1
  have g2 : x2 = 1 → 2 < a 23 := fun c => (h2.mp c).1
  have g3 : x3 = 1 → 3 < a 23 := fun c => (h3.mp c).1
  have g4 : x4 = 1 → 4 < a 23 := fun c => (h4.mp c).1
  clear h0 h1 h2 h3 h4
  omega
theorem c_fs_i (wf : WF a) {s u each : Nat} (hs : s < a 23) (he : each < 1000) (hwr : w + 10 ≤ 132 ∨ 147 ≤ w) (hF : 1000 < F) : ∀ (K i m : Nat) (μ : fm_M), i + K = 5 → AW μ w a → (∀ j, j < i → μ.2.1 (135 + s) j = n3 (coolN (a (13 + s)) (rate a s) ((j + 1) * each))) → ∃ ν, g_X0_foresee F w (m + K + 1) 56 (n3 u) (n3 each) (n3 s) (n3 (coolN (a (13 + s)) (rate a s) (i * each))) (n3 i) μ = g_X0_foresee F w m 26 (n3 u) (n3 each) (n3 (s + 1)) 0 0 ν ∧ (∀ j, j < 5 → ν.2.1 (135 + s) j = n3 (coolN (a (13 + s)) (rate a s) ((j + 1) * each))) ∧ Ch (fun _ _ => False) (fun q _ => q = 135 + s) μ ν
  | 0, i, m, μ, hi, hw, hj => by
    obtain rfl : i = 5 := by omega
    have b4 := wf.1
    refine ⟨μ, ?_, hj, Ch.refl _ _ μ⟩
    rw [g_X0_foresee, if_neg (by decide), if_pos rfl, b_X0_foresee_56, if_pos (by decide), n3_one, n3_add]
  | K + 1, i, m, μ, hi, hw, hj => by
    have b4 := wf.1
    have wS := wf.2.2.1 s hs
    have r8 := rate_le a s
    have l1 := coolN_le (a (13 + s)) (rate a s) (i * each)
    have hr := c_rateOf (F := F) hw wf hs
    have hc : f_X8_cooledFor F (n3 (coolN (a (13 + s)) (rate a s) (i * each))) (n3 (rate a s)) (n3 each) μ = some (n3 (coolN (a (13 + s)) (rate a s) ((i + 1) * each)), μ) := by
      rw [Nat.add_mul, Nat.one_mul, coolN_add]
      exact c_cooledFor (by omega) (by omega) (by omega) (by omega)
    generalize hm1 : fm_sA μ (135 + s) (upd (μ.2.1 (135 + s)) i (n3 (coolN (a (13 + s)) (rate a s) ((i + 1) * each)))) = m1
    have c1 : Ch (fun _ _ => False) (fun q _ => q = 135 + s) μ m1 := by rw [← hm1]; exact (Ch.refl _ _ μ).sU rfl
    obtain ⟨ν, r1, r2, r3⟩ := c_fs_i (u := u) wf hs he hwr hF K (i + 1) m m1 (by omega) (hw.ch c1 (fun _ => id) (by omega)) (fun j hj2 => by
      rw [← hm1, fm_sA_eq rfl]
      by_cases c : j = i
      · rw [upd_eq c, c]
      · rw [upd_ne c]; exact hj j (by omega))
    refine ⟨ν, ?_, r2, c1.trans r3⟩
    rw [← r1, ← Nat.add_assoc m K 1, g_X0_foresee, if_neg (by decide), if_pos rfl, b_X0_foresee_56, if_neg (by rw [n3_k5, n3_le (by omega) (by omega)]; omega), hr, Option.bind_some]
    dsimp only
    rw [hc, Option.bind_some, if_pos (n3_in (by omega) (by omega)), n3_cl (by omega), if_pos (inA_135 (by omega) (by omega)), Option.bind_some, n3_cl (by omega), n3_one, n3_add]
    dsimp only
    rw [hm1]
theorem c_fs (wf : WF a) {p u each : Nat} (hu : UM p u a) (he : each < 1000) (hwr : w + 10 ≤ 132 ∨ 147 ≤ w) (hF : 1000 < F) : ∀ (K s m : Nat) (μ : fm_M), s + K = a 23 → K * 7 < m → AW μ w a → (∀ t, t < s → a (18 + t) = p → ∀ j, j < 5 → μ.2.1 (135 + t) j = n3 (coolN (a (13 + t)) (rate a t) ((j + 1) * each))) → ∃ ν, g_X0_foresee F w m 26 (n3 u) (n3 each) (n3 s) 0 0 μ = some ((), ν) ∧ (∀ t, t < a 23 → a (18 + t) = p → ∀ j, j < 5 → ν.2.1 (135 + t) j = n3 (coolN (a (13 + t)) (rate a t) ((j + 1) * each))) ∧ Ch (fun _ _ => False) (fun q _ => 135 ≤ q ∧ q < 140) μ ν
  | 0, s, m + 1, μ, hs, _, hw, hj => by
    obtain rfl : s = a 23 := by omega
    have b4 := wf.1
    have h3 := hw.1.2.1
    refine ⟨μ, ?_, hj, Ch.refl _ _ μ⟩
    rw [g_X0_foresee, if_pos rfl, b_X0_foresee_26, h3, if_pos (by rw [n3_le (by omega) (by omega)]; omega)]
  | K + 1, s, m + 1, μ, hs, hm, hw, hj => by
    have b4 := wf.1
    have h3 := hw.1.2.1
    have wS := wf.2.2.1 s (by omega)
    have e4 := (hw.2.2.1 s (by omega)).2.1
    have bits := v_m5' hu.1 (show s < 5 by omega)
    have two := Nat.mod_lt (u / 2 ^ s) (show 0 < 2 by omega)
    by_cases c : u / 2 ^ s % 2 = 1
    · obtain ⟨m', rfl⟩ : ∃ m', m = m' + 5 + 1 := ⟨m - 6, by omega⟩
      obtain ⟨μ1, r1, r2, r3⟩ := c_fs_i (F := F) (u := u) wf (s := s) (by omega) he hwr hF 5 0 m' μ (by omega) hw (fun j hj => by omega)
      rw [Nat.zero_mul] at r1
      obtain ⟨ν, q1, q2, q3⟩ := c_fs wf hu he hwr hF K (s + 1) m' μ1 (by omega) (by omega) (hw.ch r3 (fun _ => id) (by omega)) (fun t ht ho j hj2 => by
        by_cases ct : t = s
        · rw [ct]; exact r2 j hj2
        · rw [r3.2.1 _ _ (by omega)]; exact hj t (by omega) ho j hj2)
      refine ⟨ν, ?_, q2, (r3.weak (fun _ _ c => c) (fun q j c => by omega)).trans q3⟩
      rw [g_X0_foresee, if_pos rfl, b_X0_foresee_26, h3, if_neg (by rw [n3_le (by omega) (by omega)]; omega), bits.1, if_neg (show ¬ n3 (u / 2 ^ s % 2) = 0 by rw [c]; decide), if_pos (n3_in (by omega) (by omega)), n3_cl (by omega), e4]
      exact r1.trans q1
    · have hn : ¬ a (18 + s) = p := fun q => c ((hu.2 s (by omega)).mpr ⟨by omega, q⟩)
      obtain ⟨ν, q1, q2, q3⟩ := c_fs wf hu he hwr hF K (s + 1) m μ (by omega) (by omega) hw (fun t ht ho j hj2 => by
        by_cases ct : t = s
        · rw [ct] at ho; exact absurd ho hn
        · exact hj t (by omega) ho j hj2)
      refine ⟨ν, ?_, q2, q3⟩
      rw [g_X0_foresee, if_pos rfl, b_X0_foresee_26, h3, if_neg (by rw [n3_le (by omega) (by omega)]; omega), bits.1, if_pos (show n3 (u / 2 ^ s % 2) = 0 by rw [show u / 2 ^ s % 2 = 0 by omega]; rfl), n3_one, n3_add]
      exact q1
theorem c_find_l {d each u : Nat} (wf : WF a) (hd : d < a 39) (hwr : w + 10 ≤ 132 ∨ 147 ≤ w) (he : betw a (a (40 + d)) (a (44 + d)) = each) (hu : UM (a (40 + d)) u a) (hF : 1000 < F) : ∀ (K n m : Nat) (μ : fm_M), n + K = pc5 u + 1 → K < m → CI a w d each 0 a μ → ∃ ν, g_X0_find F w m 41 (n3 u) (n3 n) μ = some (oB (frs (fun n => srch (a (40 + d)) (a (44 + d)) d n a) K n), ν) ∧ (∀ r, frs (fun n => srch (a (40 + d)) (a (44 + d)) d n a) K n = some r → ν.1 132 0 = n3 r.length ∧ LR ν 133 r) ∧ Ch (fun q j => q = 132 ∧ j = 0) (fun q _ => q = 133 ∨ (141 < q ∧ q < 147)) μ ν
  | 0, n, m + 1, μ, hn, _, hI => by
    have b4 := wf.1
    have pl := pc_le wf hu
    refine ⟨μ, ?_, (fun r hr => by cases hr), Ch.refl _ _ μ⟩
    rw [g_X0_find, if_pos rfl, b_X0_find_41, c_bc hu.1, Option.bind_some, if_pos (by rw [n3_lt (by omega) (by omega)]; omega)]
    rfl
  | K + 1, n, m + 1, μ, hn, hm, hI => by
    have b4 := wf.1
    have pl := pc_le wf hu
    obtain ⟨μ1, q1, q2, q3⟩ := c_choose (F := F) wf hd hwr he (by omega) n 8 [] a u μ (by simp only [List.length_nil]; omega) (by omega) (PI_0 wf _ _) hu hI (fun j x hj => by cases hj)
    have q1 : f_X0_choose F 8 w (n3 0) (n3 n) (n3 u) μ = some (oB (srch (a (40 + d)) (a (44 + d)) d n a), μ1) := by
      rw [List.length_nil, Nat.zero_add] at q1; exact q1
    have c1 : Ch (fun q j => q = 132 ∧ j = 0) (fun q _ => q = 133 ∨ (141 < q ∧ q < 147)) μ μ1 := q3.weak (fun _ _ c => False.elim c) (fun q j c => by simp only [List.length_nil] at c; omega)
    have start : g_X0_find F w (m + 1) 41 (n3 u) (n3 n) μ = (if oB (srch (a (40 + d)) (a (44 + d)) d n a) = 0 then g_X0_find F w m 41 (n3 u) (n3 (n + 1)) μ1 else some (n3 1, fm_sI μ1 132 0 (n3 n))) := by
      rw [g_X0_find, if_pos rfl, b_X0_find_41, c_bc hu.1, Option.bind_some, if_neg (by rw [n3_lt (by omega) (by omega)]; omega), n3_k0, q1, Option.bind_some, n3_one, n3_add]
      rfl
    rw [start, frs]
    cases hs : srch (a (40 + d)) (a (44 + d)) d n a with
    | some r =>
      have hl := srch_len _ _ _ hs
      refine ⟨fm_sI μ1 132 0 (n3 n), if_neg (by show ¬ n3 1 = 0; decide), (fun r' hr' => ?_), c1.sI (by omega)⟩
      cases hr'
      refine ⟨by rw [hl]; exact fm_sI_eq ⟨rfl, rfl⟩, ?_⟩
      exact q2 r hs
    | none =>
      have C1 : CI a w d each 0 a μ1 := by
        refine ⟨hI.1.ch c1 (by omega) (by omega), by rw [c1.1 132 4 (by omega)]; exact hI.2.1, fun i hi => ?_, fun s h1 h2 i hi => ?_⟩
        · rw [c1.2.1 _ _ (by omega)]; exact hI.2.2.1 i hi
        · rw [c1.2.1 _ _ (by omega)]; exact hI.2.2.2 s h1 h2 i hi
      obtain ⟨ν, r1, r2, r3⟩ := c_find_l wf hd hwr he hu hF K (n + 1) m μ1 (by omega) (by omega) C1
      exact ⟨ν, (if_pos rfl).trans r1, r2, c1.trans r3⟩
theorem fw_pc {d u : Nat} (wf : WF a) (hd : d < a 39) (hu : UM (a (40 + d)) u a) : frs (fun n => srch (a (40 + d)) (a (44 + d)) d n a) (pc5 u + 1) 0 = fwst a d := by
  have pl := pc_le wf hu
  have wD := wf.2.2.2.2 d hd
  unfold fwst
  rw [show a 23 + 1 = pc5 u + 1 + (a 23 - pc5 u) by omega, frs_add (pc5 u + 1) (a 23 - pc5 u) 0]
  cases frs (fun n => srch (a (40 + d)) (a (44 + d)) d n a) (pc5 u + 1) 0 with
  | some r => rfl
  | none =>
    dsimp only
    refine (frs_none _ _ (fun j h1 h2 => ?_)).symm
    cases hs : srch (a (40 + d)) (a (44 + d)) d j a with
    | none => rfl
    | some r =>
      have := srch_pc (fun c => wD.2.2.2 c.symm) j a u r wf wD.2.2.1 hu hs
      omega
theorem c_few {d : Nat} (hw : AW μ w a) (wf : WF a) (hd : d < a 39) (hwr : w + 10 ≤ 132 ∨ 147 ≤ w) (hF : 1000 < F) : ∃ ν, f_X0_find F w (n3 d) μ = some (oB (fwst a d), ν) ∧ (∀ r, fwst a d = some r → ν.1 132 0 = n3 r.length ∧ LR ν 133 r) ∧ Ch (fun q j => q = 132 ∧ (j = 0 ∨ j = 4)) (fun q _ => q = 133 ∨ (135 ≤ q ∧ q < 140) ∨ (141 ≤ q ∧ q < 147)) μ ν := by
  have b4 := wf.1
  have wD := wf.2.2.2.2 d hd
  have bl := betw_le wf wD.2.1 wD.2.2.1
  generalize he : betw a (a (40 + d)) (a (44 + d)) = each at bl
  obtain ⟨u, hm, hu⟩ := mask_u wf (a (40 + d))
  generalize hm1 : fm_sA (fm_sI μ 132 4 (n3 d)) 141 (va_cpy (μ.2.1 (w + 9)) (μ.2.1 141) 0 0 4) = m1
  have c1 : Ch (fun q j => q = 132 ∧ (j = 0 ∨ j = 4)) (fun q _ => q = 133 ∨ (135 ≤ q ∧ q < 140) ∨ (141 ≤ q ∧ q < 147)) μ m1 := by rw [← hm1]; exact ((Ch.refl _ _ μ).sI (by omega)).sG (fun _ => by omega)
  have hw1 : AW m1 w a := hw.ch c1 (by omega) (by omega)
  have h41 : m1.1 132 4 = n3 d := by rw [← hm1, fm_sA_1]; exact fm_sI_eq ⟨rfl, rfl⟩
  have hD := hw1.2.2.2.2 d hd
  have ho : ∀ i, i < a 39 → m1.2.1 141 i = n3 (a (33 + i)) := by
    intro i hi
    rw [← hm1, fm_sA_eq rfl, cpy_0 (by omega)]
    exact (hw.2.2.2.2 i hi).2.2
  have hs := c_mask (F := F) hw1 wf (p := a (40 + d)) (by omega) (by omega)
  rw [hm] at hs
  have hb := c_betw (F := F) hw1 wf wD.2.1 wD.2.2.1
  rw [he] at hb
  obtain ⟨m2, q1, q2, q3⟩ := c_fs (F := F) wf hu (each := each) (by omega) hwr hF (a 23) 0 F m1 (by omega) (by omega) hw1 (fun t ht => by omega)
  have q1' : f_X0_foresee F w (n3 u) m1 = some ((), m2) := by
    unfold f_X0_foresee
    rw [h41, if_pos (n3_in (by omega) (by omega)), if_pos (n3_in (by omega) (by omega)), n3_cl (by omega), hD.1, hD.2.1, hb, Option.bind_some]
    exact q1
  obtain ⟨ν, r1, r2, r3⟩ := c_find_l (F := F) wf hd hwr he hu hF (pc5 u + 1) 0 F m2 (by omega) (by have := pc_le wf hu; omega) ⟨hw1.ch q3 (fun _ => id) (by omega), by rw [q3.1 132 4 id]; exact h41, fun i hi => by rw [q3.2.1 _ _ (by omega)]; exact ho i hi, q2⟩
  rw [fw_pc wf hd hu] at r1 r2
  refine ⟨ν, ?_, r2, (c1.trans (q3.weak (fun _ _ c => False.elim c) (fun q j c => by omega))).trans (r3.weak (fun q j c => by omega) (fun q j c => by omega))⟩
  unfold f_X0_find
  rw [Option.bind_some, if_pos (by decide), Option.bind_some, if_pos (n3_in (by omega) (by omega)), n3_cl (by omega), show (0 : Int32).toNatClampNeg = 0 from rfl, show (4 : Int32).toNatClampNeg = 4 from rfl]
  have hm1' : fm_sA (fm_sI μ 132 4 (n3 d)) 141 (va_cpy ((fm_sI μ 132 4 (n3 d)).2.1 (w + 9)) ((fm_sI μ 132 4 (n3 d)).2.1 141) 0 0 4) = m1 := hm1
  rw [hm1', hD.1, hs, Option.bind_some]
  dsimp only
  rw [q1', Option.bind_some]
  exact r1
end VS56
