/-! the fewest walks: the reference's table -/
def up2 (h : Nat → Nat → Nat) (T V m : Nat) : Nat → Nat → Nat := fun t v => if t = T ∧ v = V then min m (h T V) else h t v
theorem up2_le (h : Nat → Nat → Nat) (T V m t v : Nat) : up2 h T V m t v ≤ h t v := by
  unfold up2
  split
  · rename_i c; rw [c.1, c.2]; exact Nat.min_le_right _ _
  · exact Nat.le_refl _
theorem up2_at (h : Nat → Nat → Nat) (T V m : Nat) : up2 h T V m T V ≤ m := by
  unfold up2
  rw [if_pos ⟨rfl, rfl⟩]
  exact Nat.min_le_left _ _
theorem up2_ne {h : Nat → Nat → Nat} {T V m t v : Nat} (c : t ≠ T) : up2 h T V m t v = h t v := if_neg (fun q => c q.1)
theorem up2_or (h : Nat → Nat → Nat) (T V m t v : Nat) : up2 h T V m t v = h t v ∨ (t = T ∧ v = V ∧ up2 h T V m t v = m) := by
  unfold up2
  split
  · rename_i c
    rw [c.1, c.2]
    by_cases q : m ≤ h T V
    · exact .inr ⟨rfl, rfl, Nat.min_eq_left q⟩
    · exact .inl (Nat.min_eq_right (by omega))
  · exact .inl rfl
section VS62a
variable {D H r w0 n : Nat}
theorem PR_stay (j t : Nat) : orP (cool (PR D H r w0 j t) r) ≤ PR D H r w0 j (t + 1) := by
  cases j with
  | zero =>
    show _ ≤ mx _ (orP (cool (stR r (bs0 w0) t) r))
    rcases mx_or (x := bs0 w0 (t + 1)) (y := orP (cool (stR r (bs0 w0) t) r)) with c | c
    · rw [c.1]; exact c.2
    · rw [c.1]; exact Nat.le_refl _
  | succ j =>
    show _ ≤ mx _ (orP (cool (stR r (bsW D H r (PR D H r w0 j)) t) r))
    rcases mx_or (x := bsW D H r (PR D H r w0 j) (t + 1)) (y := orP (cool (stR r (bsW D H r (PR D H r w0 j)) t) r)) with c | c
    · rw [c.1]; exact c.2
    · rw [c.1]; exact Nat.le_refl _
theorem stR_ge (base : Nat → Nat) (t : Nat) : base t ≤ stR r base t := by
  cases t with
  | zero => exact Nat.le_refl _
  | succ t =>
    rw [stR]
    rcases mx_or (x := base (t + 1)) (y := orP (cool (stR r base t) r)) with c | c
    · rw [c.1]; exact Nat.le_refl _
    · rw [c.1]; omega
theorem PR_walk {j T : Nat} (h : 2 * D + 1 ≤ T) : wu D H r (2 * D + 1) 1 (PR D H r w0 j (T - (2 * D + 1))) ≤ PR D H r w0 (j + 1) T := by
  have := stR_ge (r := r) (bsW D H r (PR D H r w0 j)) T
  have e : bsW D H r (PR D H r w0 j) T = wu D H r (2 * D + 1) 1 (PR D H r w0 j (T - (2 * D + 1))) := if_pos h
  rw [e] at this
  exact this
theorem bn_ge {old : Nat → Nat} {t : Nat} (hn : n ≤ t + 2 * D + 1) : ∀ T, t < T → wu D H r (n - t) 1 (old t) ≤ bn D H r n old T
  | 0, h => by omega
  | T + 1, h => by
    rw [bn]
    by_cases c : t = T
    · subst c
      rw [if_pos hn]
      rcases mx_or (x := bn D H r n old t) (y := wu D H r (n - t) 1 (old t)) with c | c
      · rw [c.1]; exact c.2
      · rw [c.1]; exact Nat.le_refl _
    · have i := bn_ge (old := old) hn T (by omega)
      split
      · rcases mx_or (x := bn D H r n old T) (y := wu D H r (n - T) 1 (old T)) with c | c
        · rw [c.1]; exact i
        · rw [c.1]; omega
      · exact i
theorem bn_pos {old : Nat → Nat} : ∀ T, 0 < bn D H r n old T → ∃ t, t < T ∧ n ≤ t + 2 * D + 1 ∧ 0 < wu D H r (n - t) 1 (old t)
  | 0, h => by rw [bn] at h; omega
  | T + 1, h => by
    rw [bn] at h
    split at h
    · rename_i c
      rcases mx_or (x := bn D H r n old T) (y := wu D H r (n - T) 1 (old T)) with q | q
      · rw [q.1] at h
        obtain ⟨t, t1, t2, t3⟩ := bn_pos T h
        exact ⟨t, by omega, t2, t3⟩
      · rw [q.1] at h
        exact ⟨T, by omega, c, h⟩
    · obtain ⟨t, t1, t2, t3⟩ := bn_pos T h
      exact ⟨t, by omega, t2, t3⟩
theorem FN_PR (m : Nat) : PR D H r w0 m n ≤ FN D H r w0 n m := by
  cases m with
  | zero => exact Nat.le_refl _
  | succ j =>
    rw [FN]
    cases n with
    | zero =>
      have e : PR D H r w0 (j + 1) 0 = 0 := by show bsW D H r (PR D H r w0 j) 0 = 0; exact if_neg (by omega)
      rw [e]; exact Nat.zero_le _
    | succ k =>
      rw [if_neg (by omega), Nat.add_sub_cancel]
      show mx (bsW D H r (PR D H r w0 j) (k + 1)) (orP (cool (PR D H r w0 (j + 1) k) r)) ≤ _
      have g : bsW D H r (PR D H r w0 j) (k + 1) ≤ bn D H r (k + 1) (PR D H r w0 j) (k + 1) := by
        unfold bsW
        split
        · rename_i c
          have := bn_ge (D := D) (H := H) (r := r) (n := k + 1) (old := PR D H r w0 j) (t := k + 1 - (2 * D + 1)) (by omega) (k + 1) (by omega)
          rwa [show k + 1 - (k + 1 - (2 * D + 1)) = 2 * D + 1 by omega] at this
        · omega
      exact mx_m g
theorem stR_pos {base : Nat → Nat} (h : ∀ t, base t = 0 ∨ 5 ≤ base t) : ∀ t, stR r base t = 0 ∨ 5 ≤ stR r base t
  | 0 => h 0
  | t + 1 => by
    rw [stR]
    rcases mx_or (x := base (t + 1)) (y := orP (cool (stR r base t) r)) with c | c
    · rw [c.1]; exact h (t + 1)
    · rw [c.1]
      rcases orP_or (cool (stR r base t) r) with q | q <;> omega
theorem PR_pos (hH : 5 ≤ H) : ∀ j t, PR D H r w0 j t = 0 ∨ 5 ≤ PR D H r w0 j t
  | 0, t => stR_pos (fun t => by unfold bs0; split; rcases orP_or w0 with q | q <;> omega; exact .inl rfl) t
  | j + 1, t => stR_pos (fun t => by unfold bsW; split; exact wu_pos hH _ _ _ (PR_pos hH j _); exact .inl rfl) t
def INV (D H r w0 n t v : Nat) (h : Nat → Nat → Nat) (L : Nat) : Prop :=
  (∀ t' v', h t' v' < 1000 → 5 ≤ v' ∧ v' < 100 ∧ t' ≤ n ∧ h t' v' ≤ t' ∧ v' ≤ PR D H r w0 (h t' v') t') ∧
  (∀ t' v', 5 ≤ v' → v' < 100 → t' ≤ n → (t' < t ∨ (t' = t ∧ v' < v)) → h t' v' < 1000 → (t' < n → (5 ≤ cool v' r → h (t' + 1) (cool v' r) ≤ h t' v') ∧ ∀ x, wk D H r n t' (2 * D + 1) 1 v' = some x → (t' + 2 * D + 1 ≤ n → h (t' + 2 * D + 1) x ≤ h t' v' + 1) ∧ (n < t' + 2 * D + 1 → L ≤ h t' v' + 1)) ∧ (t' = n → L ≤ h t' v')) ∧
  (5 ≤ w0 → h 0 w0 = 0) ∧ (L ≤ 1000 ∧ (L < 1000 → L ≤ n ∧ 0 < FN D H r w0 n L))
/-- INV does not fall when later cells fall, if they stay sound -/
theorem INV.down {t v : Nat} {h h' : Nat → Nat → Nat} {L L' : Nat} (hi : INV D H r w0 n t v h L) (ht : t ≤ n) (e : ∀ t' v', t' ≤ t → h' t' v' = h t' v') (le : ∀ t' v', h' t' v' ≤ h t' v') (lL : L' ≤ L) (hs : ∀ t' v', h' t' v' < 1000 → 5 ≤ v' ∧ v' < 100 ∧ t' ≤ n ∧ h' t' v' ≤ t' ∧ v' ≤ PR D H r w0 (h' t' v') t') (hL : L' < 1000 → L' ≤ n ∧ 0 < FN D H r w0 n L') (new : 5 ≤ v → v < 100 → h t v < 1000 → (t < n → (5 ≤ cool v r → h' (t + 1) (cool v r) ≤ h t v) ∧ ∀ x, wk D H r n t (2 * D + 1) 1 v = some x → (t + 2 * D + 1 ≤ n → h' (t + 2 * D + 1) x ≤ h t v + 1) ∧ (n < t + 2 * D + 1 → L' ≤ h t v + 1)) ∧ (t = n → L' ≤ h t v)) : INV D H r w0 n t (v + 1) h' L' := by
  obtain ⟨i1, i2, i3, i4, i5⟩ := hi
  refine ⟨hs, fun t' v' h5 h100 hn hp hlt => ?_, fun h5 => by rw [e 0 w0 (Nat.zero_le _)]; exact i3 h5, by omega, hL⟩
  by_cases c : t' = t ∧ v' = v
  · obtain ⟨rfl, rfl⟩ := c
    rw [e t' v' (Nat.le_refl _)] at hlt ⊢
    exact new h5 h100 hlt
  · rw [e t' v' (by omega)] at hlt ⊢
    obtain ⟨j1, j2⟩ := i2 t' v' h5 h100 hn (by omega) hlt
    refine ⟨fun hlt2 => ?_, fun q => Nat.le_trans lL (j2 q)⟩
    obtain ⟨k1, k2⟩ := j1 hlt2
    refine ⟨fun q => Nat.le_trans (le _ _) (k1 q), fun x hx => ?_⟩
    obtain ⟨k3, k4⟩ := k2 x hx
    exact ⟨fun q => Nat.le_trans (le _ _) (k3 q), fun q => Nat.le_trans lL (k4 q)⟩
theorem INV.next {t : Nat} {h : Nat → Nat → Nat} {L : Nat} (hi : INV D H r w0 n t 100 h L) : INV D H r w0 n (t + 1) 5 h L := by
  obtain ⟨i1, i2, i3, i4⟩ := hi
  exact ⟨i1, fun t' v' h5 h100 hn hp hlt => i2 t' v' h5 h100 hn (by omega) hlt, i3, i4⟩
/-- what a step does to the table, and to the least -/
def stH (D H r n : Nat) (h : Nat → Nat → Nat) (t v : Nat) : Nat → Nat → Nat :=
  match wk D H r n t (2 * D + 1) 1 v with
  | none => if 5 ≤ cool v r then up2 h (t + 1) (cool v r) (h t v) else h
  | some x => if t + 2 * D + 1 ≤ n then up2 (if 5 ≤ cool v r then up2 h (t + 1) (cool v r) (h t v) else h) (t + 2 * D + 1) x (h t v + 1) else (if 5 ≤ cool v r then up2 h (t + 1) (cool v r) (h t v) else h)
def stL (D H r n : Nat) (h : Nat → Nat → Nat) (t v L : Nat) : Nat :=
  match wk D H r n t (2 * D + 1) 1 v with
  | none => L
  | some _ => if n < t + 2 * D + 1 ∧ h t v + 1 < L then h t v + 1 else L
theorem INV.step {t v : Nat} {h : Nat → Nat → Nat} {L : Nat} (hr : r < 9) (h5 : 5 ≤ H) (h99 : H ≤ 99) (hw : w0 ≤ 99) (hi : INV D H r w0 n t v h L) (ht : t < n) (hn : n ≤ 60) (hlt : h t v < 1000) : INV D H r w0 n t (v + 1) (stH D H r n h t v) (stL D H r n h t v L) := by
  obtain ⟨s1, s2, s3, s4, s5⟩ := hi.1 t v hlt
  have cl := cool_le v r
  have pl := PR_le (D := D) (r := r) h99 hw (h t v) t
  -- the table behind staying
  have A : ∃ h1, (if 5 ≤ cool v r then up2 h (t + 1) (cool v r) (h t v) else h) = h1 ∧ (∀ t' v', t' ≤ t → h1 t' v' = h t' v') ∧ (∀ t' v', h1 t' v' ≤ h t' v') ∧ (∀ t' v', h1 t' v' < 1000 → 5 ≤ v' ∧ v' < 100 ∧ t' ≤ n ∧ h1 t' v' ≤ t' ∧ v' ≤ PR D H r w0 (h1 t' v') t') ∧ (5 ≤ cool v r → h1 (t + 1) (cool v r) ≤ h t v) := by
    refine ⟨_, rfl, ?_⟩
    by_cases c : 5 ≤ cool v r
    · rw [if_pos c]
      refine ⟨fun t' v' q => up2_ne (by omega), up2_le _ _ _ _, fun t' v' q => ?_, fun _ => up2_at _ _ _ _⟩
      rcases up2_or h (t + 1) (cool v r) (h t v) t' v' with e | ⟨e1, e2, e3⟩
      · rw [e] at q ⊢; exact hi.1 t' v' q
      · rw [e3, e1, e2]
        have m := cool_m hr s5 pl
        have o : orP (cool (PR D H r w0 (h t v) t) r) = cool (PR D H r w0 (h t v) t) r := if_neg (by omega)
        have st := PR_stay (D := D) (H := H) (r := r) (w0 := w0) (h t v) t
        exact ⟨c, by omega, by omega, by omega, by omega⟩
    · rw [if_neg c]
      exact ⟨fun _ _ _ => rfl, fun _ _ => Nat.le_refl _, hi.1, fun q => absurd q c⟩
  obtain ⟨h1, e1, a1, a2, a3, a4⟩ := A
  unfold stH stL
  rw [e1]
  have sound : ∀ L', L' ≤ L → (L' = L ∨ (L' = h t v + 1 ∧ n < t + 2 * D + 1 ∧ ∃ x, wk D H r n t (2 * D + 1) 1 v = some x)) → (L' < 1000 → L' ≤ n ∧ 0 < FN D H r w0 n L') := by
    intro L' _ q ql
    rcases q with q | ⟨q1, q2, x, qx⟩
    · rw [q] at ql ⊢; exact hi.2.2.2.2 ql
    · rw [q1]
      refine ⟨by omega, ?_⟩
      have np := (wk_part (D := D) (H := H) (r := r) (n := n) (t := t) h5 (n - t) (2 * D + 1 - (n - t)) 1 v s1 (by omega))
      rw [show n - t + (2 * D + 1 - (n - t)) = 2 * D + 1 by omega, qx] at np
      have p1 : 0 < wu D H r (n - t) 1 v := Nat.pos_of_ne_zero (fun c => by have := np.mpr c; cases this)
      have p2 := wu_m (D := D) hr h99 (n - t) 1 v _ s5 pl
      have p3 := bn_ge (D := D) (H := H) (r := r) (n := n) (old := PR D H r w0 (h t v)) (t := t) (by omega) n ht
      rw [FN]
      rcases mx_or (x := bn D H r n (PR D H r w0 (h t v)) n) (y := if n = 0 then 0 else orP (cool (PR D H r w0 (h t v + 1) (n - 1)) r)) with c | c
      · rw [c.1]; omega
      · rw [c.1]; omega
  cases hx : wk D H r n t (2 * D + 1) 1 v with
  | none =>
    refine hi.down (by omega) a1 a2 (Nat.le_refl _) a3 hi.2.2.2.2 (fun _ _ _ => ⟨fun _ => ⟨a4, fun x q => by rw [hx] at q; cases q⟩, fun q => by omega⟩)
  | some x =>
    dsimp only
    by_cases c : t + 2 * D + 1 ≤ n
    · rw [if_pos c, if_neg (show ¬ (n < t + 2 * D + 1 ∧ h t v + 1 < L) by omega)]
      have wf := wk_full (D := D) (H := H) (r := r) (n := n) (t := t) h5 (2 * D + 1) 1 v s1 (by omega)
      rw [hx] at wf
      have xe : x = wu D H r (2 * D + 1) 1 v ∧ ¬ wu D H r (2 * D + 1) 1 v = 0 := by
        split at wf
        · cases wf
        · rename_i q; exact ⟨Option.some.inj wf, q⟩
      have x5 := wu_pos (D := D) (r := r) h5 (2 * D + 1) 1 v (.inr s1)
      have x99 := wu_le (D := D) (r := r) h99 (2 * D + 1) 1 v (by omega)
      have xm := wu_m (D := D) hr h99 (2 * D + 1) 1 v _ s5 pl
      have xp := PR_walk (D := D) (H := H) (r := r) (w0 := w0) (j := h t v) (T := t + 2 * D + 1) (by omega)
      rw [show t + 2 * D + 1 - (2 * D + 1) = t by omega] at xp
      refine hi.down (by omega) (fun t' v' q => by rw [up2_ne (by omega)]; exact a1 t' v' q) (fun t' v' => Nat.le_trans (up2_le _ _ _ _ _ _) (a2 t' v')) (Nat.le_refl _) (fun t' v' q => ?_) hi.2.2.2.2 (fun _ _ _ => ⟨fun _ => ⟨fun q => Nat.le_trans (up2_le _ _ _ _ _ _) (a4 q), fun y q => ?_⟩, fun q => by omega⟩)
      · rcases up2_or h1 (t + 2 * D + 1) x (h t v + 1) t' v' with e | ⟨e1, e2, e3⟩
        · rw [e] at q ⊢; exact a3 t' v' q
        · rw [e3, e1, e2]
          exact ⟨by omega, by omega, c, by omega, by omega⟩
      · rw [hx] at q
        cases q
        exact ⟨fun _ => up2_at _ _ _ _, fun q => by omega⟩
    · rw [if_neg c]
      by_cases cL : n < t + 2 * D + 1 ∧ h t v + 1 < L
      · rw [if_pos cL]
        exact hi.down (by omega) a1 a2 (by omega) a3 (sound _ (by omega) (.inr ⟨rfl, cL.1, x, hx⟩)) (fun _ _ _ => ⟨fun _ => ⟨a4, fun y _ => ⟨fun q => by omega, fun _ => Nat.le_refl _⟩⟩, fun q => by omega⟩)
      · rw [if_neg cL]
        exact hi.down (by omega) a1 a2 (Nat.le_refl _) a3 hi.2.2.2.2 (fun _ _ _ => ⟨fun _ => ⟨a4, fun y _ => ⟨fun q => by omega, fun _ => by omega⟩⟩, fun q => by omega⟩)
/-- at the last minute -/
theorem INV.last {v : Nat} {h : Nat → Nat → Nat} {L : Nat} (hi : INV D H r w0 n n v h L) : INV D H r w0 n n (v + 1) h (if h n v < L then h n v else L) := by
  refine hi.down (Nat.le_refl _) (fun _ _ _ => rfl) (fun _ _ => Nat.le_refl _) (by split <;> omega) hi.1 (fun q => ?_) (fun _ _ _ => ⟨fun q => by omega, fun _ => by split <;> omega⟩)
  split at q
  · rename_i c
    rw [if_pos c]
    obtain ⟨s1, s2, s3, s4, s5⟩ := hi.1 n v q
    have := FN_PR (D := D) (H := H) (r := r) (w0 := w0) (n := n) (h n v)
    exact ⟨s4, by omega⟩
  · rename_i c
    rw [if_neg c]
    exact hi.2.2.2.2 q
theorem INV.skip {t v : Nat} {h : Nat → Nat → Nat} {L : Nat} (hi : INV D H r w0 n t v h L) (ht : t ≤ n) (hb : ¬ h t v < 1000) : INV D H r w0 n t (v + 1) h L :=
  hi.down ht (fun _ _ _ => rfl) (fun _ _ => Nat.le_refl _) (Nat.le_refl _) hi.1 hi.2.2.2.2 (fun _ _ q => absurd q hb)
/-- the warmest are in the table -/
theorem INV.full {h : Nat → Nat → Nat} {L : Nat} (h5 : 5 ≤ H) (h99 : H ≤ 99) (hw : w0 ≤ 99) (hi : INV D H r w0 n (n + 1) 5 h L) : ∀ (m t j : Nat), t ≤ m → t ≤ n → j ≤ 900 → 0 < PR D H r w0 j t → h t (PR D H r w0 j t) ≤ j
  | m, 0, j, _, _, hj, hp => by
    cases j with
    | zero =>
      have e : PR D H r w0 0 0 = orP w0 := by show bs0 w0 0 = _; exact if_pos rfl
      rw [e] at hp ⊢
      rcases orP_or w0 with q | q
      · omega
      · rw [q.2, hi.2.2.1 (by omega)]; exact Nat.le_refl _
    | succ j =>
      have e : PR D H r w0 (j + 1) 0 = 0 := by show bsW D H r (PR D H r w0 j) 0 = 0; exact if_neg (by omega)
      omega
  | 0, t + 1, j, ht, _, _, _ => by omega
  | m + 1, t + 1, j, ht, hn, hj, hp => by
    have stay : orP (cool (PR D H r w0 j t) r) = PR D H r w0 j (t + 1) → h (t + 1) (PR D H r w0 j (t + 1)) ≤ j := by
      intro e
      rw [← e] at hp ⊢
      rcases orP_or (cool (PR D H r w0 j t) r) with q | q
      · omega
      · have cl := cool_le (PR D H r w0 j t) r
        have pl := PR_le (D := D) (r := r) h99 hw j t
        have ih := INV.full h5 h99 hw hi m t j (by omega) (by omega) hj (by omega)
        have := ((hi.2.1 t (PR D H r w0 j t) (by omega) (by omega) (by omega) (by omega) (by omega)).1 (by omega)).1 (by omega)
        rw [q.2]; omega
    cases j with
    | zero =>
      refine stay ?_
      show _ = mx (bs0 w0 (t + 1)) (orP (cool (stR r (bs0 w0) t) r))
      have e : bs0 w0 (t + 1) = 0 := if_neg (by omega)
      rw [e]
      show orP (cool (stR r (bs0 w0) t) r) = _
      unfold mx
      split <;> omega
    | succ j =>
      have e : PR D H r w0 (j + 1) (t + 1) = mx (bsW D H r (PR D H r w0 j) (t + 1)) (orP (cool (PR D H r w0 (j + 1) t) r)) := rfl
      rcases mx_or (x := bsW D H r (PR D H r w0 j) (t + 1)) (y := orP (cool (PR D H r w0 (j + 1) t) r)) with q | q
      · rw [q.1] at e
        rw [e] at hp ⊢
        unfold bsW at hp ⊢
        split at hp
        · rename_i c
          rw [if_pos c]
          have pp : 0 < PR D H r w0 j (t + 1 - (2 * D + 1)) := by
            by_cases z : PR D H r w0 j (t + 1 - (2 * D + 1)) = 0
            · rw [z, wu_0] at hp; omega
            · omega
          have p5 := PR_pos (D := D) (r := r) (w0 := w0) h5 j (t + 1 - (2 * D + 1))
          have pl := PR_le (D := D) (r := r) h99 hw j (t + 1 - (2 * D + 1))
          have ih := INV.full h5 h99 hw hi m (t + 1 - (2 * D + 1)) j (by omega) (by omega) (by omega) pp
          have wf := wk_full (D := D) (H := H) (r := r) (n := n) (t := t + 1 - (2 * D + 1)) h5 (2 * D + 1) 1 _ (show 5 ≤ PR D H r w0 j (t + 1 - (2 * D + 1)) by omega) (by omega)
          rw [if_neg (by omega)] at wf
          have := (((hi.2.1 _ _ (by omega) (by omega) (by omega) (by omega) (by omega)).1 (by omega)).2 _ wf).1 (by omega)
          rw [show t + 1 - (2 * D + 1) + 2 * D + 1 = t + 1 by omega] at this
          omega
        · omega
      · exact stay (by rw [e, q.1])
theorem INV.upper {h : Nat → Nat → Nat} {L : Nat} (h5 : 5 ≤ H) (h99 : H ≤ 99) (hw : w0 ≤ 99) (hi : INV D H r w0 n (n + 1) 5 h L) (j : Nat) (hj : j ≤ 800) (hp : 0 < FN D H r w0 n j) : L ≤ j := by
  have at_n : ∀ v, h n v ≤ j → L ≤ j := fun v q => by
    obtain ⟨s1, s2, s3, s4, s5⟩ := hi.1 n v (by omega)
    have := (hi.2.1 n v s1 s2 (Nat.le_refl _) (by omega) (by omega)).2 rfl
    omega
  cases j with
  | zero => exact at_n _ (INV.full h5 h99 hw hi n n 0 (Nat.le_refl _) (Nat.le_refl _) (by omega) hp)
  | succ i =>
    rw [FN] at hp
    rcases mx_or (x := bn D H r n (PR D H r w0 i) n) (y := if n = 0 then 0 else orP (cool (PR D H r w0 (i + 1) (n - 1)) r)) with q | q
    · rw [q.1] at hp
      obtain ⟨t, t1, t2, t3⟩ := bn_pos n hp
      have pp : 0 < PR D H r w0 i t := by
        by_cases z : PR D H r w0 i t = 0
        · rw [z, wu_0] at t3; omega
        · omega
      have p5 := PR_pos (D := D) (r := r) (w0 := w0) h5 i t
      have pl := PR_le (D := D) (r := r) h99 hw i t
      have ih := INV.full h5 h99 hw hi n t i (by omega) (by omega) (by omega) pp
      have P := ((hi.2.1 t (PR D H r w0 i t) (by omega) (by omega) (by omega) (by omega) (by omega)).1 t1).2
      by_cases c : t + 2 * D + 1 ≤ n
      · have wf := wk_full (D := D) (H := H) (r := r) (n := n) (t := t) h5 (2 * D + 1) 1 _ (show 5 ≤ PR D H r w0 i t by omega) (by omega)
        rw [show n - t = 2 * D + 1 by omega] at t3
        rw [if_neg (by omega)] at wf
        have := (P _ wf).1 c
        rw [show t + 2 * D + 1 = n by omega] at this
        exact at_n _ (show h n (wu D H r (2 * D + 1) 1 (PR D H r w0 i t)) ≤ i + 1 by omega)
      · have np := (wk_part (D := D) (H := H) (r := r) (n := n) (t := t) h5 (n - t) (2 * D + 1 - (n - t)) 1 _ (show 5 ≤ PR D H r w0 i t by omega) (by omega))
        rw [show n - t + (2 * D + 1 - (n - t)) = 2 * D + 1 by omega] at np
        cases hx : wk D H r n t (2 * D + 1) 1 (PR D H r w0 i t) with
        | none => have := np.mp hx; omega
        | some x =>
          have := (P _ hx).2 (by omega)
          omega
    · rw [q.1] at hp
      split at hp
      · omega
      · rename_i c
        rcases orP_or (cool (PR D H r w0 (i + 1) (n - 1)) r) with z | z
        · omega
        · have cl := cool_le (PR D H r w0 (i + 1) (n - 1)) r
          have pl := PR_le (D := D) (r := r) h99 hw (i + 1) (n - 1)
          have ih := INV.full h5 h99 hw hi n (n - 1) (i + 1) (by omega) (by omega) (by omega) (by omega)
          have := ((hi.2.1 (n - 1) _ (by omega) (by omega) (by omega) (by omega) (show h (n - 1) (PR D H r w0 (i + 1) (n - 1)) < 1000 by omega)).1 (by omega)).1 (by omega)
          rw [show n - 1 + 1 = n by omega] at this
          exact at_n _ (show h n (cool (PR D H r w0 (i + 1) (n - 1)) r) ≤ i + 1 by omega)
theorem frs_fnd : ∀ (K i : Nat), (∀ j, frs (fnd D H r w0 n) K i = some j → i ≤ j ∧ j < i + K ∧ 0 < FN D H r w0 n j ∧ ∀ i', i ≤ i' → i' < j → FN D H r w0 n i' = 0) ∧ (frs (fnd D H r w0 n) K i = none → ∀ i', i ≤ i' → i' < i + K → FN D H r w0 n i' = 0)
  | 0, i => ⟨(fun j h => by cases h), (fun _ i' h1 h2 => by omega)⟩
  | K + 1, i => by
    obtain ⟨g1, g2⟩ := frs_fnd K (i + 1)
    rw [frs]
    by_cases c : 0 < FN D H r w0 n i
    · have e : fnd D H r w0 n i = some i := if_pos c
      rw [e]
      refine ⟨fun j h => ?_, fun h => by cases h⟩
      cases h
      exact ⟨Nat.le_refl _, by omega, c, fun i' h1 h2 => by omega⟩
    · have e : fnd D H r w0 n i = none := if_neg c
      rw [e]
      refine ⟨fun j h => ?_, fun h i' h1 h2 => ?_⟩
      · obtain ⟨k1, k2, k3, k4⟩ := g1 j h
        refine ⟨by omega, by omega, k3, fun i' h1 h2 => ?_⟩
        by_cases q : i' = i
        · rw [q]; omega
        · exact k4 i' (by omega) h2
      · by_cases q : i' = i
        · rw [q]; omega
        · exact g2 h i' (by omega) (by omega)
theorem INV.answer {h : Nat → Nat → Nat} {L : Nat} (h5 : 5 ≤ H) (h99 : H ≤ 99) (hw : w0 ≤ 99) (hn : n ≤ 60) (hi : INV D H r w0 n (n + 1) 5 h L) : (if L = 1000 then -n3 4 else n3 L) = oW (frs (fnd D H r w0 n) (n + 1) 0) := by
  obtain ⟨g1, g2⟩ := frs_fnd (D := D) (H := H) (r := r) (w0 := w0) (n := n) (n + 1) 0
  obtain ⟨l1, l2⟩ := hi.2.2.2
  cases hf : frs (fnd D H r w0 n) (n + 1) 0 with
  | none =>
    rw [if_pos]
    · rfl
    · by_cases c : L < 1000
      · obtain ⟨q1, q2⟩ := l2 c
        have := g2 hf L (by omega) (by omega)
        omega
      · omega
  | some j =>
    obtain ⟨k1, k2, k3, k4⟩ := g1 j hf
    have u := hi.upper h5 h99 hw j (by omega) k3
    obtain ⟨q1, q2⟩ := l2 (by omega)
    have : L = j := by
      by_cases c : L < j
      · have := k4 L (by omega) c
        omega
      · omega
    rw [if_neg (by omega), this]
    rfl
end VS62a
