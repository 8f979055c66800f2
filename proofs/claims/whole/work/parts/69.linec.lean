/-! lines, the class -/
def liv (σ : Nat ⊕ (Nat × Nat)) : Prop := ∃ p, σ = .inl p
def lcI (q j : Nat) : Prop := (q = 123 ∧ 2 ≤ j ∧ j ≤ 7) ∨ (111 ≤ q ∧ q < 121)
def lcA (q _j : Nat) : Prop := 111 ≤ q ∧ q < 121
section VS69
variable {F : Nat} {μ ν : fm_M} {a b : Nat → Nat} {w : Nat} {B : Nat → Nat} {T p : Nat} {σ : Nat ⊕ (Nat × Nat)}
theorem liv_sm (h : liv (smT B T σ)) : liv σ := by
  obtain ⟨p, hp⟩ := h
  cases σ with
  | inl q => exact ⟨q, rfl⟩
  | inr d => cases hp
theorem liv_nm {lo hi : Nat} (h : liv (nmT B T lo hi σ).2) : liv σ := by
  obtain ⟨p, hp⟩ := h
  cases σ with
  | inl q => exact ⟨q, rfl⟩
  | inr d => cases hp
theorem liv_rf {c : Bool} {k st : Nat} (h : liv (rfT c k st σ)) : liv σ ∧ c = false := by
  obtain ⟨p, hp⟩ := h
  cases σ with
  | inl q =>
    refine ⟨⟨q, rfl⟩, ?_⟩
    cases c with
    | false => rfl
    | true => cases hp
  | inr d => cases hp
/-- a number, then the rest -/
theorem c_semA (hT : T ≤ 160) (hB : ∀ i, i < T → B i < 128) (h : Cs B T σ μ) (hF : 1000 < F) : ∃ ν, f_X5_readSemicolon F μ = some (n3 (match smT B T σ with | .inl _ => 1 | .inr _ => 0), ν) ∧ Cs B T (smT B T σ) ν ∧ Ch tkI noA μ ν := by
  obtain ⟨ν, q1, q2, q3⟩ := c_sem (F := F) hT hB h hF
  refine ⟨ν, ?_, q2, q3⟩
  rw [q1]
  cases smT B T σ <;> rfl
theorem AW.tk {w : Nat} (h : AW μ w a) (hc : Ch tkI noA μ ν) (hw : w ≠ 123) : AW ν w a := h.ch hc (fun j c => hw c.1) (fun _ _ _ _ => id)
theorem tk_lc (h : Ch tkI noA μ ν) : Ch lcI lcA μ ν := h.weak (fun q j c => .inl c) (fun _ _ c => False.elim c)
theorem fr_lc (h : Fr 111 121 μ ν) : Ch lcI lcA μ ν := h.ch.weak (fun q j c => .inr c) (fun q j c => c)
theorem c_man {q st : Nat} (hT : T ≤ 160) (hB : ∀ i, i < T → B i < 128) (h : Cs B T (.inl q) μ) (h6 : μ.1 123 6 = n3 st) (hst : st ≤ 160) (hw : AW μ 111 a) (wb : WB a) (hF : 1000 < F) : ∃ ν, f_X5_readMan F μ = some ((), ν) ∧ Cs B T (smT B T (nmT B T 0 9 (nmT B T 0 5 (rfT (decide (4 ≤ a 38)) 5 st (.inl q))).2).2) ν ∧ (liv (smT B T (nmT B T 0 9 (nmT B T 0 5 (rfT (decide (4 ≤ a 38)) 5 st (.inl q))).2).2) → AW ν 111 (addP a (nmT B T 0 5 (rfT (decide (4 ≤ a 38)) 5 st (.inl q))).1 (nmT B T 0 9 (nmT B T 0 5 (rfT (decide (4 ≤ a 38)) 5 st (.inl q))).2).1)) ∧ Ch lcI lcA μ ν := by
  have rest : ∀ (m : fm_M) (τ : Nat ⊕ (Nat × Nat)), Cs B T τ m → AW m 111 a → (liv τ → a 38 < 4) → ∃ ν, (Option.bind (f_X5_readNumber F 0 5 m) (fun q4 => (Option.bind (f_X5_readNumber F 0 9 q4.2) (fun q6 => (Option.bind (f_X5_readSemicolon F q6.2) (fun q8 => (if q8.1 = 0 then some ((), q8.2) else (Option.bind (f_X7_addOne F 111 q4.1 q6.1 q8.2) (fun q11 => some ((), q11.2)))))))))) = some ((), ν) ∧ Cs B T (smT B T (nmT B T 0 9 (nmT B T 0 5 τ).2).2) ν ∧ (liv (smT B T (nmT B T 0 9 (nmT B T 0 5 τ).2).2) → AW ν 111 (addP a (nmT B T 0 5 τ).1 (nmT B T 0 9 (nmT B T 0 5 τ).2).1)) ∧ Ch lcI lcA m ν := by
    intro m τ hm hA hl
    obtain ⟨m1, q1, q2, -, q3⟩ := c_num (F := F) (lo := 0) (hi := 5) hT hB hm (by omega) (by omega) hF
    obtain ⟨m2, r1, r2, -, r3⟩ := c_num (F := F) (lo := 0) (hi := 9) hT hB q2 (by omega) (by omega) hF
    obtain ⟨m3, s1, s2, s3⟩ := c_semA (F := F) hT hB r2 hF
    have q1' : f_X5_readNumber F 0 5 m = some (n3 (nmT B T 0 5 τ).1, m1) := by rw [n3_k0, n3_k5]; exact q1
    have r1' : f_X5_readNumber F 0 9 m1 = some (n3 (nmT B T 0 9 (nmT B T 0 5 τ).2).1, m2) := by rw [n3_k0, show (9 : Int32) = n3 9 from n3_lit 9]; exact r1
    have A3 : AW m3 111 a := ((hA.tk q3 (by omega)).tk r3 (by omega)).tk s3 (by omega)
    have cc : Ch lcI lcA m m3 := ((tk_lc q3).trans (tk_lc r3)).trans (tk_lc s3)
    rw [q1', Option.bind_some]
    dsimp only
    rw [r1', Option.bind_some]
    dsimp only
    rw [s1, Option.bind_some]
    dsimp only
    cases hz : smT B T (nmT B T 0 9 (nmT B T 0 5 τ).2).2 with
    | inr d =>
      rw [hz] at s2
      exact ⟨m3, if_pos rfl, s2, (fun q => by obtain ⟨p, hp⟩ := q; cases hp), cc⟩
    | inl p =>
      rw [hz] at s2
      have lv := hl (liv_nm (liv_nm (liv_sm ⟨p, hz⟩)))
      obtain ⟨m4, t1, t2, t3⟩ := c_addP (F := F) A3 wb lv (v := (nmT B T 0 5 τ).1) (p := (nmT B T 0 9 (nmT B T 0 5 τ).2).1)
      refine ⟨m4, ?_, s2.ch t3.ch (by omega) (by omega), fun _ => t2, cc.trans (fr_lc t3)⟩
      rw [if_neg (show ¬ n3 1 = 0 by decide), t1, Option.bind_some]
  have h0 := hw.1.1
  unfold f_X5_readMan
  rw [h0]
  have b4 := wb.1
  by_cases c : 4 ≤ a 38
  · obtain ⟨m0, e1, e2, e3⟩ := c_ref (F := F) (c := true) (k := 5) (st := st) (x := 1) (y := 5) h (by rfl) (by rfl) (by omega) (by omega) hst (fun p hp => h6)
    rw [decide_eq_true c, if_neg (by rw [n3_k4, n3_lt (by omega) (by omega)]; omega), e1, Option.bind_some]
    obtain ⟨ν, w1, w2, w3, w4⟩ := rest m0 _ e2 (hw.tk e3 (by omega)) (fun q => by have := (liv_rf q).2; cases this)
    exact ⟨ν, w1, w2, w3, (tk_lc e3).trans w4⟩
  · obtain ⟨m0, e1, e2, e3⟩ := c_ref (F := F) (c := false) (k := 5) (st := st) (x := 0) (y := 5) h (by rfl) (by rfl) (by omega) (by omega) hst (fun p hp => h6)
    rw [decide_eq_false c, if_pos (by rw [n3_k4, n3_lt (by omega) (by omega)]; omega), e1, Option.bind_some]
    obtain ⟨ν, w1, w2, w3, w4⟩ := rest m0 _ e2 (hw.tk e3 (by omega)) (fun q => by omega)
    exact ⟨ν, w1, w2, w3, (tk_lc e3).trans w4⟩
theorem c_stoneL {q st k : Nat} (hT : T ≤ 160) (hB : ∀ i, i < T → B i < 128) (h : Cs B T (.inl q) μ) (h6 : μ.1 123 6 = n3 st) (hst : st ≤ 160) (hw : AW μ 111 a) (wb : WB a) (hF : 1000 < F) : ∃ ν, f_X5_readStone F (n3 k) μ = some ((), ν) ∧ Cs B T (smT B T (nmT B T 0 3 (nmT B T 0 99 (rfT (decide (5 ≤ a 23)) 5 st (.inl q))).2).2) ν ∧ (liv (smT B T (nmT B T 0 3 (nmT B T 0 99 (rfT (decide (5 ≤ a 23)) 5 st (.inl q))).2).2) → AW ν 111 (addS a k (nmT B T 0 99 (rfT (decide (5 ≤ a 23)) 5 st (.inl q))).1 (nmT B T 0 3 (nmT B T 0 99 (rfT (decide (5 ≤ a 23)) 5 st (.inl q))).2).1)) ∧ Ch lcI lcA μ ν := by
  have rest : ∀ (m : fm_M) (τ : Nat ⊕ (Nat × Nat)), Cs B T τ m → AW m 111 a → (liv τ → a 23 < 5) → ∃ ν, (Option.bind (f_X5_readNumber F 0 99 m) (fun q4 => (Option.bind (f_X5_readNumber F 0 3 q4.2) (fun q6 => (Option.bind (f_X5_readSemicolon F q6.2) (fun q8 => (if q8.1 = 0 then some ((), q8.2) else (Option.bind (f_X7_addStone F 111 (n3 k) q4.1 q6.1 q8.2) (fun q11 => some ((), q11.2)))))))))) = some ((), ν) ∧ Cs B T (smT B T (nmT B T 0 3 (nmT B T 0 99 τ).2).2) ν ∧ (liv (smT B T (nmT B T 0 3 (nmT B T 0 99 τ).2).2) → AW ν 111 (addS a k (nmT B T 0 99 τ).1 (nmT B T 0 3 (nmT B T 0 99 τ).2).1)) ∧ Ch lcI lcA m ν := by
    intro m τ hm hA hl
    obtain ⟨m1, q1, q2, -, q3⟩ := c_num (F := F) (lo := 0) (hi := 99) hT hB hm (by omega) (by omega) hF
    obtain ⟨m2, r1, r2, -, r3⟩ := c_num (F := F) (lo := 0) (hi := 3) hT hB q2 (by omega) (by omega) hF
    obtain ⟨m3, s1, s2, s3⟩ := c_semA (F := F) hT hB r2 hF
    have q1' : f_X5_readNumber F 0 99 m = some (n3 (nmT B T 0 99 τ).1, m1) := by rw [n3_k0, show (99 : Int32) = n3 99 from n3_lit 99]; exact q1
    have r1' : f_X5_readNumber F 0 3 m1 = some (n3 (nmT B T 0 3 (nmT B T 0 99 τ).2).1, m2) := by rw [n3_k0, n3_k3]; exact r1
    have A3 : AW m3 111 a := ((hA.tk q3 (by omega)).tk r3 (by omega)).tk s3 (by omega)
    have cc : Ch lcI lcA m m3 := ((tk_lc q3).trans (tk_lc r3)).trans (tk_lc s3)
    rw [q1', Option.bind_some]
    dsimp only
    rw [r1', Option.bind_some]
    dsimp only
    rw [s1, Option.bind_some]
    dsimp only
    cases hz : smT B T (nmT B T 0 3 (nmT B T 0 99 τ).2).2 with
    | inr d =>
      rw [hz] at s2
      exact ⟨m3, if_pos rfl, s2, (fun q => by obtain ⟨p, hp⟩ := q; cases hp), cc⟩
    | inl p =>
      rw [hz] at s2
      have lv := hl (liv_nm (liv_nm (liv_sm ⟨p, hz⟩)))
      obtain ⟨m4, t1, t2, t3, -⟩ := c_addS (F := F) A3 wb lv (k := k) (v := (nmT B T 0 99 τ).1) (o := (nmT B T 0 3 (nmT B T 0 99 τ).2).1)
      refine ⟨m4, ?_, s2.ch t3.ch (by omega) (by omega), fun _ => t2, cc.trans (fr_lc t3)⟩
      rw [if_neg (show ¬ n3 1 = 0 by decide), t1, Option.bind_some]
  have h3 := hw.1.2.1
  unfold f_X5_readStone
  rw [h3]
  have b4 := wb.2.1
  by_cases c : 5 ≤ a 23
  · obtain ⟨m0, e1, e2, e3⟩ := c_ref (F := F) (c := true) (k := 5) (st := st) (x := 1) (y := 5) h (by rfl) (by rfl) (by omega) (by omega) hst (fun p hp => h6)
    rw [decide_eq_true c, if_neg (by rw [n3_k5, n3_lt (by omega) (by omega)]; omega), e1, Option.bind_some]
    obtain ⟨ν, w1, w2, w3, w4⟩ := rest m0 _ e2 (hw.tk e3 (by omega)) (fun q => by have := (liv_rf q).2; cases this)
    exact ⟨ν, w1, w2, w3, (tk_lc e3).trans w4⟩
  · obtain ⟨m0, e1, e2, e3⟩ := c_ref (F := F) (c := false) (k := 5) (st := st) (x := 0) (y := 5) h (by rfl) (by rfl) (by omega) (by omega) hst (fun p hp => h6)
    rw [decide_eq_false c, if_pos (by rw [n3_k5, n3_lt (by omega) (by omega)]; omega), e1, Option.bind_some]
    obtain ⟨ν, w1, w2, w3, w4⟩ := rest m0 _ e2 (hw.tk e3 (by omega)) (fun q => by omega)
    exact ⟨ν, w1, w2, w3, (tk_lc e3).trans w4⟩
theorem aw_ovenB (h : AW μ w a) (wb : WB a) (v : Nat) : AW (fm_sI μ w 7 (n3 v)) w (st a 24 v) := by
  obtain ⟨b38, b23, b39⟩ := wb
  obtain ⟨⟨h0, h3, h7, h8, h9, h11, h15⟩, hP, hS, hR, hD⟩ := h
  unfold AW
  simp (disch := omega) only [fm_sI_2, fm_sA_1, fm_sA_3, fm_sI_eq, fm_sI_ne, fm_sA_eq, fm_sA_ne, upd_eq, upd_ne, st_ne, st_eq]
  refine ⟨⟨?_, ?_, ?_, ?_, ?_, ?_, ?_⟩, fun k hk => ?_, fun k hk => ?_, fun k hk => ?_, fun k hk => ?_⟩
  all_goals simp (disch := omega) only [fm_sI_2, fm_sA_1, fm_sA_3, fm_sI_eq, fm_sI_ne, fm_sA_eq, fm_sA_ne, upd_eq, upd_ne, st_ne, st_eq, h0, h3, h7, h8, h9, h11, h15, hP, hS, hR, hD, and_self]
theorem aw_heatB (h : AW μ w a) (wb : WB a) (v : Nat) : AW (fm_sI μ w 8 (n3 v)) w (st a 25 v) := by
  obtain ⟨b38, b23, b39⟩ := wb
  obtain ⟨⟨h0, h3, h7, h8, h9, h11, h15⟩, hP, hS, hR, hD⟩ := h
  unfold AW
  simp (disch := omega) only [fm_sI_2, fm_sA_1, fm_sA_3, fm_sI_eq, fm_sI_ne, fm_sA_eq, fm_sA_ne, upd_eq, upd_ne, st_ne, st_eq]
  refine ⟨⟨?_, ?_, ?_, ?_, ?_, ?_, ?_⟩, fun k hk => ?_, fun k hk => ?_, fun k hk => ?_, fun k hk => ?_⟩
  all_goals simp (disch := omega) only [fm_sI_2, fm_sA_1, fm_sA_3, fm_sI_eq, fm_sI_ne, fm_sA_eq, fm_sA_ne, upd_eq, upd_ne, st_ne, st_eq, h0, h3, h7, h8, h9, h11, h15, hP, hS, hR, hD, and_self]
theorem aw_windB (h : AW μ w a) (wb : WB a) (v : Nat) : AW (fm_sI μ w 9 (n3 v)) w (st a 26 v) := by
  obtain ⟨b38, b23, b39⟩ := wb
  obtain ⟨⟨h0, h3, h7, h8, h9, h11, h15⟩, hP, hS, hR, hD⟩ := h
  unfold AW
  simp (disch := omega) only [fm_sI_2, fm_sA_1, fm_sA_3, fm_sI_eq, fm_sI_ne, fm_sA_eq, fm_sA_ne, upd_eq, upd_ne, st_ne, st_eq]
  refine ⟨⟨?_, ?_, ?_, ?_, ?_, ?_, ?_⟩, fun k hk => ?_, fun k hk => ?_, fun k hk => ?_, fun k hk => ?_⟩
  all_goals simp (disch := omega) only [fm_sI_2, fm_sA_1, fm_sA_3, fm_sI_eq, fm_sI_ne, fm_sA_eq, fm_sA_ne, upd_eq, upd_ne, st_ne, st_eq, h0, h3, h7, h8, h9, h11, h15, hP, hS, hR, hD, and_self]
theorem aw_priceB (h : AW μ w a) (wb : WB a) {i : Nat} (hi : i < 6) (v : Nat) : AW (fm_sA μ (w + 6) (upd (μ.2.1 (w + 6)) i (n3 v))) w (st a (27 + i) v) := by
  obtain ⟨b38, b23, b39⟩ := wb
  obtain ⟨⟨h0, h3, h7, h8, h9, h11, h15⟩, hP, hS, hR, hD⟩ := h
  unfold AW
  simp (disch := omega) only [fm_sI_2, fm_sA_1, fm_sA_3, fm_sI_eq, fm_sI_ne, fm_sA_eq, fm_sA_ne, upd_eq, upd_ne, st_ne, st_eq]
  refine ⟨⟨h0, h3, h7, h8, h9, h11, h15⟩, fun k hk => ?_, fun k hk => ?_, fun k hk => ?_, fun k hk => ?_⟩
  all_goals
    by_cases e : k = i
    · subst e
      simp (disch := omega) only [fm_sI_2, fm_sA_1, fm_sA_3, fm_sI_eq, fm_sI_ne, fm_sA_eq, fm_sA_ne, upd_eq, upd_ne, st_ne, st_eq, h0, h3, h7, h8, h9, h11, h15, hP, hS, hR, hD, and_self]
    · simp (disch := omega) only [fm_sI_2, fm_sA_1, fm_sA_3, fm_sI_eq, fm_sI_ne, fm_sA_eq, fm_sA_ne, upd_eq, upd_ne, st_ne, st_eq, h0, h3, h7, h8, h9, h11, h15, hP, hS, hR, hD, and_self]
theorem c_oven {q st0 : Nat} {o : Bool} (hT : T ≤ 160) (hB : ∀ i, i < T → B i < 128) (h : Cs B T (.inl q) μ) (h6 : μ.1 123 6 = n3 st0) (hst : st0 ≤ 160) (hw : AW μ 111 a) (wb : WB a) (h8 : μ.1 123 8 = n3 (bi o)) (hF : 1000 < F) : ∃ ν, f_X5_readOven F μ = some ((), ν) ∧ Cs B T (smT B T (nmT B T 5 99 (nmT B T 0 9 (rfT o 4 st0 (.inl q))).2).2) ν ∧ (liv (smT B T (nmT B T 5 99 (nmT B T 0 9 (rfT o 4 st0 (.inl q))).2).2) → AW ν 111 (st (st a 24 (nmT B T 0 9 (rfT o 4 st0 (.inl q))).1) 25 (nmT B T 5 99 (nmT B T 0 9 (rfT o 4 st0 (.inl q))).2).1)) ∧ ν.1 123 8 = n3 1 ∧ Ch (fun q j => lcI q j ∨ (q = 123 ∧ j = 8)) lcA μ ν := by
  obtain ⟨m0, e1, e2, e3⟩ := c_ref (F := F) (c := o) (k := 4) (st := st0) (x := μ.1 123 8) (y := 4) h h8 (by rfl) (by omega) (by omega) hst (fun p hp => h6)
  generalize hτ : rfT o 4 st0 (.inl q) = τ at *
  generalize hm : fm_sI m0 123 8 (n3 1) = m
  have c1 : Ch (fun q j => q = 123 ∧ j = 8) noA m0 m := by rw [← hm]; exact (Ch.refl _ _ m0).sI ⟨rfl, rfl⟩
  have hm0 : Cs B T τ m := e2.ch c1 (by omega) (fun _ => id)
  have hA : AW m 111 a := (hw.tk e3 (by omega)).ch c1 (by omega) (fun _ _ _ _ => id)
  have e8 : m.1 123 8 = n3 1 := by rw [← hm]; exact fm_sI_eq ⟨rfl, rfl⟩
  obtain ⟨m1, q1, q2, -, q3⟩ := c_num (F := F) (lo := 0) (hi := 9) hT hB hm0 (by omega) (by omega) hF
  obtain ⟨m2, r1, r2, -, r3⟩ := c_num (F := F) (lo := 5) (hi := 99) hT hB q2 (by omega) (by omega) hF
  obtain ⟨m3, s1, s2, s3⟩ := c_semA (F := F) hT hB r2 hF
  have q1' : f_X5_readNumber F 0 9 m = some (n3 (nmT B T 0 9 τ).1, m1) := by rw [n3_k0, show (9 : Int32) = n3 9 from n3_lit 9]; exact q1
  have r1' : f_X5_readNumber F 5 99 m1 = some (n3 (nmT B T 5 99 (nmT B T 0 9 τ).2).1, m2) := by rw [n3_k5, show (99 : Int32) = n3 99 from n3_lit 99]; exact r1
  have A3 : AW m3 111 a := ((hA.tk q3 (by omega)).tk r3 (by omega)).tk s3 (by omega)
  have e83 : m3.1 123 8 = n3 1 := by rw [s3.1 123 8 (by unfold tkI; omega), r3.1 123 8 (by unfold tkI; omega), q3.1 123 8 (by unfold tkI; omega)]; exact e8
  have cc : Ch (fun q j => lcI q j ∨ (q = 123 ∧ j = 8)) lcA μ m3 := ((((tk_lc e3).weak (fun _ _ c => .inl c) (fun _ _ c => c)).trans (c1.weak (fun _ _ c => .inr c) (fun _ _ c => False.elim c))).trans (((tk_lc q3).trans (tk_lc r3)).weak (fun _ _ c => .inl c) (fun _ _ c => c))).trans ((tk_lc s3).weak (fun _ _ c => .inl c) (fun _ _ c => c))
  unfold f_X5_readOven
  rw [e1, Option.bind_some, Option.bind_some, n3_one]
  dsimp only
  rw [hm, q1', Option.bind_some]
  dsimp only
  rw [r1', Option.bind_some]
  dsimp only
  rw [s1, Option.bind_some]
  dsimp only
  cases hz : smT B T (nmT B T 5 99 (nmT B T 0 9 τ).2).2 with
  | inr d =>
    rw [hz] at s2
    exact ⟨m3, if_pos rfl, s2, (fun q => by obtain ⟨p, hp⟩ := q; cases hp), e83, cc⟩
  | inl p =>
    rw [hz] at s2
    have A4 := aw_heatB (aw_ovenB A3 wb (nmT B T 0 9 τ).1) (show WB (st a 24 (nmT B T 0 9 τ).1) by unfold WB; rw [st_ne (by omega), st_ne (by omega), st_ne (by omega)]; exact wb) (nmT B T 5 99 (nmT B T 0 9 τ).2).1
    have f4 : Fr 111 121 m3 (fm_sI (fm_sI m3 111 7 (n3 (nmT B T 0 9 τ).1)) 111 8 (n3 (nmT B T 5 99 (nmT B T 0 9 τ).2).1)) := ((Fr.refl _ _ m3).sI (by omega)).sI (by omega)
    refine ⟨_, ?_, s2.ch f4.ch (by omega) (by omega), fun _ => A4, ?_, cc.trans ((fr_lc f4).weak (fun _ _ c => .inl c) (fun _ _ c => c))⟩
    · rw [if_neg (show ¬ n3 1 = 0 by decide)]; rfl
    · rw [(f4.1 123 (by omega)).1]; exact e83
theorem c_wind {q st0 : Nat} {o : Bool} (hT : T ≤ 160) (hB : ∀ i, i < T → B i < 128) (h : Cs B T (.inl q) μ) (h6 : μ.1 123 6 = n3 st0) (hst : st0 ≤ 160) (hw : AW μ 111 a) (wb : WB a) (h9 : μ.1 123 9 = n3 (bi o)) (hF : 1000 < F) : ∃ ν, f_X5_readWind F μ = some ((), ν) ∧ Cs B T (smT B T (nmT B T 0 10 (rfT o 4 st0 (.inl q))).2) ν ∧ (liv (smT B T (nmT B T 0 10 (rfT o 4 st0 (.inl q))).2) → AW ν 111 (st a 26 (nmT B T 0 10 (rfT o 4 st0 (.inl q))).1)) ∧ ν.1 123 9 = n3 1 ∧ Ch (fun q j => lcI q j ∨ (q = 123 ∧ j = 9)) lcA μ ν := by
  obtain ⟨m0, e1, e2, e3⟩ := c_ref (F := F) (c := o) (k := 4) (st := st0) (x := μ.1 123 9) (y := 4) h h9 (by rfl) (by omega) (by omega) hst (fun p hp => h6)
  generalize hτ : rfT o 4 st0 (.inl q) = τ at *
  generalize hm : fm_sI m0 123 9 (n3 1) = m
  have c1 : Ch (fun q j => q = 123 ∧ j = 9) noA m0 m := by rw [← hm]; exact (Ch.refl _ _ m0).sI ⟨rfl, rfl⟩
  have hm0 : Cs B T τ m := e2.ch c1 (by omega) (fun _ => id)
  have hA : AW m 111 a := (hw.tk e3 (by omega)).ch c1 (by omega) (fun _ _ _ _ => id)
  have e9 : m.1 123 9 = n3 1 := by rw [← hm]; exact fm_sI_eq ⟨rfl, rfl⟩
  obtain ⟨m1, q1, q2, -, q3⟩ := c_num (F := F) (lo := 0) (hi := 10) hT hB hm0 (by omega) (by omega) hF
  obtain ⟨m3, s1, s2, s3⟩ := c_semA (F := F) hT hB q2 hF
  have q1' : f_X5_readNumber F 0 10 m = some (n3 (nmT B T 0 10 τ).1, m1) := by rw [n3_k0, n3_k10]; exact q1
  have A3 : AW m3 111 a := (hA.tk q3 (by omega)).tk s3 (by omega)
  have e93 : m3.1 123 9 = n3 1 := by rw [s3.1 123 9 (by unfold tkI; omega), q3.1 123 9 (by unfold tkI; omega)]; exact e9
  have cc : Ch (fun q j => lcI q j ∨ (q = 123 ∧ j = 9)) lcA μ m3 := ((((tk_lc e3).weak (fun _ _ c => .inl c) (fun _ _ c => c)).trans (c1.weak (fun _ _ c => .inr c) (fun _ _ c => False.elim c))).trans ((tk_lc q3).weak (fun _ _ c => .inl c) (fun _ _ c => c))).trans ((tk_lc s3).weak (fun _ _ c => .inl c) (fun _ _ c => c))
  unfold f_X5_readWind
  rw [e1, Option.bind_some, Option.bind_some, n3_one]
  dsimp only
  rw [hm, q1', Option.bind_some]
  dsimp only
  rw [s1, Option.bind_some]
  dsimp only
  cases hz : smT B T (nmT B T 0 10 τ).2 with
  | inr d =>
    rw [hz] at s2
    exact ⟨m3, if_pos rfl, s2, (fun q => by obtain ⟨p, hp⟩ := q; cases hp), e93, cc⟩
  | inl p =>
    rw [hz] at s2
    have A4 := aw_windB A3 wb (nmT B T 0 10 τ).1
    have f4 : Fr 111 121 m3 (fm_sI m3 111 9 (n3 (nmT B T 0 10 τ).1)) := (Fr.refl _ _ m3).sI (by omega)
    refine ⟨_, ?_, s2.ch f4.ch (by omega) (by omega), fun _ => A4, ?_, cc.trans ((fr_lc f4).weak (fun _ _ c => .inl c) (fun _ _ c => c))⟩
    · rw [if_neg (show ¬ n3 1 = 0 by decide)]; rfl
    · rw [(f4.1 123 (by omega)).1]; exact e93
theorem c_price {q pm : Nat} (hT : T ≤ 160) (hB : ∀ i, i < T → B i < 128) (h : Cs B T (.inl q) μ) (hw : AW μ 111 a) (wb : WB a) (h10 : μ.1 123 10 = n3 pm) (hpm : pm < 64) (hF : 1000 < F) : ∃ ν, f_X5_readPrice F μ = some ((), ν) ∧ Cs B T (smT B T (nmT B T 1 9 (rfT (decide (pm / 2 ^ (nmT B T 0 5 (.inl q)).1 % 2 = 1)) 4 (lxS B T q) (nmT B T 0 5 (.inl q)).2)).2) ν ∧ (liv (smT B T (nmT B T 1 9 (rfT (decide (pm / 2 ^ (nmT B T 0 5 (.inl q)).1 % 2 = 1)) 4 (lxS B T q) (nmT B T 0 5 (.inl q)).2)).2) → AW ν 111 (st a (27 + (nmT B T 0 5 (.inl q)).1) (nmT B T 1 9 (rfT (decide (pm / 2 ^ (nmT B T 0 5 (.inl q)).1 % 2 = 1)) 4 (lxS B T q) (nmT B T 0 5 (.inl q)).2)).1)) ∧ ν.1 123 10 = n3 (pm ||| 2 ^ (nmT B T 0 5 (.inl q)).1) ∧ Ch (fun q j => lcI q j ∨ (q = 123 ∧ j = 10)) lcA μ ν := by
  have ql : q ≤ T := h.2.1
  have sl := lxS_le (B := B) ql
  obtain ⟨m0, p1, p2, p6, p3⟩ := c_num (F := F) (lo := 0) (hi := 5) hT hB h (by omega) (by omega) hF
  have p1' : f_X5_readNumber F 0 5 μ = some (n3 (nmT B T 0 5 (.inl q)).1, m0) := by rw [n3_k0, n3_k5]; exact p1
  obtain ⟨-, tl⟩ := nmT_in (B := B) (T := T) (lo := 0) (hi := 5) (by omega) (.inl q)
  have h6 : ∀ p, (nmT B T 0 5 (.inl q)).2 = .inl p → m0.1 123 6 = n3 (lxS B T q) := by
    intro p hp
    refine p6 q rfl ?_
    unfold nmT at hp
    dsimp only at hp
    by_cases c : nmC B T 0 5 q = 0
    · exact c
    · rw [if_neg c] at hp; cases hp
  have e10 : m0.1 123 10 = n3 pm := by rw [p3.1 123 10 (by unfold tkI; omega)]; exact h10
  generalize hq1 : (nmT B T 0 5 (.inl q)).1 = t at *
  generalize hq2 : (nmT B T 0 5 (.inl q)).2 = τ0 at *
  have bits := v_m6' hpm (show t < 6 by omega)
  have two := Nat.mod_lt (pm / 2 ^ t) (show 0 < 2 by omega)
  have rest : ∀ (m : fm_M) (τ : Nat ⊕ (Nat × Nat)), Cs B T τ m → AW m 111 a → m.1 123 10 = n3 pm → ∃ ν, (Option.bind (some (fm_sI m 123 10 ((m.1 123 10) ||| (1 <<< (n3 t &&& 31))))) (fun m6 => (Option.bind (f_X5_readNumber F 1 9 m6) (fun q8 => (Option.bind (f_X5_readSemicolon F q8.2) (fun q10 => (if q10.1 = 0 then some ((), q10.2) else (if ab_in (n3 t) 6 = true then (Option.bind (some (fm_sA q10.2 117 (upd (q10.2.2.1 117) (n3 t).toNatClampNeg q8.1))) (fun m14 => some ((), m14))) else none)))))))) = some ((), ν) ∧ Cs B T (smT B T (nmT B T 1 9 τ).2) ν ∧ (liv (smT B T (nmT B T 1 9 τ).2) → AW ν 111 (st a (27 + t) (nmT B T 1 9 τ).1)) ∧ ν.1 123 10 = n3 (pm ||| 2 ^ t) ∧ Ch (fun q j => lcI q j ∨ (q = 123 ∧ j = 10)) lcA m ν := by
    intro m τ hm hA hm10
    rw [hm10, bits.2.1, Option.bind_some]
    generalize hmm : fm_sI m 123 10 (n3 (pm ||| 2 ^ t)) = m5
    have c1 : Ch (fun q j => q = 123 ∧ j = 10) noA m m5 := by rw [← hmm]; exact (Ch.refl _ _ m).sI ⟨rfl, rfl⟩
    obtain ⟨m1, q1, q2, -, q3⟩ := c_num (F := F) (lo := 1) (hi := 9) hT hB (hm.ch c1 (by omega) (fun _ => id)) (by omega) (by omega) hF
    obtain ⟨m3, s1, s2, s3⟩ := c_semA (F := F) hT hB q2 hF
    have q1' : f_X5_readNumber F 1 9 m5 = some (n3 (nmT B T 1 9 τ).1, m1) := by rw [n3_one, show (9 : Int32) = n3 9 from n3_lit 9]; exact q1
    have A3 : AW m3 111 a := (((hA.ch c1 (by omega) (fun _ _ _ _ => id)).tk q3 (by omega)).tk s3 (by omega))
    have e103 : m3.1 123 10 = n3 (pm ||| 2 ^ t) := by rw [s3.1 123 10 (by unfold tkI; omega), q3.1 123 10 (by unfold tkI; omega), ← hmm]; exact fm_sI_eq ⟨rfl, rfl⟩
    have cc : Ch (fun q j => lcI q j ∨ (q = 123 ∧ j = 10)) lcA m m3 := ((c1.weak (fun _ _ c => .inr c) (fun _ _ c => False.elim c)).trans ((tk_lc q3).weak (fun _ _ c => .inl c) (fun _ _ c => c))).trans ((tk_lc s3).weak (fun _ _ c => .inl c) (fun _ _ c => c))
    rw [q1', Option.bind_some]
    dsimp only
    rw [s1, Option.bind_some]
    dsimp only
    cases hz : smT B T (nmT B T 1 9 τ).2 with
    | inr d =>
      rw [hz] at s2
      exact ⟨m3, if_pos rfl, s2, (fun q => by obtain ⟨p, hp⟩ := q; cases hp), e103, cc⟩
    | inl p =>
      rw [hz] at s2
      have A4 := aw_priceB A3 wb (i := t) (by omega) (nmT B T 1 9 τ).1
      have f4 : Fr 111 121 m3 (fm_sA m3 117 (upd (m3.2.1 117) t (n3 (nmT B T 1 9 τ).1))) := (Fr.refl _ _ m3).sA (by omega)
      refine ⟨_, ?_, s2.ch f4.ch (by omega) (by omega), fun _ => A4, ?_, cc.trans ((fr_lc f4).weak (fun _ _ c => .inl c) (fun _ _ c => c))⟩
      · rw [if_neg (show ¬ n3 1 = 0 by decide), if_pos (n3_in (by omega) (by omega)), n3_cl (by omega), Option.bind_some]
      · rw [(f4.1 123 (by omega)).1]; exact e103
  unfold f_X5_readPrice
  rw [p1', Option.bind_some]
  dsimp only
  rw [e10, bits.1]
  by_cases c : pm / 2 ^ t % 2 = 1
  · obtain ⟨m2, r1, r2, r3⟩ := c_ref (F := F) (c := true) (k := 4) (st := lxS B T q) (x := 1) (y := 4) p2 (by rfl) (by rfl) (by omega) (by omega) (by omega) h6
    rw [decide_eq_true c, if_neg (show ¬ n3 (pm / 2 ^ t % 2) = 0 by rw [c]; decide), r1, Option.bind_some]
    obtain ⟨ν, w1, w2, w3, w4, w5⟩ := rest m2 _ r2 ((hw.tk p3 (by omega)).tk r3 (by omega)) (by rw [r3.1 123 10 (by unfold tkI; omega)]; exact e10)
    exact ⟨ν, w1, w2, w3, w4, (((tk_lc p3).trans (tk_lc r3)).weak (fun _ _ c => .inl c) (fun _ _ c => c)).trans w5⟩
  · obtain ⟨m2, r1, r2, r3⟩ := c_ref (F := F) (c := false) (k := 4) (st := lxS B T q) (x := 0) (y := 4) p2 (by rfl) (by rfl) (by omega) (by omega) (by omega) h6
    rw [decide_eq_false c, if_pos (show n3 (pm / 2 ^ t % 2) = 0 by rw [show pm / 2 ^ t % 2 = 0 by omega]; rfl), r1, Option.bind_some]
    obtain ⟨ν, w1, w2, w3, w4, w5⟩ := rest m2 _ r2 ((hw.tk p3 (by omega)).tk r3 (by omega)) (by rw [r3.1 123 10 (by unfold tkI; omega)]; exact e10)
    exact ⟨ν, w1, w2, w3, w4, (((tk_lc p3).trans (tk_lc r3)).weak (fun _ _ c => .inl c) (fun _ _ c => c)).trans w5⟩
def dbS (B : Nat → Nat) (T : Nat) (σ : Nat ⊕ (Nat × Nat)) : Nat :=
  match σ with
  | .inl p => lxS B T p
  | .inr _ => 0
/-- behind the two of a debt, the class -/
def dbT (B : Nat → Nat) (T : Nat) (σ : Nat ⊕ (Nat × Nat)) : Nat ⊕ (Nat × Nat) := rfT (decide ((nmT B T 0 3 σ).1 = (nmT B T 0 3 (nmT B T 0 3 σ).2).1)) 3 (dbS B T (nmT B T 0 3 σ).2) (nmT B T 0 3 (nmT B T 0 3 σ).2).2
theorem c_debt {q st0 : Nat} (hT : T ≤ 160) (hB : ∀ i, i < T → B i < 128) (h : Cs B T (.inl q) μ) (h6 : μ.1 123 6 = n3 st0) (hst : st0 ≤ 160) (hw : AW μ 111 a) (wb : WB a) (hF : 1000 < F) : ∃ ν, f_X5_readDebt F μ = some ((), ν) ∧ Cs B T (smT B T (nmT B T 0 99 (dbT B T (rfT (decide (4 ≤ a 39)) 5 st0 (.inl q)))).2) ν ∧ (liv (smT B T (nmT B T 0 99 (dbT B T (rfT (decide (4 ≤ a 39)) 5 st0 (.inl q)))).2) → AW ν 111 (addD a (nmT B T 0 3 (rfT (decide (4 ≤ a 39)) 5 st0 (.inl q))).1 (nmT B T 0 3 (nmT B T 0 3 (rfT (decide (4 ≤ a 39)) 5 st0 (.inl q))).2).1 (nmT B T 0 99 (dbT B T (rfT (decide (4 ≤ a 39)) 5 st0 (.inl q)))).1)) ∧ Ch lcI lcA μ ν := by
  have rest : ∀ (m : fm_M) (τ : Nat ⊕ (Nat × Nat)), Cs B T τ m → AW m 111 a → (liv τ → a 39 < 4) → ∃ ν, (Option.bind (f_X5_readNumber F 0 3 m) (fun q4 => (Option.bind (f_X5_readNumber F 0 3 q4.2) (fun q6 => (if ¬ q4.1 = q6.1 then (Option.bind (f_X5_refuse F 0 3 q6.2) (fun q9 => (Option.bind (f_X5_readNumber F 0 99 q9.2) (fun q11 => (Option.bind (f_X5_readSemicolon F q11.2) (fun q13 => (if q13.1 = 0 then some ((), q13.2) else (Option.bind (f_X7_addDebt F 111 q4.1 q6.1 q11.1 q13.2) (fun q16 => some ((), q16.2)))))))))) else (Option.bind (f_X5_refuse F 1 3 q6.2) (fun q18 => (Option.bind (f_X5_readNumber F 0 99 q18.2) (fun q20 => (Option.bind (f_X5_readSemicolon F q20.2) (fun q22 => (if q22.1 = 0 then some ((), q22.2) else (Option.bind (f_X7_addDebt F 111 q4.1 q6.1 q20.1 q22.2) (fun q25 => some ((), q25.2))))))))))))))) = some ((), ν) ∧ Cs B T (smT B T (nmT B T 0 99 (dbT B T τ)).2) ν ∧ (liv (smT B T (nmT B T 0 99 (dbT B T τ)).2) → AW ν 111 (addD a (nmT B T 0 3 τ).1 (nmT B T 0 3 (nmT B T 0 3 τ).2).1 (nmT B T 0 99 (dbT B T τ)).1)) ∧ Ch lcI lcA m ν := by
    intro m τ hm hA hl
    obtain ⟨m1, q1, q2, -, q3⟩ := c_num (F := F) (lo := 0) (hi := 3) hT hB hm (by omega) (by omega) hF
    obtain ⟨m2, r1, r2, r6, r3⟩ := c_num (F := F) (lo := 0) (hi := 3) hT hB q2 (by omega) (by omega) hF
    have q1' : f_X5_readNumber F 0 3 m = some (n3 (nmT B T 0 3 τ).1, m1) := by rw [n3_k0, n3_k3]; exact q1
    have r1' : f_X5_readNumber F 0 3 m1 = some (n3 (nmT B T 0 3 (nmT B T 0 3 τ).2).1, m2) := by rw [n3_k0, n3_k3]; exact r1
    obtain ⟨-, fl⟩ := nmT_in (B := B) (T := T) (lo := 0) (hi := 3) (by omega) τ
    obtain ⟨-, tl⟩ := nmT_in (B := B) (T := T) (lo := 0) (hi := 3) (by omega) (nmT B T 0 3 τ).2
    have sl : dbS B T (nmT B T 0 3 τ).2 ≤ 160 := by
      cases hc : (nmT B T 0 3 τ).2 with
      | inr d => exact Nat.zero_le _
      | inl p1 =>
        rw [hc] at q2
        have := lxS_le (B := B) q2.2.1
        show lxS B T p1 ≤ 160
        omega
    have h6 : ∀ p, (nmT B T 0 3 (nmT B T 0 3 τ).2).2 = .inl p → m2.1 123 6 = n3 (dbS B T (nmT B T 0 3 τ).2) := by
      intro p hp
      cases hc : (nmT B T 0 3 τ).2 with
      | inr d => rw [hc] at hp; cases hp
      | inl p1 =>
        rw [hc] at hp
        refine r6 p1 hc ?_
        unfold nmT at hp
        dsimp only at hp
        by_cases c : nmC B T 0 3 p1 = 0
        · exact c
        · rw [if_neg c] at hp; cases hp
    have cm : Ch lcI lcA m m2 := (tk_lc q3).trans (tk_lc r3)
    have A2 : AW m2 111 a := (hA.tk q3 (by omega)).tk r3 (by omega)
    -- the amount, the semicolon
    have fin : ∀ m3, Cs B T (dbT B T τ) m3 → AW m3 111 a → ∃ ν, (Option.bind (f_X5_readNumber F 0 99 m3) (fun q11 => (Option.bind (f_X5_readSemicolon F q11.2) (fun q13 => (if q13.1 = 0 then some ((), q13.2) else (Option.bind (f_X7_addDebt F 111 (n3 (nmT B T 0 3 τ).1) (n3 (nmT B T 0 3 (nmT B T 0 3 τ).2).1) q11.1 q13.2) (fun q16 => some ((), q16.2)))))))) = some ((), ν) ∧ Cs B T (smT B T (nmT B T 0 99 (dbT B T τ)).2) ν ∧ (liv (smT B T (nmT B T 0 99 (dbT B T τ)).2) → AW ν 111 (addD a (nmT B T 0 3 τ).1 (nmT B T 0 3 (nmT B T 0 3 τ).2).1 (nmT B T 0 99 (dbT B T τ)).1)) ∧ Ch lcI lcA m3 ν := by
      intro m3 hm3 hA3
      obtain ⟨m4, w1, w2, -, w3⟩ := c_num (F := F) (lo := 0) (hi := 99) hT hB hm3 (by omega) (by omega) hF
      obtain ⟨m5, s1, s2, s3⟩ := c_semA (F := F) hT hB w2 hF
      have w1' : f_X5_readNumber F 0 99 m3 = some (n3 (nmT B T 0 99 (dbT B T τ)).1, m4) := by rw [n3_k0, show (99 : Int32) = n3 99 from n3_lit 99]; exact w1
      have A5 : AW m5 111 a := (hA3.tk w3 (by omega)).tk s3 (by omega)
      have cc : Ch lcI lcA m3 m5 := (tk_lc w3).trans (tk_lc s3)
      rw [w1', Option.bind_some]
      dsimp only
      rw [s1, Option.bind_some]
      dsimp only
      cases hz : smT B T (nmT B T 0 99 (dbT B T τ)).2 with
      | inr d =>
        rw [hz] at s2
        exact ⟨m5, if_pos rfl, s2, (fun q => by obtain ⟨p, hp⟩ := q; cases hp), cc⟩
      | inl p =>
        rw [hz] at s2
        have lv := hl (liv_nm (liv_nm (liv_rf (liv_nm (liv_sm ⟨p, hz⟩))).1))
        obtain ⟨m6, t1, t2, t3⟩ := c_addD (F := F) A5 wb lv (f := (nmT B T 0 3 τ).1) (t := (nmT B T 0 3 (nmT B T 0 3 τ).2).1) (m := (nmT B T 0 99 (dbT B T τ)).1)
        refine ⟨m6, ?_, s2.ch t3.ch (by omega) (by omega), fun _ => t2, cc.trans (fr_lc t3)⟩
        rw [if_neg (show ¬ n3 1 = 0 by decide), t1, Option.bind_some]
    rw [q1', Option.bind_some]
    dsimp only
    rw [r1', Option.bind_some]
    dsimp only
    by_cases c : (nmT B T 0 3 τ).1 = (nmT B T 0 3 (nmT B T 0 3 τ).2).1
    · obtain ⟨m3, u1, u2, u3⟩ := c_ref (F := F) (c := true) (k := 3) (st := dbS B T (nmT B T 0 3 τ).2) (x := 1) (y := 3) r2 (by rfl) (by rfl) (by omega) (by omega) sl h6
      have u2' : Cs B T (dbT B T τ) m3 := by unfold dbT; rw [decide_eq_true c]; exact u2
      rw [if_neg (fun q => q (by rw [c])), u1, Option.bind_some]
      obtain ⟨ν, v1, v2, v3, v4⟩ := fin m3 u2' (A2.tk u3 (by omega))
      exact ⟨ν, v1, v2, v3, (cm.trans (tk_lc u3)).trans v4⟩
    · obtain ⟨m3, u1, u2, u3⟩ := c_ref (F := F) (c := false) (k := 3) (st := dbS B T (nmT B T 0 3 τ).2) (x := 0) (y := 3) r2 (by rfl) (by rfl) (by omega) (by omega) sl h6
      have u2' : Cs B T (dbT B T τ) m3 := by unfold dbT; rw [decide_eq_false c]; exact u2
      rw [if_pos (by rw [n3_eq (by omega) (by omega)]; exact c), u1, Option.bind_some]
      obtain ⟨ν, v1, v2, v3, v4⟩ := fin m3 u2' (A2.tk u3 (by omega))
      exact ⟨ν, v1, v2, v3, (cm.trans (tk_lc u3)).trans v4⟩
  have h11 := hw.1.2.2.2.2.2.1
  unfold f_X5_readDebt
  rw [h11]
  have b4 := wb.2.2
  by_cases c : 4 ≤ a 39
  · obtain ⟨m0, e1, e2, e3⟩ := c_ref (F := F) (c := true) (k := 5) (st := st0) (x := 1) (y := 5) h (by rfl) (by rfl) (by omega) (by omega) hst (fun p hp => h6)
    rw [decide_eq_true c, if_neg (by rw [n3_k4, n3_lt (by omega) (by omega)]; omega), e1, Option.bind_some]
    obtain ⟨ν, w1, w2, w3, w4⟩ := rest m0 _ e2 (hw.tk e3 (by omega)) (fun q => by have := (liv_rf q).2; cases this)
    exact ⟨ν, w1, w2, w3, (tk_lc e3).trans w4⟩
  · obtain ⟨m0, e1, e2, e3⟩ := c_ref (F := F) (c := false) (k := 5) (st := st0) (x := 0) (y := 5) h (by rfl) (by rfl) (by omega) (by omega) hst (fun p hp => h6)
    rw [decide_eq_false c, if_pos (by rw [n3_k4, n3_lt (by omega) (by omega)]; omega), e1, Option.bind_some]
    obtain ⟨ν, w1, w2, w3, w4⟩ := rest m0 _ e2 (hw.tk e3 (by omega)) (fun q => by omega)
    exact ⟨ν, w1, w2, w3, (tk_lc e3).trans w4⟩
end VS69
