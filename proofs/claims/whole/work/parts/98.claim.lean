/-! the claim out of the pure statement -/
def fm_Gchk (g : Nat → Nat → Option Nat) : Bool := ((List.range 2).all fun i => decide (g 121 i = fm_g 121 i)) && (((List.range 4).all fun i => decide (g 128 i = fm_g 128 i)) && (((List.range 5).all fun i => decide (g 134 i = fm_g 134 i)) && (((List.range 6).all fun i => decide (g 140 i = fm_g 140 i)) && ((List.range 5).all fun i => decide (g 150 i = fm_g 150 i)))))
theorem fm_Gok_of {g : Nat → Nat → Option Nat} (h : fm_Gchk g = true) : fm_Gok g := by
  simp only [fm_Gchk, Bool.and_eq_true] at h
  obtain ⟨h1, h2, h3, h4, h5⟩ := h
  intro a i hi
  unfold fm_gn at hi
  split at hi
  · rename_i e; subst e; exact of_decide_eq_true (List.all_eq_true.mp h1 i (List.mem_range.mpr hi))
  · split at hi
    · rename_i e; subst e; exact of_decide_eq_true (List.all_eq_true.mp h2 i (List.mem_range.mpr hi))
    · split at hi
      · rename_i e; subst e; exact of_decide_eq_true (List.all_eq_true.mp h3 i (List.mem_range.mpr hi))
      · split at hi
        · rename_i e; subst e; exact of_decide_eq_true (List.all_eq_true.mp h4 i (List.mem_range.mpr hi))
        · split at hi
          · rename_i e; subst e; exact of_decide_eq_true (List.all_eq_true.mp h5 i (List.mem_range.mpr hi))
          · omega
set_option maxRecDepth 100000 in
theorem fm_Gchk0 : fm_Gchk (fm_Gg fm_e4) = true := by decide +kernel
theorem fm_Gok0 : fm_Gok (fm_Gg fm_e4) := fm_Gok_of fm_Gchk0
set_option maxRecDepth 100000 in
theorem fm_e2_1 : fm_e2.1 = 232 := by decide +kernel
/-- the law's start: two objects made -/
theorem law_prefix {d : Nat} {Q : Option Value → ab_H → Prop} {f : Nat → Option ab_C} {g1 g2 g3 g4 : ab_H} (hd : 8 ≤ d) (h1 : ab_add (100, 0, f) 13 (.inr (.inl (8, (List.range (ab_nf 8)).map fun k => defaultValue (ab_ty 8 k)))) = g1) (h2 : g2.1 = 232) (h3 : ab_add g2 40 (.inr (.inl (9, (List.range (ab_nf 9)).map fun k => defaultValue (ab_ty 9 k)))) = g3) (r1 : ab_call 8 5000 77 [.ref 100] g1 = some (none, g2)) (r2 : ab_call 8 5000 134 [.ref 232] g3 = some (none, g4))
    (k : ab_U d (some .boolean) kL_law (18, [some (.ref 0), some (.ref 100), some (.ref 232), some (.int 0)], [], g4) Q) : ab_U d (some .boolean) kL_law (0, [some (.ref 0), none, none, none], [], (100, 0, f)) Q := by
  refine ab_U.go (S := (3, [some (.ref 0), none, none, none], [.ref 100], ab_add (100, 0, f) 13 (.inr (.inl (8, (List.range (ab_nf 8)).map fun k => defaultValue (ab_ty 8 k)))))) rfl rfl ?_
  refine ab_U.run 1 (S' := (4, [some (.ref 0), none, none, none], [.ref 100, .ref 100], ab_add (100, 0, f) 13 (.inr (.inl (8, (List.range (ab_nf 8)).map fun k => defaultValue (ab_ty 8 k)))))) rfl ?_
  refine ab_U.fn (R := none) (h1 := g2) (e := 8) (c := (77, [.ref 100], (7, [some (.ref 0), none, none, none], [.ref 100], ab_add (100, 0, f) 13 (.inr (.inl (8, (List.range (ab_nf 8)).map fun k => defaultValue (ab_ty 8 k))))))) rfl rfl ⟨5000, (none, g2), by rw [← r1, h1], rfl, rfl⟩ hd ?_
  show ab_U _ _ _ (7, [some (.ref 0), none, none, none], [.ref 100], g2) _
  refine ab_U.run 1 (S' := (8, [some (.ref 0), some (.ref 100), none, none], [], g2)) rfl ?_
  refine ab_U.go (S := (11, [some (.ref 0), some (.ref 100), none, none], [.ref g2.1], ab_add g2 40 (.inr (.inl (9, (List.range (ab_nf 9)).map fun k => defaultValue (ab_ty 9 k)))))) rfl rfl ?_
  rw [h3, h2]
  refine ab_U.run 1 (S' := (12, [some (.ref 0), some (.ref 100), none, none], [.ref 232, .ref 232], g3)) rfl ?_
  have ho : ab_ob g3 232 = some (9, (List.range (ab_nf 9)).map fun k => defaultValue (ab_ty 9 k)) := by
    rw [← h3]
    unfold ab_ob ab_add
    dsimp only
    rw [if_pos h2.symm]
  refine ab_U.fn (R := none) (h1 := g4) (e := 8) (ins := .invokespecial 1340109) (nx := 15) (c := (134, [.ref 232], (15, [some (.ref 0), some (.ref 100), none, none], [.ref 232], g3))) rfl (by simp only [ab_step]; rw [if_neg (by decide)]; show (match ab_ob g3 232 with | some _ => _ | none => _) = _; rw [ho]; rfl) ⟨5000, (none, g4), r2, rfl, rfl⟩ hd ?_
  show ab_U _ _ _ (15, [some (.ref 0), some (.ref 100), none, none], [.ref 232], g4) _
  refine ab_U.run 3 (S' := (18, [some (.ref 0), some (.ref 100), some (.ref 232), some (.int 0)], [], g4)) rfl ?_
  exact k
theorem ab_f0_hi {L : Nat} {xs : Nat → Int32} : ∀ q, 100 ≤ q → ab_f0 L xs q = none := by
  intro q hq
  unfold ab_f0
  rw [if_neg (by omega), if_neg (by omega), if_neg (by omega), if_neg (by omega), if_neg (by omega)]
theorem ab_runs_g {X : Nat × (Nat → Int32)} {G : Nat → Nat → Option Nat} {μ0 μ1 : fm_M} {F : Nat} {f : Nat → Option ab_C} {g1 g2 g3 g4 : ab_H} (h1 : ab_add (100, 0, f) 13 (.inr (.inl (8, (List.range (ab_nf 8)).map fun k => defaultValue (ab_ty 8 k)))) = g1) (h2 : g2.1 = 232) (h3 : ab_add g2 40 (.inr (.inl (9, (List.range (ab_nf 9)).map fun k => defaultValue (ab_ty 9 k)))) = g3) (r1 : ab_call 8 5000 77 [.ref 100] g1 = some (none, g2)) (r2 : ab_call 8 5000 134 [.ref 232] g3 = some (none, g4)) (h4 : g4 = hp X G μ0) (hG : fm_Gok G) (h : g_law F X F 0 μ0 = some (1, μ1)) : ∃ (F1 n : Nat), ab_go (ab_call 346 F1) (some .boolean) kL_law n 0 [some (.ref 0), none, none, none] [] (100, 0, f) = some (some (.int 1), hp X G μ1) := by
  have hl := t_law (X := X) hG (F := F) F 0 μ0 (1, μ1) h
  subst h4
  obtain ⟨F1, n, r, k1, k2, k3⟩ := law_prefix (d := 346) (by decide) h1 h2 h3 r1 r2 hl
  refine ⟨F1, n, ?_⟩
  obtain ⟨q1, q2⟩ := r
  dsimp only at k2 k3
  rw [k2, k3] at k1
  exact k1
theorem ab_call_ov2 (f : Nat → Option ab_C) {d F j : Nat} {as : List Value} {h h2 : ab_H} (hr : ab_call d F j as h = some (none, h2)) : ab_call d F j as (ab_ov f h) = some (none, ab_ov f h2) := ab_call_ov f d F j as h (none, h2) hr
theorem ab_runs_e {L : Nat} {xs : Nat → Int32} {F : Nat} {μ0 μ1 : fm_M} {G : Nat → Nat → Option Nat} {e2 e3 e4 : ab_H} (x2 : e2.1 = 232) (x3 : e3 = ab_add e2 40 (.inr (.inl (9, (List.range (ab_nf 9)).map fun k => defaultValue (ab_ty 9 k))))) (r1 : ab_call 8 5000 77 [.ref 100] fm_e1 = some (none, e2)) (r2 : ab_call 8 5000 134 [.ref 232] e3 = some (none, e4)) (h4 : ab_ov (ab_f0 L xs) e4 = fm_mkG G (ab_f0 L xs) μ0) (hG : fm_Gok G) (h : g_law F (L, xs) F 0 μ0 = some (1, μ1)) : ∃ (F1 n : Nat), ab_go (ab_call 346 F1) (some .boolean) kL_law n 0 [some (.ref 0), none, none, none] [] (ab_h0 L xs) = some (some (.int 1), hp (L, xs) G μ1) :=
  ab_runs_g (X := (L, xs)) (f := ab_f0 L xs) (ab_add_ov (ab_f0 L xs) (100, 0, fun _ => none) 13 _) ((ab_ov_1 _ _).trans x2) ((ab_add_ov (ab_f0 L xs) e2 40 _).trans (by rw [x3])) (ab_call_ov2 (ab_f0 L xs) r1) (ab_call_ov2 (ab_f0 L xs) r2) h4 hG h
theorem ab_runs (L : Nat) (xs : Nat → Int32) {F : Nat} {μ1 : fm_M} (h : g_law F (L, xs) F 0 (fm_0g fm_e4) = some (1, μ1)) : ∃ (F1 n : Nat), ab_go (ab_call 346 F1) (some .boolean) kL_law n 0 [some (.ref 0), none, none, none] [] (ab_h0 L xs) = some (some (.int 1), hp (L, xs) (fm_Gg fm_e4) μ1) :=
  ab_runs_e fm_e2_1 (Eq.refl fm_e3) fm_r1 fm_r2 (fm_start (ab_f0 L xs) ab_f0_hi) fm_Gok0 h
/-- the pure statement: for every script of at most 320 ints the law as a function answers 1 -/
theorem pure_law (L : Nat) (xs : Nat → Int32) (hL : L ≤ 320) : ∃ (F : Nat) (μ1 : fm_M), g_law F (L, xs) F 0 (fm_0g fm_e4) = some (1, μ1) := pure_lawP L xs hL
theorem whole_start {p : Program} {e : Env} {s : State} {m : MethodId} {below : List Frame} {meth : Method} {c : Code} (l : Launch) {b L : Nat} {xs : Nat → Int32} (hL : L ≤ 320) (C0 : lw_At p s m meth c b L xs) : W p l e room_1 s m #[Value.ref b] below meth c s.heap [] 0 0 (lw_Z below #[Value.ref b] s) (entryFrame m ([Value.ref b] : List Value).toArray 4) := by
  obtain ⟨F, μ1, h⟩ := pure_law L xs hL
  obtain ⟨F1, n, hr⟩ := ab_runs L xs h
  have hr2 := ab_go_le (fun j as h r hq => ab_call_le 346 346 F1 (max F1 n) j as h r (Nat.le_refl _) (Nat.le_max_left F1 n) hq) n (max F1 n) _ _ _ _ _ (Nat.le_max_right F1 n) hr
  exact ab_whole l hL C0 (d := 346) (F := max F1 n) (by decide) hr2 (by show (253 : Nat) ≤ 600000; decide) (by show (8160 : Nat) ≤ 7302250; decide)
