/-! by program: each method as a function over the memory, and that our machine does it -/
set_option maxRecDepth 20000 in
def f_X9_lay (F : Nat)  (x0 : Int32) (x1 : Int32) (x2 : Int32) (μ : fm_M) : Option (Int32 × fm_M) := (Option.bind (f_X9_in F ((x0).toInt64) (Int64.ofNat 0) (Int64.ofNat 3) μ) (fun q1 => (if ¬ q1.1 = 0 then (if ab_in x0 4 = true then (if ¬ (q1.2.2.1 250 x0.toNatClampNeg) = (-4) then (if ab_in x0 4 = true then (Option.bind (f_X9_in F ((x1).toInt64) (Int64.ofNat 0) ((((q1.2.2.1 251 x0.toNatClampNeg) - 1)).toInt64) q1.2) (fun q7 => (if ¬ q7.1 = 0 then (if ab_in x0 4 = true then (if ¬ (q7.2.2.1 250 x0.toNatClampNeg) = 0 then (if ab_in x0 4 = true then (if ¬ (q7.2.2.1 250 x0.toNatClampNeg) = 1 then (if ab_in ((40 * x0) + x1) 160 = true then (Option.bind (some (fm_sA q7.2 252 (upd (q7.2.2.1 252) ((40 * x0) + x1).toNatClampNeg x2))) (fun m15 => some (1, m15))) else none) else (if ab_in ((40 * x0) + x1) 160 = true then (Option.bind (some (fm_sA q7.2 252 (upd (q7.2.2.1 252) ((40 * x0) + x1).toNatClampNeg ((x2 <<< ((16 : Int32) &&& 31)) >>> ((16 : Int32) &&& 31))))) (fun m18 => some (1, m18))) else none)) else none) else (if ab_in ((40 * x0) + x1) 160 = true then (Option.bind (some (fm_sA q7.2 252 (upd (q7.2.2.1 252) ((40 * x0) + x1).toNatClampNeg ((x2 <<< ((24 : Int32) &&& 31)) >>> ((24 : Int32) &&& 31))))) (fun m21 => some (1, m21))) else none)) else none) else some ((-12), q7.2)))) else none) else some ((-11), q1.2)) else none) else some ((-1), q1.2))))
set_option maxRecDepth 20000 in
theorem t_X9_lay {X : Nat × (Nat → Int32)} {G : Nat → Nat → Option Nat} (hG : fm_Gok G) {F : Nat}   {x0 : Int32} {x1 : Int32} {x2 : Int32} {μ : fm_M} {r : Int32 × fm_M} (hf : f_X9_lay F x0 x1 x2 μ = some r) : ab_F 2 214 [.ref 232, .int x0, .int x1, .int x2] (hp X G μ) (some (.int r.1)) (hp X G r.2) := by
  unfold f_X9_lay at hf
  refine ab_T.of (d := 1) rfl (Nat.le_of_ble_eq_true rfl) ?_
  show ab_U _ _ kX9_lay (0, [some (.ref 232), some (.int x0), some (.int x1), some (.int x2)], [], hp X G μ) _
  refine ab_U.run 4 (S' := (6, [some (.ref 232), some (.int x0), some (.int x1), some (.int x2)], [.long (Int64.ofNat 3), .long (Int64.ofNat 0), .long (x0).toInt64], hp X G μ)) rfl ?_
  obtain ⟨q1, h2, hf⟩ := ab_bnd hf
  refine ab_U.fn rfl rfl (t_X9_in (X := X) hG h2) (by omega) ?_
  show ab_U _ _ _ (9, [some (.ref 232), some (.int x0), some (.int x1), some (.int x2)], [.int q1.1], hp X G q1.2) _
  refine ab_U.if_ne rfl (fun b3 => ?_) (fun b3 => ?_)
  · rw [if_pos b3] at hf
    refine ab_U.run 3 (S' := (19, [some (.ref 232), some (.int x0), some (.int x1), some (.int x2)], [.int x0, .ref 250], hp X G q1.2)) rfl ?_
    obtain ⟨c4, hf⟩ := ab_ifs hf
    refine ab_U.iald (n := 4) rfl ⟨by decide, rfl⟩ c4 ?_
    show ab_U _ _ _ (20, [some (.ref 232), some (.int x0), some (.int x1), some (.int x2)], [.int (q1.2.2.1 250 x0.toNatClampNeg)], hp X G q1.2) _
    refine ab_U.run 1 (S' := (22, [some (.ref 232), some (.int x0), some (.int x1), some (.int x2)], [.int (-4), .int (q1.2.2.1 250 x0.toNatClampNeg)], hp X G q1.2)) rfl ?_
    refine ab_U.ic_ne rfl (fun b5 => ?_) (fun b5 => ?_)
    · rw [if_pos b5] at hf
      refine ab_U.run 6 (S' := (36, [some (.ref 232), some (.int x0), some (.int x1), some (.int x2)], [.int x0, .ref 251, .long (Int64.ofNat 0), .long (x1).toInt64], hp X G q1.2)) rfl ?_
      obtain ⟨c6, hf⟩ := ab_ifs hf
      refine ab_U.iald (n := 4) rfl ⟨by decide, rfl⟩ c6 ?_
      show ab_U _ _ _ (37, [some (.ref 232), some (.int x0), some (.int x1), some (.int x2)], [.int (q1.2.2.1 251 x0.toNatClampNeg), .long (Int64.ofNat 0), .long (x1).toInt64], hp X G q1.2) _
      refine ab_U.run 3 (S' := (40, [some (.ref 232), some (.int x0), some (.int x1), some (.int x2)], [.long (((q1.2.2.1 251 x0.toNatClampNeg) - 1)).toInt64, .long (Int64.ofNat 0), .long (x1).toInt64], hp X G q1.2)) rfl ?_
      obtain ⟨q7, h8, hf⟩ := ab_bnd hf
      refine ab_U.fn rfl rfl (t_X9_in (X := X) hG h8) (by omega) ?_
      show ab_U _ _ _ (43, [some (.ref 232), some (.int x0), some (.int x1), some (.int x2)], [.int q7.1], hp X G q7.2) _
      refine ab_U.if_ne rfl (fun b9 => ?_) (fun b9 => ?_)
      · rw [if_pos b9] at hf
        refine ab_U.run 10 (S' := (64, [some (.ref 232), some (.int x0), some (.int x1), some (.int x2)], [.int x0, .ref 250, .int ((40 * x0) + x1), .ref 252], hp X G q7.2)) rfl ?_
        obtain ⟨c10, hf⟩ := ab_ifs hf
        refine ab_U.iald (n := 4) rfl ⟨by decide, rfl⟩ c10 ?_
        show ab_U _ _ _ (65, [some (.ref 232), some (.int x0), some (.int x1), some (.int x2)], [.int (q7.2.2.1 250 x0.toNatClampNeg), .int ((40 * x0) + x1), .ref 252], hp X G q7.2) _
        refine ab_U.if_ne rfl (fun b11 => ?_) (fun b11 => ?_)
        · rw [if_pos b11] at hf
          refine ab_U.run 3 (S' := (83, [some (.ref 232), some (.int x0), some (.int x1), some (.int x2)], [.int x0, .ref 250, .int ((40 * x0) + x1), .ref 252], hp X G q7.2)) rfl ?_
          obtain ⟨c12, hf⟩ := ab_ifs hf
          refine ab_U.iald (n := 4) rfl ⟨by decide, rfl⟩ c12 ?_
          show ab_U _ _ _ (84, [some (.ref 232), some (.int x0), some (.int x1), some (.int x2)], [.int (q7.2.2.1 250 x0.toNatClampNeg), .int ((40 * x0) + x1), .ref 252], hp X G q7.2) _
          refine ab_U.run 1 (S' := (85, [some (.ref 232), some (.int x0), some (.int x1), some (.int x2)], [.int 1, .int (q7.2.2.1 250 x0.toNatClampNeg), .int ((40 * x0) + x1), .ref 252], hp X G q7.2)) rfl ?_
          refine ab_U.ic_ne rfl (fun b13 => ?_) (fun b13 => ?_)
          · rw [if_pos b13] at hf
            refine ab_U.run 1 (S' := (99, [some (.ref 232), some (.int x0), some (.int x1), some (.int x2)], [.int x2, .int ((40 * x0) + x1), .ref 252], hp X G q7.2)) rfl ?_
            obtain ⟨c14, hf⟩ := ab_ifs hf
            obtain ⟨m15, e16, hf⟩ := ab_bnd hf
            have e16 := Option.some.inj e16
            refine ab_U.iast (n := 160) rfl ⟨by decide, rfl⟩ c14 ?_
            show ab_U _ _ _ (100, [some (.ref 232), some (.int x0), some (.int x1), some (.int x2)], [], hp X G (fm_sA q7.2 252 (upd (q7.2.2.1 252) ((40 * x0) + x1).toNatClampNeg x2))) _
            rw [e16]
            refine ab_U.run 1 (S' := (101, [some (.ref 232), some (.int x0), some (.int x1), some (.int x2)], [.int 1], hp X G m15)) rfl ?_
            obtain rfl := Option.some.inj hf
            exact ab_U.ret rfl rfl ⟨rfl, rfl⟩
          · rw [if_neg b13] at hf
            refine ab_U.run 6 (S' := (99, [some (.ref 232), some (.int x0), some (.int x1), some (.int x2)], [.int ((x2 <<< ((16 : Int32) &&& 31)) >>> ((16 : Int32) &&& 31)), .int ((40 * x0) + x1), .ref 252], hp X G q7.2)) rfl ?_
            obtain ⟨c17, hf⟩ := ab_ifs hf
            obtain ⟨m18, e19, hf⟩ := ab_bnd hf
            have e19 := Option.some.inj e19
            refine ab_U.iast (n := 160) rfl ⟨by decide, rfl⟩ c17 ?_
            show ab_U _ _ _ (100, [some (.ref 232), some (.int x0), some (.int x1), some (.int x2)], [], hp X G (fm_sA q7.2 252 (upd (q7.2.2.1 252) ((40 * x0) + x1).toNatClampNeg ((x2 <<< ((16 : Int32) &&& 31)) >>> ((16 : Int32) &&& 31))))) _
            rw [e19]
            refine ab_U.run 1 (S' := (101, [some (.ref 232), some (.int x0), some (.int x1), some (.int x2)], [.int 1], hp X G m18)) rfl ?_
            obtain rfl := Option.some.inj hf
            exact ab_U.ret rfl rfl ⟨rfl, rfl⟩
        · rw [if_neg b11] at hf
          refine ab_U.run 6 (S' := (99, [some (.ref 232), some (.int x0), some (.int x1), some (.int x2)], [.int ((x2 <<< ((24 : Int32) &&& 31)) >>> ((24 : Int32) &&& 31)), .int ((40 * x0) + x1), .ref 252], hp X G q7.2)) rfl ?_
          obtain ⟨c20, hf⟩ := ab_ifs hf
          obtain ⟨m21, e22, hf⟩ := ab_bnd hf
          have e22 := Option.some.inj e22
          refine ab_U.iast (n := 160) rfl ⟨by decide, rfl⟩ c20 ?_
          show ab_U _ _ _ (100, [some (.ref 232), some (.int x0), some (.int x1), some (.int x2)], [], hp X G (fm_sA q7.2 252 (upd (q7.2.2.1 252) ((40 * x0) + x1).toNatClampNeg ((x2 <<< ((24 : Int32) &&& 31)) >>> ((24 : Int32) &&& 31))))) _
          rw [e22]
          refine ab_U.run 1 (S' := (101, [some (.ref 232), some (.int x0), some (.int x1), some (.int x2)], [.int 1], hp X G m21)) rfl ?_
          obtain rfl := Option.some.inj hf
          exact ab_U.ret rfl rfl ⟨rfl, rfl⟩
      · rw [if_neg b9] at hf
        refine ab_U.run 1 (S' := (48, [some (.ref 232), some (.int x0), some (.int x1), some (.int x2)], [.int (-12)], hp X G q7.2)) rfl ?_
        obtain rfl := Option.some.inj hf
        exact ab_U.ret rfl rfl ⟨rfl, rfl⟩
    · rw [if_neg b5] at hf
      refine ab_U.run 1 (S' := (27, [some (.ref 232), some (.int x0), some (.int x1), some (.int x2)], [.int (-11)], hp X G q1.2)) rfl ?_
      obtain rfl := Option.some.inj hf
      exact ab_U.ret rfl rfl ⟨rfl, rfl⟩
  · rw [if_neg b3] at hf
    refine ab_U.run 1 (S' := (13, [some (.ref 232), some (.int x0), some (.int x1), some (.int x2)], [.int (-1)], hp X G q1.2)) rfl ?_
    obtain rfl := Option.some.inj hf
    exact ab_U.ret rfl rfl ⟨rfl, rfl⟩
set_option maxRecDepth 20000 in
def b_X9_read_55 (F : Nat)  (gg : Nat → Int32 → Int32 → Int32 → Int32 → Int32 → Int32 → Int32 → fm_M → Option (Int32 × fm_M)) (l1 : Int32) (l2 : Int32) (l3 : Int32) (l4 : Int32) (l5 : Int32) (l6 : Int32) (l7 : Int32) (μ : fm_M) : Option (Int32 × fm_M) := (if (2 * l4) ≤ l7 then (Option.bind (some (fm_sI μ 232 39 l5)) (fun m2 => some (l6, m2))) else (if ¬ l5 = 0 then (Option.bind (some (fm_sI μ 232 39 l5)) (fun m5 => some (l6, m5))) else (if ab_in l1 4 = true then (if ¬ (μ.2.1 250 l1.toNatClampNeg) = (-4) then (if ab_in l1 4 = true then (if (μ.2.1 250 l1.toNatClampNeg) = l2 then (if ab_in l1 4 = true then (Option.bind (f_X9_in F ((l3).toInt64 + (l7).toInt64) (Int64.ofNat 0) ((((μ.2.1 251 l1.toNatClampNeg) - 1)).toInt64) μ) (fun q12 => (if ¬ q12.1 = 0 then (if ¬ (l7 - l7 / 2 * 2) = 1 then gg 55 l1 l2 l3 l4 0 l6 (l7 + 1) q12.2 else (if ab_in ((((40 * l1) + l3) + l7) - 1) 160 = true then (if ab_in (((40 * l1) + l3) + l7) 160 = true then (Option.bind (f_X9_paid F (q12.2.2.1 252 ((((40 * l1) + l3) + l7) - 1).toNatClampNeg) (q12.2.2.1 252 (((40 * l1) + l3) + l7).toNatClampNeg) q12.2) (fun q18 => (if 0 ≤ q18.1 then gg 55 l1 l2 l3 l4 0 (l6 + 1) (l7 + 1) q18.2 else (Option.bind (f_X9_copies F 114 0 q18.2) (fun q21 => some (((-20) - l6), q21.2)))))) else none) else none)) else gg 55 l1 l2 l3 l4 2 l6 (l7 + 1) q12.2))) else none) else gg 55 l1 l2 l3 l4 3 l6 (l7 + 1) μ) else none) else gg 55 l1 l2 l3 l4 1 l6 (l7 + 1) μ) else none)))
def g_X9_read (F : Nat)  : Nat → Nat → Int32 → Int32 → Int32 → Int32 → Int32 → Int32 → Int32 → fm_M → Option (Int32 × fm_M)
  | 0, _, _, _, _, _, _, _, _, _ => none
  | n + 1, pc, l1, l2, l3, l4, l5, l6, l7, μ => if pc = 55 then b_X9_read_55 F  (g_X9_read F  n) l1 l2 l3 l4 l5 l6 l7 μ else none
set_option maxRecDepth 20000 in
theorem t_X9_read_g {X : Nat × (Nat → Int32)} {G : Nat → Nat → Option Nat} (hG : fm_Gok G) {F : Nat}    : ∀ n : Nat, (∀ (l1 : Int32) (l2 : Int32) (l3 : Int32) (l4 : Int32) (l5 : Int32) (l6 : Int32) (l7 : Int32) (μ : fm_M) (r : Int32 × fm_M), g_X9_read F  n 55 l1 l2 l3 l4 l5 l6 l7 μ = some r → ab_U 6 (some .int) kX9_read (55, [some (.ref 232), some (.int l1), some (.int l2), some (.int l3), some (.int l4), some (.int l5), some (.int l6), some (.int l7), none], [], hp X G μ) (fun r9 h9 => r9 = some (.int r.1) ∧ h9 = hp X G r.2))
  | 0 => by
    intros
    rename_i h
    cases h
  | n + 1 => by
    have ih := t_X9_read_g (X := X) hG (F := F)   n
    · intro l1 l2 l3 l4 l5 l6 l7 μ r hf
      have hf : b_X9_read_55 F  (g_X9_read F  n) l1 l2 l3 l4 l5 l6 l7 μ = some r := hf
      unfold b_X9_read_55 at hf
      refine ab_U.run 4 (S' := (61, [some (.ref 232), some (.int l1), some (.int l2), some (.int l3), some (.int l4), some (.int l5), some (.int l6), some (.int l7), none], [.int (2 * l4), .int l7], hp X G μ)) rfl ?_
      refine ab_U.ic_ge rfl (fun b1 => ?_) (fun b1 => ?_)
      · rw [if_pos b1] at hf
        refine ab_U.run 2 (S' := (199, [some (.ref 232), some (.int l1), some (.int l2), some (.int l3), some (.int l4), some (.int l5), some (.int l6), some (.int l7), none], [.int l5, .ref 232], hp X G μ)) rfl ?_
        obtain ⟨m2, e3, hf⟩ := ab_bnd hf
        have e3 := Option.some.inj e3
        refine ab_U.pfI (ci := 9) (k9 := 39) rfl ⟨by decide, rfl⟩ ⟨rfl, rfl, by decide, rfl⟩ rfl ?_
        show ab_U _ _ _ (202, [some (.ref 232), some (.int l1), some (.int l2), some (.int l3), some (.int l4), some (.int l5), some (.int l6), some (.int l7), none], [], hp X G (fm_sI μ 232 39 l5)) _
        rw [e3]
        refine ab_U.run 1 (S' := (204, [some (.ref 232), some (.int l1), some (.int l2), some (.int l3), some (.int l4), some (.int l5), some (.int l6), some (.int l7), none], [.int l6], hp X G m2)) rfl ?_
        obtain rfl := Option.some.inj hf
        exact ab_U.ret rfl rfl ⟨rfl, rfl⟩
      · rw [if_neg b1] at hf
        refine ab_U.run 1 (S' := (66, [some (.ref 232), some (.int l1), some (.int l2), some (.int l3), some (.int l4), some (.int l5), some (.int l6), some (.int l7), none], [.int l5], hp X G μ)) rfl ?_
        refine ab_U.if_ne rfl (fun b4 => ?_) (fun b4 => ?_)
        · rw [if_pos b4] at hf
          refine ab_U.run 2 (S' := (199, [some (.ref 232), some (.int l1), some (.int l2), some (.int l3), some (.int l4), some (.int l5), some (.int l6), some (.int l7), none], [.int l5, .ref 232], hp X G μ)) rfl ?_
          obtain ⟨m5, e6, hf⟩ := ab_bnd hf
          have e6 := Option.some.inj e6
          refine ab_U.pfI (ci := 9) (k9 := 39) rfl ⟨by decide, rfl⟩ ⟨rfl, rfl, by decide, rfl⟩ rfl ?_
          show ab_U _ _ _ (202, [some (.ref 232), some (.int l1), some (.int l2), some (.int l3), some (.int l4), some (.int l5), some (.int l6), some (.int l7), none], [], hp X G (fm_sI μ 232 39 l5)) _
          rw [e6]
          refine ab_U.run 1 (S' := (204, [some (.ref 232), some (.int l1), some (.int l2), some (.int l3), some (.int l4), some (.int l5), some (.int l6), some (.int l7), none], [.int l6], hp X G m5)) rfl ?_
          obtain rfl := Option.some.inj hf
          exact ab_U.ret rfl rfl ⟨rfl, rfl⟩
        · rw [if_neg b4] at hf
          refine ab_U.run 3 (S' := (74, [some (.ref 232), some (.int l1), some (.int l2), some (.int l3), some (.int l4), some (.int l5), some (.int l6), some (.int l7), none], [.int l1, .ref 250], hp X G μ)) rfl ?_
          obtain ⟨c7, hf⟩ := ab_ifs hf
          refine ab_U.iald (n := 4) rfl ⟨by decide, rfl⟩ c7 ?_
          show ab_U _ _ _ (75, [some (.ref 232), some (.int l1), some (.int l2), some (.int l3), some (.int l4), some (.int l5), some (.int l6), some (.int l7), none], [.int (μ.2.1 250 l1.toNatClampNeg)], hp X G μ) _
          refine ab_U.run 1 (S' := (77, [some (.ref 232), some (.int l1), some (.int l2), some (.int l3), some (.int l4), some (.int l5), some (.int l6), some (.int l7), none], [.int (-4), .int (μ.2.1 250 l1.toNatClampNeg)], hp X G μ)) rfl ?_
          refine ab_U.ic_ne rfl (fun b8 => ?_) (fun b8 => ?_)
          · rw [if_pos b8] at hf
            refine ab_U.run 3 (S' := (89, [some (.ref 232), some (.int l1), some (.int l2), some (.int l3), some (.int l4), some (.int l5), some (.int l6), some (.int l7), none], [.int l1, .ref 250], hp X G μ)) rfl ?_
            obtain ⟨c9, hf⟩ := ab_ifs hf
            refine ab_U.iald (n := 4) rfl ⟨by decide, rfl⟩ c9 ?_
            show ab_U _ _ _ (90, [some (.ref 232), some (.int l1), some (.int l2), some (.int l3), some (.int l4), some (.int l5), some (.int l6), some (.int l7), none], [.int (μ.2.1 250 l1.toNatClampNeg)], hp X G μ) _
            refine ab_U.run 1 (S' := (91, [some (.ref 232), some (.int l1), some (.int l2), some (.int l3), some (.int l4), some (.int l5), some (.int l6), some (.int l7), none], [.int l2, .int (μ.2.1 250 l1.toNatClampNeg)], hp X G μ)) rfl ?_
            refine ab_U.ic_eq rfl (fun b10 => ?_) (fun b10 => ?_)
            · rw [if_pos b10] at hf
              refine ab_U.run 9 (S' := (110, [some (.ref 232), some (.int l1), some (.int l2), some (.int l3), some (.int l4), some (.int l5), some (.int l6), some (.int l7), none], [.int l1, .ref 251, .long (Int64.ofNat 0), .long ((l3).toInt64 + (l7).toInt64)], hp X G μ)) rfl ?_
              obtain ⟨c11, hf⟩ := ab_ifs hf
              refine ab_U.iald (n := 4) rfl ⟨by decide, rfl⟩ c11 ?_
              show ab_U _ _ _ (111, [some (.ref 232), some (.int l1), some (.int l2), some (.int l3), some (.int l4), some (.int l5), some (.int l6), some (.int l7), none], [.int (μ.2.1 251 l1.toNatClampNeg), .long (Int64.ofNat 0), .long ((l3).toInt64 + (l7).toInt64)], hp X G μ) _
              refine ab_U.run 3 (S' := (114, [some (.ref 232), some (.int l1), some (.int l2), some (.int l3), some (.int l4), some (.int l5), some (.int l6), some (.int l7), none], [.long (((μ.2.1 251 l1.toNatClampNeg) - 1)).toInt64, .long (Int64.ofNat 0), .long ((l3).toInt64 + (l7).toInt64)], hp X G μ)) rfl ?_
              obtain ⟨q12, h13, hf⟩ := ab_bnd hf
              refine ab_U.fn rfl rfl (t_X9_in (X := X) hG h13) (by omega) ?_
              show ab_U _ _ _ (117, [some (.ref 232), some (.int l1), some (.int l2), some (.int l3), some (.int l4), some (.int l5), some (.int l6), some (.int l7), none], [.int q12.1], hp X G q12.2) _
              refine ab_U.if_ne rfl (fun b14 => ?_) (fun b14 => ?_)
              · rw [if_pos b14] at hf
                refine ab_U.run 8 (S' := (137, [some (.ref 232), some (.int l1), some (.int l2), some (.int l3), some (.int l4), some (.int 0), some (.int l6), some (.int l7), none], [.int 1, .int (l7 - l7 / 2 * 2)], hp X G q12.2)) rfl ?_
                refine ab_U.ic_ne rfl (fun b15 => ?_) (fun b15 => ?_)
                · rw [if_pos b15] at hf
                  refine ab_U.run 2 (S' := (55, [some (.ref 232), some (.int l1), some (.int l2), some (.int l3), some (.int l4), some (.int 0), some (.int l6), some (.int (l7 + 1)), none], [], hp X G q12.2)) rfl ?_
                  exact ab_U.weak (ih _ _ _ _ _ _ _ _ _ hf) (ab_leL.of ⟨rfl, ⟨rfl, ⟨rfl, ⟨rfl, ⟨rfl, ⟨rfl, ⟨rfl, ⟨rfl, trivial⟩⟩⟩⟩⟩⟩⟩⟩)
                · rw [if_neg b15] at hf
                  refine ab_U.run 12 (S' := (158, [some (.ref 232), some (.int l1), some (.int l2), some (.int l3), some (.int l4), some (.int 0), some (.int l6), some (.int l7), some (.int (((40 * l1) + l3) + l7))], [.int (((40 * l1) + l3) + l7), .ref 252, .ref 232], hp X G q12.2)) rfl ?_
                  refine ab_U.run 2 (S' := (160, [some (.ref 232), some (.int l1), some (.int l2), some (.int l3), some (.int l4), some (.int 0), some (.int l6), some (.int l7), some (.int (((40 * l1) + l3) + l7))], [.int ((((40 * l1) + l3) + l7) - 1), .ref 252, .ref 232], hp X G q12.2)) rfl ?_
                  obtain ⟨c16, hf⟩ := ab_ifs hf
                  refine ab_U.iald (n := 160) rfl ⟨by decide, rfl⟩ c16 ?_
                  show ab_U _ _ _ (161, [some (.ref 232), some (.int l1), some (.int l2), some (.int l3), some (.int l4), some (.int 0), some (.int l6), some (.int l7), some (.int (((40 * l1) + l3) + l7))], [.int (q12.2.2.1 252 ((((40 * l1) + l3) + l7) - 1).toNatClampNeg), .ref 232], hp X G q12.2) _
                  refine ab_U.run 3 (S' := (167, [some (.ref 232), some (.int l1), some (.int l2), some (.int l3), some (.int l4), some (.int 0), some (.int l6), some (.int l7), some (.int (((40 * l1) + l3) + l7))], [.int (((40 * l1) + l3) + l7), .ref 252, .int (q12.2.2.1 252 ((((40 * l1) + l3) + l7) - 1).toNatClampNeg), .ref 232], hp X G q12.2)) rfl ?_
                  obtain ⟨c17, hf⟩ := ab_ifs hf
                  refine ab_U.iald (n := 160) rfl ⟨by decide, rfl⟩ c17 ?_
                  show ab_U _ _ _ (168, [some (.ref 232), some (.int l1), some (.int l2), some (.int l3), some (.int l4), some (.int 0), some (.int l6), some (.int l7), some (.int (((40 * l1) + l3) + l7))], [.int (q12.2.2.1 252 (((40 * l1) + l3) + l7).toNatClampNeg), .int (q12.2.2.1 252 ((((40 * l1) + l3) + l7) - 1).toNatClampNeg), .ref 232], hp X G q12.2) _
                  obtain ⟨q18, h19, hf⟩ := ab_bnd hf
                  refine ab_U.fn rfl rfl (t_X9_paid (X := X) hG h19) (by omega) ?_
                  show ab_U _ _ _ (171, [some (.ref 232), some (.int l1), some (.int l2), some (.int l3), some (.int l4), some (.int 0), some (.int l6), some (.int l7), some (.int (((40 * l1) + l3) + l7))], [.int q18.1], hp X G q18.2) _
                  refine ab_U.if_ge rfl (fun b20 => ?_) (fun b20 => ?_)
                  · rw [if_pos b20] at hf
                    refine ab_U.run 3 (S' := (55, [some (.ref 232), some (.int l1), some (.int l2), some (.int l3), some (.int l4), some (.int 0), some (.int (l6 + 1)), some (.int (l7 + 1)), some (.int (((40 * l1) + l3) + l7))], [], hp X G q18.2)) rfl ?_
                    exact ab_U.weak (ih _ _ _ _ _ _ _ _ _ hf) (ab_leL.of ⟨rfl, ⟨rfl, ⟨rfl, ⟨rfl, ⟨rfl, ⟨rfl, ⟨rfl, ⟨rfl, trivial⟩⟩⟩⟩⟩⟩⟩⟩)
                  · rw [if_neg b20] at hf
                    refine ab_U.run 3 (S' := (178, [some (.ref 232), some (.int l1), some (.int l2), some (.int l3), some (.int l4), some (.int 0), some (.int l6), some (.int l7), some (.int (((40 * l1) + l3) + l7))], [.int 0, .int 114, .ref 232], hp X G q18.2)) rfl ?_
                    obtain ⟨q21, h22, hf⟩ := ab_bnd hf
                    refine ab_U.fn rfl rfl (t_X9_copies (X := X) hG h22) (by omega) ?_
                    show ab_U _ _ _ (181, [some (.ref 232), some (.int l1), some (.int l2), some (.int l3), some (.int l4), some (.int 0), some (.int l6), some (.int l7), some (.int (((40 * l1) + l3) + l7))], [], hp X G q21.2) _
                    refine ab_U.run 3 (S' := (186, [some (.ref 232), some (.int l1), some (.int l2), some (.int l3), some (.int l4), some (.int 0), some (.int l6), some (.int l7), some (.int (((40 * l1) + l3) + l7))], [.int ((-20) - l6)], hp X G q21.2)) rfl ?_
                    obtain rfl := Option.some.inj hf
                    exact ab_U.ret rfl rfl ⟨rfl, rfl⟩
              · rw [if_neg b14] at hf
                refine ab_U.run 7 (S' := (55, [some (.ref 232), some (.int l1), some (.int l2), some (.int l3), some (.int l4), some (.int 2), some (.int l6), some (.int (l7 + 1)), none], [], hp X G q12.2)) rfl ?_
                exact ab_U.weak (ih _ _ _ _ _ _ _ _ _ hf) (ab_leL.of ⟨rfl, ⟨rfl, ⟨rfl, ⟨rfl, ⟨rfl, ⟨rfl, ⟨rfl, ⟨rfl, trivial⟩⟩⟩⟩⟩⟩⟩⟩)
            · rw [if_neg b10] at hf
              refine ab_U.run 7 (S' := (55, [some (.ref 232), some (.int l1), some (.int l2), some (.int l3), some (.int l4), some (.int 3), some (.int l6), some (.int (l7 + 1)), none], [], hp X G μ)) rfl ?_
              exact ab_U.weak (ih _ _ _ _ _ _ _ _ _ hf) (ab_leL.of ⟨rfl, ⟨rfl, ⟨rfl, ⟨rfl, ⟨rfl, ⟨rfl, ⟨rfl, ⟨rfl, trivial⟩⟩⟩⟩⟩⟩⟩⟩)
          · rw [if_neg b8] at hf
            refine ab_U.run 7 (S' := (55, [some (.ref 232), some (.int l1), some (.int l2), some (.int l3), some (.int l4), some (.int 1), some (.int l6), some (.int (l7 + 1)), none], [], hp X G μ)) rfl ?_
            exact ab_U.weak (ih _ _ _ _ _ _ _ _ _ hf) (ab_leL.of ⟨rfl, ⟨rfl, ⟨rfl, ⟨rfl, ⟨rfl, ⟨rfl, ⟨rfl, ⟨rfl, trivial⟩⟩⟩⟩⟩⟩⟩⟩)
set_option maxRecDepth 20000 in
def f_X9_read (F : Nat)  (x0 : Int32) (x1 : Int32) (x2 : Int32) (x3 : Int32) (μ : fm_M) : Option (Int32 × fm_M) := (Option.bind (f_X9_in F ((x0).toInt64) (Int64.ofNat 0) (Int64.ofNat 3) μ) (fun q23 => (if q23.1 = 0 then some ((-1), q23.2) else (Option.bind (f_X9_in F ((x1).toInt64) (Int64.ofNat 0) (Int64.ofNat 2) q23.2) (fun q26 => (if q26.1 = 0 then some ((-1), q26.2) else (Option.bind (f_X9_in F ((x3).toInt64) (Int64.ofNat 0) (Int64.ofNat 20) q26.2) (fun q29 => (if ¬ q29.1 = 0 then (Option.bind (f_X9_copies F 0 114 q29.2) (fun q32 => g_X9_read F  F 55 x0 x1 x2 x3 0 0 0 q32.2)) else some ((-1), q29.2))))))))))
set_option maxRecDepth 20000 in
theorem t_X9_read {X : Nat × (Nat → Int32)} {G : Nat → Nat → Option Nat} (hG : fm_Gok G) {F : Nat}   {x0 : Int32} {x1 : Int32} {x2 : Int32} {x3 : Int32} {μ : fm_M} {r : Int32 × fm_M} (hf : f_X9_read F x0 x1 x2 x3 μ = some r) : ab_F 7 215 [.ref 232, .int x0, .int x1, .int x2, .int x3] (hp X G μ) (some (.int r.1)) (hp X G r.2) := by
  unfold f_X9_read at hf
  refine ab_T.of (d := 6) rfl (Nat.le_of_ble_eq_true rfl) ?_
  show ab_U _ _ kX9_read (0, [some (.ref 232), some (.int x0), some (.int x1), some (.int x2), some (.int x3), none, none, none, none], [], hp X G μ) _
  refine ab_U.run 4 (S' := (6, [some (.ref 232), some (.int x0), some (.int x1), some (.int x2), some (.int x3), none, none, none, none], [.long (Int64.ofNat 3), .long (Int64.ofNat 0), .long (x0).toInt64], hp X G μ)) rfl ?_
  obtain ⟨q23, h24, hf⟩ := ab_bnd hf
  refine ab_U.fn rfl rfl (t_X9_in (X := X) hG h24) (by omega) ?_
  show ab_U _ _ _ (9, [some (.ref 232), some (.int x0), some (.int x1), some (.int x2), some (.int x3), none, none, none, none], [.int q23.1], hp X G q23.2) _
  refine ab_U.if_eq rfl (fun b25 => ?_) (fun b25 => ?_)
  · rw [if_pos b25] at hf
    refine ab_U.run 1 (S' := (38, [some (.ref 232), some (.int x0), some (.int x1), some (.int x2), some (.int x3), none, none, none, none], [.int (-1)], hp X G q23.2)) rfl ?_
    obtain rfl := Option.some.inj hf
    exact ab_U.ret rfl rfl ⟨rfl, rfl⟩
  · rw [if_neg b25] at hf
    refine ab_U.run 4 (S' := (18, [some (.ref 232), some (.int x0), some (.int x1), some (.int x2), some (.int x3), none, none, none, none], [.long (Int64.ofNat 2), .long (Int64.ofNat 0), .long (x1).toInt64], hp X G q23.2)) rfl ?_
    obtain ⟨q26, h27, hf⟩ := ab_bnd hf
    refine ab_U.fn rfl rfl (t_X9_in (X := X) hG h27) (by omega) ?_
    show ab_U _ _ _ (21, [some (.ref 232), some (.int x0), some (.int x1), some (.int x2), some (.int x3), none, none, none, none], [.int q26.1], hp X G q26.2) _
    refine ab_U.if_eq rfl (fun b28 => ?_) (fun b28 => ?_)
    · rw [if_pos b28] at hf
      refine ab_U.run 1 (S' := (38, [some (.ref 232), some (.int x0), some (.int x1), some (.int x2), some (.int x3), none, none, none, none], [.int (-1)], hp X G q26.2)) rfl ?_
      obtain rfl := Option.some.inj hf
      exact ab_U.ret rfl rfl ⟨rfl, rfl⟩
    · rw [if_neg b28] at hf
      refine ab_U.run 4 (S' := (31, [some (.ref 232), some (.int x0), some (.int x1), some (.int x2), some (.int x3), none, none, none, none], [.long (Int64.ofNat 20), .long (Int64.ofNat 0), .long (x3).toInt64], hp X G q26.2)) rfl ?_
      obtain ⟨q29, h30, hf⟩ := ab_bnd hf
      refine ab_U.fn rfl rfl (t_X9_in (X := X) hG h30) (by omega) ?_
      show ab_U _ _ _ (34, [some (.ref 232), some (.int x0), some (.int x1), some (.int x2), some (.int x3), none, none, none, none], [.int q29.1], hp X G q29.2) _
      refine ab_U.if_ne rfl (fun b31 => ?_) (fun b31 => ?_)
      · rw [if_pos b31] at hf
        refine ab_U.run 3 (S' := (43, [some (.ref 232), some (.int x0), some (.int x1), some (.int x2), some (.int x3), none, none, none, none], [.int 114, .int 0, .ref 232], hp X G q29.2)) rfl ?_
        obtain ⟨q32, h33, hf⟩ := ab_bnd hf
        refine ab_U.fn rfl rfl (t_X9_copies (X := X) hG h33) (by omega) ?_
        show ab_U _ _ _ (46, [some (.ref 232), some (.int x0), some (.int x1), some (.int x2), some (.int x3), none, none, none, none], [], hp X G q32.2) _
        refine ab_U.run 6 (S' := (55, [some (.ref 232), some (.int x0), some (.int x1), some (.int x2), some (.int x3), some (.int 0), some (.int 0), some (.int 0), none], [], hp X G q32.2)) rfl ?_
        exact ab_U.weak ((t_X9_read_g (X := X) hG   F) _ _ _ _ _ _ _ _ _ hf) (ab_leL.of ⟨rfl, ⟨rfl, ⟨rfl, ⟨rfl, ⟨rfl, ⟨rfl, ⟨rfl, ⟨rfl, trivial⟩⟩⟩⟩⟩⟩⟩⟩)
      · rw [if_neg b31] at hf
        refine ab_U.run 1 (S' := (38, [some (.ref 232), some (.int x0), some (.int x1), some (.int x2), some (.int x3), none, none, none, none], [.int (-1)], hp X G q29.2)) rfl ?_
        obtain rfl := Option.some.inj hf
        exact ab_U.ret rfl rfl ⟨rfl, rfl⟩
set_option maxRecDepth 20000 in
def f_X9_torn (F : Nat)   (μ : fm_M) : Option (Int32 × fm_M) := some ((μ.1 232 39), μ)
set_option maxRecDepth 20000 in
theorem t_X9_torn {X : Nat × (Nat → Int32)} {G : Nat → Nat → Option Nat} (hG : fm_Gok G) {F : Nat}    {μ : fm_M} {r : Int32 × fm_M} (hf : f_X9_torn F  μ = some r) : ab_F 1 216 [.ref 232] (hp X G μ) (some (.int r.1)) (hp X G r.2) := by
  unfold f_X9_torn at hf
  refine ab_T.of (d := 0) rfl (Nat.le_of_ble_eq_true rfl) ?_
  show ab_U _ _ kX9_torn (0, [some (.ref 232)], [], hp X G μ) _
  refine ab_U.run 2 (S' := (4, [some (.ref 232)], [.int (μ.1 232 39)], hp X G μ)) rfl ?_
  obtain rfl := Option.some.inj hf
  exact ab_U.ret rfl rfl ⟨rfl, rfl⟩
set_option maxRecDepth 20000 in
def b_X9_count_7 (F : Nat)  (gg : Nat → Int32 → Int32 → Int32 → Int32 → fm_M → Option (Int32 × fm_M)) (l1 : Int32) (l2 : Int32) (l3 : Int32) (l4 : Int32) (μ : fm_M) : Option (Int32 × fm_M) := (if ab_in 23 228 = true then (if (μ.2.1 233 (23 : Int32).toNatClampNeg) ≤ l4 then gg 41 l1 l2 l3 0 μ else (if ab_in (13 + l4) 228 = true then gg 7 l1 (l2 + (μ.2.1 233 (13 + l4).toNatClampNeg)) l3 (l4 + 1) μ else none)) else none)
set_option maxRecDepth 20000 in
def b_X9_count_41 (F : Nat)  (gg : Nat → Int32 → Int32 → Int32 → Int32 → fm_M → Option (Int32 × fm_M)) (l1 : Int32) (l2 : Int32) (l3 : Int32) (l4 : Int32) (μ : fm_M) : Option (Int32 × fm_M) := (if (μ.1 232 3) ≤ l4 then (if l1.toInt < 0 ∨ 6 < l1.toInt then some ((-1), μ) else (if l1.toInt = 0 then some ((μ.1 232 33), μ) else (if l1.toInt = 1 then (if ab_in 0 2 = true then (if (μ.2.1 249 (0 : Int32).toNatClampNeg) = 0 then (if ab_in 1 2 = true then (if (μ.2.1 249 (1 : Int32).toNatClampNeg) = 0 then some ((0 + 0), μ) else some ((0 + 1), μ)) else none) else (if ab_in 1 2 = true then (if (μ.2.1 249 (1 : Int32).toNatClampNeg) = 0 then some ((1 + 0), μ) else some ((1 + 1), μ)) else none)) else none) else (if l1.toInt = 2 then some ((μ.1 232 13), μ) else (if l1.toInt = 3 then (if ab_in 0 4 = true then (if ¬ (μ.2.1 250 (0 : Int32).toNatClampNeg) = (-4) then (if ab_in 0 4 = true then some ((μ.2.1 251 (0 : Int32).toNatClampNeg), μ) else none) else some ((-4), μ)) else none) else (if l1.toInt = 4 then (Option.bind (f_X9_warmOnes F μ) (fun q20 => some (q20.1, q20.2))) else (if l1.toInt = 5 then some (l2, μ) else some (l3, μ)))))))) else (if ab_in (33 + l4) 228 = true then gg 41 l1 l2 (l3 + (μ.2.1 233 (33 + l4).toNatClampNeg)) (l4 + 1) μ else none))
def g_X9_count (F : Nat)  : Nat → Nat → Int32 → Int32 → Int32 → Int32 → fm_M → Option (Int32 × fm_M)
  | 0, _, _, _, _, _, _ => none
  | n + 1, pc, l1, l2, l3, l4, μ => if pc = 7 then b_X9_count_7 F  (g_X9_count F  n) l1 l2 l3 l4 μ else if pc = 41 then b_X9_count_41 F  (g_X9_count F  n) l1 l2 l3 l4 μ else none
set_option maxRecDepth 20000 in
theorem t_X9_count_g {X : Nat × (Nat → Int32)} {G : Nat → Nat → Option Nat} (hG : fm_Gok G) {F : Nat}    : ∀ n : Nat, (∀ (l1 : Int32) (l2 : Int32) (l3 : Int32) (l4 : Int32) (μ : fm_M) (r : Int32 × fm_M), g_X9_count F  n 7 l1 l2 l3 l4 μ = some r → ab_U 1 (some .int) kX9_count (7, [some (.ref 232), some (.int l1), some (.int l2), some (.int l3), some (.int l4)], [], hp X G μ) (fun r9 h9 => r9 = some (.int r.1) ∧ h9 = hp X G r.2)) ∧ (∀ (l1 : Int32) (l2 : Int32) (l3 : Int32) (l4 : Int32) (μ : fm_M) (r : Int32 × fm_M), g_X9_count F  n 41 l1 l2 l3 l4 μ = some r → ab_U 1 (some .int) kX9_count (41, [some (.ref 232), some (.int l1), some (.int l2), some (.int l3), some (.int l4)], [], hp X G μ) (fun r9 h9 => r9 = some (.int r.1) ∧ h9 = hp X G r.2))
  | 0 => by
    refine ⟨?_, ?_⟩
    all_goals (intros; rename_i h; cases h)
  | n + 1 => by
    have ih := t_X9_count_g (X := X) hG (F := F)   n
    refine ⟨?_, ?_⟩
    · intro l1 l2 l3 l4 μ r hf
      have hf : b_X9_count_7 F  (g_X9_count F  n) l1 l2 l3 l4 μ = some r := hf
      unfold b_X9_count_7 at hf
      refine ab_U.run 4 (S' := (15, [some (.ref 232), some (.int l1), some (.int l2), some (.int l3), some (.int l4)], [.int 23, .ref 233, .int l4], hp X G μ)) rfl ?_
      obtain ⟨c1, hf⟩ := ab_ifs hf
      refine ab_U.iald (n := 228) rfl ⟨by decide, rfl⟩ c1 ?_
      show ab_U _ _ _ (16, [some (.ref 232), some (.int l1), some (.int l2), some (.int l3), some (.int l4)], [.int (μ.2.1 233 (23 : Int32).toNatClampNeg), .int l4], hp X G μ) _
      refine ab_U.ic_ge rfl (fun b2 => ?_) (fun b2 => ?_)
      · rw [if_pos b2] at hf
        refine ab_U.run 2 (S' := (41, [some (.ref 232), some (.int l1), some (.int l2), some (.int l3), some (.int 0)], [], hp X G μ)) rfl ?_
        exact ab_U.weak (ih.2 _ _ _ _ _ _ hf) (ab_leL.of ⟨rfl, ⟨rfl, ⟨rfl, ⟨rfl, ⟨rfl, trivial⟩⟩⟩⟩⟩)
      · rw [if_neg b2] at hf
        refine ab_U.run 6 (S' := (29, [some (.ref 232), some (.int l1), some (.int l2), some (.int l3), some (.int l4)], [.int (13 + l4), .ref 233, .int l2], hp X G μ)) rfl ?_
        obtain ⟨c3, hf⟩ := ab_ifs hf
        refine ab_U.iald (n := 228) rfl ⟨by decide, rfl⟩ c3 ?_
        show ab_U _ _ _ (30, [some (.ref 232), some (.int l1), some (.int l2), some (.int l3), some (.int l4)], [.int (μ.2.1 233 (13 + l4).toNatClampNeg), .int l2], hp X G μ) _
        refine ab_U.run 4 (S' := (7, [some (.ref 232), some (.int l1), some (.int (l2 + (μ.2.1 233 (13 + l4).toNatClampNeg))), some (.int l3), some (.int (l4 + 1))], [], hp X G μ)) rfl ?_
        exact ab_U.weak (ih.1 _ _ _ _ _ _ hf) (ab_leL.of ⟨rfl, ⟨rfl, ⟨rfl, ⟨rfl, ⟨rfl, trivial⟩⟩⟩⟩⟩)
    · intro l1 l2 l3 l4 μ r hf
      have hf : b_X9_count_41 F  (g_X9_count F  n) l1 l2 l3 l4 μ = some r := hf
      unfold b_X9_count_41 at hf
      refine ab_U.run 3 (S' := (47, [some (.ref 232), some (.int l1), some (.int l2), some (.int l3), some (.int l4)], [.int (μ.1 232 3), .int l4], hp X G μ)) rfl ?_
      refine ab_U.ic_ge rfl (fun b4 => ?_) (fun b4 => ?_)
      · rw [if_pos b4] at hf
        refine ab_U.run 1 (S' := (70, [some (.ref 232), some (.int l1), some (.int l2), some (.int l3), some (.int l4)], [.int l1], hp X G μ)) rfl ?_
        by_cases b5 : l1.toInt < 0 ∨ 6 < l1.toInt
        · rw [if_pos b5] at hf
          refine ab_U.tswD rfl b5 ?_
          refine ab_U.run 1 (S' := (185, [some (.ref 232), some (.int l1), some (.int l2), some (.int l3), some (.int l4)], [.int (-1)], hp X G μ)) rfl ?_
          obtain rfl := Option.some.inj hf
          exact ab_U.ret rfl rfl ⟨rfl, rfl⟩
        · rw [if_neg b5] at hf
          by_cases b6 : l1.toInt = 0
          · rw [if_pos b6] at hf
            refine ab_U.tswT (t := 112) rfl b5 (by rw [b6]; rfl) ?_
            refine ab_U.run 2 (S' := (116, [some (.ref 232), some (.int l1), some (.int l2), some (.int l3), some (.int l4)], [.int (μ.1 232 33)], hp X G μ)) rfl ?_
            obtain rfl := Option.some.inj hf
            exact ab_U.ret rfl rfl ⟨rfl, rfl⟩
          · rw [if_neg b6] at hf
            by_cases b7 : l1.toInt = 1
            · rw [if_pos b7] at hf
              refine ab_U.tswT (t := 117) rfl b5 (by rw [b7]; rfl) ?_
              refine ab_U.run 3 (S' := (122, [some (.ref 232), some (.int l1), some (.int l2), some (.int l3), some (.int l4)], [.int 0, .ref 249], hp X G μ)) rfl ?_
              obtain ⟨c8, hf⟩ := ab_ifs hf
              refine ab_U.baldZ (n := 2) rfl ⟨by decide, rfl⟩ c8 ?_
              show ab_U _ _ _ (123, [some (.ref 232), some (.int l1), some (.int l2), some (.int l3), some (.int l4)], [.int (μ.2.1 249 (0 : Int32).toNatClampNeg)], hp X G μ) _
              refine ab_U.if_eq rfl (fun b9 => ?_) (fun b9 => ?_)
              · rw [if_pos b9] at hf
                refine ab_U.run 4 (S' := (136, [some (.ref 232), some (.int l1), some (.int l2), some (.int l3), some (.int l4)], [.int 1, .ref 249, .int 0], hp X G μ)) rfl ?_
                obtain ⟨c10, hf⟩ := ab_ifs hf
                refine ab_U.baldZ (n := 2) rfl ⟨by decide, rfl⟩ c10 ?_
                show ab_U _ _ _ (137, [some (.ref 232), some (.int l1), some (.int l2), some (.int l3), some (.int l4)], [.int (μ.2.1 249 (1 : Int32).toNatClampNeg), .int 0], hp X G μ) _
                refine ab_U.if_eq rfl (fun b11 => ?_) (fun b11 => ?_)
                · rw [if_pos b11] at hf
                  refine ab_U.run 2 (S' := (146, [some (.ref 232), some (.int l1), some (.int l2), some (.int l3), some (.int l4)], [.int (0 + 0)], hp X G μ)) rfl ?_
                  obtain rfl := Option.some.inj hf
                  exact ab_U.ret rfl rfl ⟨rfl, rfl⟩
                · rw [if_neg b11] at hf
                  refine ab_U.run 3 (S' := (146, [some (.ref 232), some (.int l1), some (.int l2), some (.int l3), some (.int l4)], [.int (0 + 1)], hp X G μ)) rfl ?_
                  obtain rfl := Option.some.inj hf
                  exact ab_U.ret rfl rfl ⟨rfl, rfl⟩
              · rw [if_neg b9] at hf
                refine ab_U.run 5 (S' := (136, [some (.ref 232), some (.int l1), some (.int l2), some (.int l3), some (.int l4)], [.int 1, .ref 249, .int 1], hp X G μ)) rfl ?_
                obtain ⟨c12, hf⟩ := ab_ifs hf
                refine ab_U.baldZ (n := 2) rfl ⟨by decide, rfl⟩ c12 ?_
                show ab_U _ _ _ (137, [some (.ref 232), some (.int l1), some (.int l2), some (.int l3), some (.int l4)], [.int (μ.2.1 249 (1 : Int32).toNatClampNeg), .int 1], hp X G μ) _
                refine ab_U.if_eq rfl (fun b13 => ?_) (fun b13 => ?_)
                · rw [if_pos b13] at hf
                  refine ab_U.run 2 (S' := (146, [some (.ref 232), some (.int l1), some (.int l2), some (.int l3), some (.int l4)], [.int (1 + 0)], hp X G μ)) rfl ?_
                  obtain rfl := Option.some.inj hf
                  exact ab_U.ret rfl rfl ⟨rfl, rfl⟩
                · rw [if_neg b13] at hf
                  refine ab_U.run 3 (S' := (146, [some (.ref 232), some (.int l1), some (.int l2), some (.int l3), some (.int l4)], [.int (1 + 1)], hp X G μ)) rfl ?_
                  obtain rfl := Option.some.inj hf
                  exact ab_U.ret rfl rfl ⟨rfl, rfl⟩
            · rw [if_neg b7] at hf
              by_cases b14 : l1.toInt = 2
              · rw [if_pos b14] at hf
                refine ab_U.tswT (t := 147) rfl b5 (by rw [b14]; rfl) ?_
                refine ab_U.run 2 (S' := (151, [some (.ref 232), some (.int l1), some (.int l2), some (.int l3), some (.int l4)], [.int (μ.1 232 13)], hp X G μ)) rfl ?_
                obtain rfl := Option.some.inj hf
                exact ab_U.ret rfl rfl ⟨rfl, rfl⟩
              · rw [if_neg b14] at hf
                by_cases b15 : l1.toInt = 3
                · rw [if_pos b15] at hf
                  refine ab_U.tswT (t := 152) rfl b5 (by rw [b15]; rfl) ?_
                  refine ab_U.run 3 (S' := (157, [some (.ref 232), some (.int l1), some (.int l2), some (.int l3), some (.int l4)], [.int 0, .ref 250], hp X G μ)) rfl ?_
                  obtain ⟨c16, hf⟩ := ab_ifs hf
                  refine ab_U.iald (n := 4) rfl ⟨by decide, rfl⟩ c16 ?_
                  show ab_U _ _ _ (158, [some (.ref 232), some (.int l1), some (.int l2), some (.int l3), some (.int l4)], [.int (μ.2.1 250 (0 : Int32).toNatClampNeg)], hp X G μ) _
                  refine ab_U.run 1 (S' := (160, [some (.ref 232), some (.int l1), some (.int l2), some (.int l3), some (.int l4)], [.int (-4), .int (μ.2.1 250 (0 : Int32).toNatClampNeg)], hp X G μ)) rfl ?_
                  refine ab_U.ic_ne rfl (fun b17 => ?_) (fun b17 => ?_)
                  · rw [if_pos b17] at hf
                    refine ab_U.run 3 (S' := (173, [some (.ref 232), some (.int l1), some (.int l2), some (.int l3), some (.int l4)], [.int 0, .ref 251], hp X G μ)) rfl ?_
                    obtain ⟨c18, hf⟩ := ab_ifs hf
                    refine ab_U.iald (n := 4) rfl ⟨by decide, rfl⟩ c18 ?_
                    show ab_U _ _ _ (174, [some (.ref 232), some (.int l1), some (.int l2), some (.int l3), some (.int l4)], [.int (μ.2.1 251 (0 : Int32).toNatClampNeg)], hp X G μ) _
                    obtain rfl := Option.some.inj hf
                    exact ab_U.ret rfl rfl ⟨rfl, rfl⟩
                  · rw [if_neg b17] at hf
                    refine ab_U.run 2 (S' := (174, [some (.ref 232), some (.int l1), some (.int l2), some (.int l3), some (.int l4)], [.int (-4)], hp X G μ)) rfl ?_
                    obtain rfl := Option.some.inj hf
                    exact ab_U.ret rfl rfl ⟨rfl, rfl⟩
                · rw [if_neg b15] at hf
                  by_cases b19 : l1.toInt = 4
                  · rw [if_pos b19] at hf
                    refine ab_U.tswT (t := 175) rfl b5 (by rw [b19]; rfl) ?_
                    refine ab_U.run 1 (S' := (176, [some (.ref 232), some (.int l1), some (.int l2), some (.int l3), some (.int l4)], [.ref 232], hp X G μ)) rfl ?_
                    obtain ⟨q20, h21, hf⟩ := ab_bnd hf
                    refine ab_U.fn rfl rfl (t_X9_warmOnes (X := X) hG h21) (by omega) ?_
                    show ab_U _ _ _ (179, [some (.ref 232), some (.int l1), some (.int l2), some (.int l3), some (.int l4)], [.int q20.1], hp X G q20.2) _
                    obtain rfl := Option.some.inj hf
                    exact ab_U.ret rfl rfl ⟨rfl, rfl⟩
                  · rw [if_neg b19] at hf
                    by_cases b22 : l1.toInt = 5
                    · rw [if_pos b22] at hf
                      refine ab_U.tswT (t := 180) rfl b5 (by rw [b22]; rfl) ?_
                      refine ab_U.run 1 (S' := (181, [some (.ref 232), some (.int l1), some (.int l2), some (.int l3), some (.int l4)], [.int l2], hp X G μ)) rfl ?_
                      obtain rfl := Option.some.inj hf
                      exact ab_U.ret rfl rfl ⟨rfl, rfl⟩
                    · rw [if_neg b22] at hf
                      have b23 : l1.toInt = 6 := by omega
                      refine ab_U.tswT (t := 182) rfl b5 (by rw [b23]; rfl) ?_
                      refine ab_U.run 1 (S' := (183, [some (.ref 232), some (.int l1), some (.int l2), some (.int l3), some (.int l4)], [.int l3], hp X G μ)) rfl ?_
                      obtain rfl := Option.some.inj hf
                      exact ab_U.ret rfl rfl ⟨rfl, rfl⟩
      · rw [if_neg b4] at hf
        refine ab_U.run 6 (S' := (60, [some (.ref 232), some (.int l1), some (.int l2), some (.int l3), some (.int l4)], [.int (33 + l4), .ref 233, .int l3], hp X G μ)) rfl ?_
        obtain ⟨c24, hf⟩ := ab_ifs hf
        refine ab_U.iald (n := 228) rfl ⟨by decide, rfl⟩ c24 ?_
        show ab_U _ _ _ (61, [some (.ref 232), some (.int l1), some (.int l2), some (.int l3), some (.int l4)], [.int (μ.2.1 233 (33 + l4).toNatClampNeg), .int l3], hp X G μ) _
        refine ab_U.run 4 (S' := (41, [some (.ref 232), some (.int l1), some (.int l2), some (.int (l3 + (μ.2.1 233 (33 + l4).toNatClampNeg))), some (.int (l4 + 1))], [], hp X G μ)) rfl ?_
        exact ab_U.weak (ih.2 _ _ _ _ _ _ hf) (ab_leL.of ⟨rfl, ⟨rfl, ⟨rfl, ⟨rfl, ⟨rfl, trivial⟩⟩⟩⟩⟩)
set_option maxRecDepth 20000 in
def f_X9_count (F : Nat)  (x0 : Int32) (μ : fm_M) : Option (Int32 × fm_M) := g_X9_count F  F 7 x0 0 0 0 μ
set_option maxRecDepth 20000 in
theorem t_X9_count {X : Nat × (Nat → Int32)} {G : Nat → Nat → Option Nat} (hG : fm_Gok G) {F : Nat}   {x0 : Int32} {μ : fm_M} {r : Int32 × fm_M} (hf : f_X9_count F x0 μ = some r) : ab_F 2 217 [.ref 232, .int x0] (hp X G μ) (some (.int r.1)) (hp X G r.2) := by
  unfold f_X9_count at hf
  refine ab_T.of (d := 1) rfl (Nat.le_of_ble_eq_true rfl) ?_
  show ab_U _ _ kX9_count (0, [some (.ref 232), some (.int x0), none, none, none], [], hp X G μ) _
  refine ab_U.run 6 (S' := (7, [some (.ref 232), some (.int x0), some (.int 0), some (.int 0), some (.int 0)], [], hp X G μ)) rfl ?_
  exact ab_U.weak ((t_X9_count_g (X := X) hG   F).1 _ _ _ _ _ _ hf) (ab_leL.of ⟨rfl, ⟨rfl, ⟨rfl, ⟨rfl, ⟨rfl, trivial⟩⟩⟩⟩⟩)
