/-! by program: each method as a function over the memory, and that our machine does it -/
set_option maxRecDepth 20000 in
def b_X5_isName_28 (F : Nat) (sa : Nat) (gg : Nat → Int32 → fm_M → Option (Int32 × fm_M)) (l2 : Int32) (μ : fm_M) : Option (Int32 × fm_M) := (if 10 ≤ sa ∧ sa < 19 then (Option.bind (f_J0_length_8abf5 F sa μ) (fun q1 => (if q1.1 ≤ l2 then some (1, q1.2) else (if ab_in ((q1.2.1 123 6) + l2) 160 = true then (if 10 ≤ sa ∧ sa < 19 then (Option.bind (f_J0_charAt_5068e F sa l2 q1.2) (fun q6 => (if (q1.2.2.1 124 ((q1.2.1 123 6) + l2).toNatClampNeg) = q6.1 then gg 28 (l2 + 1) q6.2 else some (0, q6.2)))) else none) else none)))) else none)
def g_X5_isName (F : Nat) (sa : Nat) : Nat → Nat → Int32 → fm_M → Option (Int32 × fm_M)
  | 0, _, _, _ => none
  | n + 1, pc, l2, μ => if pc = 28 then b_X5_isName_28 F sa (g_X5_isName F sa n) l2 μ else none
set_option maxRecDepth 20000 in
theorem t_X5_isName_g {X : Nat × (Nat → Int32)} {G : Nat → Nat → Option Nat} (hG : fm_Gok G) {F : Nat}  {sa : Nat}  : ∀ n : Nat, (∀ (l2 : Int32) (μ : fm_M) (r : Int32 × fm_M), g_X5_isName F sa n 28 l2 μ = some r → ab_U 6 (some .boolean) kX5_isName (28, [some (.ref 123), some (.ref sa), some (.int l2)], [], hp X G μ) (fun r9 h9 => r9 = some (.int r.1) ∧ h9 = hp X G r.2))
  | 0 => by
    intros
    rename_i h
    cases h
  | n + 1 => by
    have ih := t_X5_isName_g (X := X) hG (F := F) (sa := sa)  n
    · intro l2 μ r hf
      have hf : b_X5_isName_28 F sa (g_X5_isName F sa n) l2 μ = some r := hf
      unfold b_X5_isName_28 at hf
      refine ab_U.run 2 (S' := (30, [some (.ref 123), some (.ref sa), some (.int l2)], [.ref sa, .int l2], hp X G μ)) rfl ?_
      obtain ⟨c3, hf⟩ := ab_ifs hf
      obtain ⟨q1, h2, hf⟩ := ab_bnd hf
      refine ab_U.fnT rfl rfl c3 rfl rfl (t_J0_length_8abf5 (X := X) hG h2) (by omega) ?_
      show ab_U _ _ _ (33, [some (.ref 123), some (.ref sa), some (.int l2)], [.int q1.1, .int l2], hp X G q1.2) _
      refine ab_U.ic_ge rfl (fun b4 => ?_) (fun b4 => ?_)
      · rw [if_pos b4] at hf
        refine ab_U.run 1 (S' := (64, [some (.ref 123), some (.ref sa), some (.int l2)], [.int 1], hp X G q1.2)) rfl ?_
        obtain rfl := Option.some.inj hf
        exact ab_U.ret rfl rfl ⟨rfl, rfl⟩
      · rw [if_neg b4] at hf
        refine ab_U.run 6 (S' := (46, [some (.ref 123), some (.ref sa), some (.int l2)], [.int ((q1.2.1 123 6) + l2), .ref 124], hp X G q1.2)) rfl ?_
        obtain ⟨c5, hf⟩ := ab_ifs hf
        refine ab_U.baldB (n := 160) rfl ⟨by decide, rfl⟩ c5 ?_
        show ab_U _ _ _ (47, [some (.ref 123), some (.ref sa), some (.int l2)], [.int (q1.2.2.1 124 ((q1.2.1 123 6) + l2).toNatClampNeg)], hp X G q1.2) _
        refine ab_U.run 2 (S' := (49, [some (.ref 123), some (.ref sa), some (.int l2)], [.int l2, .ref sa, .int (q1.2.2.1 124 ((q1.2.1 123 6) + l2).toNatClampNeg)], hp X G q1.2)) rfl ?_
        obtain ⟨c8, hf⟩ := ab_ifs hf
        obtain ⟨q6, h7, hf⟩ := ab_bnd hf
        refine ab_U.fnT rfl rfl c8 rfl rfl (t_J0_charAt_5068e (X := X) hG h7) (by omega) ?_
        show ab_U _ _ _ (52, [some (.ref 123), some (.ref sa), some (.int l2)], [.int q6.1, .int (q1.2.2.1 124 ((q1.2.1 123 6) + l2).toNatClampNeg)], hp X G q6.2) _
        refine ab_U.ic_eq rfl (fun b9 => ?_) (fun b9 => ?_)
        · rw [if_pos b9] at hf
          refine ab_U.run 2 (S' := (28, [some (.ref 123), some (.ref sa), some (.int (l2 + 1))], [], hp X G q6.2)) rfl ?_
          exact ab_U.weak (ih _ _ _ hf) (ab_leL.of ⟨rfl, ⟨rfl, ⟨rfl, trivial⟩⟩⟩)
        · rw [if_neg b9] at hf
          refine ab_U.run 1 (S' := (56, [some (.ref 123), some (.ref sa), some (.int l2)], [.int 0], hp X G q6.2)) rfl ?_
          obtain rfl := Option.some.inj hf
          exact ab_U.ret rfl rfl ⟨rfl, rfl⟩
set_option maxRecDepth 20000 in
def f_X5_isName (F : Nat) (sa : Nat)  (μ : fm_M) : Option (Int32 × fm_M) := (if ¬ (μ.1 123 5) = 1 then some (0, μ) else (if 10 ≤ sa ∧ sa < 19 then (Option.bind (f_J0_length_8abf5 F sa μ) (fun q11 => (if ((μ.1 123 4) - (μ.1 123 6)) = q11.1 then g_X5_isName F sa F 28 0 q11.2 else some (0, q11.2)))) else none))
set_option maxRecDepth 20000 in
theorem t_X5_isName {X : Nat × (Nat → Int32)} {G : Nat → Nat → Option Nat} (hG : fm_Gok G) {F : Nat} {sa : Nat}   {μ : fm_M} {r : Int32 × fm_M} (hf : f_X5_isName F sa μ = some r) : ab_F 7 33 [.ref 123, .ref sa] (hp X G μ) (some (.int r.1)) (hp X G r.2) := by
  unfold f_X5_isName at hf
  refine ab_T.of (d := 6) rfl (Nat.le_of_ble_eq_true rfl) ?_
  show ab_U _ _ kX5_isName (0, [some (.ref 123), some (.ref sa), none], [], hp X G μ) _
  refine ab_U.run 3 (S' := (5, [some (.ref 123), some (.ref sa), none], [.int 1, .int (μ.1 123 5)], hp X G μ)) rfl ?_
  refine ab_U.ic_ne rfl (fun b10 => ?_) (fun b10 => ?_)
  · rw [if_pos b10] at hf
    refine ab_U.run 1 (S' := (25, [some (.ref 123), some (.ref sa), none], [.int 0], hp X G μ)) rfl ?_
    obtain rfl := Option.some.inj hf
    exact ab_U.ret rfl rfl ⟨rfl, rfl⟩
  · rw [if_neg b10] at hf
    refine ab_U.run 6 (S' := (18, [some (.ref 123), some (.ref sa), none], [.ref sa, .int ((μ.1 123 4) - (μ.1 123 6))], hp X G μ)) rfl ?_
    obtain ⟨c13, hf⟩ := ab_ifs hf
    obtain ⟨q11, h12, hf⟩ := ab_bnd hf
    refine ab_U.fnT rfl rfl c13 rfl rfl (t_J0_length_8abf5 (X := X) hG h12) (by omega) ?_
    show ab_U _ _ _ (21, [some (.ref 123), some (.ref sa), none], [.int q11.1, .int ((μ.1 123 4) - (μ.1 123 6))], hp X G q11.2) _
    refine ab_U.ic_eq rfl (fun b14 => ?_) (fun b14 => ?_)
    · rw [if_pos b14] at hf
      refine ab_U.run 2 (S' := (28, [some (.ref 123), some (.ref sa), some (.int 0)], [], hp X G q11.2)) rfl ?_
      exact ab_U.weak ((t_X5_isName_g (X := X) hG (sa := sa)  F) _ _ _ hf) (ab_leL.of ⟨rfl, ⟨rfl, ⟨rfl, trivial⟩⟩⟩)
    · rw [if_neg b14] at hf
      refine ab_U.run 1 (S' := (25, [some (.ref 123), some (.ref sa), none], [.int 0], hp X G q11.2)) rfl ?_
      obtain rfl := Option.some.inj hf
      exact ab_U.ret rfl rfl ⟨rfl, rfl⟩
set_option maxRecDepth 20000 in
def f_X5_kindNamed (F : Nat)   (μ : fm_M) : Option (Int32 × fm_M) := (Option.bind (f_X5_isName F 10 μ) (fun q1 => (if q1.1 = 0 then (Option.bind (f_X5_isName F 11 q1.2) (fun q4 => (if q4.1 = 0 then (Option.bind (f_X5_isName F 12 q4.2) (fun q7 => (if q7.1 = 0 then (Option.bind (f_X5_isName F 13 q7.2) (fun q10 => (if q10.1 = 0 then some ((-4), q10.2) else some (3, q10.2)))) else some (2, q7.2)))) else some (1, q4.2)))) else some (0, q1.2))))
set_option maxRecDepth 20000 in
theorem t_X5_kindNamed {X : Nat × (Nat → Int32)} {G : Nat → Nat → Option Nat} (hG : fm_Gok G) {F : Nat}    {μ : fm_M} {r : Int32 × fm_M} (hf : f_X5_kindNamed F  μ = some r) : ab_F 8 34 [.ref 123] (hp X G μ) (some (.int r.1)) (hp X G r.2) := by
  unfold f_X5_kindNamed at hf
  refine ab_T.of (d := 7) rfl (Nat.le_of_ble_eq_true rfl) ?_
  show ab_U _ _ kX5_kindNamed (0, [some (.ref 123)], [], hp X G μ) _
  refine ab_U.run 2 (S' := (3, [some (.ref 123)], [.ref 10, .ref 123], hp X G μ)) rfl ?_
  obtain ⟨q1, h2, hf⟩ := ab_bnd hf
  refine ab_U.fn rfl rfl (t_X5_isName (X := X) hG h2) (by omega) ?_
  show ab_U _ _ _ (6, [some (.ref 123)], [.int q1.1], hp X G q1.2) _
  refine ab_U.if_eq rfl (fun b3 => ?_) (fun b3 => ?_)
  · rw [if_pos b3] at hf
    refine ab_U.run 2 (S' := (14, [some (.ref 123)], [.ref 11, .ref 123], hp X G q1.2)) rfl ?_
    obtain ⟨q4, h5, hf⟩ := ab_bnd hf
    refine ab_U.fn rfl rfl (t_X5_isName (X := X) hG h5) (by omega) ?_
    show ab_U _ _ _ (17, [some (.ref 123)], [.int q4.1], hp X G q4.2) _
    refine ab_U.if_eq rfl (fun b6 => ?_) (fun b6 => ?_)
    · rw [if_pos b6] at hf
      refine ab_U.run 2 (S' := (25, [some (.ref 123)], [.ref 12, .ref 123], hp X G q4.2)) rfl ?_
      obtain ⟨q7, h8, hf⟩ := ab_bnd hf
      refine ab_U.fn rfl rfl (t_X5_isName (X := X) hG h8) (by omega) ?_
      show ab_U _ _ _ (28, [some (.ref 123)], [.int q7.1], hp X G q7.2) _
      refine ab_U.if_eq rfl (fun b9 => ?_) (fun b9 => ?_)
      · rw [if_pos b9] at hf
        refine ab_U.run 2 (S' := (36, [some (.ref 123)], [.ref 13, .ref 123], hp X G q7.2)) rfl ?_
        obtain ⟨q10, h11, hf⟩ := ab_bnd hf
        refine ab_U.fn rfl rfl (t_X5_isName (X := X) hG h11) (by omega) ?_
        show ab_U _ _ _ (39, [some (.ref 123)], [.int q10.1], hp X G q10.2) _
        refine ab_U.if_eq rfl (fun b12 => ?_) (fun b12 => ?_)
        · rw [if_pos b12] at hf
          refine ab_U.run 1 (S' := (48, [some (.ref 123)], [.int (-4)], hp X G q10.2)) rfl ?_
          obtain rfl := Option.some.inj hf
          exact ab_U.ret rfl rfl ⟨rfl, rfl⟩
        · rw [if_neg b12] at hf
          refine ab_U.run 2 (S' := (48, [some (.ref 123)], [.int 3], hp X G q10.2)) rfl ?_
          obtain rfl := Option.some.inj hf
          exact ab_U.ret rfl rfl ⟨rfl, rfl⟩
      · rw [if_neg b9] at hf
        refine ab_U.run 1 (S' := (32, [some (.ref 123)], [.int 2], hp X G q7.2)) rfl ?_
        obtain rfl := Option.some.inj hf
        exact ab_U.ret rfl rfl ⟨rfl, rfl⟩
    · rw [if_neg b6] at hf
      refine ab_U.run 1 (S' := (21, [some (.ref 123)], [.int 1], hp X G q4.2)) rfl ?_
      obtain rfl := Option.some.inj hf
      exact ab_U.ret rfl rfl ⟨rfl, rfl⟩
  · rw [if_neg b3] at hf
    refine ab_U.run 1 (S' := (10, [some (.ref 123)], [.int 0], hp X G q1.2)) rfl ?_
    obtain rfl := Option.some.inj hf
    exact ab_U.ret rfl rfl ⟨rfl, rfl⟩
set_option maxRecDepth 20000 in
def f_X5_readLine (F : Nat)   (μ : fm_M) : Option (Unit × fm_M) := (Option.bind (f_X5_kindNamed F μ) (fun q1 => (Option.bind (f_X5_isName F 14 q1.2) (fun q3 => (if q3.1 = 0 then (if q1.1 < 0 then (Option.bind (f_X5_isName F 15 q3.2) (fun q7 => (if q7.1 = 0 then (Option.bind (f_X5_isName F 16 q7.2) (fun q10 => (if q10.1 = 0 then (Option.bind (f_X5_isName F 17 q10.2) (fun q13 => (if q13.1 = 0 then (Option.bind (f_X5_isName F 18 q13.2) (fun q16 => (if q16.1 = 0 then (Option.bind (f_X5_blame F 2 (q16.2.1 123 6) q16.2) (fun q19 => some ((), q19.2))) else (Option.bind (f_X5_readDebt F q16.2) (fun q21 => some ((), q21.2)))))) else (Option.bind (f_X5_readPrice F q13.2) (fun q23 => some ((), q23.2)))))) else (Option.bind (f_X5_readWind F q10.2) (fun q25 => some ((), q25.2)))))) else (Option.bind (f_X5_readOven F q7.2) (fun q27 => some ((), q27.2)))))) else (Option.bind (f_X5_readStone F q1.1 q3.2) (fun q29 => some ((), q29.2)))) else (Option.bind (f_X5_readMan F q3.2) (fun q31 => some ((), q31.2))))))))
set_option maxRecDepth 20000 in
theorem t_X5_readLine {X : Nat × (Nat → Int32)} {G : Nat → Nat → Option Nat} (hG : fm_Gok G) {F : Nat}    {μ : fm_M} {r : Unit × fm_M} (hf : f_X5_readLine F  μ = some r) : ab_F 9 35 [.ref 123, .ref 111] (hp X G μ) none (hp X G r.2) := by
  unfold f_X5_readLine at hf
  refine ab_T.of (d := 8) rfl (Nat.le_of_ble_eq_true rfl) ?_
  show ab_U _ _ kX5_readLine (0, [some (.ref 123), some (.ref 111), none], [], hp X G μ) _
  refine ab_U.run 1 (S' := (1, [some (.ref 123), some (.ref 111), none], [.ref 123], hp X G μ)) rfl ?_
  obtain ⟨q1, h2, hf⟩ := ab_bnd hf
  refine ab_U.fn rfl rfl (t_X5_kindNamed (X := X) hG h2) (by omega) ?_
  show ab_U _ _ _ (4, [some (.ref 123), some (.ref 111), none], [.int q1.1], hp X G q1.2) _
  refine ab_U.run 3 (S' := (8, [some (.ref 123), some (.ref 111), some (.int q1.1)], [.ref 14, .ref 123], hp X G q1.2)) rfl ?_
  obtain ⟨q3, h4, hf⟩ := ab_bnd hf
  refine ab_U.fn rfl rfl (t_X5_isName (X := X) hG h4) (by omega) ?_
  show ab_U _ _ _ (11, [some (.ref 123), some (.ref 111), some (.int q1.1)], [.int q3.1], hp X G q3.2) _
  refine ab_U.if_eq rfl (fun b5 => ?_) (fun b5 => ?_)
  · rw [if_pos b5] at hf
    refine ab_U.run 1 (S' := (23, [some (.ref 123), some (.ref 111), some (.int q1.1)], [.int q1.1], hp X G q3.2)) rfl ?_
    refine ab_U.if_lt rfl (fun b6 => ?_) (fun b6 => ?_)
    · rw [if_pos b6] at hf
      refine ab_U.run 2 (S' := (38, [some (.ref 123), some (.ref 111), some (.int q1.1)], [.ref 15, .ref 123], hp X G q3.2)) rfl ?_
      obtain ⟨q7, h8, hf⟩ := ab_bnd hf
      refine ab_U.fn rfl rfl (t_X5_isName (X := X) hG h8) (by omega) ?_
      show ab_U _ _ _ (41, [some (.ref 123), some (.ref 111), some (.int q1.1)], [.int q7.1], hp X G q7.2) _
      refine ab_U.if_eq rfl (fun b9 => ?_) (fun b9 => ?_)
      · rw [if_pos b9] at hf
        refine ab_U.run 2 (S' := (55, [some (.ref 123), some (.ref 111), some (.int q1.1)], [.ref 16, .ref 123], hp X G q7.2)) rfl ?_
        obtain ⟨q10, h11, hf⟩ := ab_bnd hf
        refine ab_U.fn rfl rfl (t_X5_isName (X := X) hG h11) (by omega) ?_
        show ab_U _ _ _ (58, [some (.ref 123), some (.ref 111), some (.int q1.1)], [.int q10.1], hp X G q10.2) _
        refine ab_U.if_eq rfl (fun b12 => ?_) (fun b12 => ?_)
        · rw [if_pos b12] at hf
          refine ab_U.run 2 (S' := (72, [some (.ref 123), some (.ref 111), some (.int q1.1)], [.ref 17, .ref 123], hp X G q10.2)) rfl ?_
          obtain ⟨q13, h14, hf⟩ := ab_bnd hf
          refine ab_U.fn rfl rfl (t_X5_isName (X := X) hG h14) (by omega) ?_
          show ab_U _ _ _ (75, [some (.ref 123), some (.ref 111), some (.int q1.1)], [.int q13.1], hp X G q13.2) _
          refine ab_U.if_eq rfl (fun b15 => ?_) (fun b15 => ?_)
          · rw [if_pos b15] at hf
            refine ab_U.run 2 (S' := (89, [some (.ref 123), some (.ref 111), some (.int q1.1)], [.ref 18, .ref 123], hp X G q13.2)) rfl ?_
            obtain ⟨q16, h17, hf⟩ := ab_bnd hf
            refine ab_U.fn rfl rfl (t_X5_isName (X := X) hG h17) (by omega) ?_
            show ab_U _ _ _ (92, [some (.ref 123), some (.ref 111), some (.int q1.1)], [.int q16.1], hp X G q16.2) _
            refine ab_U.if_eq rfl (fun b18 => ?_) (fun b18 => ?_)
            · rw [if_pos b18] at hf
              refine ab_U.run 4 (S' := (109, [some (.ref 123), some (.ref 111), some (.int q1.1)], [.int (q16.2.1 123 6), .int 2, .ref 123], hp X G q16.2)) rfl ?_
              obtain ⟨q19, h20, hf⟩ := ab_bnd hf
              refine ab_U.fn rfl rfl (t_X5_blame (X := X) hG h20) (by omega) ?_
              show ab_U _ _ _ (112, [some (.ref 123), some (.ref 111), some (.int q1.1)], [], hp X G q19.2) _
              obtain rfl := Option.some.inj hf
              exact ab_U.ret rfl rfl ⟨rfl, rfl⟩
            · rw [if_neg b18] at hf
              refine ab_U.run 2 (S' := (97, [some (.ref 123), some (.ref 111), some (.int q1.1)], [.ref 111, .ref 123], hp X G q16.2)) rfl ?_
              obtain ⟨q21, h22, hf⟩ := ab_bnd hf
              refine ab_U.fn rfl rfl (t_X5_readDebt (X := X) hG h22) (by omega) ?_
              show ab_U _ _ _ (100, [some (.ref 123), some (.ref 111), some (.int q1.1)], [], hp X G q21.2) _
              refine ab_U.run 1 (S' := (112, [some (.ref 123), some (.ref 111), some (.int q1.1)], [], hp X G q21.2)) rfl ?_
              obtain rfl := Option.some.inj hf
              exact ab_U.ret rfl rfl ⟨rfl, rfl⟩
          · rw [if_neg b15] at hf
            refine ab_U.run 2 (S' := (80, [some (.ref 123), some (.ref 111), some (.int q1.1)], [.ref 111, .ref 123], hp X G q13.2)) rfl ?_
            obtain ⟨q23, h24, hf⟩ := ab_bnd hf
            refine ab_U.fn rfl rfl (t_X5_readPrice (X := X) hG h24) (by omega) ?_
            show ab_U _ _ _ (83, [some (.ref 123), some (.ref 111), some (.int q1.1)], [], hp X G q23.2) _
            refine ab_U.run 1 (S' := (112, [some (.ref 123), some (.ref 111), some (.int q1.1)], [], hp X G q23.2)) rfl ?_
            obtain rfl := Option.some.inj hf
            exact ab_U.ret rfl rfl ⟨rfl, rfl⟩
        · rw [if_neg b12] at hf
          refine ab_U.run 2 (S' := (63, [some (.ref 123), some (.ref 111), some (.int q1.1)], [.ref 111, .ref 123], hp X G q10.2)) rfl ?_
          obtain ⟨q25, h26, hf⟩ := ab_bnd hf
          refine ab_U.fn rfl rfl (t_X5_readWind (X := X) hG h26) (by omega) ?_
          show ab_U _ _ _ (66, [some (.ref 123), some (.ref 111), some (.int q1.1)], [], hp X G q25.2) _
          refine ab_U.run 1 (S' := (112, [some (.ref 123), some (.ref 111), some (.int q1.1)], [], hp X G q25.2)) rfl ?_
          obtain rfl := Option.some.inj hf
          exact ab_U.ret rfl rfl ⟨rfl, rfl⟩
      · rw [if_neg b9] at hf
        refine ab_U.run 2 (S' := (46, [some (.ref 123), some (.ref 111), some (.int q1.1)], [.ref 111, .ref 123], hp X G q7.2)) rfl ?_
        obtain ⟨q27, h28, hf⟩ := ab_bnd hf
        refine ab_U.fn rfl rfl (t_X5_readOven (X := X) hG h28) (by omega) ?_
        show ab_U _ _ _ (49, [some (.ref 123), some (.ref 111), some (.int q1.1)], [], hp X G q27.2) _
        refine ab_U.run 1 (S' := (112, [some (.ref 123), some (.ref 111), some (.int q1.1)], [], hp X G q27.2)) rfl ?_
        obtain rfl := Option.some.inj hf
        exact ab_U.ret rfl rfl ⟨rfl, rfl⟩
    · rw [if_neg b6] at hf
      refine ab_U.run 3 (S' := (29, [some (.ref 123), some (.ref 111), some (.int q1.1)], [.int q1.1, .ref 111, .ref 123], hp X G q3.2)) rfl ?_
      obtain ⟨q29, h30, hf⟩ := ab_bnd hf
      refine ab_U.fn rfl rfl (t_X5_readStone (X := X) hG h30) (by omega) ?_
      show ab_U _ _ _ (32, [some (.ref 123), some (.ref 111), some (.int q1.1)], [], hp X G q29.2) _
      refine ab_U.run 1 (S' := (112, [some (.ref 123), some (.ref 111), some (.int q1.1)], [], hp X G q29.2)) rfl ?_
      obtain rfl := Option.some.inj hf
      exact ab_U.ret rfl rfl ⟨rfl, rfl⟩
  · rw [if_neg b5] at hf
    refine ab_U.run 2 (S' := (16, [some (.ref 123), some (.ref 111), some (.int q1.1)], [.ref 111, .ref 123], hp X G q3.2)) rfl ?_
    obtain ⟨q31, h32, hf⟩ := ab_bnd hf
    refine ab_U.fn rfl rfl (t_X5_readMan (X := X) hG h32) (by omega) ?_
    show ab_U _ _ _ (19, [some (.ref 123), some (.ref 111), some (.int q1.1)], [], hp X G q31.2) _
    refine ab_U.run 1 (S' := (112, [some (.ref 123), some (.ref 111), some (.int q1.1)], [], hp X G q31.2)) rfl ?_
    obtain rfl := Option.some.inj hf
    exact ab_U.ret rfl rfl ⟨rfl, rfl⟩
set_option maxRecDepth 20000 in
def b_X5_tell_37 (F : Nat)  (gg : Nat → Int32 → Int32 → fm_M → Option (Int32 × fm_M)) (l2 : Int32) (l3 : Int32) (μ : fm_M) : Option (Int32 × fm_M) := (if 160 < l3 then (if ¬ (μ.1 123 2) = 0 then some (l2, μ) else (Option.bind (f_X7_namesOnlyItsPeople F 111 μ) (fun q3 => (if ¬ q3.1 = 0 then some (l2, q3.2) else (Option.bind (f_X5_blame F 6 (q3.2.1 123 1) q3.2) (fun q6 => some (l2, q6.2))))))) else (if ¬ (μ.1 123 2) = 0 then (if ¬ (μ.1 123 2) = 0 then some (l2, μ) else (Option.bind (f_X7_namesOnlyItsPeople F 111 μ) (fun q10 => (if ¬ q10.1 = 0 then some (l2, q10.2) else (Option.bind (f_X5_blame F 6 (q10.2.1 123 1) q10.2) (fun q13 => some (l2, q13.2))))))) else (if (μ.1 123 5) = 0 then (if ¬ (μ.1 123 2) = 0 then some (l2, μ) else (Option.bind (f_X7_namesOnlyItsPeople F 111 μ) (fun q17 => (if ¬ q17.1 = 0 then some (l2, q17.2) else (Option.bind (f_X5_blame F 6 (q17.2.1 123 1) q17.2) (fun q20 => some (l2, q20.2))))))) else (Option.bind (f_X5_readLine F μ) (fun q22 => (if ¬ (q22.2.1 123 2) = 0 then gg 37 l2 (l3 + 1) q22.2 else (Option.bind (f_X5_nextToken F q22.2) (fun q25 => gg 37 (l2 + 1) (l3 + 1) q25.2))))))))
def g_X5_tell (F : Nat)  : Nat → Nat → Int32 → Int32 → fm_M → Option (Int32 × fm_M)
  | 0, _, _, _, _ => none
  | n + 1, pc, l2, l3, μ => if pc = 37 then b_X5_tell_37 F  (g_X5_tell F  n) l2 l3 μ else none
set_option maxRecDepth 20000 in
theorem t_X5_tell_g {X : Nat × (Nat → Int32)} {G : Nat → Nat → Option Nat} (hG : fm_Gok G) {F : Nat}    : ∀ n : Nat, (∀ (l2 : Int32) (l3 : Int32) (μ : fm_M) (r : Int32 × fm_M), g_X5_tell F  n 37 l2 l3 μ = some r → ab_U 9 (some .int) kX5_tell (37, [some (.ref 123), some (.ref 111), some (.int l2), some (.int l3)], [], hp X G μ) (fun r9 h9 => r9 = some (.int r.1) ∧ h9 = hp X G r.2))
  | 0 => by
    intros
    rename_i h
    cases h
  | n + 1 => by
    have ih := t_X5_tell_g (X := X) hG (F := F)   n
    · intro l2 l3 μ r hf
      have hf : b_X5_tell_37 F  (g_X5_tell F  n) l2 l3 μ = some r := hf
      unfold b_X5_tell_37 at hf
      refine ab_U.run 2 (S' := (41, [some (.ref 123), some (.ref 111), some (.int l2), some (.int l3)], [.int 160, .int l3], hp X G μ)) rfl ?_
      refine ab_U.ic_gt rfl (fun b1 => ?_) (fun b1 => ?_)
      · rw [if_pos b1] at hf
        refine ab_U.run 2 (S' := (87, [some (.ref 123), some (.ref 111), some (.int l2), some (.int l3)], [.int (μ.1 123 2)], hp X G μ)) rfl ?_
        refine ab_U.if_ne rfl (fun b2 => ?_) (fun b2 => ?_)
        · rw [if_pos b2] at hf
          refine ab_U.run 1 (S' := (108, [some (.ref 123), some (.ref 111), some (.int l2), some (.int l3)], [.int l2], hp X G μ)) rfl ?_
          obtain rfl := Option.some.inj hf
          exact ab_U.ret rfl rfl ⟨rfl, rfl⟩
        · rw [if_neg b2] at hf
          refine ab_U.run 1 (S' := (91, [some (.ref 123), some (.ref 111), some (.int l2), some (.int l3)], [.ref 111], hp X G μ)) rfl ?_
          obtain ⟨q3, h4, hf⟩ := ab_bnd hf
          refine ab_U.fn rfl rfl (t_X7_namesOnlyItsPeople (X := X) hG (by decide) h4) (by omega) ?_
          show ab_U _ _ _ (94, [some (.ref 123), some (.ref 111), some (.int l2), some (.int l3)], [.int q3.1], hp X G q3.2) _
          refine ab_U.if_ne rfl (fun b5 => ?_) (fun b5 => ?_)
          · rw [if_pos b5] at hf
            refine ab_U.run 1 (S' := (108, [some (.ref 123), some (.ref 111), some (.int l2), some (.int l3)], [.int l2], hp X G q3.2)) rfl ?_
            obtain rfl := Option.some.inj hf
            exact ab_U.ret rfl rfl ⟨rfl, rfl⟩
          · rw [if_neg b5] at hf
            refine ab_U.run 4 (S' := (104, [some (.ref 123), some (.ref 111), some (.int l2), some (.int l3)], [.int (q3.2.1 123 1), .int 6, .ref 123], hp X G q3.2)) rfl ?_
            obtain ⟨q6, h7, hf⟩ := ab_bnd hf
            refine ab_U.fn rfl rfl (t_X5_blame (X := X) hG h7) (by omega) ?_
            show ab_U _ _ _ (107, [some (.ref 123), some (.ref 111), some (.int l2), some (.int l3)], [], hp X G q6.2) _
            refine ab_U.run 1 (S' := (108, [some (.ref 123), some (.ref 111), some (.int l2), some (.int l3)], [.int l2], hp X G q6.2)) rfl ?_
            obtain rfl := Option.some.inj hf
            exact ab_U.ret rfl rfl ⟨rfl, rfl⟩
      · rw [if_neg b1] at hf
        refine ab_U.run 2 (S' := (48, [some (.ref 123), some (.ref 111), some (.int l2), some (.int l3)], [.int (μ.1 123 2)], hp X G μ)) rfl ?_
        refine ab_U.if_ne rfl (fun b8 => ?_) (fun b8 => ?_)
        · rw [if_pos b8] at hf
          refine ab_U.run 2 (S' := (87, [some (.ref 123), some (.ref 111), some (.int l2), some (.int l3)], [.int (μ.1 123 2)], hp X G μ)) rfl ?_
          refine ab_U.if_ne rfl (fun b9 => ?_) (fun b9 => ?_)
          · rw [if_pos b9] at hf
            refine ab_U.run 1 (S' := (108, [some (.ref 123), some (.ref 111), some (.int l2), some (.int l3)], [.int l2], hp X G μ)) rfl ?_
            obtain rfl := Option.some.inj hf
            exact ab_U.ret rfl rfl ⟨rfl, rfl⟩
          · rw [if_neg b9] at hf
            refine ab_U.run 1 (S' := (91, [some (.ref 123), some (.ref 111), some (.int l2), some (.int l3)], [.ref 111], hp X G μ)) rfl ?_
            obtain ⟨q10, h11, hf⟩ := ab_bnd hf
            refine ab_U.fn rfl rfl (t_X7_namesOnlyItsPeople (X := X) hG (by decide) h11) (by omega) ?_
            show ab_U _ _ _ (94, [some (.ref 123), some (.ref 111), some (.int l2), some (.int l3)], [.int q10.1], hp X G q10.2) _
            refine ab_U.if_ne rfl (fun b12 => ?_) (fun b12 => ?_)
            · rw [if_pos b12] at hf
              refine ab_U.run 1 (S' := (108, [some (.ref 123), some (.ref 111), some (.int l2), some (.int l3)], [.int l2], hp X G q10.2)) rfl ?_
              obtain rfl := Option.some.inj hf
              exact ab_U.ret rfl rfl ⟨rfl, rfl⟩
            · rw [if_neg b12] at hf
              refine ab_U.run 4 (S' := (104, [some (.ref 123), some (.ref 111), some (.int l2), some (.int l3)], [.int (q10.2.1 123 1), .int 6, .ref 123], hp X G q10.2)) rfl ?_
              obtain ⟨q13, h14, hf⟩ := ab_bnd hf
              refine ab_U.fn rfl rfl (t_X5_blame (X := X) hG h14) (by omega) ?_
              show ab_U _ _ _ (107, [some (.ref 123), some (.ref 111), some (.int l2), some (.int l3)], [], hp X G q13.2) _
              refine ab_U.run 1 (S' := (108, [some (.ref 123), some (.ref 111), some (.int l2), some (.int l3)], [.int l2], hp X G q13.2)) rfl ?_
              obtain rfl := Option.some.inj hf
              exact ab_U.ret rfl rfl ⟨rfl, rfl⟩
        · rw [if_neg b8] at hf
          refine ab_U.run 2 (S' := (55, [some (.ref 123), some (.ref 111), some (.int l2), some (.int l3)], [.int (μ.1 123 5)], hp X G μ)) rfl ?_
          refine ab_U.if_eq rfl (fun b15 => ?_) (fun b15 => ?_)
          · rw [if_pos b15] at hf
            refine ab_U.run 2 (S' := (87, [some (.ref 123), some (.ref 111), some (.int l2), some (.int l3)], [.int (μ.1 123 2)], hp X G μ)) rfl ?_
            refine ab_U.if_ne rfl (fun b16 => ?_) (fun b16 => ?_)
            · rw [if_pos b16] at hf
              refine ab_U.run 1 (S' := (108, [some (.ref 123), some (.ref 111), some (.int l2), some (.int l3)], [.int l2], hp X G μ)) rfl ?_
              obtain rfl := Option.some.inj hf
              exact ab_U.ret rfl rfl ⟨rfl, rfl⟩
            · rw [if_neg b16] at hf
              refine ab_U.run 1 (S' := (91, [some (.ref 123), some (.ref 111), some (.int l2), some (.int l3)], [.ref 111], hp X G μ)) rfl ?_
              obtain ⟨q17, h18, hf⟩ := ab_bnd hf
              refine ab_U.fn rfl rfl (t_X7_namesOnlyItsPeople (X := X) hG (by decide) h18) (by omega) ?_
              show ab_U _ _ _ (94, [some (.ref 123), some (.ref 111), some (.int l2), some (.int l3)], [.int q17.1], hp X G q17.2) _
              refine ab_U.if_ne rfl (fun b19 => ?_) (fun b19 => ?_)
              · rw [if_pos b19] at hf
                refine ab_U.run 1 (S' := (108, [some (.ref 123), some (.ref 111), some (.int l2), some (.int l3)], [.int l2], hp X G q17.2)) rfl ?_
                obtain rfl := Option.some.inj hf
                exact ab_U.ret rfl rfl ⟨rfl, rfl⟩
              · rw [if_neg b19] at hf
                refine ab_U.run 4 (S' := (104, [some (.ref 123), some (.ref 111), some (.int l2), some (.int l3)], [.int (q17.2.1 123 1), .int 6, .ref 123], hp X G q17.2)) rfl ?_
                obtain ⟨q20, h21, hf⟩ := ab_bnd hf
                refine ab_U.fn rfl rfl (t_X5_blame (X := X) hG h21) (by omega) ?_
                show ab_U _ _ _ (107, [some (.ref 123), some (.ref 111), some (.int l2), some (.int l3)], [], hp X G q20.2) _
                refine ab_U.run 1 (S' := (108, [some (.ref 123), some (.ref 111), some (.int l2), some (.int l3)], [.int l2], hp X G q20.2)) rfl ?_
                obtain rfl := Option.some.inj hf
                exact ab_U.ret rfl rfl ⟨rfl, rfl⟩
          · rw [if_neg b15] at hf
            refine ab_U.run 2 (S' := (60, [some (.ref 123), some (.ref 111), some (.int l2), some (.int l3)], [.ref 111, .ref 123], hp X G μ)) rfl ?_
            obtain ⟨q22, h23, hf⟩ := ab_bnd hf
            refine ab_U.fn rfl rfl (t_X5_readLine (X := X) hG h23) (by omega) ?_
            show ab_U _ _ _ (63, [some (.ref 123), some (.ref 111), some (.int l2), some (.int l3)], [], hp X G q22.2) _
            refine ab_U.run 2 (S' := (67, [some (.ref 123), some (.ref 111), some (.int l2), some (.int l3)], [.int (q22.2.1 123 2)], hp X G q22.2)) rfl ?_
            refine ab_U.if_ne rfl (fun b24 => ?_) (fun b24 => ?_)
            · rw [if_pos b24] at hf
              refine ab_U.run 2 (S' := (37, [some (.ref 123), some (.ref 111), some (.int l2), some (.int (l3 + 1))], [], hp X G q22.2)) rfl ?_
              exact ab_U.weak (ih _ _ _ _ hf) (ab_leL.of ⟨rfl, ⟨rfl, ⟨rfl, ⟨rfl, trivial⟩⟩⟩⟩)
            · rw [if_neg b24] at hf
              refine ab_U.run 2 (S' := (74, [some (.ref 123), some (.ref 111), some (.int (l2 + 1)), some (.int l3)], [.ref 123], hp X G q22.2)) rfl ?_
              obtain ⟨q25, h26, hf⟩ := ab_bnd hf
              refine ab_U.fn rfl rfl (t_X5_nextToken (X := X) hG h26) (by omega) ?_
              show ab_U _ _ _ (77, [some (.ref 123), some (.ref 111), some (.int (l2 + 1)), some (.int l3)], [], hp X G q25.2) _
              refine ab_U.run 2 (S' := (37, [some (.ref 123), some (.ref 111), some (.int (l2 + 1)), some (.int (l3 + 1))], [], hp X G q25.2)) rfl ?_
              exact ab_U.weak (ih _ _ _ _ hf) (ab_leL.of ⟨rfl, ⟨rfl, ⟨rfl, ⟨rfl, trivial⟩⟩⟩⟩)
set_option maxRecDepth 20000 in
def f_X5_tell (F : Nat)   (μ : fm_M) : Option (Int32 × fm_M) := (Option.bind (f_X7_clear F 111 μ) (fun q27 => (Option.bind (some (fm_sI q27.2 123 2 0)) (fun m29 => (Option.bind (some (fm_sI m29 123 4 0)) (fun m31 => (Option.bind (some (fm_sI m31 123 8 0)) (fun m33 => (Option.bind (some (fm_sI m33 123 9 0)) (fun m35 => (Option.bind (some (fm_sI m35 123 10 0)) (fun m37 => (Option.bind (f_X5_nextToken F m37) (fun q39 => g_X5_tell F  F 37 0 0 q39.2))))))))))))))
set_option maxRecDepth 20000 in
theorem t_X5_tell {X : Nat × (Nat → Int32)} {G : Nat → Nat → Option Nat} (hG : fm_Gok G) {F : Nat}    {μ : fm_M} {r : Int32 × fm_M} (hf : f_X5_tell F  μ = some r) : ab_F 10 25 [.ref 123, .ref 111] (hp X G μ) (some (.int r.1)) (hp X G r.2) := by
  unfold f_X5_tell at hf
  refine ab_T.of (d := 9) rfl (Nat.le_of_ble_eq_true rfl) ?_
  show ab_U _ _ kX5_tell (0, [some (.ref 123), some (.ref 111), none, none], [], hp X G μ) _
  refine ab_U.run 1 (S' := (1, [some (.ref 123), some (.ref 111), none, none], [.ref 111], hp X G μ)) rfl ?_
  obtain ⟨q27, h28, hf⟩ := ab_bnd hf
  refine ab_U.fn rfl rfl (t_X7_clear (X := X) hG (by decide) h28) (by omega) ?_
  show ab_U _ _ _ (4, [some (.ref 123), some (.ref 111), none, none], [], hp X G q27.2) _
  refine ab_U.run 2 (S' := (6, [some (.ref 123), some (.ref 111), none, none], [.int 0, .ref 123], hp X G q27.2)) rfl ?_
  obtain ⟨m29, e30, hf⟩ := ab_bnd hf
  have e30 := Option.some.inj e30
  refine ab_U.pfI (ci := 5) (k9 := 2) rfl ⟨by decide, rfl⟩ ⟨rfl, rfl, by decide, rfl⟩ rfl ?_
  show ab_U _ _ _ (9, [some (.ref 123), some (.ref 111), none, none], [], hp X G (fm_sI q27.2 123 2 0)) _
  rw [e30]
  refine ab_U.run 2 (S' := (11, [some (.ref 123), some (.ref 111), none, none], [.int 0, .ref 123], hp X G m29)) rfl ?_
  obtain ⟨m31, e32, hf⟩ := ab_bnd hf
  have e32 := Option.some.inj e32
  refine ab_U.pfI (ci := 5) (k9 := 4) rfl ⟨by decide, rfl⟩ ⟨rfl, rfl, by decide, rfl⟩ rfl ?_
  show ab_U _ _ _ (14, [some (.ref 123), some (.ref 111), none, none], [], hp X G (fm_sI m29 123 4 0)) _
  rw [e32]
  refine ab_U.run 2 (S' := (16, [some (.ref 123), some (.ref 111), none, none], [.int 0, .ref 123], hp X G m31)) rfl ?_
  obtain ⟨m33, e34, hf⟩ := ab_bnd hf
  have e34 := Option.some.inj e34
  refine ab_U.pfI (ci := 5) (k9 := 8) rfl ⟨by decide, rfl⟩ ⟨rfl, rfl, by decide, rfl⟩ rfl ?_
  show ab_U _ _ _ (19, [some (.ref 123), some (.ref 111), none, none], [], hp X G (fm_sI m31 123 8 0)) _
  rw [e34]
  refine ab_U.run 2 (S' := (21, [some (.ref 123), some (.ref 111), none, none], [.int 0, .ref 123], hp X G m33)) rfl ?_
  obtain ⟨m35, e36, hf⟩ := ab_bnd hf
  have e36 := Option.some.inj e36
  refine ab_U.pfI (ci := 5) (k9 := 9) rfl ⟨by decide, rfl⟩ ⟨rfl, rfl, by decide, rfl⟩ rfl ?_
  show ab_U _ _ _ (24, [some (.ref 123), some (.ref 111), none, none], [], hp X G (fm_sI m33 123 9 0)) _
  rw [e36]
  refine ab_U.run 2 (S' := (26, [some (.ref 123), some (.ref 111), none, none], [.int 0, .ref 123], hp X G m35)) rfl ?_
  obtain ⟨m37, e38, hf⟩ := ab_bnd hf
  have e38 := Option.some.inj e38
  refine ab_U.pfI (ci := 5) (k9 := 10) rfl ⟨by decide, rfl⟩ ⟨rfl, rfl, by decide, rfl⟩ rfl ?_
  show ab_U _ _ _ (29, [some (.ref 123), some (.ref 111), none, none], [], hp X G (fm_sI m35 123 10 0)) _
  rw [e38]
  refine ab_U.run 3 (S' := (32, [some (.ref 123), some (.ref 111), some (.int 0), none], [.ref 123], hp X G m37)) rfl ?_
  obtain ⟨q39, h40, hf⟩ := ab_bnd hf
  refine ab_U.fn rfl rfl (t_X5_nextToken (X := X) hG h40) (by omega) ?_
  show ab_U _ _ _ (35, [some (.ref 123), some (.ref 111), some (.int 0), none], [], hp X G q39.2) _
  refine ab_U.run 2 (S' := (37, [some (.ref 123), some (.ref 111), some (.int 0), some (.int 0)], [], hp X G q39.2)) rfl ?_
  exact ab_U.weak ((t_X5_tell_g (X := X) hG   F) _ _ _ _ hf) (ab_leL.of ⟨rfl, ⟨rfl, ⟨rfl, ⟨rfl, trivial⟩⟩⟩⟩)
set_option maxRecDepth 20000 in
def b_X8_text_70 (F : Nat)  (gg : Nat → Int32 → Int32 → fm_M → Option (Int32 × fm_M)) (l1 : Int32) (l2 : Int32) (μ : fm_M) : Option (Int32 × fm_M) := (if 2 ≤ l2 then some (l1, μ) else (if ab_in l2 2 = true then (Option.bind (some (fm_sA μ 122 (upd (μ.2.1 122) l2.toNatClampNeg (0 &&& 1)))) (fun m3 => gg 70 l1 (l2 + 1) m3)) else none))
def g_X8_text (F : Nat)  : Nat → Nat → Int32 → Int32 → fm_M → Option (Int32 × fm_M)
  | 0, _, _, _, _ => none
  | n + 1, pc, l1, l2, μ => if pc = 70 then b_X8_text_70 F  (g_X8_text F  n) l1 l2 μ else none
set_option maxRecDepth 20000 in
theorem t_X8_text_g {X : Nat × (Nat → Int32)} {G : Nat → Nat → Option Nat} (hG : fm_Gok G) {F : Nat}    : ∀ n : Nat, (∀ (l1 : Int32) (l2 : Int32) (μ : fm_M) (r : Int32 × fm_M), g_X8_text F  n 70 l1 l2 μ = some r → ab_U 10 (some .int) kX8_text (70, [some (.ref 100), some (.int l1), some (.int l2)], [], hp X G μ) (fun r9 h9 => r9 = some (.int r.1) ∧ h9 = hp X G r.2))
  | 0 => by
    intros
    rename_i h
    cases h
  | n + 1 => by
    have ih := t_X8_text_g (X := X) hG (F := F)   n
    · intro l1 l2 μ r hf
      have hf : b_X8_text_70 F  (g_X8_text F  n) l1 l2 μ = some r := hf
      unfold b_X8_text_70 at hf
      refine ab_U.run 2 (S' := (72, [some (.ref 100), some (.int l1), some (.int l2)], [.int 2, .int l2], hp X G μ)) rfl ?_
      refine ab_U.ic_ge rfl (fun b1 => ?_) (fun b1 => ?_)
      · rw [if_pos b1] at hf
        refine ab_U.run 1 (S' := (89, [some (.ref 100), some (.int l1), some (.int l2)], [.int l1], hp X G μ)) rfl ?_
        obtain rfl := Option.some.inj hf
        exact ab_U.ret rfl rfl ⟨rfl, rfl⟩
      · rw [if_neg b1] at hf
        refine ab_U.run 4 (S' := (81, [some (.ref 100), some (.int l1), some (.int l2)], [.int 0, .int l2, .ref 122], hp X G μ)) rfl ?_
        obtain ⟨c2, hf⟩ := ab_ifs hf
        obtain ⟨m3, e4, hf⟩ := ab_bnd hf
        have e4 := Option.some.inj e4
        refine ab_U.bastZ (n := 2) rfl ⟨by decide, rfl⟩ c2 ?_
        show ab_U _ _ _ (82, [some (.ref 100), some (.int l1), some (.int l2)], [], hp X G (fm_sA μ 122 (upd (μ.2.1 122) l2.toNatClampNeg (0 &&& 1)))) _
        rw [e4]
        refine ab_U.run 2 (S' := (70, [some (.ref 100), some (.int l1), some (.int (l2 + 1))], [], hp X G m3)) rfl ?_
        exact ab_U.weak (ih _ _ _ _ hf) (ab_leL.of ⟨rfl, ⟨rfl, ⟨rfl, trivial⟩⟩⟩)
set_option maxRecDepth 20000 in
def f_X8_text (F : Nat)   (μ : fm_M) : Option (Int32 × fm_M) := (Option.bind (f_X5_tell F μ) (fun q5 => (Option.bind (some (fm_sI q5.2 100 11 (q5.2.1 123 2))) (fun m7 => (Option.bind (some (fm_sI m7 123 1 0)) (fun m9 => (if (m9.1 100 11) = 0 then (Option.bind (f_X7_copyFrom F 101 111 m9) (fun q12 => (Option.bind (some (fm_sI q12.2 125 0 0)) (fun m14 => g_X8_text F  F 70 q5.1 0 m14)))) else some (((-10) - (m9.1 123 3)), m9))))))))
set_option maxRecDepth 20000 in
theorem t_X8_text {X : Nat × (Nat → Int32)} {G : Nat → Nat → Option Nat} (hG : fm_Gok G) {F : Nat}    {μ : fm_M} {r : Int32 × fm_M} (hf : f_X8_text F  μ = some r) : ab_F 11 80 [.ref 100] (hp X G μ) (some (.int r.1)) (hp X G r.2) := by
  unfold f_X8_text at hf
  refine ab_T.of (d := 10) rfl (Nat.le_of_ble_eq_true rfl) ?_
  show ab_U _ _ kX8_text (0, [some (.ref 100), none, none], [], hp X G μ) _
  refine ab_U.run 4 (S' := (8, [some (.ref 100), none, none], [.ref 111, .ref 123], hp X G μ)) rfl ?_
  obtain ⟨q5, h6, hf⟩ := ab_bnd hf
  refine ab_U.fn rfl rfl (t_X5_tell (X := X) hG h6) (by omega) ?_
  show ab_U _ _ _ (11, [some (.ref 100), none, none], [.int q5.1], hp X G q5.2) _
  refine ab_U.run 5 (S' := (20, [some (.ref 100), some (.int q5.1), none], [.int (q5.2.1 123 2), .ref 100], hp X G q5.2)) rfl ?_
  obtain ⟨m7, e8, hf⟩ := ab_bnd hf
  have e8 := Option.some.inj e8
  refine ab_U.pfI (ci := 8) (k9 := 11) rfl ⟨by decide, rfl⟩ ⟨rfl, rfl, by decide, rfl⟩ rfl ?_
  show ab_U _ _ _ (23, [some (.ref 100), some (.int q5.1), none], [], hp X G (fm_sI q5.2 100 11 (q5.2.1 123 2))) _
  rw [e8]
  refine ab_U.run 3 (S' := (28, [some (.ref 100), some (.int q5.1), none], [.int 0, .ref 123], hp X G m7)) rfl ?_
  obtain ⟨m9, e10, hf⟩ := ab_bnd hf
  have e10 := Option.some.inj e10
  refine ab_U.pfI (ci := 5) (k9 := 1) rfl ⟨by decide, rfl⟩ ⟨rfl, rfl, by decide, rfl⟩ rfl ?_
  show ab_U _ _ _ (31, [some (.ref 100), some (.int q5.1), none], [], hp X G (fm_sI m7 123 1 0)) _
  rw [e10]
  refine ab_U.run 2 (S' := (35, [some (.ref 100), some (.int q5.1), none], [.int (m9.1 100 11)], hp X G m9)) rfl ?_
  refine ab_U.if_eq rfl (fun b11 => ?_) (fun b11 => ?_)
  · rw [if_pos b11] at hf
    refine ab_U.run 4 (S' := (57, [some (.ref 100), some (.int q5.1), none], [.ref 111, .ref 101], hp X G m9)) rfl ?_
    obtain ⟨q12, h13, hf⟩ := ab_bnd hf
    refine ab_U.fn rfl rfl (t_X7_copyFrom (X := X) hG (by decide) (by decide) h13) (by omega) ?_
    show ab_U _ _ _ (60, [some (.ref 100), some (.int q5.1), none], [], hp X G q12.2) _
    refine ab_U.run 3 (S' := (65, [some (.ref 100), some (.int q5.1), none], [.int 0, .ref 125], hp X G q12.2)) rfl ?_
    obtain ⟨m14, e15, hf⟩ := ab_bnd hf
    have e15 := Option.some.inj e15
    refine ab_U.pfI (ci := 4) (k9 := 0) rfl ⟨by decide, rfl⟩ ⟨rfl, rfl, by decide, rfl⟩ rfl ?_
    show ab_U _ _ _ (68, [some (.ref 100), some (.int q5.1), none], [], hp X G (fm_sI q12.2 125 0 0)) _
    rw [e15]
    refine ab_U.run 2 (S' := (70, [some (.ref 100), some (.int q5.1), some (.int 0)], [], hp X G m14)) rfl ?_
    exact ab_U.weak ((t_X8_text_g (X := X) hG   F) _ _ _ _ hf) (ab_leL.of ⟨rfl, ⟨rfl, ⟨rfl, trivial⟩⟩⟩)
  · rw [if_neg b11] at hf
    refine ab_U.run 5 (S' := (48, [some (.ref 100), some (.int q5.1), none], [.int ((-10) - (m9.1 123 3))], hp X G m9)) rfl ?_
    obtain rfl := Option.some.inj hf
    exact ab_U.ret rfl rfl ⟨rfl, rfl⟩
