/-! by program: each method as a function over the memory, and that our machine does it -/
set_option maxRecDepth 20000 in
def b_X2_arrange_32 (F : Nat) (rec : Int32 → Int32 → fm_M → Option (Unit × fm_M))  (gg : Nat → Int32 → Int32 → Int32 → Nat → Int32 → fm_M → Option (Unit × fm_M)) (l2 : Int32) (l3 : Int32) (l4 : Int32) (l5 : Nat) (l6 : Int32) (μ : fm_M) : Option (Unit × fm_M) := (if ab_in 0 5 = true then (if (μ.1 151 11) ≤ l4 then some ((), μ) else (if ¬ ((l3 >>> (l4 &&& 31)) &&& 1) = 0 then gg 32 l2 l3 (l4 + 1) 0 0 μ else (if ab_in l2 4 = true then (Option.bind (some (fm_sA μ 149 (upd (μ.2.1 149) l2.toNatClampNeg l4))) (fun m5 => (if ab_in (l2 + 1) 5 = true then (if ab_in l2 5 = true then (if fm_isW ((151 + 10 * (l2 + 1).toNatClampNeg)) = true then (if fm_isW ((151 + 10 * l2.toNatClampNeg)) = true then (Option.bind (f_X7_copyFrom F ((151 + 10 * (l2 + 1).toNatClampNeg)) ((151 + 10 * l2.toNatClampNeg)) m5) (fun q11 => (if fm_isW ((151 + 10 * (l2 + 1).toNatClampNeg)) = true then (Option.bind (f_X0_find F ((151 + 10 * (l2 + 1).toNatClampNeg)) l4 q11.2) (fun q14 => (if q14.1 = 0 then (Option.bind (rec (l2 + 1) (l3 ||| (1 <<< (l4 &&& 31))) q14.2) (fun q17 => gg 32 l2 l3 (l4 + 1) 0 0 q17.2)) else gg 98 l2 l3 l4 ((151 + 10 * (l2 + 1).toNatClampNeg)) 0 q14.2))) else none))) else none) else none) else none) else none))) else none))) else none)
set_option maxRecDepth 20000 in
def b_X2_arrange_98 (F : Nat) (rec : Int32 → Int32 → fm_M → Option (Unit × fm_M))  (gg : Nat → Int32 → Int32 → Int32 → Nat → Int32 → fm_M → Option (Unit × fm_M)) (l2 : Int32) (l3 : Int32) (l4 : Int32) (l5 : Nat) (l6 : Int32) (μ : fm_M) : Option (Unit × fm_M) := (if (μ.1 132 0) ≤ l6 then (Option.bind (rec (l2 + 1) (l3 ||| (1 <<< (l4 &&& 31))) μ) (fun q20 => gg 32 l2 l3 (l4 + 1) 0 0 q20.2)) else (if ab_in l6 5 = true then (if fm_isW l5 = true then (if ab_in l4 4 = true then (Option.bind (f_X7_handOver F l5 (μ.2.1 133 l6.toNatClampNeg) (μ.2.1 ((l5 + 8)) l4.toNatClampNeg) μ) (fun q25 => gg 98 l2 l3 l4 l5 (l6 + 1) q25.2)) else none) else none) else none))
def g_X2_arrange (F : Nat) (rec : Int32 → Int32 → fm_M → Option (Unit × fm_M))  : Nat → Nat → Int32 → Int32 → Int32 → Nat → Int32 → fm_M → Option (Unit × fm_M)
  | 0, _, _, _, _, _, _, _ => none
  | n + 1, pc, l2, l3, l4, l5, l6, μ => if pc = 32 then b_X2_arrange_32 F rec  (g_X2_arrange F rec  n) l2 l3 l4 l5 l6 μ else if pc = 98 then b_X2_arrange_98 F rec  (g_X2_arrange F rec  n) l2 l3 l4 l5 l6 μ else none
set_option maxRecDepth 20000 in
theorem t_X2_arrange_g {X : Nat × (Nat → Int32)} {G : Nat → Nat → Option Nat} (hG : fm_Gok G) {F : Nat} {rec : Int32 → Int32 → fm_M → Option (Unit × fm_M)} {dr : Nat} (hrec : ∀  {x1 : Int32} {x2 : Int32} {μ : fm_M} {r : Unit × fm_M}, rec x1 x2 μ = some r → ab_F dr 11 [.ref 147, .ref 132, .int x1, .int x2] (hp X G μ) none (hp X G r.2))   : ∀ n : Nat, (∀ (l2 : Int32) (l3 : Int32) (l4 : Int32) (l5 : Nat) (l6 : Int32) (μ : fm_M) (r : Unit × fm_M), g_X2_arrange F rec  n 32 l2 l3 l4 l5 l6 μ = some r → ab_U (dr + 42) (none) kX2_arrange (32, [some (.ref 147), some (.ref 132), some (.int l2), some (.int l3), some (.int l4), none, none], [], hp X G μ) (fun r9 h9 => r9 = none ∧ h9 = hp X G r.2)) ∧ (∀ (l2 : Int32) (l3 : Int32) (l4 : Int32) (l5 : Nat) (l6 : Int32) (μ : fm_M) (r : Unit × fm_M), g_X2_arrange F rec  n 98 l2 l3 l4 l5 l6 μ = some r → ab_U (dr + 42) (none) kX2_arrange (98, [some (.ref 147), some (.ref 132), some (.int l2), some (.int l3), some (.int l4), some (.ref l5), some (.int l6)], [], hp X G μ) (fun r9 h9 => r9 = none ∧ h9 = hp X G r.2))
  | 0 => by
    refine ⟨?_, ?_⟩
    all_goals (intros; rename_i h; cases h)
  | n + 1 => by
    have ih := t_X2_arrange_g (X := X) hG (F := F)  hrec  n
    refine ⟨?_, ?_⟩
    · intro l2 l3 l4 l5 l6 μ r hf
      have hf : b_X2_arrange_32 F rec  (g_X2_arrange F rec  n) l2 l3 l4 l5 l6 μ = some r := hf
      unfold b_X2_arrange_32 at hf
      refine ab_U.run 4 (S' := (39, [some (.ref 147), some (.ref 132), some (.int l2), some (.int l3), some (.int l4), none, none], [.int 0, .ref 150, .int l4], hp X G μ)) rfl ?_
      obtain ⟨c1, hf⟩ := ab_ifs hf
      refine ab_U.aaldG (n := 5) (ty := .object "TepidPurse$World") (v := 151) hG rfl ⟨by decide, rfl⟩ rfl c1 rfl rfl ?_
      refine ab_U.run 1 (S' := (43, [some (.ref 147), some (.ref 132), some (.int l2), some (.int l3), some (.int l4), none, none], [.int (μ.1 151 11), .int l4], hp X G μ)) rfl ?_
      refine ab_U.ic_ge rfl (fun b2 => ?_) (fun b2 => ?_)
      · rw [if_pos b2] at hf
        obtain rfl := Option.some.inj hf
        exact ab_U.ret rfl rfl ⟨rfl, rfl⟩
      · rw [if_neg b2] at hf
        refine ab_U.run 5 (S' := (52, [some (.ref 147), some (.ref 132), some (.int l2), some (.int l3), some (.int l4), none, none], [.int ((l3 >>> (l4 &&& 31)) &&& 1)], hp X G μ)) rfl ?_
        refine ab_U.if_ne rfl (fun b3 => ?_) (fun b3 => ?_)
        · rw [if_pos b3] at hf
          refine ab_U.run 2 (S' := (32, [some (.ref 147), some (.ref 132), some (.int l2), some (.int l3), some (.int (l4 + 1)), none, none], [], hp X G μ)) rfl ?_
          exact ab_U.weak (ih.1 _ _ _ _ _ _ _ hf) (ab_leL.of ⟨rfl, ⟨rfl, ⟨rfl, ⟨rfl, ⟨rfl, trivial⟩⟩⟩⟩⟩)
        · rw [if_neg b3] at hf
          refine ab_U.run 4 (S' := (62, [some (.ref 147), some (.ref 132), some (.int l2), some (.int l3), some (.int l4), none, none], [.int l4, .int l2, .ref 149], hp X G μ)) rfl ?_
          obtain ⟨c4, hf⟩ := ab_ifs hf
          obtain ⟨m5, e6, hf⟩ := ab_bnd hf
          have e6 := Option.some.inj e6
          refine ab_U.iast (n := 4) rfl ⟨by decide, rfl⟩ c4 ?_
          show ab_U _ _ _ (63, [some (.ref 147), some (.ref 132), some (.int l2), some (.int l3), some (.int l4), none, none], [], hp X G (fm_sA μ 149 (upd (μ.2.1 149) l2.toNatClampNeg l4))) _
          rw [e6]
          refine ab_U.run 5 (S' := (70, [some (.ref 147), some (.ref 132), some (.int l2), some (.int l3), some (.int l4), none, none], [.int (l2 + 1), .ref 150], hp X G m5)) rfl ?_
          obtain ⟨c7, hf⟩ := ab_ifs hf
          refine ab_U.aaldG (n := 5) (ty := .object "TepidPurse$World") (v := (151 + 10 * (l2 + 1).toNatClampNeg)) hG rfl ⟨by decide, rfl⟩ rfl c7 rfl rfl ?_
          refine ab_U.run 5 (S' := (80, [some (.ref 147), some (.ref 132), some (.int l2), some (.int l3), some (.int l4), some (.ref (151 + 10 * (l2 + 1).toNatClampNeg)), none], [.int l2, .ref 150, .ref (151 + 10 * (l2 + 1).toNatClampNeg)], hp X G m5)) rfl ?_
          obtain ⟨c8, hf⟩ := ab_ifs hf
          refine ab_U.aaldG (n := 5) (ty := .object "TepidPurse$World") (v := (151 + 10 * l2.toNatClampNeg)) hG rfl ⟨by decide, rfl⟩ rfl c8 rfl rfl ?_
          obtain ⟨c9, hf⟩ := ab_ifs hf
          obtain ⟨c10, hf⟩ := ab_ifs hf
          obtain ⟨q11, h12, hf⟩ := ab_bnd hf
          refine ab_U.fnV rfl rfl (fm_WO c9) rfl (t_X7_copyFrom (X := X) hG c9 c10 h12) (by omega) ?_
          show ab_U _ _ _ (84, [some (.ref 147), some (.ref 132), some (.int l2), some (.int l3), some (.int l4), some (.ref (151 + 10 * (l2 + 1).toNatClampNeg)), none], [], hp X G q11.2) _
          refine ab_U.run 3 (S' := (89, [some (.ref 147), some (.ref 132), some (.int l2), some (.int l3), some (.int l4), some (.ref (151 + 10 * (l2 + 1).toNatClampNeg)), none], [.int l4, .ref (151 + 10 * (l2 + 1).toNatClampNeg), .ref 132], hp X G q11.2)) rfl ?_
          obtain ⟨c13, hf⟩ := ab_ifs hf
          obtain ⟨q14, h15, hf⟩ := ab_bnd hf
          refine ab_U.fn rfl rfl (t_X0_find (X := X) hG c13 h15) (by omega) ?_
          show ab_U _ _ _ (92, [some (.ref 147), some (.ref 132), some (.int l2), some (.int l3), some (.int l4), some (.ref (151 + 10 * (l2 + 1).toNatClampNeg)), none], [.int q14.1], hp X G q14.2) _
          refine ab_U.if_eq rfl (fun b16 => ?_) (fun b16 => ?_)
          · rw [if_pos b16] at hf
            refine ab_U.run 10 (S' := (145, [some (.ref 147), some (.ref 132), some (.int l2), some (.int l3), some (.int l4), some (.ref (151 + 10 * (l2 + 1).toNatClampNeg)), none], [.int (l3 ||| (1 <<< (l4 &&& 31))), .int (l2 + 1), .ref 132, .ref 147], hp X G q14.2)) rfl ?_
            obtain ⟨q17, h18, hf⟩ := ab_bnd hf
            refine ab_U.fn rfl rfl (hrec h18) (by omega) ?_
            show ab_U _ _ _ (148, [some (.ref 147), some (.ref 132), some (.int l2), some (.int l3), some (.int l4), some (.ref (151 + 10 * (l2 + 1).toNatClampNeg)), none], [], hp X G q17.2) _
            refine ab_U.run 2 (S' := (32, [some (.ref 147), some (.ref 132), some (.int l2), some (.int l3), some (.int (l4 + 1)), some (.ref (151 + 10 * (l2 + 1).toNatClampNeg)), none], [], hp X G q17.2)) rfl ?_
            exact ab_U.weak (ih.1 _ _ _ _ _ _ _ hf) (ab_leL.of ⟨rfl, ⟨rfl, ⟨rfl, ⟨rfl, ⟨rfl, trivial⟩⟩⟩⟩⟩)
          · rw [if_neg b16] at hf
            refine ab_U.run 2 (S' := (98, [some (.ref 147), some (.ref 132), some (.int l2), some (.int l3), some (.int l4), some (.ref (151 + 10 * (l2 + 1).toNatClampNeg)), some (.int 0)], [], hp X G q14.2)) rfl ?_
            exact ab_U.weak (ih.2 _ _ _ _ _ _ _ hf) (ab_leL.of ⟨rfl, ⟨rfl, ⟨rfl, ⟨rfl, ⟨rfl, ⟨rfl, ⟨rfl, trivial⟩⟩⟩⟩⟩⟩⟩)
    · intro l2 l3 l4 l5 l6 μ r hf
      have hf : b_X2_arrange_98 F rec  (g_X2_arrange F rec  n) l2 l3 l4 l5 l6 μ = some r := hf
      unfold b_X2_arrange_98 at hf
      refine ab_U.run 3 (S' := (104, [some (.ref 147), some (.ref 132), some (.int l2), some (.int l3), some (.int l4), some (.ref l5), some (.int l6)], [.int (μ.1 132 0), .int l6], hp X G μ)) rfl ?_
      refine ab_U.ic_ge rfl (fun b19 => ?_) (fun b19 => ?_)
      · rw [if_pos b19] at hf
        refine ab_U.run 10 (S' := (145, [some (.ref 147), some (.ref 132), some (.int l2), some (.int l3), some (.int l4), some (.ref l5), some (.int l6)], [.int (l3 ||| (1 <<< (l4 &&& 31))), .int (l2 + 1), .ref 132, .ref 147], hp X G μ)) rfl ?_
        obtain ⟨q20, h21, hf⟩ := ab_bnd hf
        refine ab_U.fn rfl rfl (hrec h21) (by omega) ?_
        show ab_U _ _ _ (148, [some (.ref 147), some (.ref 132), some (.int l2), some (.int l3), some (.int l4), some (.ref l5), some (.int l6)], [], hp X G q20.2) _
        refine ab_U.run 2 (S' := (32, [some (.ref 147), some (.ref 132), some (.int l2), some (.int l3), some (.int (l4 + 1)), some (.ref l5), some (.int l6)], [], hp X G q20.2)) rfl ?_
        exact ab_U.weak (ih.1 _ _ _ _ _ _ _ hf) (ab_leL.of ⟨rfl, ⟨rfl, ⟨rfl, ⟨rfl, ⟨rfl, trivial⟩⟩⟩⟩⟩)
      · rw [if_neg b19] at hf
        refine ab_U.run 4 (S' := (115, [some (.ref 147), some (.ref 132), some (.int l2), some (.int l3), some (.int l4), some (.ref l5), some (.int l6)], [.int l6, .ref 133, .ref l5], hp X G μ)) rfl ?_
        obtain ⟨c22, hf⟩ := ab_ifs hf
        refine ab_U.iald (n := 5) rfl ⟨by decide, rfl⟩ c22 ?_
        show ab_U _ _ _ (116, [some (.ref 147), some (.ref 132), some (.int l2), some (.int l3), some (.int l4), some (.ref l5), some (.int l6)], [.int (μ.2.1 133 l6.toNatClampNeg), .ref l5], hp X G μ) _
        refine ab_U.run 1 (S' := (118, [some (.ref 147), some (.ref 132), some (.int l2), some (.int l3), some (.int l4), some (.ref l5), some (.int l6)], [.ref l5, .int (μ.2.1 133 l6.toNatClampNeg), .ref l5], hp X G μ)) rfl ?_
        obtain ⟨c23, hf⟩ := ab_ifs hf
        refine ab_U.gfW (k9 := 13) rfl c23 ⟨rfl, rfl, by decide, rfl⟩ ?_
        show ab_U _ _ _ (121, [some (.ref 147), some (.ref 132), some (.int l2), some (.int l3), some (.int l4), some (.ref l5), some (.int l6)], [.ref (l5 + 8), .int (μ.2.1 133 l6.toNatClampNeg), .ref l5], hp X G μ) _
        refine ab_U.run 1 (S' := (123, [some (.ref 147), some (.ref 132), some (.int l2), some (.int l3), some (.int l4), some (.ref l5), some (.int l6)], [.int l4, .ref (l5 + 8), .int (μ.2.1 133 l6.toNatClampNeg), .ref l5], hp X G μ)) rfl ?_
        obtain ⟨c24, hf⟩ := ab_ifs hf
        refine ab_U.iald (n := 4) rfl (fm_WA c23).2.2.2.2.2.2.2.1 c24 ?_
        show ab_U _ _ _ (124, [some (.ref 147), some (.ref 132), some (.int l2), some (.int l3), some (.int l4), some (.ref l5), some (.int l6)], [.int (μ.2.1 ((l5 + 8)) l4.toNatClampNeg), .int (μ.2.1 133 l6.toNatClampNeg), .ref l5], hp X G μ) _
        obtain ⟨q25, h26, hf⟩ := ab_bnd hf
        refine ab_U.fnV rfl rfl (fm_WO c23) rfl (t_X7_handOver (X := X) hG c23 h26) (by omega) ?_
        show ab_U _ _ _ (127, [some (.ref 147), some (.ref 132), some (.int l2), some (.int l3), some (.int l4), some (.ref l5), some (.int l6)], [.int q25.1], hp X G q25.2) _
        refine ab_U.run 3 (S' := (98, [some (.ref 147), some (.ref 132), some (.int l2), some (.int l3), some (.int l4), some (.ref l5), some (.int (l6 + 1))], [], hp X G q25.2)) rfl ?_
        exact ab_U.weak (ih.2 _ _ _ _ _ _ _ hf) (ab_leL.of ⟨rfl, ⟨rfl, ⟨rfl, ⟨rfl, ⟨rfl, ⟨rfl, ⟨rfl, trivial⟩⟩⟩⟩⟩⟩⟩)
set_option maxRecDepth 20000 in
def f0_X2_arrange (F : Nat) (rec : Int32 → Int32 → fm_M → Option (Unit × fm_M))  (x1 : Int32) (x2 : Int32) (μ : fm_M) : Option (Unit × fm_M) := (if ab_in 0 5 = true then (if (μ.1 151 11) ≤ x1 then (if ab_in x1 5 = true then (if fm_isW ((151 + 10 * x1.toNatClampNeg)) = true then (Option.bind (f_X2_judge F ((151 + 10 * x1.toNatClampNeg)) μ) (fun q31 => some ((), q31.2))) else none) else none) else (if x1 < 4 then g_X2_arrange F rec  F 32 x1 x2 0 0 0 μ else (if ab_in x1 5 = true then (if fm_isW ((151 + 10 * x1.toNatClampNeg)) = true then (Option.bind (f_X2_judge F ((151 + 10 * x1.toNatClampNeg)) μ) (fun q36 => some ((), q36.2))) else none) else none))) else none)
def f_X2_arrange (F : Nat) : Nat → Int32 → Int32 → fm_M → Option (Unit × fm_M)
  | 0, _, _, _ => none
  | e + 1, x1, x2, μ => f0_X2_arrange F (f_X2_arrange F e) x1 x2 μ
set_option maxRecDepth 20000 in
theorem t0_X2_arrange {X : Nat × (Nat → Int32)} {G : Nat → Nat → Option Nat} (hG : fm_Gok G) {F dr : Nat} {rec : Int32 → Int32 → fm_M → Option (Unit × fm_M)} (hrec : ∀  {x1 : Int32} {x2 : Int32} {μ : fm_M} {r : Unit × fm_M}, rec x1 x2 μ = some r → ab_F dr 11 [.ref 147, .ref 132, .int x1, .int x2] (hp X G μ) none (hp X G r.2))   {x1 : Int32} {x2 : Int32} {μ : fm_M} {r : Unit × fm_M} (hf : f0_X2_arrange F rec x1 x2 μ = some r) : ab_F (dr + 43) 11 [.ref 147, .ref 132, .int x1, .int x2] (hp X G μ) none (hp X G r.2) := by
  unfold f0_X2_arrange at hf
  refine ab_T.of (d := dr + 42) rfl (Nat.le_of_ble_eq_true rfl) ?_
  show ab_U _ _ kX2_arrange (0, [some (.ref 147), some (.ref 132), some (.int x1), some (.int x2), none, none, none], [], hp X G μ) _
  refine ab_U.run 4 (S' := (6, [some (.ref 147), some (.ref 132), some (.int x1), some (.int x2), none, none, none], [.int 0, .ref 150, .int x1], hp X G μ)) rfl ?_
  obtain ⟨c27, hf⟩ := ab_ifs hf
  refine ab_U.aaldG (n := 5) (ty := .object "TepidPurse$World") (v := 151) hG rfl ⟨by decide, rfl⟩ rfl c27 rfl rfl ?_
  refine ab_U.run 1 (S' := (10, [some (.ref 147), some (.ref 132), some (.int x1), some (.int x2), none, none, none], [.int (μ.1 151 11), .int x1], hp X G μ)) rfl ?_
  refine ab_U.ic_ge rfl (fun b28 => ?_) (fun b28 => ?_)
  · rw [if_pos b28] at hf
    refine ab_U.run 4 (S' := (24, [some (.ref 147), some (.ref 132), some (.int x1), some (.int x2), none, none, none], [.int x1, .ref 150, .ref 147], hp X G μ)) rfl ?_
    obtain ⟨c29, hf⟩ := ab_ifs hf
    refine ab_U.aaldG (n := 5) (ty := .object "TepidPurse$World") (v := (151 + 10 * x1.toNatClampNeg)) hG rfl ⟨by decide, rfl⟩ rfl c29 rfl rfl ?_
    obtain ⟨c30, hf⟩ := ab_ifs hf
    obtain ⟨q31, h32, hf⟩ := ab_bnd hf
    refine ab_U.fn rfl rfl (t_X2_judge (X := X) hG c30 h32) (by omega) ?_
    show ab_U _ _ _ (28, [some (.ref 147), some (.ref 132), some (.int x1), some (.int x2), none, none, none], [], hp X G q31.2) _
    obtain rfl := Option.some.inj hf
    exact ab_U.ret rfl rfl ⟨rfl, rfl⟩
  · rw [if_neg b28] at hf
    refine ab_U.run 2 (S' := (15, [some (.ref 147), some (.ref 132), some (.int x1), some (.int x2), none, none, none], [.int 4, .int x1], hp X G μ)) rfl ?_
    refine ab_U.ic_lt rfl (fun b33 => ?_) (fun b33 => ?_)
    · rw [if_pos b33] at hf
      refine ab_U.run 2 (S' := (32, [some (.ref 147), some (.ref 132), some (.int x1), some (.int x2), some (.int 0), none, none], [], hp X G μ)) rfl ?_
      exact ab_U.weak ((t_X2_arrange_g (X := X) hG  hrec  F).1 _ _ _ _ _ _ _ hf) (ab_leL.of ⟨rfl, ⟨rfl, ⟨rfl, ⟨rfl, ⟨rfl, trivial⟩⟩⟩⟩⟩)
    · rw [if_neg b33] at hf
      refine ab_U.run 4 (S' := (24, [some (.ref 147), some (.ref 132), some (.int x1), some (.int x2), none, none, none], [.int x1, .ref 150, .ref 147], hp X G μ)) rfl ?_
      obtain ⟨c34, hf⟩ := ab_ifs hf
      refine ab_U.aaldG (n := 5) (ty := .object "TepidPurse$World") (v := (151 + 10 * x1.toNatClampNeg)) hG rfl ⟨by decide, rfl⟩ rfl c34 rfl rfl ?_
      obtain ⟨c35, hf⟩ := ab_ifs hf
      obtain ⟨q36, h37, hf⟩ := ab_bnd hf
      refine ab_U.fn rfl rfl (t_X2_judge (X := X) hG c35 h37) (by omega) ?_
      show ab_U _ _ _ (28, [some (.ref 147), some (.ref 132), some (.int x1), some (.int x2), none, none, none], [], hp X G q36.2) _
      obtain rfl := Option.some.inj hf
      exact ab_U.ret rfl rfl ⟨rfl, rfl⟩
theorem t_X2_arrange {X : Nat × (Nat → Int32)} {G : Nat → Nat → Option Nat} (hG : fm_Gok G) {F e : Nat}   {x1 : Int32} {x2 : Int32} {μ : fm_M} {r : Unit × fm_M} (hf : f_X2_arrange F e x1 x2 μ = some r) : ab_F (43 * e) 11 [.ref 147, .ref 132, .int x1, .int x2] (hp X G μ) none (hp X G r.2) := by
  induction e generalizing x1 x2 μ r with
  | zero => cases hf
  | succ e ih => exact t0_X2_arrange (X := X) hG (dr := 43 * e) (rec := f_X2_arrange F e) (fun  h9 => ih  h9)  hf
set_option maxRecDepth 20000 in
def f_X2_find (F : Nat)   (μ : fm_M) : Option (Unit × fm_M) := (if ab_in 0 5 = true then (Option.bind (f_X7_copyFrom F 151 101 μ) (fun q2 => (Option.bind (some (fm_sI q2.2 147 0 (-1))) (fun m4 => (Option.bind (f_X2_arrange F 8 0 0 m4) (fun q6 => some ((), q6.2))))))) else none)
set_option maxRecDepth 20000 in
theorem t_X2_find {X : Nat × (Nat → Int32)} {G : Nat → Nat → Option Nat} (hG : fm_Gok G) {F : Nat}    {μ : fm_M} {r : Unit × fm_M} (hf : f_X2_find F  μ = some r) : ab_F 345 10 [.ref 147, .ref 101, .ref 132] (hp X G μ) none (hp X G r.2) := by
  unfold f_X2_find at hf
  refine ab_T.of (d := 344) rfl (Nat.le_of_ble_eq_true rfl) ?_
  show ab_U _ _ kX2_find (0, [some (.ref 147), some (.ref 101), some (.ref 132)], [], hp X G μ) _
  refine ab_U.run 3 (S' := (5, [some (.ref 147), some (.ref 101), some (.ref 132)], [.int 0, .ref 150], hp X G μ)) rfl ?_
  obtain ⟨c1, hf⟩ := ab_ifs hf
  refine ab_U.aaldG (n := 5) (ty := .object "TepidPurse$World") (v := 151) hG rfl ⟨by decide, rfl⟩ rfl c1 rfl rfl ?_
  refine ab_U.run 1 (S' := (7, [some (.ref 147), some (.ref 101), some (.ref 132)], [.ref 101, .ref 151], hp X G μ)) rfl ?_
  obtain ⟨q2, h3, hf⟩ := ab_bnd hf
  refine ab_U.fn rfl rfl (t_X7_copyFrom (X := X) hG (by decide) (by decide) h3) (by omega) ?_
  show ab_U _ _ _ (10, [some (.ref 147), some (.ref 101), some (.ref 132)], [], hp X G q2.2) _
  refine ab_U.run 2 (S' := (12, [some (.ref 147), some (.ref 101), some (.ref 132)], [.int (-1), .ref 147], hp X G q2.2)) rfl ?_
  obtain ⟨m4, e5, hf⟩ := ab_bnd hf
  have e5 := Option.some.inj e5
  refine ab_U.pfI (ci := 2) (k9 := 0) rfl ⟨by decide, rfl⟩ ⟨rfl, rfl, by decide, rfl⟩ rfl ?_
  show ab_U _ _ _ (15, [some (.ref 147), some (.ref 101), some (.ref 132)], [], hp X G (fm_sI q2.2 147 0 (-1))) _
  rw [e5]
  refine ab_U.run 4 (S' := (19, [some (.ref 147), some (.ref 101), some (.ref 132)], [.int 0, .int 0, .ref 132, .ref 147], hp X G m4)) rfl ?_
  obtain ⟨q6, h7, hf⟩ := ab_bnd hf
  refine ab_U.fn rfl rfl (t_X2_arrange (X := X) hG h7) (by omega) ?_
  show ab_U _ _ _ (22, [some (.ref 147), some (.ref 101), some (.ref 132)], [], hp X G q6.2) _
  obtain rfl := Option.some.inj hf
  exact ab_U.ret rfl rfl ⟨rfl, rfl⟩
set_option maxRecDepth 20000 in
def f_X3_isThere (F : Nat) (s0 : Nat)  (μ : fm_M) : Option (Int32 × fm_M) := (if (μ.1 s0 0) = (-1) then some (0, μ) else some (1, μ))
set_option maxRecDepth 20000 in
theorem t_X3_isThere {X : Nat × (Nat → Int32)} {G : Nat → Nat → Option Nat} (hG : fm_Gok G) {F : Nat} {s0 : Nat} (hs0 : fm_isS s0 = true)  {μ : fm_M} {r : Int32 × fm_M} (hf : f_X3_isThere F s0 μ = some r) : ab_F 1 14 [.ref s0] (hp X G μ) (some (.int r.1)) (hp X G r.2) := by
  unfold f_X3_isThere at hf
  refine ab_T.of (d := 0) rfl (Nat.le_of_ble_eq_true rfl) ?_
  show ab_U _ _ kX3_isThere (0, [some (.ref s0)], [], hp X G μ) _
  refine ab_U.run 1 (S' := (1, [some (.ref s0)], [.ref s0], hp X G μ)) rfl ?_
  refine ab_U.gfI (ci := 3) (k9 := 0) rfl (fm_SO hs0).1 ⟨rfl, rfl, by decide, rfl⟩ ?_
  show ab_U _ _ _ (4, [some (.ref s0)], [.int (μ.1 s0 0)], hp X G μ) _
  refine ab_U.run 1 (S' := (5, [some (.ref s0)], [.int (-1), .int (μ.1 s0 0)], hp X G μ)) rfl ?_
  refine ab_U.ic_eq rfl (fun b1 => ?_) (fun b1 => ?_)
  · rw [if_pos b1] at hf
    refine ab_U.run 1 (S' := (13, [some (.ref s0)], [.int 0], hp X G μ)) rfl ?_
    obtain rfl := Option.some.inj hf
    exact ab_U.ret rfl rfl ⟨rfl, rfl⟩
  · rw [if_neg b1] at hf
    refine ab_U.run 2 (S' := (13, [some (.ref s0)], [.int 1], hp X G μ)) rfl ?_
    obtain rfl := Option.some.inj hf
    exact ab_U.ret rfl rfl ⟨rfl, rfl⟩
set_option maxRecDepth 20000 in
def b_X3_renew_12 (F : Nat) (s0 : Nat) (gg : Nat → Int32 → fm_M → Option (Unit × fm_M)) (l3 : Int32) (μ : fm_M) : Option (Unit × fm_M) := (if 40 ≤ l3 then some ((), μ) else (if ab_in l3 40 = true then (Option.bind (some (fm_sA μ ((s0 + 1)) (upd (μ.2.1 ((s0 + 1))) l3.toNatClampNeg 0))) (fun m3 => gg 12 (l3 + 1) m3)) else none))
def g_X3_renew (F : Nat) (s0 : Nat) : Nat → Nat → Int32 → fm_M → Option (Unit × fm_M)
  | 0, _, _, _ => none
  | n + 1, pc, l3, μ => if pc = 12 then b_X3_renew_12 F s0 (g_X3_renew F s0 n) l3 μ else none
set_option maxRecDepth 20000 in
theorem t_X3_renew_g {X : Nat × (Nat → Int32)} {G : Nat → Nat → Option Nat} (hG : fm_Gok G) {F : Nat}  {s0 : Nat} (hs0 : fm_isS s0 = true) : ∀ n : Nat, (∀ (l3 : Int32) (μ : fm_M) (r : Unit × fm_M), g_X3_renew F s0 n 12 l3 μ = some r → ab_U 0 (none) kX3_renew (12, [some (.ref s0), none, none, some (.int l3)], [], hp X G μ) (fun r9 h9 => r9 = none ∧ h9 = hp X G r.2))
  | 0 => by
    intros
    rename_i h
    cases h
  | n + 1 => by
    have ih := t_X3_renew_g (X := X) hG (F := F)  hs0 n
    · intro l3 μ r hf
      have hf : b_X3_renew_12 F s0 (g_X3_renew F s0 n) l3 μ = some r := hf
      unfold b_X3_renew_12 at hf
      refine ab_U.run 2 (S' := (15, [some (.ref s0), none, none, some (.int l3)], [.int 40, .int l3], hp X G μ)) rfl ?_
      refine ab_U.ic_ge rfl (fun b1 => ?_) (fun b1 => ?_)
      · rw [if_pos b1] at hf
        obtain rfl := Option.some.inj hf
        exact ab_U.ret rfl rfl ⟨rfl, rfl⟩
      · rw [if_neg b1] at hf
        refine ab_U.run 1 (S' := (19, [some (.ref s0), none, none, some (.int l3)], [.ref s0], hp X G μ)) rfl ?_
        refine ab_U.gfS rfl hs0 ?_
        show ab_U _ _ _ (22, [some (.ref s0), none, none, some (.int l3)], [.ref (s0 + 1)], hp X G μ) _
        refine ab_U.run 2 (S' := (24, [some (.ref s0), none, none, some (.int l3)], [.int 0, .int l3, .ref (s0 + 1)], hp X G μ)) rfl ?_
        obtain ⟨c2, hf⟩ := ab_ifs hf
        obtain ⟨m3, e4, hf⟩ := ab_bnd hf
        have e4 := Option.some.inj e4
        refine ab_U.iast (n := 40) rfl (fm_SO hs0).2 c2 ?_
        show ab_U _ _ _ (25, [some (.ref s0), none, none, some (.int l3)], [], hp X G (fm_sA μ ((s0 + 1)) (upd (μ.2.1 ((s0 + 1))) l3.toNatClampNeg 0))) _
        rw [e4]
        refine ab_U.run 2 (S' := (12, [some (.ref s0), none, none, some (.int (l3 + 1))], [], hp X G m3)) rfl ?_
        exact ab_U.weak (ih _ _ _ hf) (ab_leL.of ⟨rfl, ⟨rfl, trivial⟩⟩)
set_option maxRecDepth 20000 in
def f_X3_renew (F : Nat) (s0 : Nat) (x0 : Int32) (x1 : Int32) (μ : fm_M) : Option (Unit × fm_M) := (Option.bind (some (fm_sI μ s0 0 x0)) (fun m5 => (Option.bind (some (fm_sI m5 s0 1 x1)) (fun m7 => g_X3_renew F s0 F 12 0 m7))))
set_option maxRecDepth 20000 in
theorem t_X3_renew {X : Nat × (Nat → Int32)} {G : Nat → Nat → Option Nat} (hG : fm_Gok G) {F : Nat} {s0 : Nat} (hs0 : fm_isS s0 = true) {x0 : Int32} {x1 : Int32} {μ : fm_M} {r : Unit × fm_M} (hf : f_X3_renew F s0 x0 x1 μ = some r) : ab_F 1 15 [.ref s0, .int x0, .int x1] (hp X G μ) none (hp X G r.2) := by
  unfold f_X3_renew at hf
  refine ab_T.of (d := 0) rfl (Nat.le_of_ble_eq_true rfl) ?_
  show ab_U _ _ kX3_renew (0, [some (.ref s0), some (.int x0), some (.int x1), none], [], hp X G μ) _
  refine ab_U.run 2 (S' := (2, [some (.ref s0), some (.int x0), some (.int x1), none], [.int x0, .ref s0], hp X G μ)) rfl ?_
  obtain ⟨m5, e6, hf⟩ := ab_bnd hf
  have e6 := Option.some.inj e6
  refine ab_U.pfI (ci := 3) (k9 := 0) rfl (fm_SO hs0).1 ⟨rfl, rfl, by decide, rfl⟩ rfl ?_
  show ab_U _ _ _ (5, [some (.ref s0), some (.int x0), some (.int x1), none], [], hp X G (fm_sI μ s0 0 x0)) _
  rw [e6]
  refine ab_U.run 2 (S' := (7, [some (.ref s0), some (.int x0), some (.int x1), none], [.int x1, .ref s0], hp X G m5)) rfl ?_
  obtain ⟨m7, e8, hf⟩ := ab_bnd hf
  have e8 := Option.some.inj e8
  refine ab_U.pfI (ci := 3) (k9 := 1) rfl (fm_SO hs0).1 ⟨rfl, rfl, by decide, rfl⟩ rfl ?_
  show ab_U _ _ _ (10, [some (.ref s0), some (.int x0), some (.int x1), none], [], hp X G (fm_sI m5 s0 1 x1)) _
  rw [e8]
  refine ab_U.run 2 (S' := (12, [some (.ref s0), some (.int x0), some (.int x1), some (.int 0)], [], hp X G m7)) rfl ?_
  exact ab_U.weak ((t_X3_renew_g (X := X) hG  hs0 F) _ _ _ hf) (ab_leL.of ⟨rfl, ⟨rfl, trivial⟩⟩)
set_option maxRecDepth 20000 in
def f_X3_faultOfCells (F : Nat) (s0 : Nat) (x0 : Int64) (x1 : Int32) (μ : fm_M) : Option (Int32 × fm_M) := (Option.bind (f_X3_isThere F s0 μ) (fun q1 => (if ¬ q1.1 = 0 then (if (lg_cmp x0 (Int64.ofNat 0)) < 0 then some (2, q1.2) else (if 0 < (lg_cmp (x0 + (x1).toInt64) (((q1.2.1 s0 1)).toInt64)) then some (2, q1.2) else some (0, q1.2))) else some (1, q1.2))))
set_option maxRecDepth 20000 in
theorem t_X3_faultOfCells {X : Nat × (Nat → Int32)} {G : Nat → Nat → Option Nat} (hG : fm_Gok G) {F : Nat} {s0 : Nat} (hs0 : fm_isS s0 = true) {x0 : Int64} {x1 : Int32} {μ : fm_M} {r : Int32 × fm_M} (hf : f_X3_faultOfCells F s0 x0 x1 μ = some r) : ab_F 2 17 [.ref s0, .long x0, .int x1] (hp X G μ) (some (.int r.1)) (hp X G r.2) := by
  unfold f_X3_faultOfCells at hf
  refine ab_T.of (d := 1) rfl (Nat.le_of_ble_eq_true rfl) ?_
  show ab_U _ _ kX3_faultOfCells (0, [some (.ref s0), some (.long x0), none, some (.int x1)], [], hp X G μ) _
  refine ab_U.run 1 (S' := (1, [some (.ref s0), some (.long x0), none, some (.int x1)], [.ref s0], hp X G μ)) rfl ?_
  obtain ⟨q1, h2, hf⟩ := ab_bnd hf
  refine ab_U.fnV rfl rfl (fm_SO hs0).1 rfl (t_X3_isThere (X := X) hG hs0 h2) (by omega) ?_
  show ab_U _ _ _ (4, [some (.ref s0), some (.long x0), none, some (.int x1)], [.int q1.1], hp X G q1.2) _
  refine ab_U.if_ne rfl (fun b3 => ?_) (fun b3 => ?_)
  · rw [if_pos b3] at hf
    refine ab_U.run 3 (S' := (12, [some (.ref s0), some (.long x0), none, some (.int x1)], [.int (lg_cmp x0 (Int64.ofNat 0))], hp X G q1.2)) rfl ?_
    refine ab_U.if_lt rfl (fun b4 => ?_) (fun b4 => ?_)
    · rw [if_pos b4] at hf
      refine ab_U.run 1 (S' := (33, [some (.ref s0), some (.long x0), none, some (.int x1)], [.int 2], hp X G q1.2)) rfl ?_
      obtain rfl := Option.some.inj hf
      exact ab_U.ret rfl rfl ⟨rfl, rfl⟩
    · rw [if_neg b4] at hf
      refine ab_U.run 5 (S' := (20, [some (.ref s0), some (.long x0), none, some (.int x1)], [.ref s0, .long (x0 + (x1).toInt64)], hp X G q1.2)) rfl ?_
      refine ab_U.gfI (ci := 3) (k9 := 1) rfl (fm_SO hs0).1 ⟨rfl, rfl, by decide, rfl⟩ ?_
      show ab_U _ _ _ (23, [some (.ref s0), some (.long x0), none, some (.int x1)], [.int (q1.2.1 s0 1), .long (x0 + (x1).toInt64)], hp X G q1.2) _
      refine ab_U.run 2 (S' := (25, [some (.ref s0), some (.long x0), none, some (.int x1)], [.int (lg_cmp (x0 + (x1).toInt64) (((q1.2.1 s0 1)).toInt64))], hp X G q1.2)) rfl ?_
      refine ab_U.if_gt rfl (fun b5 => ?_) (fun b5 => ?_)
      · rw [if_pos b5] at hf
        refine ab_U.run 1 (S' := (33, [some (.ref s0), some (.long x0), none, some (.int x1)], [.int 2], hp X G q1.2)) rfl ?_
        obtain rfl := Option.some.inj hf
        exact ab_U.ret rfl rfl ⟨rfl, rfl⟩
      · rw [if_neg b5] at hf
        refine ab_U.run 2 (S' := (33, [some (.ref s0), some (.long x0), none, some (.int x1)], [.int 0], hp X G q1.2)) rfl ?_
        obtain rfl := Option.some.inj hf
        exact ab_U.ret rfl rfl ⟨rfl, rfl⟩
  · rw [if_neg b3] at hf
    refine ab_U.run 1 (S' := (8, [some (.ref s0), some (.long x0), none, some (.int x1)], [.int 1], hp X G q1.2)) rfl ?_
    obtain rfl := Option.some.inj hf
    exact ab_U.ret rfl rfl ⟨rfl, rfl⟩
set_option maxRecDepth 20000 in
def f_X3_faultOfPair (F : Nat) (s0 : Nat) (x0 : Int32) (x1 : Int64) (μ : fm_M) : Option (Int32 × fm_M) := (Option.bind (f_X3_isThere F s0 μ) (fun q1 => (if q1.1 = 0 then (Option.bind (f_X3_faultOfCells F s0 x1 2 q1.2) (fun q4 => some (q4.1, q4.2))) else (if (q1.2.1 s0 0) = x0 then (Option.bind (f_X3_faultOfCells F s0 x1 2 q1.2) (fun q7 => some (q7.1, q7.2))) else some (3, q1.2)))))
set_option maxRecDepth 20000 in
theorem t_X3_faultOfPair {X : Nat × (Nat → Int32)} {G : Nat → Nat → Option Nat} (hG : fm_Gok G) {F : Nat} {s0 : Nat} (hs0 : fm_isS s0 = true) {x0 : Int32} {x1 : Int64} {μ : fm_M} {r : Int32 × fm_M} (hf : f_X3_faultOfPair F s0 x0 x1 μ = some r) : ab_F 3 16 [.ref s0, .int x0, .long x1] (hp X G μ) (some (.int r.1)) (hp X G r.2) := by
  unfold f_X3_faultOfPair at hf
  refine ab_T.of (d := 2) rfl (Nat.le_of_ble_eq_true rfl) ?_
  show ab_U _ _ kX3_faultOfPair (0, [some (.ref s0), some (.int x0), some (.long x1), none], [], hp X G μ) _
  refine ab_U.run 1 (S' := (1, [some (.ref s0), some (.int x0), some (.long x1), none], [.ref s0], hp X G μ)) rfl ?_
  obtain ⟨q1, h2, hf⟩ := ab_bnd hf
  refine ab_U.fnV rfl rfl (fm_SO hs0).1 rfl (t_X3_isThere (X := X) hG hs0 h2) (by omega) ?_
  show ab_U _ _ _ (4, [some (.ref s0), some (.int x0), some (.long x1), none], [.int q1.1], hp X G q1.2) _
  refine ab_U.if_eq rfl (fun b3 => ?_) (fun b3 => ?_)
  · rw [if_pos b3] at hf
    refine ab_U.run 3 (S' := (22, [some (.ref s0), some (.int x0), some (.long x1), none], [.int 2, .long x1, .ref s0], hp X G q1.2)) rfl ?_
    obtain ⟨q4, h5, hf⟩ := ab_bnd hf
    refine ab_U.fnV rfl rfl (fm_SO hs0).1 rfl (t_X3_faultOfCells (X := X) hG hs0 h5) (by omega) ?_
    show ab_U _ _ _ (25, [some (.ref s0), some (.int x0), some (.long x1), none], [.int q4.1], hp X G q4.2) _
    obtain rfl := Option.some.inj hf
    exact ab_U.ret rfl rfl ⟨rfl, rfl⟩
  · rw [if_neg b3] at hf
    refine ab_U.run 1 (S' := (8, [some (.ref s0), some (.int x0), some (.long x1), none], [.ref s0], hp X G q1.2)) rfl ?_
    refine ab_U.gfI (ci := 3) (k9 := 0) rfl (fm_SO hs0).1 ⟨rfl, rfl, by decide, rfl⟩ ?_
    show ab_U _ _ _ (11, [some (.ref s0), some (.int x0), some (.long x1), none], [.int (q1.2.1 s0 0)], hp X G q1.2) _
    refine ab_U.run 1 (S' := (12, [some (.ref s0), some (.int x0), some (.long x1), none], [.int x0, .int (q1.2.1 s0 0)], hp X G q1.2)) rfl ?_
    refine ab_U.ic_eq rfl (fun b6 => ?_) (fun b6 => ?_)
    · rw [if_pos b6] at hf
      refine ab_U.run 3 (S' := (22, [some (.ref s0), some (.int x0), some (.long x1), none], [.int 2, .long x1, .ref s0], hp X G q1.2)) rfl ?_
      obtain ⟨q7, h8, hf⟩ := ab_bnd hf
      refine ab_U.fnV rfl rfl (fm_SO hs0).1 rfl (t_X3_faultOfCells (X := X) hG hs0 h8) (by omega) ?_
      show ab_U _ _ _ (25, [some (.ref s0), some (.int x0), some (.long x1), none], [.int q7.1], hp X G q7.2) _
      obtain rfl := Option.some.inj hf
      exact ab_U.ret rfl rfl ⟨rfl, rfl⟩
    · rw [if_neg b6] at hf
      refine ab_U.run 2 (S' := (25, [some (.ref s0), some (.int x0), some (.long x1), none], [.int 3], hp X G q1.2)) rfl ?_
      obtain rfl := Option.some.inj hf
      exact ab_U.ret rfl rfl ⟨rfl, rfl⟩
set_option maxRecDepth 20000 in
def f_X3_put (F : Nat) (s0 : Nat) (x0 : Int32) (x1 : Int32) (μ : fm_M) : Option (Unit × fm_M) := (if ¬ (μ.1 s0 0) = 0 then (if ¬ (μ.1 s0 0) = 1 then (if ab_in x0 40 = true then (Option.bind (some (fm_sA μ ((s0 + 1)) (upd (μ.2.1 ((s0 + 1))) x0.toNatClampNeg x1))) (fun m4 => some ((), m4))) else none) else (if ab_in x0 40 = true then (Option.bind (some (fm_sA μ ((s0 + 1)) (upd (μ.2.1 ((s0 + 1))) x0.toNatClampNeg ((x1).toInt16.toInt32)))) (fun m7 => some ((), m7))) else none)) else (if ab_in x0 40 = true then (Option.bind (some (fm_sA μ ((s0 + 1)) (upd (μ.2.1 ((s0 + 1))) x0.toNatClampNeg ((x1).toInt8.toInt32)))) (fun m10 => some ((), m10))) else none))
set_option maxRecDepth 20000 in
theorem t_X3_put {X : Nat × (Nat → Int32)} {G : Nat → Nat → Option Nat} (hG : fm_Gok G) {F : Nat} {s0 : Nat} (hs0 : fm_isS s0 = true) {x0 : Int32} {x1 : Int32} {μ : fm_M} {r : Unit × fm_M} (hf : f_X3_put F s0 x0 x1 μ = some r) : ab_F 1 18 [.ref s0, .int x0, .int x1] (hp X G μ) none (hp X G r.2) := by
  unfold f_X3_put at hf
  refine ab_T.of (d := 0) rfl (Nat.le_of_ble_eq_true rfl) ?_
  show ab_U _ _ kX3_put (0, [some (.ref s0), some (.int x0), some (.int x1)], [], hp X G μ) _
  refine ab_U.run 1 (S' := (1, [some (.ref s0), some (.int x0), some (.int x1)], [.ref s0], hp X G μ)) rfl ?_
  refine ab_U.gfI (ci := 3) (k9 := 0) rfl (fm_SO hs0).1 ⟨rfl, rfl, by decide, rfl⟩ ?_
  show ab_U _ _ _ (4, [some (.ref s0), some (.int x0), some (.int x1)], [.int (μ.1 s0 0)], hp X G μ) _
  refine ab_U.if_ne rfl (fun b1 => ?_) (fun b1 => ?_)
  · rw [if_pos b1] at hf
    refine ab_U.run 1 (S' := (19, [some (.ref s0), some (.int x0), some (.int x1)], [.ref s0], hp X G μ)) rfl ?_
    refine ab_U.gfI (ci := 3) (k9 := 0) rfl (fm_SO hs0).1 ⟨rfl, rfl, by decide, rfl⟩ ?_
    show ab_U _ _ _ (22, [some (.ref s0), some (.int x0), some (.int x1)], [.int (μ.1 s0 0)], hp X G μ) _
    refine ab_U.run 1 (S' := (23, [some (.ref s0), some (.int x0), some (.int x1)], [.int 1, .int (μ.1 s0 0)], hp X G μ)) rfl ?_
    refine ab_U.ic_ne rfl (fun b2 => ?_) (fun b2 => ?_)
    · rw [if_pos b2] at hf
      refine ab_U.run 1 (S' := (38, [some (.ref s0), some (.int x0), some (.int x1)], [.ref s0], hp X G μ)) rfl ?_
      refine ab_U.gfS rfl hs0 ?_
      show ab_U _ _ _ (41, [some (.ref s0), some (.int x0), some (.int x1)], [.ref (s0 + 1)], hp X G μ) _
      refine ab_U.run 2 (S' := (43, [some (.ref s0), some (.int x0), some (.int x1)], [.int x1, .int x0, .ref (s0 + 1)], hp X G μ)) rfl ?_
      obtain ⟨c3, hf⟩ := ab_ifs hf
      obtain ⟨m4, e5, hf⟩ := ab_bnd hf
      have e5 := Option.some.inj e5
      refine ab_U.iast (n := 40) rfl (fm_SO hs0).2 c3 ?_
      show ab_U _ _ _ (44, [some (.ref s0), some (.int x0), some (.int x1)], [], hp X G (fm_sA μ ((s0 + 1)) (upd (μ.2.1 ((s0 + 1))) x0.toNatClampNeg x1))) _
      rw [e5]
      obtain rfl := Option.some.inj hf
      exact ab_U.ret rfl rfl ⟨rfl, rfl⟩
    · rw [if_neg b2] at hf
      refine ab_U.run 1 (S' := (27, [some (.ref s0), some (.int x0), some (.int x1)], [.ref s0], hp X G μ)) rfl ?_
      refine ab_U.gfS rfl hs0 ?_
      show ab_U _ _ _ (30, [some (.ref s0), some (.int x0), some (.int x1)], [.ref (s0 + 1)], hp X G μ) _
      refine ab_U.run 3 (S' := (33, [some (.ref s0), some (.int x0), some (.int x1)], [.int (x1).toInt16.toInt32, .int x0, .ref (s0 + 1)], hp X G μ)) rfl ?_
      obtain ⟨c6, hf⟩ := ab_ifs hf
      obtain ⟨m7, e8, hf⟩ := ab_bnd hf
      have e8 := Option.some.inj e8
      refine ab_U.iast (n := 40) rfl (fm_SO hs0).2 c6 ?_
      show ab_U _ _ _ (34, [some (.ref s0), some (.int x0), some (.int x1)], [], hp X G (fm_sA μ ((s0 + 1)) (upd (μ.2.1 ((s0 + 1))) x0.toNatClampNeg ((x1).toInt16.toInt32)))) _
      rw [e8]
      refine ab_U.run 1 (S' := (44, [some (.ref s0), some (.int x0), some (.int x1)], [], hp X G m7)) rfl ?_
      obtain rfl := Option.some.inj hf
      exact ab_U.ret rfl rfl ⟨rfl, rfl⟩
  · rw [if_neg b1] at hf
    refine ab_U.run 1 (S' := (8, [some (.ref s0), some (.int x0), some (.int x1)], [.ref s0], hp X G μ)) rfl ?_
    refine ab_U.gfS rfl hs0 ?_
    show ab_U _ _ _ (11, [some (.ref s0), some (.int x0), some (.int x1)], [.ref (s0 + 1)], hp X G μ) _
    refine ab_U.run 3 (S' := (14, [some (.ref s0), some (.int x0), some (.int x1)], [.int (x1).toInt8.toInt32, .int x0, .ref (s0 + 1)], hp X G μ)) rfl ?_
    obtain ⟨c9, hf⟩ := ab_ifs hf
    obtain ⟨m10, e11, hf⟩ := ab_bnd hf
    have e11 := Option.some.inj e11
    refine ab_U.iast (n := 40) rfl (fm_SO hs0).2 c9 ?_
    show ab_U _ _ _ (15, [some (.ref s0), some (.int x0), some (.int x1)], [], hp X G (fm_sA μ ((s0 + 1)) (upd (μ.2.1 ((s0 + 1))) x0.toNatClampNeg ((x1).toInt8.toInt32)))) _
    rw [e11]
    refine ab_U.run 1 (S' := (44, [some (.ref s0), some (.int x0), some (.int x1)], [], hp X G m10)) rfl ?_
    obtain rfl := Option.some.inj hf
    exact ab_U.ret rfl rfl ⟨rfl, rfl⟩
set_option maxRecDepth 20000 in
def f_X4_append (F : Nat)  (x0 : Int32) (x1 : Int32) (μ : fm_M) : Option (Int32 × fm_M) := (if (μ.1 125 0) < 6 then (if ab_in (μ.1 125 0) 6 = true then (Option.bind (some (fm_sA μ 126 (upd (μ.2.1 126) (μ.1 125 0).toNatClampNeg x0))) (fun m3 => (if ab_in (m3.1 125 0) 6 = true then (Option.bind (some (fm_sA m3 127 (upd (m3.2.1 127) (m3.1 125 0).toNatClampNeg x1))) (fun m6 => (Option.bind (some (fm_sI m6 125 0 ((m6.1 125 0) + 1))) (fun m8 => some (1, m8))))) else none))) else none) else some (0, μ))
set_option maxRecDepth 20000 in
theorem t_X4_append {X : Nat × (Nat → Int32)} {G : Nat → Nat → Option Nat} (hG : fm_Gok G) {F : Nat}   {x0 : Int32} {x1 : Int32} {μ : fm_M} {r : Int32 × fm_M} (hf : f_X4_append F x0 x1 μ = some r) : ab_F 1 20 [.ref 125, .int x0, .int x1] (hp X G μ) (some (.int r.1)) (hp X G r.2) := by
  unfold f_X4_append at hf
  refine ab_T.of (d := 0) rfl (Nat.le_of_ble_eq_true rfl) ?_
  show ab_U _ _ kX4_append (0, [some (.ref 125), some (.int x0), some (.int x1)], [], hp X G μ) _
  refine ab_U.run 3 (S' := (6, [some (.ref 125), some (.int x0), some (.int x1)], [.int 6, .int (μ.1 125 0)], hp X G μ)) rfl ?_
  refine ab_U.ic_lt rfl (fun b1 => ?_) (fun b1 => ?_)
  · rw [if_pos b1] at hf
    refine ab_U.run 5 (S' := (20, [some (.ref 125), some (.int x0), some (.int x1)], [.int x0, .int (μ.1 125 0), .ref 126], hp X G μ)) rfl ?_
    obtain ⟨c2, hf⟩ := ab_ifs hf
    obtain ⟨m3, e4, hf⟩ := ab_bnd hf
    have e4 := Option.some.inj e4
    refine ab_U.iast (n := 6) rfl ⟨by decide, rfl⟩ c2 ?_
    show ab_U _ _ _ (21, [some (.ref 125), some (.int x0), some (.int x1)], [], hp X G (fm_sA μ 126 (upd (μ.2.1 126) (μ.1 125 0).toNatClampNeg x0))) _
    rw [e4]
    refine ab_U.run 5 (S' := (30, [some (.ref 125), some (.int x0), some (.int x1)], [.int x1, .int (m3.1 125 0), .ref 127], hp X G m3)) rfl ?_
    obtain ⟨c5, hf⟩ := ab_ifs hf
    obtain ⟨m6, e7, hf⟩ := ab_bnd hf
    have e7 := Option.some.inj e7
    refine ab_U.iast (n := 6) rfl ⟨by decide, rfl⟩ c5 ?_
    show ab_U _ _ _ (31, [some (.ref 125), some (.int x0), some (.int x1)], [], hp X G (fm_sA m3 127 (upd (m3.2.1 127) (m3.1 125 0).toNatClampNeg x1))) _
    rw [e7]
    refine ab_U.run 5 (S' := (38, [some (.ref 125), some (.int x0), some (.int x1)], [.int ((m6.1 125 0) + 1), .ref 125], hp X G m6)) rfl ?_
    obtain ⟨m8, e9, hf⟩ := ab_bnd hf
    have e9 := Option.some.inj e9
    refine ab_U.pfI (ci := 4) (k9 := 0) rfl ⟨by decide, rfl⟩ ⟨rfl, rfl, by decide, rfl⟩ rfl ?_
    show ab_U _ _ _ (41, [some (.ref 125), some (.int x0), some (.int x1)], [], hp X G (fm_sI m6 125 0 ((m6.1 125 0) + 1))) _
    rw [e9]
    refine ab_U.run 1 (S' := (42, [some (.ref 125), some (.int x0), some (.int x1)], [.int 1], hp X G m8)) rfl ?_
    obtain rfl := Option.some.inj hf
    exact ab_U.ret rfl rfl ⟨rfl, rfl⟩
  · rw [if_neg b1] at hf
    refine ab_U.run 1 (S' := (10, [some (.ref 125), some (.int x0), some (.int x1)], [.int 0], hp X G μ)) rfl ?_
    obtain rfl := Option.some.inj hf
    exact ab_U.ret rfl rfl ⟨rfl, rfl⟩
set_option maxRecDepth 20000 in
def b_X4_isPair_2 (F : Nat)  (gg : Nat → Int32 → Int32 → Int32 → fm_M → Option (Int32 × fm_M)) (l1 : Int32) (l2 : Int32) (l3 : Int32) (μ : fm_M) : Option (Int32 × fm_M) := (if (μ.1 125 0) ≤ l3 then some (1, μ) else (if ab_in l3 6 = true then (Option.bind (f_X8_cooledFor F l1 l2 (μ.2.1 126 l3.toNatClampNeg) μ) (fun q3 => (if ab_in l3 6 = true then (if q3.1 = (q3.2.2.1 127 l3.toNatClampNeg) then gg 2 l1 l2 (l3 + 1) q3.2 else some (0, q3.2)) else none))) else none))
def g_X4_isPair (F : Nat)  : Nat → Nat → Int32 → Int32 → Int32 → fm_M → Option (Int32 × fm_M)
  | 0, _, _, _, _, _ => none
  | n + 1, pc, l1, l2, l3, μ => if pc = 2 then b_X4_isPair_2 F  (g_X4_isPair F  n) l1 l2 l3 μ else none
set_option maxRecDepth 20000 in
theorem t_X4_isPair_g {X : Nat × (Nat → Int32)} {G : Nat → Nat → Option Nat} (hG : fm_Gok G) {F : Nat}    : ∀ n : Nat, (∀ (l1 : Int32) (l2 : Int32) (l3 : Int32) (μ : fm_M) (r : Int32 × fm_M), g_X4_isPair F  n 2 l1 l2 l3 μ = some r → ab_U 3 (some .boolean) kX4_isPair (2, [some (.ref 125), some (.int l1), some (.int l2), some (.int l3)], [], hp X G μ) (fun r9 h9 => r9 = some (.int r.1) ∧ h9 = hp X G r.2))
  | 0 => by
    intros
    rename_i h
    cases h
  | n + 1 => by
    have ih := t_X4_isPair_g (X := X) hG (F := F)   n
    · intro l1 l2 l3 μ r hf
      have hf : b_X4_isPair_2 F  (g_X4_isPair F  n) l1 l2 l3 μ = some r := hf
      unfold b_X4_isPair_2 at hf
      refine ab_U.run 3 (S' := (7, [some (.ref 125), some (.int l1), some (.int l2), some (.int l3)], [.int (μ.1 125 0), .int l3], hp X G μ)) rfl ?_
      refine ab_U.ic_ge rfl (fun b1 => ?_) (fun b1 => ?_)
      · rw [if_pos b1] at hf
        refine ab_U.run 1 (S' := (39, [some (.ref 125), some (.int l1), some (.int l2), some (.int l3)], [.int 1], hp X G μ)) rfl ?_
        obtain rfl := Option.some.inj hf
        exact ab_U.ret rfl rfl ⟨rfl, rfl⟩
      · rw [if_neg b1] at hf
        refine ab_U.run 5 (S' := (17, [some (.ref 125), some (.int l1), some (.int l2), some (.int l3)], [.int l3, .ref 126, .int l2, .int l1], hp X G μ)) rfl ?_
        obtain ⟨c2, hf⟩ := ab_ifs hf
        refine ab_U.iald (n := 6) rfl ⟨by decide, rfl⟩ c2 ?_
        show ab_U _ _ _ (18, [some (.ref 125), some (.int l1), some (.int l2), some (.int l3)], [.int (μ.2.1 126 l3.toNatClampNeg), .int l2, .int l1], hp X G μ) _
        obtain ⟨q3, h4, hf⟩ := ab_bnd hf
        refine ab_U.fn rfl rfl (t_X8_cooledFor (X := X) hG h4) (by omega) ?_
        show ab_U _ _ _ (21, [some (.ref 125), some (.int l1), some (.int l2), some (.int l3)], [.int q3.1], hp X G q3.2) _
        refine ab_U.run 3 (S' := (26, [some (.ref 125), some (.int l1), some (.int l2), some (.int l3)], [.int l3, .ref 127, .int q3.1], hp X G q3.2)) rfl ?_
        obtain ⟨c5, hf⟩ := ab_ifs hf
        refine ab_U.iald (n := 6) rfl ⟨by decide, rfl⟩ c5 ?_
        show ab_U _ _ _ (27, [some (.ref 125), some (.int l1), some (.int l2), some (.int l3)], [.int (q3.2.2.1 127 l3.toNatClampNeg), .int q3.1], hp X G q3.2) _
        refine ab_U.ic_eq rfl (fun b6 => ?_) (fun b6 => ?_)
        · rw [if_pos b6] at hf
          refine ab_U.run 2 (S' := (2, [some (.ref 125), some (.int l1), some (.int l2), some (.int (l3 + 1))], [], hp X G q3.2)) rfl ?_
          exact ab_U.weak (ih _ _ _ _ _ hf) (ab_leL.of ⟨rfl, ⟨rfl, ⟨rfl, ⟨rfl, trivial⟩⟩⟩⟩)
        · rw [if_neg b6] at hf
          refine ab_U.run 1 (S' := (31, [some (.ref 125), some (.int l1), some (.int l2), some (.int l3)], [.int 0], hp X G q3.2)) rfl ?_
          obtain rfl := Option.some.inj hf
          exact ab_U.ret rfl rfl ⟨rfl, rfl⟩
set_option maxRecDepth 20000 in
def f_X4_isPair (F : Nat)  (x0 : Int32) (x1 : Int32) (μ : fm_M) : Option (Int32 × fm_M) := g_X4_isPair F  F 2 x0 x1 0 μ
set_option maxRecDepth 20000 in
theorem t_X4_isPair {X : Nat × (Nat → Int32)} {G : Nat → Nat → Option Nat} (hG : fm_Gok G) {F : Nat}   {x0 : Int32} {x1 : Int32} {μ : fm_M} {r : Int32 × fm_M} (hf : f_X4_isPair F x0 x1 μ = some r) : ab_F 4 22 [.ref 125, .int x0, .int x1] (hp X G μ) (some (.int r.1)) (hp X G r.2) := by
  unfold f_X4_isPair at hf
  refine ab_T.of (d := 3) rfl (Nat.le_of_ble_eq_true rfl) ?_
  show ab_U _ _ kX4_isPair (0, [some (.ref 125), some (.int x0), some (.int x1), none], [], hp X G μ) _
  refine ab_U.run 2 (S' := (2, [some (.ref 125), some (.int x0), some (.int x1), some (.int 0)], [], hp X G μ)) rfl ?_
  exact ab_U.weak ((t_X4_isPair_g (X := X) hG   F) _ _ _ _ _ hf) (ab_leL.of ⟨rfl, ⟨rfl, ⟨rfl, ⟨rfl, trivial⟩⟩⟩⟩)
set_option maxRecDepth 20000 in
def b_X4_match_23 (F : Nat)  (gg : Nat → Int32 → Int32 → fm_M → Option (Unit × fm_M)) (l2 : Int32) (l3 : Int32) (μ : fm_M) : Option (Unit × fm_M) := (if (μ.1 101 3) ≤ l2 then some ((), μ) else gg 33 l2 0 μ)
set_option maxRecDepth 20000 in
def b_X4_match_33 (F : Nat)  (gg : Nat → Int32 → Int32 → fm_M → Option (Unit × fm_M)) (l2 : Int32) (l3 : Int32) (μ : fm_M) : Option (Unit × fm_M) := (if (μ.1 101 0) ≤ l3 then gg 23 (l2 + 1) 0 μ else (if ab_in l2 5 = true then (if ab_in l2 5 = true then (if ab_in l3 4 = true then (Option.bind (f_X8_rate F (μ.2.1 104 l2.toNatClampNeg) (μ.2.1 102 l3.toNatClampNeg) μ) (fun q6 => (Option.bind (f_X4_isPair F (μ.2.1 105 l2.toNatClampNeg) q6.1 q6.2) (fun q8 => (if q8.1 = 0 then gg 33 l2 (l3 + 1) q8.2 else (if ¬ (q8.2.1 125 3) = 0 then (Option.bind (some (fm_sI q8.2 125 4 (q8.2.1 125 4))) (fun m12 => (Option.bind (some (fm_sI m12 125 3 ((m12.1 125 3) + 1))) (fun m14 => (Option.bind (some (fm_sI m14 125 5 ((m14.1 125 5) ||| (1 <<< (l2 &&& 31))))) (fun m16 => (Option.bind (some (fm_sI m16 125 6 ((m16.1 125 6) ||| (1 <<< (l3 &&& 31))))) (fun m18 => gg 33 l2 (l3 + 1) m18)))))))) else (Option.bind (some (fm_sI q8.2 125 4 ((10 * l2) + l3))) (fun m20 => (Option.bind (some (fm_sI m20 125 3 ((m20.1 125 3) + 1))) (fun m22 => (Option.bind (some (fm_sI m22 125 5 ((m22.1 125 5) ||| (1 <<< (l2 &&& 31))))) (fun m24 => (Option.bind (some (fm_sI m24 125 6 ((m24.1 125 6) ||| (1 <<< (l3 &&& 31))))) (fun m26 => gg 33 l2 (l3 + 1) m26)))))))))))))) else none) else none) else none))
def g_X4_match (F : Nat)  : Nat → Nat → Int32 → Int32 → fm_M → Option (Unit × fm_M)
  | 0, _, _, _, _ => none
  | n + 1, pc, l2, l3, μ => if pc = 23 then b_X4_match_23 F  (g_X4_match F  n) l2 l3 μ else if pc = 33 then b_X4_match_33 F  (g_X4_match F  n) l2 l3 μ else none
set_option maxRecDepth 20000 in
theorem t_X4_match_g {X : Nat × (Nat → Int32)} {G : Nat → Nat → Option Nat} (hG : fm_Gok G) {F : Nat}    : ∀ n : Nat, (∀ (l2 : Int32) (l3 : Int32) (μ : fm_M) (r : Unit × fm_M), g_X4_match F  n 23 l2 l3 μ = some r → ab_U 4 (none) kX4_match (23, [some (.ref 125), some (.ref 101), some (.int l2), none], [], hp X G μ) (fun r9 h9 => r9 = none ∧ h9 = hp X G r.2)) ∧ (∀ (l2 : Int32) (l3 : Int32) (μ : fm_M) (r : Unit × fm_M), g_X4_match F  n 33 l2 l3 μ = some r → ab_U 4 (none) kX4_match (33, [some (.ref 125), some (.ref 101), some (.int l2), some (.int l3)], [], hp X G μ) (fun r9 h9 => r9 = none ∧ h9 = hp X G r.2))
  | 0 => by
    refine ⟨?_, ?_⟩
    all_goals (intros; rename_i h; cases h)
  | n + 1 => by
    have ih := t_X4_match_g (X := X) hG (F := F)   n
    refine ⟨?_, ?_⟩
    · intro l2 l3 μ r hf
      have hf : b_X4_match_23 F  (g_X4_match F  n) l2 l3 μ = some r := hf
      unfold b_X4_match_23 at hf
      refine ab_U.run 3 (S' := (28, [some (.ref 125), some (.ref 101), some (.int l2), none], [.int (μ.1 101 3), .int l2], hp X G μ)) rfl ?_
      refine ab_U.ic_ge rfl (fun b1 => ?_) (fun b1 => ?_)
      · rw [if_pos b1] at hf
        obtain rfl := Option.some.inj hf
        exact ab_U.ret rfl rfl ⟨rfl, rfl⟩
      · rw [if_neg b1] at hf
        refine ab_U.run 2 (S' := (33, [some (.ref 125), some (.ref 101), some (.int l2), some (.int 0)], [], hp X G μ)) rfl ?_
        exact ab_U.weak (ih.2 _ _ _ _ hf) (ab_leL.of ⟨rfl, ⟨rfl, ⟨rfl, ⟨rfl, trivial⟩⟩⟩⟩)
    · intro l2 l3 μ r hf
      have hf : b_X4_match_33 F  (g_X4_match F  n) l2 l3 μ = some r := hf
      unfold b_X4_match_33 at hf
      refine ab_U.run 3 (S' := (38, [some (.ref 125), some (.ref 101), some (.int l2), some (.int l3)], [.int (μ.1 101 0), .int l3], hp X G μ)) rfl ?_
      refine ab_U.ic_ge rfl (fun b2 => ?_) (fun b2 => ?_)
      · rw [if_pos b2] at hf
        refine ab_U.run 2 (S' := (23, [some (.ref 125), some (.ref 101), some (.int (l2 + 1)), some (.int l3)], [], hp X G μ)) rfl ?_
        exact ab_U.weak (ih.1 _ _ _ _ hf) (ab_leL.of ⟨rfl, ⟨rfl, ⟨rfl, trivial⟩⟩⟩)
      · rw [if_neg b2] at hf
        refine ab_U.run 4 (S' := (47, [some (.ref 125), some (.ref 101), some (.int l2), some (.int l3)], [.int l2, .ref 105, .ref 125], hp X G μ)) rfl ?_
        obtain ⟨c3, hf⟩ := ab_ifs hf
        refine ab_U.iald (n := 5) rfl ⟨by decide, rfl⟩ c3 ?_
        show ab_U _ _ _ (48, [some (.ref 125), some (.ref 101), some (.int l2), some (.int l3)], [.int (μ.2.1 105 l2.toNatClampNeg), .ref 125], hp X G μ) _
        refine ab_U.run 3 (S' := (53, [some (.ref 125), some (.ref 101), some (.int l2), some (.int l3)], [.int l2, .ref 104, .int (μ.2.1 105 l2.toNatClampNeg), .ref 125], hp X G μ)) rfl ?_
        obtain ⟨c4, hf⟩ := ab_ifs hf
        refine ab_U.iald (n := 5) rfl ⟨by decide, rfl⟩ c4 ?_
        show ab_U _ _ _ (54, [some (.ref 125), some (.ref 101), some (.int l2), some (.int l3)], [.int (μ.2.1 104 l2.toNatClampNeg), .int (μ.2.1 105 l2.toNatClampNeg), .ref 125], hp X G μ) _
        refine ab_U.run 3 (S' := (59, [some (.ref 125), some (.ref 101), some (.int l2), some (.int l3)], [.int l3, .ref 102, .int (μ.2.1 104 l2.toNatClampNeg), .int (μ.2.1 105 l2.toNatClampNeg), .ref 125], hp X G μ)) rfl ?_
        obtain ⟨c5, hf⟩ := ab_ifs hf
        refine ab_U.iald (n := 4) rfl ⟨by decide, rfl⟩ c5 ?_
        show ab_U _ _ _ (60, [some (.ref 125), some (.ref 101), some (.int l2), some (.int l3)], [.int (μ.2.1 102 l3.toNatClampNeg), .int (μ.2.1 104 l2.toNatClampNeg), .int (μ.2.1 105 l2.toNatClampNeg), .ref 125], hp X G μ) _
        obtain ⟨q6, h7, hf⟩ := ab_bnd hf
        refine ab_U.fn rfl rfl (t_X8_rate (X := X) hG h7) (by omega) ?_
        show ab_U _ _ _ (63, [some (.ref 125), some (.ref 101), some (.int l2), some (.int l3)], [.int q6.1, .int (μ.2.1 105 l2.toNatClampNeg), .ref 125], hp X G q6.2) _
        obtain ⟨q8, h9, hf⟩ := ab_bnd hf
        refine ab_U.fn rfl rfl (t_X4_isPair (X := X) hG h9) (by omega) ?_
        show ab_U _ _ _ (66, [some (.ref 125), some (.ref 101), some (.int l2), some (.int l3)], [.int q8.1], hp X G q8.2) _
        refine ab_U.if_eq rfl (fun b10 => ?_) (fun b10 => ?_)
        · rw [if_pos b10] at hf
          refine ab_U.run 2 (S' := (33, [some (.ref 125), some (.ref 101), some (.int l2), some (.int (l3 + 1))], [], hp X G q8.2)) rfl ?_
          exact ab_U.weak (ih.2 _ _ _ _ hf) (ab_leL.of ⟨rfl, ⟨rfl, ⟨rfl, ⟨rfl, trivial⟩⟩⟩⟩)
        · rw [if_neg b10] at hf
          refine ab_U.run 3 (S' := (74, [some (.ref 125), some (.ref 101), some (.int l2), some (.int l3)], [.int (q8.2.1 125 3), .ref 125], hp X G q8.2)) rfl ?_
          refine ab_U.if_ne rfl (fun b11 => ?_) (fun b11 => ?_)
          · rw [if_pos b11] at hf
            refine ab_U.run 2 (S' := (90, [some (.ref 125), some (.ref 101), some (.int l2), some (.int l3)], [.int (q8.2.1 125 4), .ref 125], hp X G q8.2)) rfl ?_
            obtain ⟨m12, e13, hf⟩ := ab_bnd hf
            have e13 := Option.some.inj e13
            refine ab_U.pfI (ci := 4) (k9 := 4) rfl ⟨by decide, rfl⟩ ⟨rfl, rfl, by decide, rfl⟩ rfl ?_
            show ab_U _ _ _ (93, [some (.ref 125), some (.ref 101), some (.int l2), some (.int l3)], [], hp X G (fm_sI q8.2 125 4 (q8.2.1 125 4))) _
            rw [e13]
            refine ab_U.run 5 (S' := (100, [some (.ref 125), some (.ref 101), some (.int l2), some (.int l3)], [.int ((m12.1 125 3) + 1), .ref 125], hp X G m12)) rfl ?_
            obtain ⟨m14, e15, hf⟩ := ab_bnd hf
            have e15 := Option.some.inj e15
            refine ab_U.pfI (ci := 4) (k9 := 3) rfl ⟨by decide, rfl⟩ ⟨rfl, rfl, by decide, rfl⟩ rfl ?_
            show ab_U _ _ _ (103, [some (.ref 125), some (.ref 101), some (.int l2), some (.int l3)], [], hp X G (fm_sI m12 125 3 ((m12.1 125 3) + 1))) _
            rw [e15]
            refine ab_U.run 7 (S' := (112, [some (.ref 125), some (.ref 101), some (.int l2), some (.int l3)], [.int ((m14.1 125 5) ||| (1 <<< (l2 &&& 31))), .ref 125], hp X G m14)) rfl ?_
            obtain ⟨m16, e17, hf⟩ := ab_bnd hf
            have e17 := Option.some.inj e17
            refine ab_U.pfI (ci := 4) (k9 := 5) rfl ⟨by decide, rfl⟩ ⟨rfl, rfl, by decide, rfl⟩ rfl ?_
            show ab_U _ _ _ (115, [some (.ref 125), some (.ref 101), some (.int l2), some (.int l3)], [], hp X G (fm_sI m14 125 5 ((m14.1 125 5) ||| (1 <<< (l2 &&& 31))))) _
            rw [e17]
            refine ab_U.run 7 (S' := (124, [some (.ref 125), some (.ref 101), some (.int l2), some (.int l3)], [.int ((m16.1 125 6) ||| (1 <<< (l3 &&& 31))), .ref 125], hp X G m16)) rfl ?_
            obtain ⟨m18, e19, hf⟩ := ab_bnd hf
            have e19 := Option.some.inj e19
            refine ab_U.pfI (ci := 4) (k9 := 6) rfl ⟨by decide, rfl⟩ ⟨rfl, rfl, by decide, rfl⟩ rfl ?_
            show ab_U _ _ _ (127, [some (.ref 125), some (.ref 101), some (.int l2), some (.int l3)], [], hp X G (fm_sI m16 125 6 ((m16.1 125 6) ||| (1 <<< (l3 &&& 31))))) _
            rw [e19]
            refine ab_U.run 2 (S' := (33, [some (.ref 125), some (.ref 101), some (.int l2), some (.int (l3 + 1))], [], hp X G m18)) rfl ?_
            exact ab_U.weak (ih.2 _ _ _ _ hf) (ab_leL.of ⟨rfl, ⟨rfl, ⟨rfl, ⟨rfl, trivial⟩⟩⟩⟩)
          · rw [if_neg b11] at hf
            refine ab_U.run 6 (S' := (90, [some (.ref 125), some (.ref 101), some (.int l2), some (.int l3)], [.int ((10 * l2) + l3), .ref 125], hp X G q8.2)) rfl ?_
            obtain ⟨m20, e21, hf⟩ := ab_bnd hf
            have e21 := Option.some.inj e21
            refine ab_U.pfI (ci := 4) (k9 := 4) rfl ⟨by decide, rfl⟩ ⟨rfl, rfl, by decide, rfl⟩ rfl ?_
            show ab_U _ _ _ (93, [some (.ref 125), some (.ref 101), some (.int l2), some (.int l3)], [], hp X G (fm_sI q8.2 125 4 ((10 * l2) + l3))) _
            rw [e21]
            refine ab_U.run 5 (S' := (100, [some (.ref 125), some (.ref 101), some (.int l2), some (.int l3)], [.int ((m20.1 125 3) + 1), .ref 125], hp X G m20)) rfl ?_
            obtain ⟨m22, e23, hf⟩ := ab_bnd hf
            have e23 := Option.some.inj e23
            refine ab_U.pfI (ci := 4) (k9 := 3) rfl ⟨by decide, rfl⟩ ⟨rfl, rfl, by decide, rfl⟩ rfl ?_
            show ab_U _ _ _ (103, [some (.ref 125), some (.ref 101), some (.int l2), some (.int l3)], [], hp X G (fm_sI m20 125 3 ((m20.1 125 3) + 1))) _
            rw [e23]
            refine ab_U.run 7 (S' := (112, [some (.ref 125), some (.ref 101), some (.int l2), some (.int l3)], [.int ((m22.1 125 5) ||| (1 <<< (l2 &&& 31))), .ref 125], hp X G m22)) rfl ?_
            obtain ⟨m24, e25, hf⟩ := ab_bnd hf
            have e25 := Option.some.inj e25
            refine ab_U.pfI (ci := 4) (k9 := 5) rfl ⟨by decide, rfl⟩ ⟨rfl, rfl, by decide, rfl⟩ rfl ?_
            show ab_U _ _ _ (115, [some (.ref 125), some (.ref 101), some (.int l2), some (.int l3)], [], hp X G (fm_sI m22 125 5 ((m22.1 125 5) ||| (1 <<< (l2 &&& 31))))) _
            rw [e25]
            refine ab_U.run 7 (S' := (124, [some (.ref 125), some (.ref 101), some (.int l2), some (.int l3)], [.int ((m24.1 125 6) ||| (1 <<< (l3 &&& 31))), .ref 125], hp X G m24)) rfl ?_
            obtain ⟨m26, e27, hf⟩ := ab_bnd hf
            have e27 := Option.some.inj e27
            refine ab_U.pfI (ci := 4) (k9 := 6) rfl ⟨by decide, rfl⟩ ⟨rfl, rfl, by decide, rfl⟩ rfl ?_
            show ab_U _ _ _ (127, [some (.ref 125), some (.ref 101), some (.int l2), some (.int l3)], [], hp X G (fm_sI m24 125 6 ((m24.1 125 6) ||| (1 <<< (l3 &&& 31))))) _
            rw [e27]
            refine ab_U.run 2 (S' := (33, [some (.ref 125), some (.ref 101), some (.int l2), some (.int (l3 + 1))], [], hp X G m26)) rfl ?_
            exact ab_U.weak (ih.2 _ _ _ _ hf) (ab_leL.of ⟨rfl, ⟨rfl, ⟨rfl, ⟨rfl, trivial⟩⟩⟩⟩)
set_option maxRecDepth 20000 in
def f_X4_match (F : Nat)   (μ : fm_M) : Option (Unit × fm_M) := (Option.bind (some (fm_sI μ 125 3 0)) (fun m28 => (Option.bind (some (fm_sI m28 125 4 (-4))) (fun m30 => (Option.bind (some (fm_sI m30 125 5 0)) (fun m32 => (Option.bind (some (fm_sI m32 125 6 0)) (fun m34 => g_X4_match F  F 23 0 0 m34))))))))
set_option maxRecDepth 20000 in
theorem t_X4_match {X : Nat × (Nat → Int32)} {G : Nat → Nat → Option Nat} (hG : fm_Gok G) {F : Nat}    {μ : fm_M} {r : Unit × fm_M} (hf : f_X4_match F  μ = some r) : ab_F 5 21 [.ref 125, .ref 101] (hp X G μ) none (hp X G r.2) := by
  unfold f_X4_match at hf
  refine ab_T.of (d := 4) rfl (Nat.le_of_ble_eq_true rfl) ?_
  show ab_U _ _ kX4_match (0, [some (.ref 125), some (.ref 101), none, none], [], hp X G μ) _
  refine ab_U.run 2 (S' := (2, [some (.ref 125), some (.ref 101), none, none], [.int 0, .ref 125], hp X G μ)) rfl ?_
  obtain ⟨m28, e29, hf⟩ := ab_bnd hf
  have e29 := Option.some.inj e29
  refine ab_U.pfI (ci := 4) (k9 := 3) rfl ⟨by decide, rfl⟩ ⟨rfl, rfl, by decide, rfl⟩ rfl ?_
  show ab_U _ _ _ (5, [some (.ref 125), some (.ref 101), none, none], [], hp X G (fm_sI μ 125 3 0)) _
  rw [e29]
  refine ab_U.run 2 (S' := (8, [some (.ref 125), some (.ref 101), none, none], [.int (-4), .ref 125], hp X G m28)) rfl ?_
  obtain ⟨m30, e31, hf⟩ := ab_bnd hf
  have e31 := Option.some.inj e31
  refine ab_U.pfI (ci := 4) (k9 := 4) rfl ⟨by decide, rfl⟩ ⟨rfl, rfl, by decide, rfl⟩ rfl ?_
  show ab_U _ _ _ (11, [some (.ref 125), some (.ref 101), none, none], [], hp X G (fm_sI m28 125 4 (-4))) _
  rw [e31]
  refine ab_U.run 2 (S' := (13, [some (.ref 125), some (.ref 101), none, none], [.int 0, .ref 125], hp X G m30)) rfl ?_
  obtain ⟨m32, e33, hf⟩ := ab_bnd hf
  have e33 := Option.some.inj e33
  refine ab_U.pfI (ci := 4) (k9 := 5) rfl ⟨by decide, rfl⟩ ⟨rfl, rfl, by decide, rfl⟩ rfl ?_
  show ab_U _ _ _ (16, [some (.ref 125), some (.ref 101), none, none], [], hp X G (fm_sI m30 125 5 0)) _
  rw [e33]
  refine ab_U.run 2 (S' := (18, [some (.ref 125), some (.ref 101), none, none], [.int 0, .ref 125], hp X G m32)) rfl ?_
  obtain ⟨m34, e35, hf⟩ := ab_bnd hf
  have e35 := Option.some.inj e35
  refine ab_U.pfI (ci := 4) (k9 := 6) rfl ⟨by decide, rfl⟩ ⟨rfl, rfl, by decide, rfl⟩ rfl ?_
  show ab_U _ _ _ (21, [some (.ref 125), some (.ref 101), none, none], [], hp X G (fm_sI m32 125 6 0)) _
  rw [e35]
  refine ab_U.run 2 (S' := (23, [some (.ref 125), some (.ref 101), some (.int 0), none], [], hp X G m34)) rfl ?_
  exact ab_U.weak ((t_X4_match_g (X := X) hG   F).1 _ _ _ _ hf) (ab_leL.of ⟨rfl, ⟨rfl, ⟨rfl, trivial⟩⟩⟩)
set_option maxRecDepth 20000 in
def f_X5_append (F : Nat)  (x0 : Int32) (μ : fm_M) : Option (Int32 × fm_M) := (if (μ.1 123 1) < 160 then (if ab_in (μ.1 123 1) 160 = true then (Option.bind (some (fm_sA μ 124 (upd (μ.2.1 124) (μ.1 123 1).toNatClampNeg ((((x0).toInt8.toInt32)).toInt8.toInt32)))) (fun m3 => (Option.bind (some (fm_sI m3 123 1 ((m3.1 123 1) + 1))) (fun m5 => some (1, m5))))) else none) else some (0, μ))
set_option maxRecDepth 20000 in
theorem t_X5_append {X : Nat × (Nat → Int32)} {G : Nat → Nat → Option Nat} (hG : fm_Gok G) {F : Nat}   {x0 : Int32} {μ : fm_M} {r : Int32 × fm_M} (hf : f_X5_append F x0 μ = some r) : ab_F 1 24 [.ref 123, .int x0] (hp X G μ) (some (.int r.1)) (hp X G r.2) := by
  unfold f_X5_append at hf
  refine ab_T.of (d := 0) rfl (Nat.le_of_ble_eq_true rfl) ?_
  show ab_U _ _ kX5_append (0, [some (.ref 123), some (.int x0)], [], hp X G μ) _
  refine ab_U.run 3 (S' := (7, [some (.ref 123), some (.int x0)], [.int 160, .int (μ.1 123 1)], hp X G μ)) rfl ?_
  refine ab_U.ic_lt rfl (fun b1 => ?_) (fun b1 => ?_)
  · rw [if_pos b1] at hf
    refine ab_U.run 6 (S' := (22, [some (.ref 123), some (.int x0)], [.int (x0).toInt8.toInt32, .int (μ.1 123 1), .ref 124], hp X G μ)) rfl ?_
    obtain ⟨c2, hf⟩ := ab_ifs hf
    obtain ⟨m3, e4, hf⟩ := ab_bnd hf
    have e4 := Option.some.inj e4
    refine ab_U.bastB (n := 160) rfl ⟨by decide, rfl⟩ c2 ?_
    show ab_U _ _ _ (23, [some (.ref 123), some (.int x0)], [], hp X G (fm_sA μ 124 (upd (μ.2.1 124) (μ.1 123 1).toNatClampNeg ((((x0).toInt8.toInt32)).toInt8.toInt32)))) _
    rw [e4]
    refine ab_U.run 5 (S' := (30, [some (.ref 123), some (.int x0)], [.int ((m3.1 123 1) + 1), .ref 123], hp X G m3)) rfl ?_
    obtain ⟨m5, e6, hf⟩ := ab_bnd hf
    have e6 := Option.some.inj e6
    refine ab_U.pfI (ci := 5) (k9 := 1) rfl ⟨by decide, rfl⟩ ⟨rfl, rfl, by decide, rfl⟩ rfl ?_
    show ab_U _ _ _ (33, [some (.ref 123), some (.int x0)], [], hp X G (fm_sI m3 123 1 ((m3.1 123 1) + 1))) _
    rw [e6]
    refine ab_U.run 1 (S' := (34, [some (.ref 123), some (.int x0)], [.int 1], hp X G m5)) rfl ?_
    obtain rfl := Option.some.inj hf
    exact ab_U.ret rfl rfl ⟨rfl, rfl⟩
  · rw [if_neg b1] at hf
    refine ab_U.run 1 (S' := (11, [some (.ref 123), some (.int x0)], [.int 0], hp X G μ)) rfl ?_
    obtain rfl := Option.some.inj hf
    exact ab_U.ret rfl rfl ⟨rfl, rfl⟩
set_option maxRecDepth 20000 in
def b_X7_clear_28 (F : Nat) (w : Nat) (gg : Nat → Int32 → fm_M → Option (Unit × fm_M)) (l1 : Int32) (μ : fm_M) : Option (Unit × fm_M) := (if 5 < l1 then (Option.bind (some (fm_sI μ w 11 0)) (fun m2 => (Option.bind (some (fm_sI m2 w 15 0)) (fun m4 => some ((), m4))))) else (if ab_in l1 6 = true then (Option.bind (some (fm_sA μ ((w + 6)) (upd (μ.2.1 ((w + 6))) l1.toNatClampNeg 1))) (fun m7 => gg 28 (l1 + 1) m7)) else none))
def g_X7_clear (F : Nat) (w : Nat) : Nat → Nat → Int32 → fm_M → Option (Unit × fm_M)
  | 0, _, _, _ => none
  | n + 1, pc, l1, μ => if pc = 28 then b_X7_clear_28 F w (g_X7_clear F w n) l1 μ else none
set_option maxRecDepth 20000 in
theorem t_X7_clear_g {X : Nat × (Nat → Int32)} {G : Nat → Nat → Option Nat} (hG : fm_Gok G) {F : Nat}  {w : Nat} (hw : fm_isW w = true) : ∀ n : Nat, (∀ (l1 : Int32) (μ : fm_M) (r : Unit × fm_M), g_X7_clear F w n 28 l1 μ = some r → ab_U 0 (none) kX7_clear (28, [some (.ref w), some (.int l1)], [], hp X G μ) (fun r9 h9 => r9 = none ∧ h9 = hp X G r.2))
  | 0 => by
    intros
    rename_i h
    cases h
  | n + 1 => by
    have ih := t_X7_clear_g (X := X) hG (F := F)  hw n
    · intro l1 μ r hf
      have hf : b_X7_clear_28 F w (g_X7_clear F w n) l1 μ = some r := hf
      unfold b_X7_clear_28 at hf
      refine ab_U.run 2 (S' := (30, [some (.ref w), some (.int l1)], [.int 5, .int l1], hp X G μ)) rfl ?_
      refine ab_U.ic_gt rfl (fun b1 => ?_) (fun b1 => ?_)
      · rw [if_pos b1] at hf
        refine ab_U.run 2 (S' := (48, [some (.ref w), some (.int l1)], [.int 0, .ref w], hp X G μ)) rfl ?_
        obtain ⟨m2, e3, hf⟩ := ab_bnd hf
        have e3 := Option.some.inj e3
        refine ab_U.pfI (ci := 7) (k9 := 11) rfl (fm_WO hw) ⟨rfl, rfl, by decide, rfl⟩ rfl ?_
        show ab_U _ _ _ (51, [some (.ref w), some (.int l1)], [], hp X G (fm_sI μ w 11 0)) _
        rw [e3]
        refine ab_U.run 2 (S' := (53, [some (.ref w), some (.int l1)], [.int 0, .ref w], hp X G m2)) rfl ?_
        obtain ⟨m4, e5, hf⟩ := ab_bnd hf
        have e5 := Option.some.inj e5
        refine ab_U.pfI (ci := 7) (k9 := 15) rfl (fm_WO hw) ⟨rfl, rfl, by decide, rfl⟩ rfl ?_
        show ab_U _ _ _ (56, [some (.ref w), some (.int l1)], [], hp X G (fm_sI m2 w 15 0)) _
        rw [e5]
        obtain rfl := Option.some.inj hf
        exact ab_U.ret rfl rfl ⟨rfl, rfl⟩
      · rw [if_neg b1] at hf
        refine ab_U.run 1 (S' := (34, [some (.ref w), some (.int l1)], [.ref w], hp X G μ)) rfl ?_
        refine ab_U.gfW (k9 := 10) rfl hw ⟨rfl, rfl, by decide, rfl⟩ ?_
        show ab_U _ _ _ (37, [some (.ref w), some (.int l1)], [.ref (w + 6)], hp X G μ) _
        refine ab_U.run 2 (S' := (39, [some (.ref w), some (.int l1)], [.int 1, .int l1, .ref (w + 6)], hp X G μ)) rfl ?_
        obtain ⟨c6, hf⟩ := ab_ifs hf
        obtain ⟨m7, e8, hf⟩ := ab_bnd hf
        have e8 := Option.some.inj e8
        refine ab_U.iast (n := 6) rfl (fm_WA hw).2.2.2.2.2.1 c6 ?_
        show ab_U _ _ _ (40, [some (.ref w), some (.int l1)], [], hp X G (fm_sA μ ((w + 6)) (upd (μ.2.1 ((w + 6))) l1.toNatClampNeg 1))) _
        rw [e8]
        refine ab_U.run 2 (S' := (28, [some (.ref w), some (.int (l1 + 1))], [], hp X G m7)) rfl ?_
        exact ab_U.weak (ih _ _ _ hf) (ab_leL.of ⟨rfl, ⟨rfl, trivial⟩⟩)
set_option maxRecDepth 20000 in
def f_X7_clear (F : Nat) (w : Nat)  (μ : fm_M) : Option (Unit × fm_M) := (Option.bind (some (fm_sI μ w 0 0)) (fun m9 => (Option.bind (some (fm_sI m9 w 3 0)) (fun m11 => (Option.bind (some (fm_sI m11 w 7 0)) (fun m13 => (Option.bind (some (fm_sI m13 w 8 50)) (fun m15 => (Option.bind (some (fm_sI m15 w 9 2)) (fun m17 => g_X7_clear F w F 28 0 m17))))))))))
set_option maxRecDepth 20000 in
theorem t_X7_clear {X : Nat × (Nat → Int32)} {G : Nat → Nat → Option Nat} (hG : fm_Gok G) {F : Nat} {w : Nat} (hw : fm_isW w = true)  {μ : fm_M} {r : Unit × fm_M} (hf : f_X7_clear F w μ = some r) : ab_F 1 53 [.ref w] (hp X G μ) none (hp X G r.2) := by
  unfold f_X7_clear at hf
  refine ab_T.of (d := 0) rfl (Nat.le_of_ble_eq_true rfl) ?_
  show ab_U _ _ kX7_clear (0, [some (.ref w), none], [], hp X G μ) _
  refine ab_U.run 2 (S' := (2, [some (.ref w), none], [.int 0, .ref w], hp X G μ)) rfl ?_
  obtain ⟨m9, e10, hf⟩ := ab_bnd hf
  have e10 := Option.some.inj e10
  refine ab_U.pfI (ci := 7) (k9 := 0) rfl (fm_WO hw) ⟨rfl, rfl, by decide, rfl⟩ rfl ?_
  show ab_U _ _ _ (5, [some (.ref w), none], [], hp X G (fm_sI μ w 0 0)) _
  rw [e10]
  refine ab_U.run 2 (S' := (7, [some (.ref w), none], [.int 0, .ref w], hp X G m9)) rfl ?_
  obtain ⟨m11, e12, hf⟩ := ab_bnd hf
  have e12 := Option.some.inj e12
  refine ab_U.pfI (ci := 7) (k9 := 3) rfl (fm_WO hw) ⟨rfl, rfl, by decide, rfl⟩ rfl ?_
  show ab_U _ _ _ (10, [some (.ref w), none], [], hp X G (fm_sI m9 w 3 0)) _
  rw [e12]
  refine ab_U.run 2 (S' := (12, [some (.ref w), none], [.int 0, .ref w], hp X G m11)) rfl ?_
  obtain ⟨m13, e14, hf⟩ := ab_bnd hf
  have e14 := Option.some.inj e14
  refine ab_U.pfI (ci := 7) (k9 := 7) rfl (fm_WO hw) ⟨rfl, rfl, by decide, rfl⟩ rfl ?_
  show ab_U _ _ _ (15, [some (.ref w), none], [], hp X G (fm_sI m11 w 7 0)) _
  rw [e14]
  refine ab_U.run 2 (S' := (18, [some (.ref w), none], [.int 50, .ref w], hp X G m13)) rfl ?_
  obtain ⟨m15, e16, hf⟩ := ab_bnd hf
  have e16 := Option.some.inj e16
  refine ab_U.pfI (ci := 7) (k9 := 8) rfl (fm_WO hw) ⟨rfl, rfl, by decide, rfl⟩ rfl ?_
  show ab_U _ _ _ (21, [some (.ref w), none], [], hp X G (fm_sI m13 w 8 50)) _
  rw [e16]
  refine ab_U.run 2 (S' := (23, [some (.ref w), none], [.int 2, .ref w], hp X G m15)) rfl ?_
  obtain ⟨m17, e18, hf⟩ := ab_bnd hf
  have e18 := Option.some.inj e18
  refine ab_U.pfI (ci := 7) (k9 := 9) rfl (fm_WO hw) ⟨rfl, rfl, by decide, rfl⟩ rfl ?_
  show ab_U _ _ _ (26, [some (.ref w), none], [], hp X G (fm_sI m15 w 9 2)) _
  rw [e18]
  refine ab_U.run 2 (S' := (28, [some (.ref w), some (.int 0)], [], hp X G m17)) rfl ?_
  exact ab_U.weak ((t_X7_clear_g (X := X) hG  hw F) _ _ _ hf) (ab_leL.of ⟨rfl, ⟨rfl, trivial⟩⟩)
set_option maxRecDepth 20000 in
def b_X5_skipBlanks_0 (F : Nat)  (gg : Nat → fm_M → Option (Unit × fm_M))  (μ : fm_M) : Option (Unit × fm_M) := (if (μ.1 123 1) ≤ (μ.1 123 4) then some ((), μ) else (if ab_in (μ.1 123 4) 160 = true then (if ¬ (μ.2.1 124 (μ.1 123 4).toNatClampNeg) = 32 then some ((), μ) else (Option.bind (some (fm_sI μ 123 4 ((μ.1 123 4) + 1))) (fun m4 => gg 0  m4))) else none))
def g_X5_skipBlanks (F : Nat)  : Nat → Nat → fm_M → Option (Unit × fm_M)
  | 0, _, _ => none
  | n + 1, pc, μ => if pc = 0 then b_X5_skipBlanks_0 F  (g_X5_skipBlanks F  n)  μ else none
set_option maxRecDepth 20000 in
theorem t_X5_skipBlanks_g {X : Nat × (Nat → Int32)} {G : Nat → Nat → Option Nat} (hG : fm_Gok G) {F : Nat}    : ∀ n : Nat, (∀  (μ : fm_M) (r : Unit × fm_M), g_X5_skipBlanks F  n 0  μ = some r → ab_U 0 (none) kX5_skipBlanks (0, [some (.ref 123)], [], hp X G μ) (fun r9 h9 => r9 = none ∧ h9 = hp X G r.2))
  | 0 => by
    intros
    rename_i h
    cases h
  | n + 1 => by
    have ih := t_X5_skipBlanks_g (X := X) hG (F := F)   n
    · intro  μ r hf
      have hf : b_X5_skipBlanks_0 F  (g_X5_skipBlanks F  n)  μ = some r := hf
      unfold b_X5_skipBlanks_0 at hf
      refine ab_U.run 4 (S' := (8, [some (.ref 123)], [.int (μ.1 123 1), .int (μ.1 123 4)], hp X G μ)) rfl ?_
      refine ab_U.ic_ge rfl (fun b1 => ?_) (fun b1 => ?_)
      · rw [if_pos b1] at hf
        obtain rfl := Option.some.inj hf
        exact ab_U.ret rfl rfl ⟨rfl, rfl⟩
      · rw [if_neg b1] at hf
        refine ab_U.run 4 (S' := (19, [some (.ref 123)], [.int (μ.1 123 4), .ref 124], hp X G μ)) rfl ?_
        obtain ⟨c2, hf⟩ := ab_ifs hf
        refine ab_U.baldB (n := 160) rfl ⟨by decide, rfl⟩ c2 ?_
        show ab_U _ _ _ (20, [some (.ref 123)], [.int (μ.2.1 124 (μ.1 123 4).toNatClampNeg)], hp X G μ) _
        refine ab_U.run 1 (S' := (22, [some (.ref 123)], [.int 32, .int (μ.2.1 124 (μ.1 123 4).toNatClampNeg)], hp X G μ)) rfl ?_
        refine ab_U.ic_ne rfl (fun b3 => ?_) (fun b3 => ?_)
        · rw [if_pos b3] at hf
          obtain rfl := Option.some.inj hf
          exact ab_U.ret rfl rfl ⟨rfl, rfl⟩
        · rw [if_neg b3] at hf
          refine ab_U.run 5 (S' := (32, [some (.ref 123)], [.int ((μ.1 123 4) + 1), .ref 123], hp X G μ)) rfl ?_
          obtain ⟨m4, e5, hf⟩ := ab_bnd hf
          have e5 := Option.some.inj e5
          refine ab_U.pfI (ci := 5) (k9 := 4) rfl ⟨by decide, rfl⟩ ⟨rfl, rfl, by decide, rfl⟩ rfl ?_
          show ab_U _ _ _ (35, [some (.ref 123)], [], hp X G (fm_sI μ 123 4 ((μ.1 123 4) + 1))) _
          rw [e5]
          refine ab_U.run 1 (S' := (0, [some (.ref 123)], [], hp X G m4)) rfl ?_
          exact ab_U.weak (ih  _ _ hf) (ab_leL.of ⟨rfl, trivial⟩)
set_option maxRecDepth 20000 in
def f_X5_skipBlanks (F : Nat)   (μ : fm_M) : Option (Unit × fm_M) := g_X5_skipBlanks F  F 0  μ
set_option maxRecDepth 20000 in
theorem t_X5_skipBlanks {X : Nat × (Nat → Int32)} {G : Nat → Nat → Option Nat} (hG : fm_Gok G) {F : Nat}    {μ : fm_M} {r : Unit × fm_M} (hf : f_X5_skipBlanks F  μ = some r) : ab_F 1 30 [.ref 123] (hp X G μ) none (hp X G r.2) := by
  unfold f_X5_skipBlanks at hf
  refine ab_T.of (d := 0) rfl (Nat.le_of_ble_eq_true rfl) ?_
  show ab_U _ _ kX5_skipBlanks (0, [some (.ref 123)], [], hp X G μ) _
  exact ab_U.weak ((t_X5_skipBlanks_g (X := X) hG   F)  _ _ hf) (ab_leL.of ⟨rfl, trivial⟩)
set_option maxRecDepth 20000 in
def f_X5_isLetter (F : Nat)  (x0 : Int32) (μ : fm_M) : Option (Int32 × fm_M) := (if x0 < 97 then some (0, μ) else (if 122 < x0 then some (0, μ) else some (1, μ)))
set_option maxRecDepth 20000 in
theorem t_X5_isLetter {X : Nat × (Nat → Int32)} {G : Nat → Nat → Option Nat} (hG : fm_Gok G) {F : Nat}   {x0 : Int32} {μ : fm_M} {r : Int32 × fm_M} (hf : f_X5_isLetter F x0 μ = some r) : ab_F 1 28 [.int x0] (hp X G μ) (some (.int r.1)) (hp X G r.2) := by
  unfold f_X5_isLetter at hf
  refine ab_T.of (d := 0) rfl (Nat.le_of_ble_eq_true rfl) ?_
  show ab_U _ _ kX5_isLetter (0, [some (.int x0)], [], hp X G μ) _
  refine ab_U.run 2 (S' := (3, [some (.int x0)], [.int 97, .int x0], hp X G μ)) rfl ?_
  refine ab_U.ic_lt rfl (fun b1 => ?_) (fun b1 => ?_)
  · rw [if_pos b1] at hf
    refine ab_U.run 1 (S' := (17, [some (.int x0)], [.int 0], hp X G μ)) rfl ?_
    obtain rfl := Option.some.inj hf
    exact ab_U.ret rfl rfl ⟨rfl, rfl⟩
  · rw [if_neg b1] at hf
    refine ab_U.run 2 (S' := (9, [some (.int x0)], [.int 122, .int x0], hp X G μ)) rfl ?_
    refine ab_U.ic_gt rfl (fun b2 => ?_) (fun b2 => ?_)
    · rw [if_pos b2] at hf
      refine ab_U.run 1 (S' := (17, [some (.int x0)], [.int 0], hp X G μ)) rfl ?_
      obtain rfl := Option.some.inj hf
      exact ab_U.ret rfl rfl ⟨rfl, rfl⟩
    · rw [if_neg b2] at hf
      refine ab_U.run 2 (S' := (17, [some (.int x0)], [.int 1], hp X G μ)) rfl ?_
      obtain rfl := Option.some.inj hf
      exact ab_U.ret rfl rfl ⟨rfl, rfl⟩
set_option maxRecDepth 20000 in
def b_X5_skipLetters_0 (F : Nat)  (gg : Nat → fm_M → Option (Unit × fm_M))  (μ : fm_M) : Option (Unit × fm_M) := (if (μ.1 123 1) ≤ (μ.1 123 4) then some ((), μ) else (if ab_in (μ.1 123 4) 160 = true then (Option.bind (f_X5_isLetter F (μ.2.1 124 (μ.1 123 4).toNatClampNeg) μ) (fun q3 => (if q3.1 = 0 then some ((), q3.2) else (Option.bind (some (fm_sI q3.2 123 4 ((q3.2.1 123 4) + 1))) (fun m6 => gg 0  m6))))) else none))
def g_X5_skipLetters (F : Nat)  : Nat → Nat → fm_M → Option (Unit × fm_M)
  | 0, _, _ => none
  | n + 1, pc, μ => if pc = 0 then b_X5_skipLetters_0 F  (g_X5_skipLetters F  n)  μ else none
set_option maxRecDepth 20000 in
theorem t_X5_skipLetters_g {X : Nat × (Nat → Int32)} {G : Nat → Nat → Option Nat} (hG : fm_Gok G) {F : Nat}    : ∀ n : Nat, (∀  (μ : fm_M) (r : Unit × fm_M), g_X5_skipLetters F  n 0  μ = some r → ab_U 1 (none) kX5_skipLetters (0, [some (.ref 123)], [], hp X G μ) (fun r9 h9 => r9 = none ∧ h9 = hp X G r.2))
  | 0 => by
    intros
    rename_i h
    cases h
  | n + 1 => by
    have ih := t_X5_skipLetters_g (X := X) hG (F := F)   n
    · intro  μ r hf
      have hf : b_X5_skipLetters_0 F  (g_X5_skipLetters F  n)  μ = some r := hf
      unfold b_X5_skipLetters_0 at hf
      refine ab_U.run 4 (S' := (8, [some (.ref 123)], [.int (μ.1 123 1), .int (μ.1 123 4)], hp X G μ)) rfl ?_
      refine ab_U.ic_ge rfl (fun b1 => ?_) (fun b1 => ?_)
      · rw [if_pos b1] at hf
        obtain rfl := Option.some.inj hf
        exact ab_U.ret rfl rfl ⟨rfl, rfl⟩
      · rw [if_neg b1] at hf
        refine ab_U.run 4 (S' := (19, [some (.ref 123)], [.int (μ.1 123 4), .ref 124], hp X G μ)) rfl ?_
        obtain ⟨c2, hf⟩ := ab_ifs hf
        refine ab_U.baldB (n := 160) rfl ⟨by decide, rfl⟩ c2 ?_
        show ab_U _ _ _ (20, [some (.ref 123)], [.int (μ.2.1 124 (μ.1 123 4).toNatClampNeg)], hp X G μ) _
        obtain ⟨q3, h4, hf⟩ := ab_bnd hf
        refine ab_U.fn rfl rfl (t_X5_isLetter (X := X) hG h4) (by omega) ?_
        show ab_U _ _ _ (23, [some (.ref 123)], [.int q3.1], hp X G q3.2) _
        refine ab_U.if_eq rfl (fun b5 => ?_) (fun b5 => ?_)
        · rw [if_pos b5] at hf
          obtain rfl := Option.some.inj hf
          exact ab_U.ret rfl rfl ⟨rfl, rfl⟩
        · rw [if_neg b5] at hf
          refine ab_U.run 5 (S' := (33, [some (.ref 123)], [.int ((q3.2.1 123 4) + 1), .ref 123], hp X G q3.2)) rfl ?_
          obtain ⟨m6, e7, hf⟩ := ab_bnd hf
          have e7 := Option.some.inj e7
          refine ab_U.pfI (ci := 5) (k9 := 4) rfl ⟨by decide, rfl⟩ ⟨rfl, rfl, by decide, rfl⟩ rfl ?_
          show ab_U _ _ _ (36, [some (.ref 123)], [], hp X G (fm_sI q3.2 123 4 ((q3.2.1 123 4) + 1))) _
          rw [e7]
          refine ab_U.run 1 (S' := (0, [some (.ref 123)], [], hp X G m6)) rfl ?_
          exact ab_U.weak (ih  _ _ hf) (ab_leL.of ⟨rfl, trivial⟩)
set_option maxRecDepth 20000 in
def f_X5_skipLetters (F : Nat)   (μ : fm_M) : Option (Unit × fm_M) := g_X5_skipLetters F  F 0  μ
set_option maxRecDepth 20000 in
theorem t_X5_skipLetters {X : Nat × (Nat → Int32)} {G : Nat → Nat → Option Nat} (hG : fm_Gok G) {F : Nat}    {μ : fm_M} {r : Unit × fm_M} (hf : f_X5_skipLetters F  μ = some r) : ab_F 2 31 [.ref 123] (hp X G μ) none (hp X G r.2) := by
  unfold f_X5_skipLetters at hf
  refine ab_T.of (d := 1) rfl (Nat.le_of_ble_eq_true rfl) ?_
  show ab_U _ _ kX5_skipLetters (0, [some (.ref 123)], [], hp X G μ) _
  exact ab_U.weak ((t_X5_skipLetters_g (X := X) hG   F)  _ _ hf) (ab_leL.of ⟨rfl, trivial⟩)
set_option maxRecDepth 20000 in
def f_X5_isFigure (F : Nat)  (x0 : Int32) (μ : fm_M) : Option (Int32 × fm_M) := (if x0 < 48 then some (0, μ) else (if 57 < x0 then some (0, μ) else some (1, μ)))
set_option maxRecDepth 20000 in
theorem t_X5_isFigure {X : Nat × (Nat → Int32)} {G : Nat → Nat → Option Nat} (hG : fm_Gok G) {F : Nat}   {x0 : Int32} {μ : fm_M} {r : Int32 × fm_M} (hf : f_X5_isFigure F x0 μ = some r) : ab_F 1 29 [.int x0] (hp X G μ) (some (.int r.1)) (hp X G r.2) := by
  unfold f_X5_isFigure at hf
  refine ab_T.of (d := 0) rfl (Nat.le_of_ble_eq_true rfl) ?_
  show ab_U _ _ kX5_isFigure (0, [some (.int x0)], [], hp X G μ) _
  refine ab_U.run 2 (S' := (3, [some (.int x0)], [.int 48, .int x0], hp X G μ)) rfl ?_
  refine ab_U.ic_lt rfl (fun b1 => ?_) (fun b1 => ?_)
  · rw [if_pos b1] at hf
    refine ab_U.run 1 (S' := (17, [some (.int x0)], [.int 0], hp X G μ)) rfl ?_
    obtain rfl := Option.some.inj hf
    exact ab_U.ret rfl rfl ⟨rfl, rfl⟩
  · rw [if_neg b1] at hf
    refine ab_U.run 2 (S' := (9, [some (.int x0)], [.int 57, .int x0], hp X G μ)) rfl ?_
    refine ab_U.ic_gt rfl (fun b2 => ?_) (fun b2 => ?_)
    · rw [if_pos b2] at hf
      refine ab_U.run 1 (S' := (17, [some (.int x0)], [.int 0], hp X G μ)) rfl ?_
      obtain rfl := Option.some.inj hf
      exact ab_U.ret rfl rfl ⟨rfl, rfl⟩
    · rw [if_neg b2] at hf
      refine ab_U.run 2 (S' := (17, [some (.int x0)], [.int 1], hp X G μ)) rfl ?_
      obtain rfl := Option.some.inj hf
      exact ab_U.ret rfl rfl ⟨rfl, rfl⟩
set_option maxRecDepth 20000 in
def f_X5_blame (F : Nat)  (x0 : Int32) (x1 : Int32) (μ : fm_M) : Option (Unit × fm_M) := (if ¬ (μ.1 123 2) = 0 then some ((), μ) else (Option.bind (some (fm_sI μ 123 2 x0)) (fun m2 => (Option.bind (some (fm_sI m2 123 3 x1)) (fun m4 => some ((), m4))))))
set_option maxRecDepth 20000 in
theorem t_X5_blame {X : Nat × (Nat → Int32)} {G : Nat → Nat → Option Nat} (hG : fm_Gok G) {F : Nat}   {x0 : Int32} {x1 : Int32} {μ : fm_M} {r : Unit × fm_M} (hf : f_X5_blame F x0 x1 μ = some r) : ab_F 1 26 [.ref 123, .int x0, .int x1] (hp X G μ) none (hp X G r.2) := by
  unfold f_X5_blame at hf
  refine ab_T.of (d := 0) rfl (Nat.le_of_ble_eq_true rfl) ?_
  show ab_U _ _ kX5_blame (0, [some (.ref 123), some (.int x0), some (.int x1)], [], hp X G μ) _
  refine ab_U.run 2 (S' := (4, [some (.ref 123), some (.int x0), some (.int x1)], [.int (μ.1 123 2)], hp X G μ)) rfl ?_
  refine ab_U.if_ne rfl (fun b1 => ?_) (fun b1 => ?_)
  · rw [if_pos b1] at hf
    obtain rfl := Option.some.inj hf
    exact ab_U.ret rfl rfl ⟨rfl, rfl⟩
  · rw [if_neg b1] at hf
    refine ab_U.run 2 (S' := (9, [some (.ref 123), some (.int x0), some (.int x1)], [.int x0, .ref 123], hp X G μ)) rfl ?_
    obtain ⟨m2, e3, hf⟩ := ab_bnd hf
    have e3 := Option.some.inj e3
    refine ab_U.pfI (ci := 5) (k9 := 2) rfl ⟨by decide, rfl⟩ ⟨rfl, rfl, by decide, rfl⟩ rfl ?_
    show ab_U _ _ _ (12, [some (.ref 123), some (.int x0), some (.int x1)], [], hp X G (fm_sI μ 123 2 x0)) _
    rw [e3]
    refine ab_U.run 2 (S' := (14, [some (.ref 123), some (.int x0), some (.int x1)], [.int x1, .ref 123], hp X G m2)) rfl ?_
    obtain ⟨m4, e5, hf⟩ := ab_bnd hf
    have e5 := Option.some.inj e5
    refine ab_U.pfI (ci := 5) (k9 := 3) rfl ⟨by decide, rfl⟩ ⟨rfl, rfl, by decide, rfl⟩ rfl ?_
    show ab_U _ _ _ (17, [some (.ref 123), some (.int x0), some (.int x1)], [], hp X G (fm_sI m2 123 3 x1)) _
    rw [e5]
    obtain rfl := Option.some.inj hf
    exact ab_U.ret rfl rfl ⟨rfl, rfl⟩
set_option maxRecDepth 20000 in
def b_X5_takeFigures_5 (F : Nat)  (gg : Nat → fm_M → Option (Unit × fm_M))  (μ : fm_M) : Option (Unit × fm_M) := (if (μ.1 123 1) ≤ (μ.1 123 4) then (if ((μ.1 123 4) - (μ.1 123 6)) ≤ 2 then some ((), μ) else (Option.bind (f_X5_blame F 1 (μ.1 123 6) μ) (fun q3 => some ((), q3.2)))) else (if ab_in (μ.1 123 4) 160 = true then (Option.bind (f_X5_isFigure F (μ.2.1 124 (μ.1 123 4).toNatClampNeg) μ) (fun q6 => (if q6.1 = 0 then (if ((q6.2.1 123 4) - (q6.2.1 123 6)) ≤ 2 then some ((), q6.2) else (Option.bind (f_X5_blame F 1 (q6.2.1 123 6) q6.2) (fun q10 => some ((), q10.2)))) else (if ab_in (q6.2.1 123 4) 160 = true then (Option.bind (some (fm_sI q6.2 123 7 (((q6.2.1 123 7) * 10) + ((q6.2.2.1 124 (q6.2.1 123 4).toNatClampNeg) - 48)))) (fun m13 => (Option.bind (some (fm_sI m13 123 4 ((m13.1 123 4) + 1))) (fun m15 => gg 5  m15)))) else none)))) else none))
def g_X5_takeFigures (F : Nat)  : Nat → Nat → fm_M → Option (Unit × fm_M)
  | 0, _, _ => none
  | n + 1, pc, μ => if pc = 5 then b_X5_takeFigures_5 F  (g_X5_takeFigures F  n)  μ else none
set_option maxRecDepth 20000 in
theorem t_X5_takeFigures_g {X : Nat × (Nat → Int32)} {G : Nat → Nat → Option Nat} (hG : fm_Gok G) {F : Nat}    : ∀ n : Nat, (∀  (μ : fm_M) (r : Unit × fm_M), g_X5_takeFigures F  n 5  μ = some r → ab_U 1 (none) kX5_takeFigures (5, [some (.ref 123)], [], hp X G μ) (fun r9 h9 => r9 = none ∧ h9 = hp X G r.2))
  | 0 => by
    intros
    rename_i h
    cases h
  | n + 1 => by
    have ih := t_X5_takeFigures_g (X := X) hG (F := F)   n
    · intro  μ r hf
      have hf : b_X5_takeFigures_5 F  (g_X5_takeFigures F  n)  μ = some r := hf
      unfold b_X5_takeFigures_5 at hf
      refine ab_U.run 4 (S' := (13, [some (.ref 123)], [.int (μ.1 123 1), .int (μ.1 123 4)], hp X G μ)) rfl ?_
      refine ab_U.ic_ge rfl (fun b1 => ?_) (fun b1 => ?_)
      · rw [if_pos b1] at hf
        refine ab_U.run 6 (S' := (78, [some (.ref 123)], [.int 2, .int ((μ.1 123 4) - (μ.1 123 6))], hp X G μ)) rfl ?_
        refine ab_U.ic_le rfl (fun b2 => ?_) (fun b2 => ?_)
        · rw [if_pos b2] at hf
          obtain rfl := Option.some.inj hf
          exact ab_U.ret rfl rfl ⟨rfl, rfl⟩
        · rw [if_neg b2] at hf
          refine ab_U.run 4 (S' := (87, [some (.ref 123)], [.int (μ.1 123 6), .int 1, .ref 123], hp X G μ)) rfl ?_
          obtain ⟨q3, h4, hf⟩ := ab_bnd hf
          refine ab_U.fn rfl rfl (t_X5_blame (X := X) hG h4) (by omega) ?_
          show ab_U _ _ _ (90, [some (.ref 123)], [], hp X G q3.2) _
          obtain rfl := Option.some.inj hf
          exact ab_U.ret rfl rfl ⟨rfl, rfl⟩
      · rw [if_neg b1] at hf
        refine ab_U.run 4 (S' := (24, [some (.ref 123)], [.int (μ.1 123 4), .ref 124], hp X G μ)) rfl ?_
        obtain ⟨c5, hf⟩ := ab_ifs hf
        refine ab_U.baldB (n := 160) rfl ⟨by decide, rfl⟩ c5 ?_
        show ab_U _ _ _ (25, [some (.ref 123)], [.int (μ.2.1 124 (μ.1 123 4).toNatClampNeg)], hp X G μ) _
        obtain ⟨q6, h7, hf⟩ := ab_bnd hf
        refine ab_U.fn rfl rfl (t_X5_isFigure (X := X) hG h7) (by omega) ?_
        show ab_U _ _ _ (28, [some (.ref 123)], [.int q6.1], hp X G q6.2) _
        refine ab_U.if_eq rfl (fun b8 => ?_) (fun b8 => ?_)
        · rw [if_pos b8] at hf
          refine ab_U.run 6 (S' := (78, [some (.ref 123)], [.int 2, .int ((q6.2.1 123 4) - (q6.2.1 123 6))], hp X G q6.2)) rfl ?_
          refine ab_U.ic_le rfl (fun b9 => ?_) (fun b9 => ?_)
          · rw [if_pos b9] at hf
            obtain rfl := Option.some.inj hf
            exact ab_U.ret rfl rfl ⟨rfl, rfl⟩
          · rw [if_neg b9] at hf
            refine ab_U.run 4 (S' := (87, [some (.ref 123)], [.int (q6.2.1 123 6), .int 1, .ref 123], hp X G q6.2)) rfl ?_
            obtain ⟨q10, h11, hf⟩ := ab_bnd hf
            refine ab_U.fn rfl rfl (t_X5_blame (X := X) hG h11) (by omega) ?_
            show ab_U _ _ _ (90, [some (.ref 123)], [], hp X G q10.2) _
            obtain rfl := Option.some.inj hf
            exact ab_U.ret rfl rfl ⟨rfl, rfl⟩
        · rw [if_neg b8] at hf
          refine ab_U.run 9 (S' := (47, [some (.ref 123)], [.int (q6.2.1 123 4), .ref 124, .int ((q6.2.1 123 7) * 10), .ref 123], hp X G q6.2)) rfl ?_
          obtain ⟨c12, hf⟩ := ab_ifs hf
          refine ab_U.baldB (n := 160) rfl ⟨by decide, rfl⟩ c12 ?_
          show ab_U _ _ _ (48, [some (.ref 123)], [.int (q6.2.2.1 124 (q6.2.1 123 4).toNatClampNeg), .int ((q6.2.1 123 7) * 10), .ref 123], hp X G q6.2) _
          refine ab_U.run 3 (S' := (52, [some (.ref 123)], [.int (((q6.2.1 123 7) * 10) + ((q6.2.2.1 124 (q6.2.1 123 4).toNatClampNeg) - 48)), .ref 123], hp X G q6.2)) rfl ?_
          obtain ⟨m13, e14, hf⟩ := ab_bnd hf
          have e14 := Option.some.inj e14
          refine ab_U.pfI (ci := 5) (k9 := 7) rfl ⟨by decide, rfl⟩ ⟨rfl, rfl, by decide, rfl⟩ rfl ?_
          show ab_U _ _ _ (55, [some (.ref 123)], [], hp X G (fm_sI q6.2 123 7 (((q6.2.1 123 7) * 10) + ((q6.2.2.1 124 (q6.2.1 123 4).toNatClampNeg) - 48)))) _
          rw [e14]
          refine ab_U.run 5 (S' := (62, [some (.ref 123)], [.int ((m13.1 123 4) + 1), .ref 123], hp X G m13)) rfl ?_
          obtain ⟨m15, e16, hf⟩ := ab_bnd hf
          have e16 := Option.some.inj e16
          refine ab_U.pfI (ci := 5) (k9 := 4) rfl ⟨by decide, rfl⟩ ⟨rfl, rfl, by decide, rfl⟩ rfl ?_
          show ab_U _ _ _ (65, [some (.ref 123)], [], hp X G (fm_sI m13 123 4 ((m13.1 123 4) + 1))) _
          rw [e16]
          refine ab_U.run 1 (S' := (5, [some (.ref 123)], [], hp X G m15)) rfl ?_
          exact ab_U.weak (ih  _ _ hf) (ab_leL.of ⟨rfl, trivial⟩)
set_option maxRecDepth 20000 in
def f_X5_takeFigures (F : Nat)   (μ : fm_M) : Option (Unit × fm_M) := (Option.bind (some (fm_sI μ 123 7 0)) (fun m17 => g_X5_takeFigures F  F 5  m17))
set_option maxRecDepth 20000 in
theorem t_X5_takeFigures {X : Nat × (Nat → Int32)} {G : Nat → Nat → Option Nat} (hG : fm_Gok G) {F : Nat}    {μ : fm_M} {r : Unit × fm_M} (hf : f_X5_takeFigures F  μ = some r) : ab_F 2 32 [.ref 123] (hp X G μ) none (hp X G r.2) := by
  unfold f_X5_takeFigures at hf
  refine ab_T.of (d := 1) rfl (Nat.le_of_ble_eq_true rfl) ?_
  show ab_U _ _ kX5_takeFigures (0, [some (.ref 123)], [], hp X G μ) _
  refine ab_U.run 2 (S' := (2, [some (.ref 123)], [.int 0, .ref 123], hp X G μ)) rfl ?_
  obtain ⟨m17, e18, hf⟩ := ab_bnd hf
  have e18 := Option.some.inj e18
  refine ab_U.pfI (ci := 5) (k9 := 7) rfl ⟨by decide, rfl⟩ ⟨rfl, rfl, by decide, rfl⟩ rfl ?_
  show ab_U _ _ _ (5, [some (.ref 123)], [], hp X G (fm_sI μ 123 7 0)) _
  rw [e18]
  exact ab_U.weak ((t_X5_takeFigures_g (X := X) hG   F)  _ _ hf) (ab_leL.of ⟨rfl, trivial⟩)
set_option maxRecDepth 20000 in
def f_X5_nextToken (F : Nat)   (μ : fm_M) : Option (Unit × fm_M) := (Option.bind (f_X5_skipBlanks F μ) (fun q1 => (Option.bind (some (fm_sI q1.2 123 6 (q1.2.1 123 4))) (fun m3 => (if (m3.1 123 4) < (m3.1 123 1) then (if ab_in (m3.1 123 4) 160 = true then (Option.bind (f_X5_isLetter F (m3.2.1 124 (m3.1 123 4).toNatClampNeg) m3) (fun q7 => (if q7.1 = 0 then (if ab_in (q7.2.1 123 4) 160 = true then (Option.bind (f_X5_isFigure F (q7.2.2.1 124 (q7.2.1 123 4).toNatClampNeg) q7.2) (fun q11 => (if q11.1 = 0 then (if ab_in (q11.2.1 123 4) 160 = true then (if ¬ (q11.2.2.1 124 (q11.2.1 123 4).toNatClampNeg) = 59 then (Option.bind (f_X5_blame F 1 (q11.2.1 123 6) q11.2) (fun q16 => some ((), q16.2))) else (Option.bind (some (fm_sI q11.2 123 5 3)) (fun m18 => (Option.bind (some (fm_sI m18 123 4 ((m18.1 123 4) + 1))) (fun m20 => some ((), m20)))))) else none) else (Option.bind (some (fm_sI q11.2 123 5 2)) (fun m22 => (Option.bind (f_X5_takeFigures F m22) (fun q24 => some ((), q24.2)))))))) else none) else (Option.bind (some (fm_sI q7.2 123 5 1)) (fun m26 => (Option.bind (f_X5_skipLetters F m26) (fun q28 => some ((), q28.2)))))))) else none) else (Option.bind (some (fm_sI m3 123 5 0)) (fun m30 => some ((), m30))))))))
set_option maxRecDepth 20000 in
theorem t_X5_nextToken {X : Nat × (Nat → Int32)} {G : Nat → Nat → Option Nat} (hG : fm_Gok G) {F : Nat}    {μ : fm_M} {r : Unit × fm_M} (hf : f_X5_nextToken F  μ = some r) : ab_F 3 27 [.ref 123] (hp X G μ) none (hp X G r.2) := by
  unfold f_X5_nextToken at hf
  refine ab_T.of (d := 2) rfl (Nat.le_of_ble_eq_true rfl) ?_
  show ab_U _ _ kX5_nextToken (0, [some (.ref 123)], [], hp X G μ) _
  refine ab_U.run 1 (S' := (1, [some (.ref 123)], [.ref 123], hp X G μ)) rfl ?_
  obtain ⟨q1, h2, hf⟩ := ab_bnd hf
  refine ab_U.fn rfl rfl (t_X5_skipBlanks (X := X) hG h2) (by omega) ?_
  show ab_U _ _ _ (4, [some (.ref 123)], [], hp X G q1.2) _
  refine ab_U.run 3 (S' := (9, [some (.ref 123)], [.int (q1.2.1 123 4), .ref 123], hp X G q1.2)) rfl ?_
  obtain ⟨m3, e4, hf⟩ := ab_bnd hf
  have e4 := Option.some.inj e4
  refine ab_U.pfI (ci := 5) (k9 := 6) rfl ⟨by decide, rfl⟩ ⟨rfl, rfl, by decide, rfl⟩ rfl ?_
  show ab_U _ _ _ (12, [some (.ref 123)], [], hp X G (fm_sI q1.2 123 6 (q1.2.1 123 4))) _
  rw [e4]
  refine ab_U.run 4 (S' := (20, [some (.ref 123)], [.int (m3.1 123 1), .int (m3.1 123 4)], hp X G m3)) rfl ?_
  refine ab_U.ic_lt rfl (fun b5 => ?_) (fun b5 => ?_)
  · rw [if_pos b5] at hf
    refine ab_U.run 4 (S' := (39, [some (.ref 123)], [.int (m3.1 123 4), .ref 124], hp X G m3)) rfl ?_
    obtain ⟨c6, hf⟩ := ab_ifs hf
    refine ab_U.baldB (n := 160) rfl ⟨by decide, rfl⟩ c6 ?_
    show ab_U _ _ _ (40, [some (.ref 123)], [.int (m3.2.1 124 (m3.1 123 4).toNatClampNeg)], hp X G m3) _
    obtain ⟨q7, h8, hf⟩ := ab_bnd hf
    refine ab_U.fn rfl rfl (t_X5_isLetter (X := X) hG h8) (by omega) ?_
    show ab_U _ _ _ (43, [some (.ref 123)], [.int q7.1], hp X G q7.2) _
    refine ab_U.if_eq rfl (fun b9 => ?_) (fun b9 => ?_)
    · rw [if_pos b9] at hf
      refine ab_U.run 4 (S' := (66, [some (.ref 123)], [.int (q7.2.1 123 4), .ref 124], hp X G q7.2)) rfl ?_
      obtain ⟨c10, hf⟩ := ab_ifs hf
      refine ab_U.baldB (n := 160) rfl ⟨by decide, rfl⟩ c10 ?_
      show ab_U _ _ _ (67, [some (.ref 123)], [.int (q7.2.2.1 124 (q7.2.1 123 4).toNatClampNeg)], hp X G q7.2) _
      obtain ⟨q11, h12, hf⟩ := ab_bnd hf
      refine ab_U.fn rfl rfl (t_X5_isFigure (X := X) hG h12) (by omega) ?_
      show ab_U _ _ _ (70, [some (.ref 123)], [.int q11.1], hp X G q11.2) _
      refine ab_U.if_eq rfl (fun b13 => ?_) (fun b13 => ?_)
      · rw [if_pos b13] at hf
        refine ab_U.run 4 (S' := (93, [some (.ref 123)], [.int (q11.2.1 123 4), .ref 124], hp X G q11.2)) rfl ?_
        obtain ⟨c14, hf⟩ := ab_ifs hf
        refine ab_U.baldB (n := 160) rfl ⟨by decide, rfl⟩ c14 ?_
        show ab_U _ _ _ (94, [some (.ref 123)], [.int (q11.2.2.1 124 (q11.2.1 123 4).toNatClampNeg)], hp X G q11.2) _
        refine ab_U.run 1 (S' := (96, [some (.ref 123)], [.int 59, .int (q11.2.2.1 124 (q11.2.1 123 4).toNatClampNeg)], hp X G q11.2)) rfl ?_
        refine ab_U.ic_ne rfl (fun b15 => ?_) (fun b15 => ?_)
        · rw [if_pos b15] at hf
          refine ab_U.run 4 (S' := (123, [some (.ref 123)], [.int (q11.2.1 123 6), .int 1, .ref 123], hp X G q11.2)) rfl ?_
          obtain ⟨q16, h17, hf⟩ := ab_bnd hf
          refine ab_U.fn rfl rfl (t_X5_blame (X := X) hG h17) (by omega) ?_
          show ab_U _ _ _ (126, [some (.ref 123)], [], hp X G q16.2) _
          obtain rfl := Option.some.inj hf
          exact ab_U.ret rfl rfl ⟨rfl, rfl⟩
        · rw [if_neg b15] at hf
          refine ab_U.run 2 (S' := (101, [some (.ref 123)], [.int 3, .ref 123], hp X G q11.2)) rfl ?_
          obtain ⟨m18, e19, hf⟩ := ab_bnd hf
          have e19 := Option.some.inj e19
          refine ab_U.pfI (ci := 5) (k9 := 5) rfl ⟨by decide, rfl⟩ ⟨rfl, rfl, by decide, rfl⟩ rfl ?_
          show ab_U _ _ _ (104, [some (.ref 123)], [], hp X G (fm_sI q11.2 123 5 3)) _
          rw [e19]
          refine ab_U.run 5 (S' := (111, [some (.ref 123)], [.int ((m18.1 123 4) + 1), .ref 123], hp X G m18)) rfl ?_
          obtain ⟨m20, e21, hf⟩ := ab_bnd hf
          have e21 := Option.some.inj e21
          refine ab_U.pfI (ci := 5) (k9 := 4) rfl ⟨by decide, rfl⟩ ⟨rfl, rfl, by decide, rfl⟩ rfl ?_
          show ab_U _ _ _ (114, [some (.ref 123)], [], hp X G (fm_sI m18 123 4 ((m18.1 123 4) + 1))) _
          rw [e21]
          refine ab_U.run 1 (S' := (126, [some (.ref 123)], [], hp X G m20)) rfl ?_
          obtain rfl := Option.some.inj hf
          exact ab_U.ret rfl rfl ⟨rfl, rfl⟩
      · rw [if_neg b13] at hf
        refine ab_U.run 2 (S' := (75, [some (.ref 123)], [.int 2, .ref 123], hp X G q11.2)) rfl ?_
        obtain ⟨m22, e23, hf⟩ := ab_bnd hf
        have e23 := Option.some.inj e23
        refine ab_U.pfI (ci := 5) (k9 := 5) rfl ⟨by decide, rfl⟩ ⟨rfl, rfl, by decide, rfl⟩ rfl ?_
        show ab_U _ _ _ (78, [some (.ref 123)], [], hp X G (fm_sI q11.2 123 5 2)) _
        rw [e23]
        refine ab_U.run 1 (S' := (79, [some (.ref 123)], [.ref 123], hp X G m22)) rfl ?_
        obtain ⟨q24, h25, hf⟩ := ab_bnd hf
        refine ab_U.fn rfl rfl (t_X5_takeFigures (X := X) hG h25) (by omega) ?_
        show ab_U _ _ _ (82, [some (.ref 123)], [], hp X G q24.2) _
        refine ab_U.run 1 (S' := (126, [some (.ref 123)], [], hp X G q24.2)) rfl ?_
        obtain rfl := Option.some.inj hf
        exact ab_U.ret rfl rfl ⟨rfl, rfl⟩
    · rw [if_neg b9] at hf
      refine ab_U.run 2 (S' := (48, [some (.ref 123)], [.int 1, .ref 123], hp X G q7.2)) rfl ?_
      obtain ⟨m26, e27, hf⟩ := ab_bnd hf
      have e27 := Option.some.inj e27
      refine ab_U.pfI (ci := 5) (k9 := 5) rfl ⟨by decide, rfl⟩ ⟨rfl, rfl, by decide, rfl⟩ rfl ?_
      show ab_U _ _ _ (51, [some (.ref 123)], [], hp X G (fm_sI q7.2 123 5 1)) _
      rw [e27]
      refine ab_U.run 1 (S' := (52, [some (.ref 123)], [.ref 123], hp X G m26)) rfl ?_
      obtain ⟨q28, h29, hf⟩ := ab_bnd hf
      refine ab_U.fn rfl rfl (t_X5_skipLetters (X := X) hG h29) (by omega) ?_
      show ab_U _ _ _ (55, [some (.ref 123)], [], hp X G q28.2) _
      refine ab_U.run 1 (S' := (126, [some (.ref 123)], [], hp X G q28.2)) rfl ?_
      obtain rfl := Option.some.inj hf
      exact ab_U.ret rfl rfl ⟨rfl, rfl⟩
  · rw [if_neg b5] at hf
    refine ab_U.run 2 (S' := (25, [some (.ref 123)], [.int 0, .ref 123], hp X G m3)) rfl ?_
    obtain ⟨m30, e31, hf⟩ := ab_bnd hf
    have e31 := Option.some.inj e31
    refine ab_U.pfI (ci := 5) (k9 := 5) rfl ⟨by decide, rfl⟩ ⟨rfl, rfl, by decide, rfl⟩ rfl ?_
    show ab_U _ _ _ (28, [some (.ref 123)], [], hp X G (fm_sI m3 123 5 0)) _
    rw [e31]
    refine ab_U.run 1 (S' := (126, [some (.ref 123)], [], hp X G m30)) rfl ?_
    obtain rfl := Option.some.inj hf
    exact ab_U.ret rfl rfl ⟨rfl, rfl⟩
set_option maxRecDepth 20000 in
def f_X5_refuse (F : Nat)  (x0 : Int32) (x1 : Int32) (μ : fm_M) : Option (Unit × fm_M) := (if x0 = 0 then some ((), μ) else (Option.bind (f_X5_blame F x1 (μ.1 123 6) μ) (fun q2 => some ((), q2.2))))
set_option maxRecDepth 20000 in
theorem t_X5_refuse {X : Nat × (Nat → Int32)} {G : Nat → Nat → Option Nat} (hG : fm_Gok G) {F : Nat}   {x0 : Int32} {x1 : Int32} {μ : fm_M} {r : Unit × fm_M} (hf : f_X5_refuse F x0 x1 μ = some r) : ab_F 2 36 [.ref 123, .int x0, .int x1] (hp X G μ) none (hp X G r.2) := by
  unfold f_X5_refuse at hf
  refine ab_T.of (d := 1) rfl (Nat.le_of_ble_eq_true rfl) ?_
  show ab_U _ _ kX5_refuse (0, [some (.ref 123), some (.int x0), some (.int x1)], [], hp X G μ) _
  refine ab_U.run 1 (S' := (1, [some (.ref 123), some (.int x0), some (.int x1)], [.int x0], hp X G μ)) rfl ?_
  refine ab_U.if_eq rfl (fun b1 => ?_) (fun b1 => ?_)
  · rw [if_pos b1] at hf
    obtain rfl := Option.some.inj hf
    exact ab_U.ret rfl rfl ⟨rfl, rfl⟩
  · rw [if_neg b1] at hf
    refine ab_U.run 4 (S' := (10, [some (.ref 123), some (.int x0), some (.int x1)], [.int (μ.1 123 6), .int x1, .ref 123], hp X G μ)) rfl ?_
    obtain ⟨q2, h3, hf⟩ := ab_bnd hf
    refine ab_U.fn rfl rfl (t_X5_blame (X := X) hG h3) (by omega) ?_
    show ab_U _ _ _ (13, [some (.ref 123), some (.int x0), some (.int x1)], [], hp X G q2.2) _
    obtain rfl := Option.some.inj hf
    exact ab_U.ret rfl rfl ⟨rfl, rfl⟩
set_option maxRecDepth 20000 in
def f_X8_isIn (F : Nat)  (x0 : Int32) (x1 : Int32) (x2 : Int32) (μ : fm_M) : Option (Int32 × fm_M) := (if x0 < x1 then some (0, μ) else (if x2 < x0 then some (0, μ) else some (1, μ)))
set_option maxRecDepth 20000 in
theorem t_X8_isIn {X : Nat × (Nat → Int32)} {G : Nat → Nat → Option Nat} (hG : fm_Gok G) {F : Nat}   {x0 : Int32} {x1 : Int32} {x2 : Int32} {μ : fm_M} {r : Int32 × fm_M} (hf : f_X8_isIn F x0 x1 x2 μ = some r) : ab_F 1 118 [.int x0, .int x1, .int x2] (hp X G μ) (some (.int r.1)) (hp X G r.2) := by
  unfold f_X8_isIn at hf
  refine ab_T.of (d := 0) rfl (Nat.le_of_ble_eq_true rfl) ?_
  show ab_U _ _ kX8_isIn (0, [some (.int x0), some (.int x1), some (.int x2)], [], hp X G μ) _
  refine ab_U.run 2 (S' := (2, [some (.int x0), some (.int x1), some (.int x2)], [.int x1, .int x0], hp X G μ)) rfl ?_
  refine ab_U.ic_lt rfl (fun b1 => ?_) (fun b1 => ?_)
  · rw [if_pos b1] at hf
    refine ab_U.run 1 (S' := (15, [some (.int x0), some (.int x1), some (.int x2)], [.int 0], hp X G μ)) rfl ?_
    obtain rfl := Option.some.inj hf
    exact ab_U.ret rfl rfl ⟨rfl, rfl⟩
  · rw [if_neg b1] at hf
    refine ab_U.run 2 (S' := (7, [some (.int x0), some (.int x1), some (.int x2)], [.int x2, .int x0], hp X G μ)) rfl ?_
    refine ab_U.ic_gt rfl (fun b2 => ?_) (fun b2 => ?_)
    · rw [if_pos b2] at hf
      refine ab_U.run 1 (S' := (15, [some (.int x0), some (.int x1), some (.int x2)], [.int 0], hp X G μ)) rfl ?_
      obtain rfl := Option.some.inj hf
      exact ab_U.ret rfl rfl ⟨rfl, rfl⟩
    · rw [if_neg b2] at hf
      refine ab_U.run 2 (S' := (15, [some (.int x0), some (.int x1), some (.int x2)], [.int 1], hp X G μ)) rfl ?_
      obtain rfl := Option.some.inj hf
      exact ab_U.ret rfl rfl ⟨rfl, rfl⟩
set_option maxRecDepth 20000 in
def f_X5_readNumber (F : Nat)  (x0 : Int32) (x1 : Int32) (μ : fm_M) : Option (Int32 × fm_M) := (if ¬ (μ.1 123 2) = 0 then (if ¬ (μ.1 123 2) = 0 then some (x0, μ) else some ((μ.1 123 7), μ)) else (Option.bind (f_X5_nextToken F μ) (fun q3 => (if (q3.2.1 123 5) = 2 then (Option.bind (f_X5_refuse F 0 2 q3.2) (fun q6 => (Option.bind (f_X8_isIn F (q6.2.1 123 7) x0 x1 q6.2) (fun q8 => (if ¬ q8.1 = 0 then (Option.bind (f_X5_refuse F 0 3 q8.2) (fun q11 => (if ¬ (q11.2.1 123 2) = 0 then some (x0, q11.2) else some ((q11.2.1 123 7), q11.2)))) else (Option.bind (f_X5_refuse F 1 3 q8.2) (fun q14 => (if ¬ (q14.2.1 123 2) = 0 then some (x0, q14.2) else some ((q14.2.1 123 7), q14.2))))))))) else (Option.bind (f_X5_refuse F 1 2 q3.2) (fun q17 => (Option.bind (f_X8_isIn F (q17.2.1 123 7) x0 x1 q17.2) (fun q19 => (if ¬ q19.1 = 0 then (Option.bind (f_X5_refuse F 0 3 q19.2) (fun q22 => (if ¬ (q22.2.1 123 2) = 0 then some (x0, q22.2) else some ((q22.2.1 123 7), q22.2)))) else (Option.bind (f_X5_refuse F 1 3 q19.2) (fun q25 => (if ¬ (q25.2.1 123 2) = 0 then some (x0, q25.2) else some ((q25.2.1 123 7), q25.2)))))))))))))
set_option maxRecDepth 20000 in
theorem t_X5_readNumber {X : Nat × (Nat → Int32)} {G : Nat → Nat → Option Nat} (hG : fm_Gok G) {F : Nat}   {x0 : Int32} {x1 : Int32} {μ : fm_M} {r : Int32 × fm_M} (hf : f_X5_readNumber F x0 x1 μ = some r) : ab_F 4 37 [.ref 123, .int x0, .int x1] (hp X G μ) (some (.int r.1)) (hp X G r.2) := by
  unfold f_X5_readNumber at hf
  refine ab_T.of (d := 3) rfl (Nat.le_of_ble_eq_true rfl) ?_
  show ab_U _ _ kX5_readNumber (0, [some (.ref 123), some (.int x0), some (.int x1)], [], hp X G μ) _
  refine ab_U.run 2 (S' := (4, [some (.ref 123), some (.int x0), some (.int x1)], [.int (μ.1 123 2)], hp X G μ)) rfl ?_
  refine ab_U.if_ne rfl (fun b1 => ?_) (fun b1 => ?_)
  · rw [if_pos b1] at hf
    refine ab_U.run 2 (S' := (55, [some (.ref 123), some (.int x0), some (.int x1)], [.int (μ.1 123 2)], hp X G μ)) rfl ?_
    refine ab_U.if_ne rfl (fun b2 => ?_) (fun b2 => ?_)
    · rw [if_pos b2] at hf
      refine ab_U.run 1 (S' := (66, [some (.ref 123), some (.int x0), some (.int x1)], [.int x0], hp X G μ)) rfl ?_
      obtain rfl := Option.some.inj hf
      exact ab_U.ret rfl rfl ⟨rfl, rfl⟩
    · rw [if_neg b2] at hf
      refine ab_U.run 3 (S' := (66, [some (.ref 123), some (.int x0), some (.int x1)], [.int (μ.1 123 7)], hp X G μ)) rfl ?_
      obtain rfl := Option.some.inj hf
      exact ab_U.ret rfl rfl ⟨rfl, rfl⟩
  · rw [if_neg b1] at hf
    refine ab_U.run 1 (S' := (8, [some (.ref 123), some (.int x0), some (.int x1)], [.ref 123], hp X G μ)) rfl ?_
    obtain ⟨q3, h4, hf⟩ := ab_bnd hf
    refine ab_U.fn rfl rfl (t_X5_nextToken (X := X) hG h4) (by omega) ?_
    show ab_U _ _ _ (11, [some (.ref 123), some (.int x0), some (.int x1)], [], hp X G q3.2) _
    refine ab_U.run 4 (S' := (17, [some (.ref 123), some (.int x0), some (.int x1)], [.int 2, .int (q3.2.1 123 5), .ref 123], hp X G q3.2)) rfl ?_
    refine ab_U.ic_eq rfl (fun b5 => ?_) (fun b5 => ?_)
    · rw [if_pos b5] at hf
      refine ab_U.run 2 (S' := (26, [some (.ref 123), some (.int x0), some (.int x1)], [.int 2, .int 0, .ref 123], hp X G q3.2)) rfl ?_
      obtain ⟨q6, h7, hf⟩ := ab_bnd hf
      refine ab_U.fn rfl rfl (t_X5_refuse (X := X) hG h7) (by omega) ?_
      show ab_U _ _ _ (29, [some (.ref 123), some (.int x0), some (.int x1)], [], hp X G q6.2) _
      refine ab_U.run 5 (S' := (36, [some (.ref 123), some (.int x0), some (.int x1)], [.int x1, .int x0, .int (q6.2.1 123 7), .ref 123], hp X G q6.2)) rfl ?_
      obtain ⟨q8, h9, hf⟩ := ab_bnd hf
      refine ab_U.fn rfl rfl (t_X8_isIn (X := X) hG h9) (by omega) ?_
      show ab_U _ _ _ (39, [some (.ref 123), some (.int x0), some (.int x1)], [.int q8.1, .ref 123], hp X G q8.2) _
      refine ab_U.if_ne rfl (fun b10 => ?_) (fun b10 => ?_)
      · rw [if_pos b10] at hf
        refine ab_U.run 2 (S' := (48, [some (.ref 123), some (.int x0), some (.int x1)], [.int 3, .int 0, .ref 123], hp X G q8.2)) rfl ?_
        obtain ⟨q11, h12, hf⟩ := ab_bnd hf
        refine ab_U.fn rfl rfl (t_X5_refuse (X := X) hG h12) (by omega) ?_
        show ab_U _ _ _ (51, [some (.ref 123), some (.int x0), some (.int x1)], [], hp X G q11.2) _
        refine ab_U.run 2 (S' := (55, [some (.ref 123), some (.int x0), some (.int x1)], [.int (q11.2.1 123 2)], hp X G q11.2)) rfl ?_
        refine ab_U.if_ne rfl (fun b13 => ?_) (fun b13 => ?_)
        · rw [if_pos b13] at hf
          refine ab_U.run 1 (S' := (66, [some (.ref 123), some (.int x0), some (.int x1)], [.int x0], hp X G q11.2)) rfl ?_
          obtain rfl := Option.some.inj hf
          exact ab_U.ret rfl rfl ⟨rfl, rfl⟩
        · rw [if_neg b13] at hf
          refine ab_U.run 3 (S' := (66, [some (.ref 123), some (.int x0), some (.int x1)], [.int (q11.2.1 123 7)], hp X G q11.2)) rfl ?_
          obtain rfl := Option.some.inj hf
          exact ab_U.ret rfl rfl ⟨rfl, rfl⟩
      · rw [if_neg b10] at hf
        refine ab_U.run 3 (S' := (48, [some (.ref 123), some (.int x0), some (.int x1)], [.int 3, .int 1, .ref 123], hp X G q8.2)) rfl ?_
        obtain ⟨q14, h15, hf⟩ := ab_bnd hf
        refine ab_U.fn rfl rfl (t_X5_refuse (X := X) hG h15) (by omega) ?_
        show ab_U _ _ _ (51, [some (.ref 123), some (.int x0), some (.int x1)], [], hp X G q14.2) _
        refine ab_U.run 2 (S' := (55, [some (.ref 123), some (.int x0), some (.int x1)], [.int (q14.2.1 123 2)], hp X G q14.2)) rfl ?_
        refine ab_U.if_ne rfl (fun b16 => ?_) (fun b16 => ?_)
        · rw [if_pos b16] at hf
          refine ab_U.run 1 (S' := (66, [some (.ref 123), some (.int x0), some (.int x1)], [.int x0], hp X G q14.2)) rfl ?_
          obtain rfl := Option.some.inj hf
          exact ab_U.ret rfl rfl ⟨rfl, rfl⟩
        · rw [if_neg b16] at hf
          refine ab_U.run 3 (S' := (66, [some (.ref 123), some (.int x0), some (.int x1)], [.int (q14.2.1 123 7)], hp X G q14.2)) rfl ?_
          obtain rfl := Option.some.inj hf
          exact ab_U.ret rfl rfl ⟨rfl, rfl⟩
    · rw [if_neg b5] at hf
      refine ab_U.run 3 (S' := (26, [some (.ref 123), some (.int x0), some (.int x1)], [.int 2, .int 1, .ref 123], hp X G q3.2)) rfl ?_
      obtain ⟨q17, h18, hf⟩ := ab_bnd hf
      refine ab_U.fn rfl rfl (t_X5_refuse (X := X) hG h18) (by omega) ?_
      show ab_U _ _ _ (29, [some (.ref 123), some (.int x0), some (.int x1)], [], hp X G q17.2) _
      refine ab_U.run 5 (S' := (36, [some (.ref 123), some (.int x0), some (.int x1)], [.int x1, .int x0, .int (q17.2.1 123 7), .ref 123], hp X G q17.2)) rfl ?_
      obtain ⟨q19, h20, hf⟩ := ab_bnd hf
      refine ab_U.fn rfl rfl (t_X8_isIn (X := X) hG h20) (by omega) ?_
      show ab_U _ _ _ (39, [some (.ref 123), some (.int x0), some (.int x1)], [.int q19.1, .ref 123], hp X G q19.2) _
      refine ab_U.if_ne rfl (fun b21 => ?_) (fun b21 => ?_)
      · rw [if_pos b21] at hf
        refine ab_U.run 2 (S' := (48, [some (.ref 123), some (.int x0), some (.int x1)], [.int 3, .int 0, .ref 123], hp X G q19.2)) rfl ?_
        obtain ⟨q22, h23, hf⟩ := ab_bnd hf
        refine ab_U.fn rfl rfl (t_X5_refuse (X := X) hG h23) (by omega) ?_
        show ab_U _ _ _ (51, [some (.ref 123), some (.int x0), some (.int x1)], [], hp X G q22.2) _
        refine ab_U.run 2 (S' := (55, [some (.ref 123), some (.int x0), some (.int x1)], [.int (q22.2.1 123 2)], hp X G q22.2)) rfl ?_
        refine ab_U.if_ne rfl (fun b24 => ?_) (fun b24 => ?_)
        · rw [if_pos b24] at hf
          refine ab_U.run 1 (S' := (66, [some (.ref 123), some (.int x0), some (.int x1)], [.int x0], hp X G q22.2)) rfl ?_
          obtain rfl := Option.some.inj hf
          exact ab_U.ret rfl rfl ⟨rfl, rfl⟩
        · rw [if_neg b24] at hf
          refine ab_U.run 3 (S' := (66, [some (.ref 123), some (.int x0), some (.int x1)], [.int (q22.2.1 123 7)], hp X G q22.2)) rfl ?_
          obtain rfl := Option.some.inj hf
          exact ab_U.ret rfl rfl ⟨rfl, rfl⟩
      · rw [if_neg b21] at hf
        refine ab_U.run 3 (S' := (48, [some (.ref 123), some (.int x0), some (.int x1)], [.int 3, .int 1, .ref 123], hp X G q19.2)) rfl ?_
        obtain ⟨q25, h26, hf⟩ := ab_bnd hf
        refine ab_U.fn rfl rfl (t_X5_refuse (X := X) hG h26) (by omega) ?_
        show ab_U _ _ _ (51, [some (.ref 123), some (.int x0), some (.int x1)], [], hp X G q25.2) _
        refine ab_U.run 2 (S' := (55, [some (.ref 123), some (.int x0), some (.int x1)], [.int (q25.2.1 123 2)], hp X G q25.2)) rfl ?_
        refine ab_U.if_ne rfl (fun b27 => ?_) (fun b27 => ?_)
        · rw [if_pos b27] at hf
          refine ab_U.run 1 (S' := (66, [some (.ref 123), some (.int x0), some (.int x1)], [.int x0], hp X G q25.2)) rfl ?_
          obtain rfl := Option.some.inj hf
          exact ab_U.ret rfl rfl ⟨rfl, rfl⟩
        · rw [if_neg b27] at hf
          refine ab_U.run 3 (S' := (66, [some (.ref 123), some (.int x0), some (.int x1)], [.int (q25.2.1 123 7)], hp X G q25.2)) rfl ?_
          obtain rfl := Option.some.inj hf
          exact ab_U.ret rfl rfl ⟨rfl, rfl⟩
set_option maxRecDepth 20000 in
def f_X5_readSemicolon (F : Nat)   (μ : fm_M) : Option (Int32 × fm_M) := (if ¬ (μ.1 123 2) = 0 then (if ¬ (μ.1 123 2) = 0 then some (0, μ) else some (1, μ)) else (Option.bind (f_X5_nextToken F μ) (fun q3 => (if (q3.2.1 123 5) = 3 then (Option.bind (f_X5_refuse F 0 2 q3.2) (fun q6 => (if ¬ (q6.2.1 123 2) = 0 then some (0, q6.2) else some (1, q6.2)))) else (Option.bind (f_X5_refuse F 1 2 q3.2) (fun q9 => (if ¬ (q9.2.1 123 2) = 0 then some (0, q9.2) else some (1, q9.2))))))))
set_option maxRecDepth 20000 in
theorem t_X5_readSemicolon {X : Nat × (Nat → Int32)} {G : Nat → Nat → Option Nat} (hG : fm_Gok G) {F : Nat}    {μ : fm_M} {r : Int32 × fm_M} (hf : f_X5_readSemicolon F  μ = some r) : ab_F 4 38 [.ref 123] (hp X G μ) (some (.int r.1)) (hp X G r.2) := by
  unfold f_X5_readSemicolon at hf
  refine ab_T.of (d := 3) rfl (Nat.le_of_ble_eq_true rfl) ?_
  show ab_U _ _ kX5_readSemicolon (0, [some (.ref 123)], [], hp X G μ) _
  refine ab_U.run 2 (S' := (4, [some (.ref 123)], [.int (μ.1 123 2)], hp X G μ)) rfl ?_
  refine ab_U.if_ne rfl (fun b1 => ?_) (fun b1 => ?_)
  · rw [if_pos b1] at hf
    refine ab_U.run 2 (S' := (33, [some (.ref 123)], [.int (μ.1 123 2)], hp X G μ)) rfl ?_
    refine ab_U.if_ne rfl (fun b2 => ?_) (fun b2 => ?_)
    · rw [if_pos b2] at hf
      refine ab_U.run 1 (S' := (41, [some (.ref 123)], [.int 0], hp X G μ)) rfl ?_
      obtain rfl := Option.some.inj hf
      exact ab_U.ret rfl rfl ⟨rfl, rfl⟩
    · rw [if_neg b2] at hf
      refine ab_U.run 2 (S' := (41, [some (.ref 123)], [.int 1], hp X G μ)) rfl ?_
      obtain rfl := Option.some.inj hf
      exact ab_U.ret rfl rfl ⟨rfl, rfl⟩
  · rw [if_neg b1] at hf
    refine ab_U.run 1 (S' := (8, [some (.ref 123)], [.ref 123], hp X G μ)) rfl ?_
    obtain ⟨q3, h4, hf⟩ := ab_bnd hf
    refine ab_U.fn rfl rfl (t_X5_nextToken (X := X) hG h4) (by omega) ?_
    show ab_U _ _ _ (11, [some (.ref 123)], [], hp X G q3.2) _
    refine ab_U.run 4 (S' := (17, [some (.ref 123)], [.int 3, .int (q3.2.1 123 5), .ref 123], hp X G q3.2)) rfl ?_
    refine ab_U.ic_eq rfl (fun b5 => ?_) (fun b5 => ?_)
    · rw [if_pos b5] at hf
      refine ab_U.run 2 (S' := (26, [some (.ref 123)], [.int 2, .int 0, .ref 123], hp X G q3.2)) rfl ?_
      obtain ⟨q6, h7, hf⟩ := ab_bnd hf
      refine ab_U.fn rfl rfl (t_X5_refuse (X := X) hG h7) (by omega) ?_
      show ab_U _ _ _ (29, [some (.ref 123)], [], hp X G q6.2) _
      refine ab_U.run 2 (S' := (33, [some (.ref 123)], [.int (q6.2.1 123 2)], hp X G q6.2)) rfl ?_
      refine ab_U.if_ne rfl (fun b8 => ?_) (fun b8 => ?_)
      · rw [if_pos b8] at hf
        refine ab_U.run 1 (S' := (41, [some (.ref 123)], [.int 0], hp X G q6.2)) rfl ?_
        obtain rfl := Option.some.inj hf
        exact ab_U.ret rfl rfl ⟨rfl, rfl⟩
      · rw [if_neg b8] at hf
        refine ab_U.run 2 (S' := (41, [some (.ref 123)], [.int 1], hp X G q6.2)) rfl ?_
        obtain rfl := Option.some.inj hf
        exact ab_U.ret rfl rfl ⟨rfl, rfl⟩
    · rw [if_neg b5] at hf
      refine ab_U.run 3 (S' := (26, [some (.ref 123)], [.int 2, .int 1, .ref 123], hp X G q3.2)) rfl ?_
      obtain ⟨q9, h10, hf⟩ := ab_bnd hf
      refine ab_U.fn rfl rfl (t_X5_refuse (X := X) hG h10) (by omega) ?_
      show ab_U _ _ _ (29, [some (.ref 123)], [], hp X G q9.2) _
      refine ab_U.run 2 (S' := (33, [some (.ref 123)], [.int (q9.2.1 123 2)], hp X G q9.2)) rfl ?_
      refine ab_U.if_ne rfl (fun b11 => ?_) (fun b11 => ?_)
      · rw [if_pos b11] at hf
        refine ab_U.run 1 (S' := (41, [some (.ref 123)], [.int 0], hp X G q9.2)) rfl ?_
        obtain rfl := Option.some.inj hf
        exact ab_U.ret rfl rfl ⟨rfl, rfl⟩
      · rw [if_neg b11] at hf
        refine ab_U.run 2 (S' := (41, [some (.ref 123)], [.int 1], hp X G q9.2)) rfl ?_
        obtain rfl := Option.some.inj hf
        exact ab_U.ret rfl rfl ⟨rfl, rfl⟩
set_option maxRecDepth 20000 in
def f_X7_addOne (F : Nat) (w : Nat) (x0 : Int32) (x1 : Int32) (μ : fm_M) : Option (Unit × fm_M) := (if 4 ≤ (μ.1 w 0) then some ((), μ) else (if ab_in (μ.1 w 0) 4 = true then (Option.bind (some (fm_sA μ ((w + 1)) (upd (μ.2.1 ((w + 1))) (μ.1 w 0).toNatClampNeg x0))) (fun m3 => (if ab_in (m3.1 w 0) 4 = true then (Option.bind (some (fm_sA m3 ((w + 2)) (upd (m3.2.1 ((w + 2))) (m3.1 w 0).toNatClampNeg x1))) (fun m6 => (Option.bind (some (fm_sI m6 w 0 ((m6.1 w 0) + 1))) (fun m8 => some ((), m8))))) else none))) else none))
set_option maxRecDepth 20000 in
theorem t_X7_addOne {X : Nat × (Nat → Int32)} {G : Nat → Nat → Option Nat} (hG : fm_Gok G) {F : Nat} {w : Nat} (hw : fm_isW w = true) {x0 : Int32} {x1 : Int32} {μ : fm_M} {r : Unit × fm_M} (hf : f_X7_addOne F w x0 x1 μ = some r) : ab_F 1 58 [.ref w, .int x0, .int x1] (hp X G μ) none (hp X G r.2) := by
  unfold f_X7_addOne at hf
  refine ab_T.of (d := 0) rfl (Nat.le_of_ble_eq_true rfl) ?_
  show ab_U _ _ kX7_addOne (0, [some (.ref w), some (.int x0), some (.int x1)], [], hp X G μ) _
  refine ab_U.run 1 (S' := (1, [some (.ref w), some (.int x0), some (.int x1)], [.ref w], hp X G μ)) rfl ?_
  refine ab_U.gfI (ci := 7) (k9 := 0) rfl (fm_WO hw) ⟨rfl, rfl, by decide, rfl⟩ ?_
  show ab_U _ _ _ (4, [some (.ref w), some (.int x0), some (.int x1)], [.int (μ.1 w 0)], hp X G μ) _
  refine ab_U.run 1 (S' := (5, [some (.ref w), some (.int x0), some (.int x1)], [.int 4, .int (μ.1 w 0)], hp X G μ)) rfl ?_
  refine ab_U.ic_ge rfl (fun b1 => ?_) (fun b1 => ?_)
  · rw [if_pos b1] at hf
    obtain rfl := Option.some.inj hf
    exact ab_U.ret rfl rfl ⟨rfl, rfl⟩
  · rw [if_neg b1] at hf
    refine ab_U.run 1 (S' := (9, [some (.ref w), some (.int x0), some (.int x1)], [.ref w], hp X G μ)) rfl ?_
    refine ab_U.gfW (k9 := 1) rfl hw ⟨rfl, rfl, by decide, rfl⟩ ?_
    show ab_U _ _ _ (12, [some (.ref w), some (.int x0), some (.int x1)], [.ref (w + 1)], hp X G μ) _
    refine ab_U.run 1 (S' := (13, [some (.ref w), some (.int x0), some (.int x1)], [.ref w, .ref (w + 1)], hp X G μ)) rfl ?_
    refine ab_U.gfI (ci := 7) (k9 := 0) rfl (fm_WO hw) ⟨rfl, rfl, by decide, rfl⟩ ?_
    show ab_U _ _ _ (16, [some (.ref w), some (.int x0), some (.int x1)], [.int (μ.1 w 0), .ref (w + 1)], hp X G μ) _
    refine ab_U.run 1 (S' := (17, [some (.ref w), some (.int x0), some (.int x1)], [.int x0, .int (μ.1 w 0), .ref (w + 1)], hp X G μ)) rfl ?_
    obtain ⟨c2, hf⟩ := ab_ifs hf
    obtain ⟨m3, e4, hf⟩ := ab_bnd hf
    have e4 := Option.some.inj e4
    refine ab_U.iast (n := 4) rfl (fm_WA hw).1 c2 ?_
    show ab_U _ _ _ (18, [some (.ref w), some (.int x0), some (.int x1)], [], hp X G (fm_sA μ ((w + 1)) (upd (μ.2.1 ((w + 1))) (μ.1 w 0).toNatClampNeg x0))) _
    rw [e4]
    refine ab_U.run 1 (S' := (19, [some (.ref w), some (.int x0), some (.int x1)], [.ref w], hp X G m3)) rfl ?_
    refine ab_U.gfW (k9 := 2) rfl hw ⟨rfl, rfl, by decide, rfl⟩ ?_
    show ab_U _ _ _ (22, [some (.ref w), some (.int x0), some (.int x1)], [.ref (w + 2)], hp X G m3) _
    refine ab_U.run 1 (S' := (23, [some (.ref w), some (.int x0), some (.int x1)], [.ref w, .ref (w + 2)], hp X G m3)) rfl ?_
    refine ab_U.gfI (ci := 7) (k9 := 0) rfl (fm_WO hw) ⟨rfl, rfl, by decide, rfl⟩ ?_
    show ab_U _ _ _ (26, [some (.ref w), some (.int x0), some (.int x1)], [.int (m3.1 w 0), .ref (w + 2)], hp X G m3) _
    refine ab_U.run 1 (S' := (27, [some (.ref w), some (.int x0), some (.int x1)], [.int x1, .int (m3.1 w 0), .ref (w + 2)], hp X G m3)) rfl ?_
    obtain ⟨c5, hf⟩ := ab_ifs hf
    obtain ⟨m6, e7, hf⟩ := ab_bnd hf
    have e7 := Option.some.inj e7
    refine ab_U.iast (n := 4) rfl (fm_WA hw).2.1 c5 ?_
    show ab_U _ _ _ (28, [some (.ref w), some (.int x0), some (.int x1)], [], hp X G (fm_sA m3 ((w + 2)) (upd (m3.2.1 ((w + 2))) (m3.1 w 0).toNatClampNeg x1))) _
    rw [e7]
    refine ab_U.run 2 (S' := (30, [some (.ref w), some (.int x0), some (.int x1)], [.ref w, .ref w], hp X G m6)) rfl ?_
    refine ab_U.gfI (ci := 7) (k9 := 0) rfl (fm_WO hw) ⟨rfl, rfl, by decide, rfl⟩ ?_
    show ab_U _ _ _ (33, [some (.ref w), some (.int x0), some (.int x1)], [.int (m6.1 w 0), .ref w], hp X G m6) _
    refine ab_U.run 2 (S' := (35, [some (.ref w), some (.int x0), some (.int x1)], [.int ((m6.1 w 0) + 1), .ref w], hp X G m6)) rfl ?_
    obtain ⟨m8, e9, hf⟩ := ab_bnd hf
    have e9 := Option.some.inj e9
    refine ab_U.pfI (ci := 7) (k9 := 0) rfl (fm_WO hw) ⟨rfl, rfl, by decide, rfl⟩ rfl ?_
    show ab_U _ _ _ (38, [some (.ref w), some (.int x0), some (.int x1)], [], hp X G (fm_sI m6 w 0 ((m6.1 w 0) + 1))) _
    rw [e9]
    obtain rfl := Option.some.inj hf
    exact ab_U.ret rfl rfl ⟨rfl, rfl⟩
set_option maxRecDepth 20000 in
def f_X5_readMan (F : Nat)   (μ : fm_M) : Option (Unit × fm_M) := (if (μ.1 111 0) < 4 then (Option.bind (f_X5_refuse F 0 5 μ) (fun q2 => (Option.bind (f_X5_readNumber F 0 5 q2.2) (fun q4 => (Option.bind (f_X5_readNumber F 0 9 q4.2) (fun q6 => (Option.bind (f_X5_readSemicolon F q6.2) (fun q8 => (if q8.1 = 0 then some ((), q8.2) else (Option.bind (f_X7_addOne F 111 q4.1 q6.1 q8.2) (fun q11 => some ((), q11.2)))))))))))) else (Option.bind (f_X5_refuse F 1 5 μ) (fun q13 => (Option.bind (f_X5_readNumber F 0 5 q13.2) (fun q15 => (Option.bind (f_X5_readNumber F 0 9 q15.2) (fun q17 => (Option.bind (f_X5_readSemicolon F q17.2) (fun q19 => (if q19.1 = 0 then some ((), q19.2) else (Option.bind (f_X7_addOne F 111 q15.1 q17.1 q19.2) (fun q22 => some ((), q22.2)))))))))))))
set_option maxRecDepth 20000 in
theorem t_X5_readMan {X : Nat × (Nat → Int32)} {G : Nat → Nat → Option Nat} (hG : fm_Gok G) {F : Nat}    {μ : fm_M} {r : Unit × fm_M} (hf : f_X5_readMan F  μ = some r) : ab_F 5 39 [.ref 123, .ref 111] (hp X G μ) none (hp X G r.2) := by
  unfold f_X5_readMan at hf
  refine ab_T.of (d := 4) rfl (Nat.le_of_ble_eq_true rfl) ?_
  show ab_U _ _ kX5_readMan (0, [some (.ref 123), some (.ref 111), none, none], [], hp X G μ) _
  refine ab_U.run 4 (S' := (6, [some (.ref 123), some (.ref 111), none, none], [.int 4, .int (μ.1 111 0), .ref 123], hp X G μ)) rfl ?_
  refine ab_U.ic_lt rfl (fun b1 => ?_) (fun b1 => ?_)
  · rw [if_pos b1] at hf
    refine ab_U.run 2 (S' := (15, [some (.ref 123), some (.ref 111), none, none], [.int 5, .int 0, .ref 123], hp X G μ)) rfl ?_
    obtain ⟨q2, h3, hf⟩ := ab_bnd hf
    refine ab_U.fn rfl rfl (t_X5_refuse (X := X) hG h3) (by omega) ?_
    show ab_U _ _ _ (18, [some (.ref 123), some (.ref 111), none, none], [], hp X G q2.2) _
    refine ab_U.run 3 (S' := (21, [some (.ref 123), some (.ref 111), none, none], [.int 5, .int 0, .ref 123], hp X G q2.2)) rfl ?_
    obtain ⟨q4, h5, hf⟩ := ab_bnd hf
    refine ab_U.fn rfl rfl (t_X5_readNumber (X := X) hG h5) (by omega) ?_
    show ab_U _ _ _ (24, [some (.ref 123), some (.ref 111), none, none], [.int q4.1], hp X G q4.2) _
    refine ab_U.run 4 (S' := (29, [some (.ref 123), some (.ref 111), some (.int q4.1), none], [.int 9, .int 0, .ref 123], hp X G q4.2)) rfl ?_
    obtain ⟨q6, h7, hf⟩ := ab_bnd hf
    refine ab_U.fn rfl rfl (t_X5_readNumber (X := X) hG h7) (by omega) ?_
    show ab_U _ _ _ (32, [some (.ref 123), some (.ref 111), some (.int q4.1), none], [.int q6.1], hp X G q6.2) _
    refine ab_U.run 2 (S' := (34, [some (.ref 123), some (.ref 111), some (.int q4.1), some (.int q6.1)], [.ref 123], hp X G q6.2)) rfl ?_
    obtain ⟨q8, h9, hf⟩ := ab_bnd hf
    refine ab_U.fn rfl rfl (t_X5_readSemicolon (X := X) hG h9) (by omega) ?_
    show ab_U _ _ _ (37, [some (.ref 123), some (.ref 111), some (.int q4.1), some (.int q6.1)], [.int q8.1], hp X G q8.2) _
    refine ab_U.if_eq rfl (fun b10 => ?_) (fun b10 => ?_)
    · rw [if_pos b10] at hf
      obtain rfl := Option.some.inj hf
      exact ab_U.ret rfl rfl ⟨rfl, rfl⟩
    · rw [if_neg b10] at hf
      refine ab_U.run 3 (S' := (43, [some (.ref 123), some (.ref 111), some (.int q4.1), some (.int q6.1)], [.int q6.1, .int q4.1, .ref 111], hp X G q8.2)) rfl ?_
      obtain ⟨q11, h12, hf⟩ := ab_bnd hf
      refine ab_U.fn rfl rfl (t_X7_addOne (X := X) hG (by decide) h12) (by omega) ?_
      show ab_U _ _ _ (46, [some (.ref 123), some (.ref 111), some (.int q4.1), some (.int q6.1)], [], hp X G q11.2) _
      obtain rfl := Option.some.inj hf
      exact ab_U.ret rfl rfl ⟨rfl, rfl⟩
  · rw [if_neg b1] at hf
    refine ab_U.run 3 (S' := (15, [some (.ref 123), some (.ref 111), none, none], [.int 5, .int 1, .ref 123], hp X G μ)) rfl ?_
    obtain ⟨q13, h14, hf⟩ := ab_bnd hf
    refine ab_U.fn rfl rfl (t_X5_refuse (X := X) hG h14) (by omega) ?_
    show ab_U _ _ _ (18, [some (.ref 123), some (.ref 111), none, none], [], hp X G q13.2) _
    refine ab_U.run 3 (S' := (21, [some (.ref 123), some (.ref 111), none, none], [.int 5, .int 0, .ref 123], hp X G q13.2)) rfl ?_
    obtain ⟨q15, h16, hf⟩ := ab_bnd hf
    refine ab_U.fn rfl rfl (t_X5_readNumber (X := X) hG h16) (by omega) ?_
    show ab_U _ _ _ (24, [some (.ref 123), some (.ref 111), none, none], [.int q15.1], hp X G q15.2) _
    refine ab_U.run 4 (S' := (29, [some (.ref 123), some (.ref 111), some (.int q15.1), none], [.int 9, .int 0, .ref 123], hp X G q15.2)) rfl ?_
    obtain ⟨q17, h18, hf⟩ := ab_bnd hf
    refine ab_U.fn rfl rfl (t_X5_readNumber (X := X) hG h18) (by omega) ?_
    show ab_U _ _ _ (32, [some (.ref 123), some (.ref 111), some (.int q15.1), none], [.int q17.1], hp X G q17.2) _
    refine ab_U.run 2 (S' := (34, [some (.ref 123), some (.ref 111), some (.int q15.1), some (.int q17.1)], [.ref 123], hp X G q17.2)) rfl ?_
    obtain ⟨q19, h20, hf⟩ := ab_bnd hf
    refine ab_U.fn rfl rfl (t_X5_readSemicolon (X := X) hG h20) (by omega) ?_
    show ab_U _ _ _ (37, [some (.ref 123), some (.ref 111), some (.int q15.1), some (.int q17.1)], [.int q19.1], hp X G q19.2) _
    refine ab_U.if_eq rfl (fun b21 => ?_) (fun b21 => ?_)
    · rw [if_pos b21] at hf
      obtain rfl := Option.some.inj hf
      exact ab_U.ret rfl rfl ⟨rfl, rfl⟩
    · rw [if_neg b21] at hf
      refine ab_U.run 3 (S' := (43, [some (.ref 123), some (.ref 111), some (.int q15.1), some (.int q17.1)], [.int q17.1, .int q15.1, .ref 111], hp X G q19.2)) rfl ?_
      obtain ⟨q22, h23, hf⟩ := ab_bnd hf
      refine ab_U.fn rfl rfl (t_X7_addOne (X := X) hG (by decide) h23) (by omega) ?_
      show ab_U _ _ _ (46, [some (.ref 123), some (.ref 111), some (.int q15.1), some (.int q17.1)], [], hp X G q22.2) _
      obtain rfl := Option.some.inj hf
      exact ab_U.ret rfl rfl ⟨rfl, rfl⟩
set_option maxRecDepth 20000 in
def f_X7_addStone (F : Nat) (w : Nat) (x0 : Int32) (x1 : Int32) (x2 : Int32) (μ : fm_M) : Option (Unit × fm_M) := (if 5 ≤ (μ.1 w 3) then some ((), μ) else (if ab_in (μ.1 w 3) 5 = true then (Option.bind (some (fm_sA μ ((w + 3)) (upd (μ.2.1 ((w + 3))) (μ.1 w 3).toNatClampNeg x0))) (fun m3 => (if ab_in (m3.1 w 3) 5 = true then (Option.bind (some (fm_sA m3 ((w + 4)) (upd (m3.2.1 ((w + 4))) (m3.1 w 3).toNatClampNeg x1))) (fun m6 => (if ab_in (m6.1 w 3) 5 = true then (Option.bind (some (fm_sA m6 ((w + 5)) (upd (m6.2.1 ((w + 5))) (m6.1 w 3).toNatClampNeg x2))) (fun m9 => (Option.bind (some (fm_sI m9 w 3 ((m9.1 w 3) + 1))) (fun m11 => some ((), m11))))) else none))) else none))) else none))
set_option maxRecDepth 20000 in
theorem t_X7_addStone {X : Nat × (Nat → Int32)} {G : Nat → Nat → Option Nat} (hG : fm_Gok G) {F : Nat} {w : Nat} (hw : fm_isW w = true) {x0 : Int32} {x1 : Int32} {x2 : Int32} {μ : fm_M} {r : Unit × fm_M} (hf : f_X7_addStone F w x0 x1 x2 μ = some r) : ab_F 1 59 [.ref w, .int x0, .int x1, .int x2] (hp X G μ) none (hp X G r.2) := by
  unfold f_X7_addStone at hf
  refine ab_T.of (d := 0) rfl (Nat.le_of_ble_eq_true rfl) ?_
  show ab_U _ _ kX7_addStone (0, [some (.ref w), some (.int x0), some (.int x1), some (.int x2)], [], hp X G μ) _
  refine ab_U.run 1 (S' := (1, [some (.ref w), some (.int x0), some (.int x1), some (.int x2)], [.ref w], hp X G μ)) rfl ?_
  refine ab_U.gfI (ci := 7) (k9 := 3) rfl (fm_WO hw) ⟨rfl, rfl, by decide, rfl⟩ ?_
  show ab_U _ _ _ (4, [some (.ref w), some (.int x0), some (.int x1), some (.int x2)], [.int (μ.1 w 3)], hp X G μ) _
  refine ab_U.run 1 (S' := (5, [some (.ref w), some (.int x0), some (.int x1), some (.int x2)], [.int 5, .int (μ.1 w 3)], hp X G μ)) rfl ?_
  refine ab_U.ic_ge rfl (fun b1 => ?_) (fun b1 => ?_)
  · rw [if_pos b1] at hf
    obtain rfl := Option.some.inj hf
    exact ab_U.ret rfl rfl ⟨rfl, rfl⟩
  · rw [if_neg b1] at hf
    refine ab_U.run 1 (S' := (9, [some (.ref w), some (.int x0), some (.int x1), some (.int x2)], [.ref w], hp X G μ)) rfl ?_
    refine ab_U.gfW (k9 := 4) rfl hw ⟨rfl, rfl, by decide, rfl⟩ ?_
    show ab_U _ _ _ (12, [some (.ref w), some (.int x0), some (.int x1), some (.int x2)], [.ref (w + 3)], hp X G μ) _
    refine ab_U.run 1 (S' := (13, [some (.ref w), some (.int x0), some (.int x1), some (.int x2)], [.ref w, .ref (w + 3)], hp X G μ)) rfl ?_
    refine ab_U.gfI (ci := 7) (k9 := 3) rfl (fm_WO hw) ⟨rfl, rfl, by decide, rfl⟩ ?_
    show ab_U _ _ _ (16, [some (.ref w), some (.int x0), some (.int x1), some (.int x2)], [.int (μ.1 w 3), .ref (w + 3)], hp X G μ) _
    refine ab_U.run 1 (S' := (17, [some (.ref w), some (.int x0), some (.int x1), some (.int x2)], [.int x0, .int (μ.1 w 3), .ref (w + 3)], hp X G μ)) rfl ?_
    obtain ⟨c2, hf⟩ := ab_ifs hf
    obtain ⟨m3, e4, hf⟩ := ab_bnd hf
    have e4 := Option.some.inj e4
    refine ab_U.iast (n := 5) rfl (fm_WA hw).2.2.1 c2 ?_
    show ab_U _ _ _ (18, [some (.ref w), some (.int x0), some (.int x1), some (.int x2)], [], hp X G (fm_sA μ ((w + 3)) (upd (μ.2.1 ((w + 3))) (μ.1 w 3).toNatClampNeg x0))) _
    rw [e4]
    refine ab_U.run 1 (S' := (19, [some (.ref w), some (.int x0), some (.int x1), some (.int x2)], [.ref w], hp X G m3)) rfl ?_
    refine ab_U.gfW (k9 := 5) rfl hw ⟨rfl, rfl, by decide, rfl⟩ ?_
    show ab_U _ _ _ (22, [some (.ref w), some (.int x0), some (.int x1), some (.int x2)], [.ref (w + 4)], hp X G m3) _
    refine ab_U.run 1 (S' := (23, [some (.ref w), some (.int x0), some (.int x1), some (.int x2)], [.ref w, .ref (w + 4)], hp X G m3)) rfl ?_
    refine ab_U.gfI (ci := 7) (k9 := 3) rfl (fm_WO hw) ⟨rfl, rfl, by decide, rfl⟩ ?_
    show ab_U _ _ _ (26, [some (.ref w), some (.int x0), some (.int x1), some (.int x2)], [.int (m3.1 w 3), .ref (w + 4)], hp X G m3) _
    refine ab_U.run 1 (S' := (27, [some (.ref w), some (.int x0), some (.int x1), some (.int x2)], [.int x1, .int (m3.1 w 3), .ref (w + 4)], hp X G m3)) rfl ?_
    obtain ⟨c5, hf⟩ := ab_ifs hf
    obtain ⟨m6, e7, hf⟩ := ab_bnd hf
    have e7 := Option.some.inj e7
    refine ab_U.iast (n := 5) rfl (fm_WA hw).2.2.2.1 c5 ?_
    show ab_U _ _ _ (28, [some (.ref w), some (.int x0), some (.int x1), some (.int x2)], [], hp X G (fm_sA m3 ((w + 4)) (upd (m3.2.1 ((w + 4))) (m3.1 w 3).toNatClampNeg x1))) _
    rw [e7]
    refine ab_U.run 1 (S' := (29, [some (.ref w), some (.int x0), some (.int x1), some (.int x2)], [.ref w], hp X G m6)) rfl ?_
    refine ab_U.gfW (k9 := 6) rfl hw ⟨rfl, rfl, by decide, rfl⟩ ?_
    show ab_U _ _ _ (32, [some (.ref w), some (.int x0), some (.int x1), some (.int x2)], [.ref (w + 5)], hp X G m6) _
    refine ab_U.run 1 (S' := (33, [some (.ref w), some (.int x0), some (.int x1), some (.int x2)], [.ref w, .ref (w + 5)], hp X G m6)) rfl ?_
    refine ab_U.gfI (ci := 7) (k9 := 3) rfl (fm_WO hw) ⟨rfl, rfl, by decide, rfl⟩ ?_
    show ab_U _ _ _ (36, [some (.ref w), some (.int x0), some (.int x1), some (.int x2)], [.int (m6.1 w 3), .ref (w + 5)], hp X G m6) _
    refine ab_U.run 1 (S' := (37, [some (.ref w), some (.int x0), some (.int x1), some (.int x2)], [.int x2, .int (m6.1 w 3), .ref (w + 5)], hp X G m6)) rfl ?_
    obtain ⟨c8, hf⟩ := ab_ifs hf
    obtain ⟨m9, e10, hf⟩ := ab_bnd hf
    have e10 := Option.some.inj e10
    refine ab_U.iast (n := 5) rfl (fm_WA hw).2.2.2.2.1 c8 ?_
    show ab_U _ _ _ (38, [some (.ref w), some (.int x0), some (.int x1), some (.int x2)], [], hp X G (fm_sA m6 ((w + 5)) (upd (m6.2.1 ((w + 5))) (m6.1 w 3).toNatClampNeg x2))) _
    rw [e10]
    refine ab_U.run 2 (S' := (40, [some (.ref w), some (.int x0), some (.int x1), some (.int x2)], [.ref w, .ref w], hp X G m9)) rfl ?_
    refine ab_U.gfI (ci := 7) (k9 := 3) rfl (fm_WO hw) ⟨rfl, rfl, by decide, rfl⟩ ?_
    show ab_U _ _ _ (43, [some (.ref w), some (.int x0), some (.int x1), some (.int x2)], [.int (m9.1 w 3), .ref w], hp X G m9) _
    refine ab_U.run 2 (S' := (45, [some (.ref w), some (.int x0), some (.int x1), some (.int x2)], [.int ((m9.1 w 3) + 1), .ref w], hp X G m9)) rfl ?_
    obtain ⟨m11, e12, hf⟩ := ab_bnd hf
    have e12 := Option.some.inj e12
    refine ab_U.pfI (ci := 7) (k9 := 3) rfl (fm_WO hw) ⟨rfl, rfl, by decide, rfl⟩ rfl ?_
    show ab_U _ _ _ (48, [some (.ref w), some (.int x0), some (.int x1), some (.int x2)], [], hp X G (fm_sI m9 w 3 ((m9.1 w 3) + 1))) _
    rw [e12]
    obtain rfl := Option.some.inj hf
    exact ab_U.ret rfl rfl ⟨rfl, rfl⟩
set_option maxRecDepth 20000 in
def f_X5_readStone (F : Nat)  (x1 : Int32) (μ : fm_M) : Option (Unit × fm_M) := (if (μ.1 111 3) < 5 then (Option.bind (f_X5_refuse F 0 5 μ) (fun q2 => (Option.bind (f_X5_readNumber F 0 99 q2.2) (fun q4 => (Option.bind (f_X5_readNumber F 0 3 q4.2) (fun q6 => (Option.bind (f_X5_readSemicolon F q6.2) (fun q8 => (if q8.1 = 0 then some ((), q8.2) else (Option.bind (f_X7_addStone F 111 x1 q4.1 q6.1 q8.2) (fun q11 => some ((), q11.2)))))))))))) else (Option.bind (f_X5_refuse F 1 5 μ) (fun q13 => (Option.bind (f_X5_readNumber F 0 99 q13.2) (fun q15 => (Option.bind (f_X5_readNumber F 0 3 q15.2) (fun q17 => (Option.bind (f_X5_readSemicolon F q17.2) (fun q19 => (if q19.1 = 0 then some ((), q19.2) else (Option.bind (f_X7_addStone F 111 x1 q15.1 q17.1 q19.2) (fun q22 => some ((), q22.2)))))))))))))
set_option maxRecDepth 20000 in
theorem t_X5_readStone {X : Nat × (Nat → Int32)} {G : Nat → Nat → Option Nat} (hG : fm_Gok G) {F : Nat}   {x1 : Int32} {μ : fm_M} {r : Unit × fm_M} (hf : f_X5_readStone F x1 μ = some r) : ab_F 5 40 [.ref 123, .ref 111, .int x1] (hp X G μ) none (hp X G r.2) := by
  unfold f_X5_readStone at hf
  refine ab_T.of (d := 4) rfl (Nat.le_of_ble_eq_true rfl) ?_
  show ab_U _ _ kX5_readStone (0, [some (.ref 123), some (.ref 111), some (.int x1), none, none], [], hp X G μ) _
  refine ab_U.run 4 (S' := (6, [some (.ref 123), some (.ref 111), some (.int x1), none, none], [.int 5, .int (μ.1 111 3), .ref 123], hp X G μ)) rfl ?_
  refine ab_U.ic_lt rfl (fun b1 => ?_) (fun b1 => ?_)
  · rw [if_pos b1] at hf
    refine ab_U.run 2 (S' := (15, [some (.ref 123), some (.ref 111), some (.int x1), none, none], [.int 5, .int 0, .ref 123], hp X G μ)) rfl ?_
    obtain ⟨q2, h3, hf⟩ := ab_bnd hf
    refine ab_U.fn rfl rfl (t_X5_refuse (X := X) hG h3) (by omega) ?_
    show ab_U _ _ _ (18, [some (.ref 123), some (.ref 111), some (.int x1), none, none], [], hp X G q2.2) _
    refine ab_U.run 3 (S' := (22, [some (.ref 123), some (.ref 111), some (.int x1), none, none], [.int 99, .int 0, .ref 123], hp X G q2.2)) rfl ?_
    obtain ⟨q4, h5, hf⟩ := ab_bnd hf
    refine ab_U.fn rfl rfl (t_X5_readNumber (X := X) hG h5) (by omega) ?_
    show ab_U _ _ _ (25, [some (.ref 123), some (.ref 111), some (.int x1), none, none], [.int q4.1], hp X G q4.2) _
    refine ab_U.run 4 (S' := (29, [some (.ref 123), some (.ref 111), some (.int x1), some (.int q4.1), none], [.int 3, .int 0, .ref 123], hp X G q4.2)) rfl ?_
    obtain ⟨q6, h7, hf⟩ := ab_bnd hf
    refine ab_U.fn rfl rfl (t_X5_readNumber (X := X) hG h7) (by omega) ?_
    show ab_U _ _ _ (32, [some (.ref 123), some (.ref 111), some (.int x1), some (.int q4.1), none], [.int q6.1], hp X G q6.2) _
    refine ab_U.run 2 (S' := (35, [some (.ref 123), some (.ref 111), some (.int x1), some (.int q4.1), some (.int q6.1)], [.ref 123], hp X G q6.2)) rfl ?_
    obtain ⟨q8, h9, hf⟩ := ab_bnd hf
    refine ab_U.fn rfl rfl (t_X5_readSemicolon (X := X) hG h9) (by omega) ?_
    show ab_U _ _ _ (38, [some (.ref 123), some (.ref 111), some (.int x1), some (.int q4.1), some (.int q6.1)], [.int q8.1], hp X G q8.2) _
    refine ab_U.if_eq rfl (fun b10 => ?_) (fun b10 => ?_)
    · rw [if_pos b10] at hf
      obtain rfl := Option.some.inj hf
      exact ab_U.ret rfl rfl ⟨rfl, rfl⟩
    · rw [if_neg b10] at hf
      refine ab_U.run 4 (S' := (46, [some (.ref 123), some (.ref 111), some (.int x1), some (.int q4.1), some (.int q6.1)], [.int q6.1, .int q4.1, .int x1, .ref 111], hp X G q8.2)) rfl ?_
      obtain ⟨q11, h12, hf⟩ := ab_bnd hf
      refine ab_U.fn rfl rfl (t_X7_addStone (X := X) hG (by decide) h12) (by omega) ?_
      show ab_U _ _ _ (49, [some (.ref 123), some (.ref 111), some (.int x1), some (.int q4.1), some (.int q6.1)], [], hp X G q11.2) _
      obtain rfl := Option.some.inj hf
      exact ab_U.ret rfl rfl ⟨rfl, rfl⟩
  · rw [if_neg b1] at hf
    refine ab_U.run 3 (S' := (15, [some (.ref 123), some (.ref 111), some (.int x1), none, none], [.int 5, .int 1, .ref 123], hp X G μ)) rfl ?_
    obtain ⟨q13, h14, hf⟩ := ab_bnd hf
    refine ab_U.fn rfl rfl (t_X5_refuse (X := X) hG h14) (by omega) ?_
    show ab_U _ _ _ (18, [some (.ref 123), some (.ref 111), some (.int x1), none, none], [], hp X G q13.2) _
    refine ab_U.run 3 (S' := (22, [some (.ref 123), some (.ref 111), some (.int x1), none, none], [.int 99, .int 0, .ref 123], hp X G q13.2)) rfl ?_
    obtain ⟨q15, h16, hf⟩ := ab_bnd hf
    refine ab_U.fn rfl rfl (t_X5_readNumber (X := X) hG h16) (by omega) ?_
    show ab_U _ _ _ (25, [some (.ref 123), some (.ref 111), some (.int x1), none, none], [.int q15.1], hp X G q15.2) _
    refine ab_U.run 4 (S' := (29, [some (.ref 123), some (.ref 111), some (.int x1), some (.int q15.1), none], [.int 3, .int 0, .ref 123], hp X G q15.2)) rfl ?_
    obtain ⟨q17, h18, hf⟩ := ab_bnd hf
    refine ab_U.fn rfl rfl (t_X5_readNumber (X := X) hG h18) (by omega) ?_
    show ab_U _ _ _ (32, [some (.ref 123), some (.ref 111), some (.int x1), some (.int q15.1), none], [.int q17.1], hp X G q17.2) _
    refine ab_U.run 2 (S' := (35, [some (.ref 123), some (.ref 111), some (.int x1), some (.int q15.1), some (.int q17.1)], [.ref 123], hp X G q17.2)) rfl ?_
    obtain ⟨q19, h20, hf⟩ := ab_bnd hf
    refine ab_U.fn rfl rfl (t_X5_readSemicolon (X := X) hG h20) (by omega) ?_
    show ab_U _ _ _ (38, [some (.ref 123), some (.ref 111), some (.int x1), some (.int q15.1), some (.int q17.1)], [.int q19.1], hp X G q19.2) _
    refine ab_U.if_eq rfl (fun b21 => ?_) (fun b21 => ?_)
    · rw [if_pos b21] at hf
      obtain rfl := Option.some.inj hf
      exact ab_U.ret rfl rfl ⟨rfl, rfl⟩
    · rw [if_neg b21] at hf
      refine ab_U.run 4 (S' := (46, [some (.ref 123), some (.ref 111), some (.int x1), some (.int q15.1), some (.int q17.1)], [.int q17.1, .int q15.1, .int x1, .ref 111], hp X G q19.2)) rfl ?_
      obtain ⟨q22, h23, hf⟩ := ab_bnd hf
      refine ab_U.fn rfl rfl (t_X7_addStone (X := X) hG (by decide) h23) (by omega) ?_
      show ab_U _ _ _ (49, [some (.ref 123), some (.ref 111), some (.int x1), some (.int q15.1), some (.int q17.1)], [], hp X G q22.2) _
      obtain rfl := Option.some.inj hf
      exact ab_U.ret rfl rfl ⟨rfl, rfl⟩
set_option maxRecDepth 20000 in
def f_X5_readOven (F : Nat)   (μ : fm_M) : Option (Unit × fm_M) := (Option.bind (f_X5_refuse F (μ.1 123 8) 4 μ) (fun q1 => (Option.bind (some (fm_sI q1.2 123 8 1)) (fun m3 => (Option.bind (f_X5_readNumber F 0 9 m3) (fun q5 => (Option.bind (f_X5_readNumber F 5 99 q5.2) (fun q7 => (Option.bind (f_X5_readSemicolon F q7.2) (fun q9 => (if q9.1 = 0 then some ((), q9.2) else (Option.bind (some (fm_sI q9.2 111 7 q5.1)) (fun m12 => (Option.bind (some (fm_sI m12 111 8 q7.1)) (fun m14 => some ((), m14))))))))))))))))
set_option maxRecDepth 20000 in
theorem t_X5_readOven {X : Nat × (Nat → Int32)} {G : Nat → Nat → Option Nat} (hG : fm_Gok G) {F : Nat}    {μ : fm_M} {r : Unit × fm_M} (hf : f_X5_readOven F  μ = some r) : ab_F 5 41 [.ref 123, .ref 111] (hp X G μ) none (hp X G r.2) := by
  unfold f_X5_readOven at hf
  refine ab_T.of (d := 4) rfl (Nat.le_of_ble_eq_true rfl) ?_
  show ab_U _ _ kX5_readOven (0, [some (.ref 123), some (.ref 111), none, none], [], hp X G μ) _
  refine ab_U.run 4 (S' := (6, [some (.ref 123), some (.ref 111), none, none], [.int 4, .int (μ.1 123 8), .ref 123], hp X G μ)) rfl ?_
  obtain ⟨q1, h2, hf⟩ := ab_bnd hf
  refine ab_U.fn rfl rfl (t_X5_refuse (X := X) hG h2) (by omega) ?_
  show ab_U _ _ _ (9, [some (.ref 123), some (.ref 111), none, none], [], hp X G q1.2) _
  refine ab_U.run 2 (S' := (11, [some (.ref 123), some (.ref 111), none, none], [.int 1, .ref 123], hp X G q1.2)) rfl ?_
  obtain ⟨m3, e4, hf⟩ := ab_bnd hf
  have e4 := Option.some.inj e4
  refine ab_U.pfI (ci := 5) (k9 := 8) rfl ⟨by decide, rfl⟩ ⟨rfl, rfl, by decide, rfl⟩ rfl ?_
  show ab_U _ _ _ (14, [some (.ref 123), some (.ref 111), none, none], [], hp X G (fm_sI q1.2 123 8 1)) _
  rw [e4]
  refine ab_U.run 3 (S' := (18, [some (.ref 123), some (.ref 111), none, none], [.int 9, .int 0, .ref 123], hp X G m3)) rfl ?_
  obtain ⟨q5, h6, hf⟩ := ab_bnd hf
  refine ab_U.fn rfl rfl (t_X5_readNumber (X := X) hG h6) (by omega) ?_
  show ab_U _ _ _ (21, [some (.ref 123), some (.ref 111), none, none], [.int q5.1], hp X G q5.2) _
  refine ab_U.run 4 (S' := (26, [some (.ref 123), some (.ref 111), some (.int q5.1), none], [.int 99, .int 5, .ref 123], hp X G q5.2)) rfl ?_
  obtain ⟨q7, h8, hf⟩ := ab_bnd hf
  refine ab_U.fn rfl rfl (t_X5_readNumber (X := X) hG h8) (by omega) ?_
  show ab_U _ _ _ (29, [some (.ref 123), some (.ref 111), some (.int q5.1), none], [.int q7.1], hp X G q7.2) _
  refine ab_U.run 2 (S' := (31, [some (.ref 123), some (.ref 111), some (.int q5.1), some (.int q7.1)], [.ref 123], hp X G q7.2)) rfl ?_
  obtain ⟨q9, h10, hf⟩ := ab_bnd hf
  refine ab_U.fn rfl rfl (t_X5_readSemicolon (X := X) hG h10) (by omega) ?_
  show ab_U _ _ _ (34, [some (.ref 123), some (.ref 111), some (.int q5.1), some (.int q7.1)], [.int q9.1], hp X G q9.2) _
  refine ab_U.if_eq rfl (fun b11 => ?_) (fun b11 => ?_)
  · rw [if_pos b11] at hf
    obtain rfl := Option.some.inj hf
    exact ab_U.ret rfl rfl ⟨rfl, rfl⟩
  · rw [if_neg b11] at hf
    refine ab_U.run 2 (S' := (39, [some (.ref 123), some (.ref 111), some (.int q5.1), some (.int q7.1)], [.int q5.1, .ref 111], hp X G q9.2)) rfl ?_
    obtain ⟨m12, e13, hf⟩ := ab_bnd hf
    have e13 := Option.some.inj e13
    refine ab_U.pfI (ci := 7) (k9 := 7) rfl ⟨by decide, rfl⟩ ⟨rfl, rfl, by decide, rfl⟩ rfl ?_
    show ab_U _ _ _ (42, [some (.ref 123), some (.ref 111), some (.int q5.1), some (.int q7.1)], [], hp X G (fm_sI q9.2 111 7 q5.1)) _
    rw [e13]
    refine ab_U.run 2 (S' := (44, [some (.ref 123), some (.ref 111), some (.int q5.1), some (.int q7.1)], [.int q7.1, .ref 111], hp X G m12)) rfl ?_
    obtain ⟨m14, e15, hf⟩ := ab_bnd hf
    have e15 := Option.some.inj e15
    refine ab_U.pfI (ci := 7) (k9 := 8) rfl ⟨by decide, rfl⟩ ⟨rfl, rfl, by decide, rfl⟩ rfl ?_
    show ab_U _ _ _ (47, [some (.ref 123), some (.ref 111), some (.int q5.1), some (.int q7.1)], [], hp X G (fm_sI m12 111 8 q7.1)) _
    rw [e15]
    obtain rfl := Option.some.inj hf
    exact ab_U.ret rfl rfl ⟨rfl, rfl⟩
set_option maxRecDepth 20000 in
def f_X5_readWind (F : Nat)   (μ : fm_M) : Option (Unit × fm_M) := (Option.bind (f_X5_refuse F (μ.1 123 9) 4 μ) (fun q1 => (Option.bind (some (fm_sI q1.2 123 9 1)) (fun m3 => (Option.bind (f_X5_readNumber F 0 10 m3) (fun q5 => (Option.bind (f_X5_readSemicolon F q5.2) (fun q7 => (if q7.1 = 0 then some ((), q7.2) else (Option.bind (some (fm_sI q7.2 111 9 q5.1)) (fun m10 => some ((), m10))))))))))))
set_option maxRecDepth 20000 in
theorem t_X5_readWind {X : Nat × (Nat → Int32)} {G : Nat → Nat → Option Nat} (hG : fm_Gok G) {F : Nat}    {μ : fm_M} {r : Unit × fm_M} (hf : f_X5_readWind F  μ = some r) : ab_F 5 42 [.ref 123, .ref 111] (hp X G μ) none (hp X G r.2) := by
  unfold f_X5_readWind at hf
  refine ab_T.of (d := 4) rfl (Nat.le_of_ble_eq_true rfl) ?_
  show ab_U _ _ kX5_readWind (0, [some (.ref 123), some (.ref 111), none], [], hp X G μ) _
  refine ab_U.run 4 (S' := (6, [some (.ref 123), some (.ref 111), none], [.int 4, .int (μ.1 123 9), .ref 123], hp X G μ)) rfl ?_
  obtain ⟨q1, h2, hf⟩ := ab_bnd hf
  refine ab_U.fn rfl rfl (t_X5_refuse (X := X) hG h2) (by omega) ?_
  show ab_U _ _ _ (9, [some (.ref 123), some (.ref 111), none], [], hp X G q1.2) _
  refine ab_U.run 2 (S' := (11, [some (.ref 123), some (.ref 111), none], [.int 1, .ref 123], hp X G q1.2)) rfl ?_
  obtain ⟨m3, e4, hf⟩ := ab_bnd hf
  have e4 := Option.some.inj e4
  refine ab_U.pfI (ci := 5) (k9 := 9) rfl ⟨by decide, rfl⟩ ⟨rfl, rfl, by decide, rfl⟩ rfl ?_
  show ab_U _ _ _ (14, [some (.ref 123), some (.ref 111), none], [], hp X G (fm_sI q1.2 123 9 1)) _
  rw [e4]
  refine ab_U.run 3 (S' := (18, [some (.ref 123), some (.ref 111), none], [.int 10, .int 0, .ref 123], hp X G m3)) rfl ?_
  obtain ⟨q5, h6, hf⟩ := ab_bnd hf
  refine ab_U.fn rfl rfl (t_X5_readNumber (X := X) hG h6) (by omega) ?_
  show ab_U _ _ _ (21, [some (.ref 123), some (.ref 111), none], [.int q5.1], hp X G q5.2) _
  refine ab_U.run 2 (S' := (23, [some (.ref 123), some (.ref 111), some (.int q5.1)], [.ref 123], hp X G q5.2)) rfl ?_
  obtain ⟨q7, h8, hf⟩ := ab_bnd hf
  refine ab_U.fn rfl rfl (t_X5_readSemicolon (X := X) hG h8) (by omega) ?_
  show ab_U _ _ _ (26, [some (.ref 123), some (.ref 111), some (.int q5.1)], [.int q7.1], hp X G q7.2) _
  refine ab_U.if_eq rfl (fun b9 => ?_) (fun b9 => ?_)
  · rw [if_pos b9] at hf
    obtain rfl := Option.some.inj hf
    exact ab_U.ret rfl rfl ⟨rfl, rfl⟩
  · rw [if_neg b9] at hf
    refine ab_U.run 2 (S' := (31, [some (.ref 123), some (.ref 111), some (.int q5.1)], [.int q5.1, .ref 111], hp X G q7.2)) rfl ?_
    obtain ⟨m10, e11, hf⟩ := ab_bnd hf
    have e11 := Option.some.inj e11
    refine ab_U.pfI (ci := 7) (k9 := 9) rfl ⟨by decide, rfl⟩ ⟨rfl, rfl, by decide, rfl⟩ rfl ?_
    show ab_U _ _ _ (34, [some (.ref 123), some (.ref 111), some (.int q5.1)], [], hp X G (fm_sI q7.2 111 9 q5.1)) _
    rw [e11]
    obtain rfl := Option.some.inj hf
    exact ab_U.ret rfl rfl ⟨rfl, rfl⟩
set_option maxRecDepth 20000 in
def f_X5_readPrice (F : Nat)   (μ : fm_M) : Option (Unit × fm_M) := (Option.bind (f_X5_readNumber F 0 5 μ) (fun q1 => (if (((q1.2.1 123 10) >>> (q1.1 &&& 31)) &&& 1) = 0 then (Option.bind (f_X5_refuse F 0 4 q1.2) (fun q4 => (Option.bind (some (fm_sI q4.2 123 10 ((q4.2.1 123 10) ||| (1 <<< (q1.1 &&& 31))))) (fun m6 => (Option.bind (f_X5_readNumber F 1 9 m6) (fun q8 => (Option.bind (f_X5_readSemicolon F q8.2) (fun q10 => (if q10.1 = 0 then some ((), q10.2) else (if ab_in q1.1 6 = true then (Option.bind (some (fm_sA q10.2 117 (upd (q10.2.2.1 117) q1.1.toNatClampNeg q8.1))) (fun m14 => some ((), m14))) else none)))))))))) else (Option.bind (f_X5_refuse F 1 4 q1.2) (fun q16 => (Option.bind (some (fm_sI q16.2 123 10 ((q16.2.1 123 10) ||| (1 <<< (q1.1 &&& 31))))) (fun m18 => (Option.bind (f_X5_readNumber F 1 9 m18) (fun q20 => (Option.bind (f_X5_readSemicolon F q20.2) (fun q22 => (if q22.1 = 0 then some ((), q22.2) else (if ab_in q1.1 6 = true then (Option.bind (some (fm_sA q22.2 117 (upd (q22.2.2.1 117) q1.1.toNatClampNeg q20.1))) (fun m26 => some ((), m26))) else none)))))))))))))
set_option maxRecDepth 20000 in
theorem t_X5_readPrice {X : Nat × (Nat → Int32)} {G : Nat → Nat → Option Nat} (hG : fm_Gok G) {F : Nat}    {μ : fm_M} {r : Unit × fm_M} (hf : f_X5_readPrice F  μ = some r) : ab_F 5 43 [.ref 123, .ref 111] (hp X G μ) none (hp X G r.2) := by
  unfold f_X5_readPrice at hf
  refine ab_T.of (d := 4) rfl (Nat.le_of_ble_eq_true rfl) ?_
  show ab_U _ _ kX5_readPrice (0, [some (.ref 123), some (.ref 111), none, none], [], hp X G μ) _
  refine ab_U.run 3 (S' := (3, [some (.ref 123), some (.ref 111), none, none], [.int 5, .int 0, .ref 123], hp X G μ)) rfl ?_
  obtain ⟨q1, h2, hf⟩ := ab_bnd hf
  refine ab_U.fn rfl rfl (t_X5_readNumber (X := X) hG h2) (by omega) ?_
  show ab_U _ _ _ (6, [some (.ref 123), some (.ref 111), none, none], [.int q1.1], hp X G q1.2) _
  refine ab_U.run 8 (S' := (16, [some (.ref 123), some (.ref 111), some (.int q1.1), none], [.int (((q1.2.1 123 10) >>> (q1.1 &&& 31)) &&& 1), .ref 123], hp X G q1.2)) rfl ?_
  refine ab_U.if_eq rfl (fun b3 => ?_) (fun b3 => ?_)
  · rw [if_pos b3] at hf
    refine ab_U.run 2 (S' := (25, [some (.ref 123), some (.ref 111), some (.int q1.1), none], [.int 4, .int 0, .ref 123], hp X G q1.2)) rfl ?_
    obtain ⟨q4, h5, hf⟩ := ab_bnd hf
    refine ab_U.fn rfl rfl (t_X5_refuse (X := X) hG h5) (by omega) ?_
    show ab_U _ _ _ (28, [some (.ref 123), some (.ref 111), some (.int q1.1), none], [], hp X G q4.2) _
    refine ab_U.run 7 (S' := (37, [some (.ref 123), some (.ref 111), some (.int q1.1), none], [.int ((q4.2.1 123 10) ||| (1 <<< (q1.1 &&& 31))), .ref 123], hp X G q4.2)) rfl ?_
    obtain ⟨m6, e7, hf⟩ := ab_bnd hf
    have e7 := Option.some.inj e7
    refine ab_U.pfI (ci := 5) (k9 := 10) rfl ⟨by decide, rfl⟩ ⟨rfl, rfl, by decide, rfl⟩ rfl ?_
    show ab_U _ _ _ (40, [some (.ref 123), some (.ref 111), some (.int q1.1), none], [], hp X G (fm_sI q4.2 123 10 ((q4.2.1 123 10) ||| (1 <<< (q1.1 &&& 31))))) _
    rw [e7]
    refine ab_U.run 3 (S' := (44, [some (.ref 123), some (.ref 111), some (.int q1.1), none], [.int 9, .int 1, .ref 123], hp X G m6)) rfl ?_
    obtain ⟨q8, h9, hf⟩ := ab_bnd hf
    refine ab_U.fn rfl rfl (t_X5_readNumber (X := X) hG h9) (by omega) ?_
    show ab_U _ _ _ (47, [some (.ref 123), some (.ref 111), some (.int q1.1), none], [.int q8.1], hp X G q8.2) _
    refine ab_U.run 2 (S' := (49, [some (.ref 123), some (.ref 111), some (.int q1.1), some (.int q8.1)], [.ref 123], hp X G q8.2)) rfl ?_
    obtain ⟨q10, h11, hf⟩ := ab_bnd hf
    refine ab_U.fn rfl rfl (t_X5_readSemicolon (X := X) hG h11) (by omega) ?_
    show ab_U _ _ _ (52, [some (.ref 123), some (.ref 111), some (.int q1.1), some (.int q8.1)], [.int q10.1], hp X G q10.2) _
    refine ab_U.if_eq rfl (fun b12 => ?_) (fun b12 => ?_)
    · rw [if_pos b12] at hf
      obtain rfl := Option.some.inj hf
      exact ab_U.ret rfl rfl ⟨rfl, rfl⟩
    · rw [if_neg b12] at hf
      refine ab_U.run 4 (S' := (61, [some (.ref 123), some (.ref 111), some (.int q1.1), some (.int q8.1)], [.int q8.1, .int q1.1, .ref 117], hp X G q10.2)) rfl ?_
      obtain ⟨c13, hf⟩ := ab_ifs hf
      obtain ⟨m14, e15, hf⟩ := ab_bnd hf
      have e15 := Option.some.inj e15
      refine ab_U.iast (n := 6) rfl ⟨by decide, rfl⟩ c13 ?_
      show ab_U _ _ _ (62, [some (.ref 123), some (.ref 111), some (.int q1.1), some (.int q8.1)], [], hp X G (fm_sA q10.2 117 (upd (q10.2.2.1 117) q1.1.toNatClampNeg q8.1))) _
      rw [e15]
      obtain rfl := Option.some.inj hf
      exact ab_U.ret rfl rfl ⟨rfl, rfl⟩
  · rw [if_neg b3] at hf
    refine ab_U.run 3 (S' := (25, [some (.ref 123), some (.ref 111), some (.int q1.1), none], [.int 4, .int 1, .ref 123], hp X G q1.2)) rfl ?_
    obtain ⟨q16, h17, hf⟩ := ab_bnd hf
    refine ab_U.fn rfl rfl (t_X5_refuse (X := X) hG h17) (by omega) ?_
    show ab_U _ _ _ (28, [some (.ref 123), some (.ref 111), some (.int q1.1), none], [], hp X G q16.2) _
    refine ab_U.run 7 (S' := (37, [some (.ref 123), some (.ref 111), some (.int q1.1), none], [.int ((q16.2.1 123 10) ||| (1 <<< (q1.1 &&& 31))), .ref 123], hp X G q16.2)) rfl ?_
    obtain ⟨m18, e19, hf⟩ := ab_bnd hf
    have e19 := Option.some.inj e19
    refine ab_U.pfI (ci := 5) (k9 := 10) rfl ⟨by decide, rfl⟩ ⟨rfl, rfl, by decide, rfl⟩ rfl ?_
    show ab_U _ _ _ (40, [some (.ref 123), some (.ref 111), some (.int q1.1), none], [], hp X G (fm_sI q16.2 123 10 ((q16.2.1 123 10) ||| (1 <<< (q1.1 &&& 31))))) _
    rw [e19]
    refine ab_U.run 3 (S' := (44, [some (.ref 123), some (.ref 111), some (.int q1.1), none], [.int 9, .int 1, .ref 123], hp X G m18)) rfl ?_
    obtain ⟨q20, h21, hf⟩ := ab_bnd hf
    refine ab_U.fn rfl rfl (t_X5_readNumber (X := X) hG h21) (by omega) ?_
    show ab_U _ _ _ (47, [some (.ref 123), some (.ref 111), some (.int q1.1), none], [.int q20.1], hp X G q20.2) _
    refine ab_U.run 2 (S' := (49, [some (.ref 123), some (.ref 111), some (.int q1.1), some (.int q20.1)], [.ref 123], hp X G q20.2)) rfl ?_
    obtain ⟨q22, h23, hf⟩ := ab_bnd hf
    refine ab_U.fn rfl rfl (t_X5_readSemicolon (X := X) hG h23) (by omega) ?_
    show ab_U _ _ _ (52, [some (.ref 123), some (.ref 111), some (.int q1.1), some (.int q20.1)], [.int q22.1], hp X G q22.2) _
    refine ab_U.if_eq rfl (fun b24 => ?_) (fun b24 => ?_)
    · rw [if_pos b24] at hf
      obtain rfl := Option.some.inj hf
      exact ab_U.ret rfl rfl ⟨rfl, rfl⟩
    · rw [if_neg b24] at hf
      refine ab_U.run 4 (S' := (61, [some (.ref 123), some (.ref 111), some (.int q1.1), some (.int q20.1)], [.int q20.1, .int q1.1, .ref 117], hp X G q22.2)) rfl ?_
      obtain ⟨c25, hf⟩ := ab_ifs hf
      obtain ⟨m26, e27, hf⟩ := ab_bnd hf
      have e27 := Option.some.inj e27
      refine ab_U.iast (n := 6) rfl ⟨by decide, rfl⟩ c25 ?_
      show ab_U _ _ _ (62, [some (.ref 123), some (.ref 111), some (.int q1.1), some (.int q20.1)], [], hp X G (fm_sA q22.2 117 (upd (q22.2.2.1 117) q1.1.toNatClampNeg q20.1))) _
      rw [e27]
      obtain rfl := Option.some.inj hf
      exact ab_U.ret rfl rfl ⟨rfl, rfl⟩
