/-! by program: each method as a function over the memory, and that our machine does it -/
set_option maxRecDepth 20000 in
def b_X9_settle_29 (F : Nat)  (gg : Nat → Int32 → Int32 → Int32 → Int32 → Int32 → fm_M → Option (Int32 × fm_M)) (l1 : Int32) (l2 : Int32) (l3 : Int32) (l4 : Int32) (l5 : Int32) (μ : fm_M) : Option (Int32 × fm_M) := (if (μ.1 232 3) ≤ l3 then gg 55 l1 l2 (-1) 0 0 μ else gg 29 l1 (l2 * 4) (l3 + 1) 0 0 μ)
set_option maxRecDepth 20000 in
def b_X9_settle_55 (F : Nat)  (gg : Nat → Int32 → Int32 → Int32 → Int32 → Int32 → fm_M → Option (Int32 × fm_M)) (l1 : Int32) (l2 : Int32) (l3 : Int32) (l4 : Int32) (l5 : Int32) (μ : fm_M) : Option (Int32 × fm_M) := (if l2 ≤ l5 then (Option.bind (f_X9_laysOrder F l4 μ) (fun q3 => (if ¬ l1 = 0 then (if ab_in (l1 - 10) 4 = true then some ((q3.2.2.1 244 (l1 - 10).toNatClampNeg), q3.2) else none) else some (l3, q3.2)))) else (Option.bind (f_X9_laysOrder F l5 μ) (fun q7 => (if q7.1 = 0 then (if ((-1) : Int32) ≤ l3 then (if ((-1) : Int32) ≤ l3 then gg 55 l1 l2 l3 l4 (l5 + 1) q7.2 else gg 55 l1 l2 (-1) l4 (l5 + 1) q7.2) else (if ((-1) : Int32) ≤ l3 then gg 55 l1 l2 l3 l5 (l5 + 1) q7.2 else gg 55 l1 l2 (-1) l5 (l5 + 1) q7.2)) else (Option.bind (f_X9_settled F q7.2) (fun q13 => (if q13.1 ≤ l3 then (if q13.1 ≤ l3 then gg 55 l1 l2 l3 l4 (l5 + 1) q13.2 else gg 55 l1 l2 q13.1 l4 (l5 + 1) q13.2) else (if q13.1 ≤ l3 then gg 55 l1 l2 l3 l5 (l5 + 1) q13.2 else gg 55 l1 l2 q13.1 l5 (l5 + 1) q13.2))))))))
def g_X9_settle (F : Nat)  : Nat → Nat → Int32 → Int32 → Int32 → Int32 → Int32 → fm_M → Option (Int32 × fm_M)
  | 0, _, _, _, _, _, _, _ => none
  | n + 1, pc, l1, l2, l3, l4, l5, μ => if pc = 29 then b_X9_settle_29 F  (g_X9_settle F  n) l1 l2 l3 l4 l5 μ else if pc = 55 then b_X9_settle_55 F  (g_X9_settle F  n) l1 l2 l3 l4 l5 μ else none
set_option maxRecDepth 20000 in
theorem t_X9_settle_g {X : Nat × (Nat → Int32)} {G : Nat → Nat → Option Nat} (hG : fm_Gok G) {F : Nat}    : ∀ n : Nat, (∀ (l1 : Int32) (l2 : Int32) (l3 : Int32) (l4 : Int32) (l5 : Int32) (μ : fm_M) (r : Int32 × fm_M), g_X9_settle F  n 29 l1 l2 l3 l4 l5 μ = some r → ab_U 7 (some .int) kX9_settle (29, [some (.ref 232), some (.int l1), some (.int l2), some (.int l3), none, none, none], [], hp X G μ) (fun r9 h9 => r9 = some (.int r.1) ∧ h9 = hp X G r.2)) ∧ (∀ (l1 : Int32) (l2 : Int32) (l3 : Int32) (l4 : Int32) (l5 : Int32) (μ : fm_M) (r : Int32 × fm_M), g_X9_settle F  n 55 l1 l2 l3 l4 l5 μ = some r → ab_U 7 (some .int) kX9_settle (55, [some (.ref 232), some (.int l1), some (.int l2), some (.int l3), some (.int l4), some (.int l5), none], [], hp X G μ) (fun r9 h9 => r9 = some (.int r.1) ∧ h9 = hp X G r.2))
  | 0 => by
    refine ⟨?_, ?_⟩
    all_goals (intros; rename_i h; cases h)
  | n + 1 => by
    have ih := t_X9_settle_g (X := X) hG (F := F)   n
    refine ⟨?_, ?_⟩
    · intro l1 l2 l3 l4 l5 μ r hf
      have hf : b_X9_settle_29 F  (g_X9_settle F  n) l1 l2 l3 l4 l5 μ = some r := hf
      unfold b_X9_settle_29 at hf
      refine ab_U.run 3 (S' := (34, [some (.ref 232), some (.int l1), some (.int l2), some (.int l3), none, none, none], [.int (μ.1 232 3), .int l3], hp X G μ)) rfl ?_
      refine ab_U.ic_ge rfl (fun b1 => ?_) (fun b1 => ?_)
      · rw [if_pos b1] at hf
        refine ab_U.run 6 (S' := (55, [some (.ref 232), some (.int l1), some (.int l2), some (.int (-1)), some (.int 0), some (.int 0), none], [], hp X G μ)) rfl ?_
        exact ab_U.weak (ih.2 _ _ _ _ _ _ _ hf) (ab_leL.of ⟨rfl, ⟨rfl, ⟨rfl, ⟨rfl, ⟨rfl, ⟨rfl, trivial⟩⟩⟩⟩⟩⟩)
      · rw [if_neg b1] at hf
        refine ab_U.run 6 (S' := (29, [some (.ref 232), some (.int l1), some (.int (l2 * 4)), some (.int (l3 + 1)), none, none, none], [], hp X G μ)) rfl ?_
        exact ab_U.weak (ih.1 _ _ _ _ _ _ _ hf) (ab_leL.of ⟨rfl, ⟨rfl, ⟨rfl, ⟨rfl, trivial⟩⟩⟩⟩)
    · intro l1 l2 l3 l4 l5 μ r hf
      have hf : b_X9_settle_55 F  (g_X9_settle F  n) l1 l2 l3 l4 l5 μ = some r := hf
      unfold b_X9_settle_55 at hf
      refine ab_U.run 2 (S' := (58, [some (.ref 232), some (.int l1), some (.int l2), some (.int l3), some (.int l4), some (.int l5), none], [.int l2, .int l5], hp X G μ)) rfl ?_
      refine ab_U.ic_ge rfl (fun b2 => ?_) (fun b2 => ?_)
      · rw [if_pos b2] at hf
        refine ab_U.run 2 (S' := (117, [some (.ref 232), some (.int l1), some (.int l2), some (.int l3), some (.int l4), some (.int l5), none], [.int l4, .ref 232], hp X G μ)) rfl ?_
        obtain ⟨q3, h4, hf⟩ := ab_bnd hf
        refine ab_U.fn rfl rfl (t_X9_laysOrder (X := X) hG h4) (by omega) ?_
        show ab_U _ _ _ (120, [some (.ref 232), some (.int l1), some (.int l2), some (.int l3), some (.int l4), some (.int l5), none], [.int q3.1], hp X G q3.2) _
        refine ab_U.run 2 (S' := (122, [some (.ref 232), some (.int l1), some (.int l2), some (.int l3), some (.int l4), some (.int l5), none], [.int l1], hp X G q3.2)) rfl ?_
        refine ab_U.if_ne rfl (fun b5 => ?_) (fun b5 => ?_)
        · rw [if_pos b5] at hf
          refine ab_U.run 5 (S' := (137, [some (.ref 232), some (.int l1), some (.int l2), some (.int l3), some (.int l4), some (.int l5), none], [.int (l1 - 10), .ref 244], hp X G q3.2)) rfl ?_
          obtain ⟨c6, hf⟩ := ab_ifs hf
          refine ab_U.iald (n := 4) rfl ⟨by decide, rfl⟩ c6 ?_
          show ab_U _ _ _ (138, [some (.ref 232), some (.int l1), some (.int l2), some (.int l3), some (.int l4), some (.int l5), none], [.int (q3.2.2.1 244 (l1 - 10).toNatClampNeg)], hp X G q3.2) _
          obtain rfl := Option.some.inj hf
          exact ab_U.ret rfl rfl ⟨rfl, rfl⟩
        · rw [if_neg b5] at hf
          refine ab_U.run 2 (S' := (138, [some (.ref 232), some (.int l1), some (.int l2), some (.int l3), some (.int l4), some (.int l5), none], [.int l3], hp X G q3.2)) rfl ?_
          obtain rfl := Option.some.inj hf
          exact ab_U.ret rfl rfl ⟨rfl, rfl⟩
      · rw [if_neg b2] at hf
        refine ab_U.run 2 (S' := (64, [some (.ref 232), some (.int l1), some (.int l2), some (.int l3), some (.int l4), some (.int l5), none], [.int l5, .ref 232], hp X G μ)) rfl ?_
        obtain ⟨q7, h8, hf⟩ := ab_bnd hf
        refine ab_U.fn rfl rfl (t_X9_laysOrder (X := X) hG h8) (by omega) ?_
        show ab_U _ _ _ (67, [some (.ref 232), some (.int l1), some (.int l2), some (.int l3), some (.int l4), some (.int l5), none], [.int q7.1], hp X G q7.2) _
        refine ab_U.if_eq rfl (fun b9 => ?_) (fun b9 => ?_)
        · rw [if_pos b9] at hf
          refine ab_U.run 4 (S' := (83, [some (.ref 232), some (.int l1), some (.int l2), some (.int l3), some (.int l4), some (.int l5), some (.int (-1))], [.int l3, .int (-1)], hp X G q7.2)) rfl ?_
          refine ab_U.ic_le rfl (fun b10 => ?_) (fun b10 => ?_)
          · rw [if_pos b10] at hf
            refine ab_U.run 4 (S' := (98, [some (.ref 232), some (.int l1), some (.int l2), some (.int l3), some (.int l4), some (.int l5), some (.int (-1))], [.int l3, .int (-1)], hp X G q7.2)) rfl ?_
            refine ab_U.ic_le rfl (fun b11 => ?_) (fun b11 => ?_)
            · rw [if_pos b11] at hf
              refine ab_U.run 4 (S' := (55, [some (.ref 232), some (.int l1), some (.int l2), some (.int l3), some (.int l4), some (.int (l5 + 1)), some (.int (-1))], [], hp X G q7.2)) rfl ?_
              exact ab_U.weak (ih.2 _ _ _ _ _ _ _ hf) (ab_leL.of ⟨rfl, ⟨rfl, ⟨rfl, ⟨rfl, ⟨rfl, ⟨rfl, trivial⟩⟩⟩⟩⟩⟩)
            · rw [if_neg b11] at hf
              refine ab_U.run 5 (S' := (55, [some (.ref 232), some (.int l1), some (.int l2), some (.int (-1)), some (.int l4), some (.int (l5 + 1)), some (.int (-1))], [], hp X G q7.2)) rfl ?_
              exact ab_U.weak (ih.2 _ _ _ _ _ _ _ hf) (ab_leL.of ⟨rfl, ⟨rfl, ⟨rfl, ⟨rfl, ⟨rfl, ⟨rfl, trivial⟩⟩⟩⟩⟩⟩)
          · rw [if_neg b10] at hf
            refine ab_U.run 5 (S' := (98, [some (.ref 232), some (.int l1), some (.int l2), some (.int l3), some (.int l5), some (.int l5), some (.int (-1))], [.int l3, .int (-1)], hp X G q7.2)) rfl ?_
            refine ab_U.ic_le rfl (fun b12 => ?_) (fun b12 => ?_)
            · rw [if_pos b12] at hf
              refine ab_U.run 4 (S' := (55, [some (.ref 232), some (.int l1), some (.int l2), some (.int l3), some (.int l5), some (.int (l5 + 1)), some (.int (-1))], [], hp X G q7.2)) rfl ?_
              exact ab_U.weak (ih.2 _ _ _ _ _ _ _ hf) (ab_leL.of ⟨rfl, ⟨rfl, ⟨rfl, ⟨rfl, ⟨rfl, ⟨rfl, trivial⟩⟩⟩⟩⟩⟩)
            · rw [if_neg b12] at hf
              refine ab_U.run 5 (S' := (55, [some (.ref 232), some (.int l1), some (.int l2), some (.int (-1)), some (.int l5), some (.int (l5 + 1)), some (.int (-1))], [], hp X G q7.2)) rfl ?_
              exact ab_U.weak (ih.2 _ _ _ _ _ _ _ hf) (ab_leL.of ⟨rfl, ⟨rfl, ⟨rfl, ⟨rfl, ⟨rfl, ⟨rfl, trivial⟩⟩⟩⟩⟩⟩)
        · rw [if_neg b9] at hf
          refine ab_U.run 1 (S' := (71, [some (.ref 232), some (.int l1), some (.int l2), some (.int l3), some (.int l4), some (.int l5), none], [.ref 232], hp X G q7.2)) rfl ?_
          obtain ⟨q13, h14, hf⟩ := ab_bnd hf
          refine ab_U.fn rfl rfl (t_X9_settled (X := X) hG h14) (by omega) ?_
          show ab_U _ _ _ (74, [some (.ref 232), some (.int l1), some (.int l2), some (.int l3), some (.int l4), some (.int l5), none], [.int q13.1], hp X G q13.2) _
          refine ab_U.run 4 (S' := (83, [some (.ref 232), some (.int l1), some (.int l2), some (.int l3), some (.int l4), some (.int l5), some (.int q13.1)], [.int l3, .int q13.1], hp X G q13.2)) rfl ?_
          refine ab_U.ic_le rfl (fun b15 => ?_) (fun b15 => ?_)
          · rw [if_pos b15] at hf
            refine ab_U.run 4 (S' := (98, [some (.ref 232), some (.int l1), some (.int l2), some (.int l3), some (.int l4), some (.int l5), some (.int q13.1)], [.int l3, .int q13.1], hp X G q13.2)) rfl ?_
            refine ab_U.ic_le rfl (fun b16 => ?_) (fun b16 => ?_)
            · rw [if_pos b16] at hf
              refine ab_U.run 4 (S' := (55, [some (.ref 232), some (.int l1), some (.int l2), some (.int l3), some (.int l4), some (.int (l5 + 1)), some (.int q13.1)], [], hp X G q13.2)) rfl ?_
              exact ab_U.weak (ih.2 _ _ _ _ _ _ _ hf) (ab_leL.of ⟨rfl, ⟨rfl, ⟨rfl, ⟨rfl, ⟨rfl, ⟨rfl, trivial⟩⟩⟩⟩⟩⟩)
            · rw [if_neg b16] at hf
              refine ab_U.run 5 (S' := (55, [some (.ref 232), some (.int l1), some (.int l2), some (.int q13.1), some (.int l4), some (.int (l5 + 1)), some (.int q13.1)], [], hp X G q13.2)) rfl ?_
              exact ab_U.weak (ih.2 _ _ _ _ _ _ _ hf) (ab_leL.of ⟨rfl, ⟨rfl, ⟨rfl, ⟨rfl, ⟨rfl, ⟨rfl, trivial⟩⟩⟩⟩⟩⟩)
          · rw [if_neg b15] at hf
            refine ab_U.run 5 (S' := (98, [some (.ref 232), some (.int l1), some (.int l2), some (.int l3), some (.int l5), some (.int l5), some (.int q13.1)], [.int l3, .int q13.1], hp X G q13.2)) rfl ?_
            refine ab_U.ic_le rfl (fun b17 => ?_) (fun b17 => ?_)
            · rw [if_pos b17] at hf
              refine ab_U.run 4 (S' := (55, [some (.ref 232), some (.int l1), some (.int l2), some (.int l3), some (.int l5), some (.int (l5 + 1)), some (.int q13.1)], [], hp X G q13.2)) rfl ?_
              exact ab_U.weak (ih.2 _ _ _ _ _ _ _ hf) (ab_leL.of ⟨rfl, ⟨rfl, ⟨rfl, ⟨rfl, ⟨rfl, ⟨rfl, trivial⟩⟩⟩⟩⟩⟩)
            · rw [if_neg b17] at hf
              refine ab_U.run 5 (S' := (55, [some (.ref 232), some (.int l1), some (.int l2), some (.int q13.1), some (.int l5), some (.int (l5 + 1)), some (.int q13.1)], [], hp X G q13.2)) rfl ?_
              exact ab_U.weak (ih.2 _ _ _ _ _ _ _ hf) (ab_leL.of ⟨rfl, ⟨rfl, ⟨rfl, ⟨rfl, ⟨rfl, ⟨rfl, trivial⟩⟩⟩⟩⟩⟩)
set_option maxRecDepth 20000 in
def f_X9_settle (F : Nat)  (x0 : Int32) (μ : fm_M) : Option (Int32 × fm_M) := (if x0 = 0 then g_X9_settle F  F 29 x0 1 0 0 0 μ else (Option.bind (f_X9_in F ((x0).toInt64) (Int64.ofNat 10) (((9 + (μ.1 232 3))).toInt64) μ) (fun q19 => (if ¬ q19.1 = 0 then g_X9_settle F  F 29 x0 1 0 0 0 q19.2 else some ((-1), q19.2)))))
set_option maxRecDepth 20000 in
theorem t_X9_settle {X : Nat × (Nat → Int32)} {G : Nat → Nat → Option Nat} (hG : fm_Gok G) {F : Nat}   {x0 : Int32} {μ : fm_M} {r : Int32 × fm_M} (hf : f_X9_settle F x0 μ = some r) : ab_F 8 191 [.ref 232, .int x0] (hp X G μ) (some (.int r.1)) (hp X G r.2) := by
  unfold f_X9_settle at hf
  refine ab_T.of (d := 7) rfl (Nat.le_of_ble_eq_true rfl) ?_
  show ab_U _ _ kX9_settle (0, [some (.ref 232), some (.int x0), none, none, none, none, none], [], hp X G μ) _
  refine ab_U.run 1 (S' := (1, [some (.ref 232), some (.int x0), none, none, none, none, none], [.int x0], hp X G μ)) rfl ?_
  refine ab_U.if_eq rfl (fun b18 => ?_) (fun b18 => ?_)
  · rw [if_pos b18] at hf
    refine ab_U.run 4 (S' := (29, [some (.ref 232), some (.int x0), some (.int 1), some (.int 0), none, none, none], [], hp X G μ)) rfl ?_
    exact ab_U.weak ((t_X9_settle_g (X := X) hG   F).1 _ _ _ _ _ _ _ hf) (ab_leL.of ⟨rfl, ⟨rfl, ⟨rfl, ⟨rfl, trivial⟩⟩⟩⟩)
  · rw [if_neg b18] at hf
    refine ab_U.run 8 (S' := (17, [some (.ref 232), some (.int x0), none, none, none, none, none], [.long ((9 + (μ.1 232 3))).toInt64, .long (Int64.ofNat 10), .long (x0).toInt64], hp X G μ)) rfl ?_
    obtain ⟨q19, h20, hf⟩ := ab_bnd hf
    refine ab_U.fn rfl rfl (t_X9_in (X := X) hG h20) (by omega) ?_
    show ab_U _ _ _ (20, [some (.ref 232), some (.int x0), none, none, none, none, none], [.int q19.1], hp X G q19.2) _
    refine ab_U.if_ne rfl (fun b21 => ?_) (fun b21 => ?_)
    · rw [if_pos b21] at hf
      refine ab_U.run 4 (S' := (29, [some (.ref 232), some (.int x0), some (.int 1), some (.int 0), none, none, none], [], hp X G q19.2)) rfl ?_
      exact ab_U.weak ((t_X9_settle_g (X := X) hG   F).1 _ _ _ _ _ _ _ hf) (ab_leL.of ⟨rfl, ⟨rfl, ⟨rfl, ⟨rfl, trivial⟩⟩⟩⟩)
    · rw [if_neg b21] at hf
      refine ab_U.run 1 (S' := (24, [some (.ref 232), some (.int x0), none, none, none, none, none], [.int (-1)], hp X G q19.2)) rfl ?_
      obtain rfl := Option.some.inj hf
      exact ab_U.ret rfl rfl ⟨rfl, rfl⟩
set_option maxRecDepth 20000 in
def b_X9_wool_24 (F : Nat)  (gg : Nat → Int32 → Int32 → Int32 → fm_M → Option (Int32 × fm_M)) (l1 : Int32) (l2 : Int32) (l3 : Int32) (μ : fm_M) : Option (Int32 × fm_M) := (if 5 < l3 then some ((-4), μ) else (if ab_in (13 + l1) 228 = true then (if ab_in (8 + l1) 228 = true then (if ab_in (μ.2.1 233 (8 + l1).toNatClampNeg) 4 = true then (Option.bind (f_X9_rateOf F (μ.2.1 235 (μ.2.1 233 (8 + l1).toNatClampNeg).toNatClampNeg) l3 μ) (fun q5 => (Option.bind (f_X9_afterOf F (μ.2.1 233 (13 + l1).toNatClampNeg) q5.1 l2 q5.2) (fun q7 => (if q7.1 < 5 then gg 24 l1 l2 (l3 + 1) q7.2 else some (l3, q7.2)))))) else none) else none) else none))
def g_X9_wool (F : Nat)  : Nat → Nat → Int32 → Int32 → Int32 → fm_M → Option (Int32 × fm_M)
  | 0, _, _, _, _, _ => none
  | n + 1, pc, l1, l2, l3, μ => if pc = 24 then b_X9_wool_24 F  (g_X9_wool F  n) l1 l2 l3 μ else none
set_option maxRecDepth 20000 in
theorem t_X9_wool_g {X : Nat × (Nat → Int32)} {G : Nat → Nat → Option Nat} (hG : fm_Gok G) {F : Nat}    : ∀ n : Nat, (∀ (l1 : Int32) (l2 : Int32) (l3 : Int32) (μ : fm_M) (r : Int32 × fm_M), g_X9_wool F  n 24 l1 l2 l3 μ = some r → ab_U 2 (some .int) kX9_wool (24, [some (.ref 232), some (.int l1), some (.int l2), some (.int l3)], [], hp X G μ) (fun r9 h9 => r9 = some (.int r.1) ∧ h9 = hp X G r.2))
  | 0 => by
    intros
    rename_i h
    cases h
  | n + 1 => by
    have ih := t_X9_wool_g (X := X) hG (F := F)   n
    · intro l1 l2 l3 μ r hf
      have hf : b_X9_wool_24 F  (g_X9_wool F  n) l1 l2 l3 μ = some r := hf
      unfold b_X9_wool_24 at hf
      refine ab_U.run 2 (S' := (26, [some (.ref 232), some (.int l1), some (.int l2), some (.int l3)], [.int 5, .int l3], hp X G μ)) rfl ?_
      refine ab_U.ic_gt rfl (fun b1 => ?_) (fun b1 => ?_)
      · rw [if_pos b1] at hf
        refine ab_U.run 1 (S' := (75, [some (.ref 232), some (.int l1), some (.int l2), some (.int l3)], [.int (-4)], hp X G μ)) rfl ?_
        obtain rfl := Option.some.inj hf
        exact ab_U.ret rfl rfl ⟨rfl, rfl⟩
      · rw [if_neg b1] at hf
        refine ab_U.run 6 (S' := (38, [some (.ref 232), some (.int l1), some (.int l2), some (.int l3)], [.int (13 + l1), .ref 233, .ref 232], hp X G μ)) rfl ?_
        obtain ⟨c2, hf⟩ := ab_ifs hf
        refine ab_U.iald (n := 228) rfl ⟨by decide, rfl⟩ c2 ?_
        show ab_U _ _ _ (39, [some (.ref 232), some (.int l1), some (.int l2), some (.int l3)], [.int (μ.2.1 233 (13 + l1).toNatClampNeg), .ref 232], hp X G μ) _
        refine ab_U.run 7 (S' := (51, [some (.ref 232), some (.int l1), some (.int l2), some (.int l3)], [.int (8 + l1), .ref 233, .ref 235, .int (μ.2.1 233 (13 + l1).toNatClampNeg), .ref 232], hp X G μ)) rfl ?_
        obtain ⟨c3, hf⟩ := ab_ifs hf
        refine ab_U.iald (n := 228) rfl ⟨by decide, rfl⟩ c3 ?_
        show ab_U _ _ _ (52, [some (.ref 232), some (.int l1), some (.int l2), some (.int l3)], [.int (μ.2.1 233 (8 + l1).toNatClampNeg), .ref 235, .int (μ.2.1 233 (13 + l1).toNatClampNeg), .ref 232], hp X G μ) _
        obtain ⟨c4, hf⟩ := ab_ifs hf
        refine ab_U.iald (n := 4) rfl ⟨by decide, rfl⟩ c4 ?_
        show ab_U _ _ _ (53, [some (.ref 232), some (.int l1), some (.int l2), some (.int l3)], [.int (μ.2.1 235 (μ.2.1 233 (8 + l1).toNatClampNeg).toNatClampNeg), .int (μ.2.1 233 (13 + l1).toNatClampNeg), .ref 232], hp X G μ) _
        refine ab_U.run 1 (S' := (54, [some (.ref 232), some (.int l1), some (.int l2), some (.int l3)], [.int l3, .int (μ.2.1 235 (μ.2.1 233 (8 + l1).toNatClampNeg).toNatClampNeg), .int (μ.2.1 233 (13 + l1).toNatClampNeg), .ref 232], hp X G μ)) rfl ?_
        obtain ⟨q5, h6, hf⟩ := ab_bnd hf
        refine ab_U.fn rfl rfl (t_X9_rateOf (X := X) hG h6) (by omega) ?_
        show ab_U _ _ _ (57, [some (.ref 232), some (.int l1), some (.int l2), some (.int l3)], [.int q5.1, .int (μ.2.1 233 (13 + l1).toNatClampNeg), .ref 232], hp X G q5.2) _
        refine ab_U.run 1 (S' := (58, [some (.ref 232), some (.int l1), some (.int l2), some (.int l3)], [.int l2, .int q5.1, .int (μ.2.1 233 (13 + l1).toNatClampNeg), .ref 232], hp X G q5.2)) rfl ?_
        obtain ⟨q7, h8, hf⟩ := ab_bnd hf
        refine ab_U.fn rfl rfl (t_X9_afterOf (X := X) hG h8) (by omega) ?_
        show ab_U _ _ _ (61, [some (.ref 232), some (.int l1), some (.int l2), some (.int l3)], [.int q7.1], hp X G q7.2) _
        refine ab_U.run 1 (S' := (62, [some (.ref 232), some (.int l1), some (.int l2), some (.int l3)], [.int 5, .int q7.1], hp X G q7.2)) rfl ?_
        refine ab_U.ic_lt rfl (fun b9 => ?_) (fun b9 => ?_)
        · rw [if_pos b9] at hf
          refine ab_U.run 2 (S' := (24, [some (.ref 232), some (.int l1), some (.int l2), some (.int (l3 + 1))], [], hp X G q7.2)) rfl ?_
          exact ab_U.weak (ih _ _ _ _ _ hf) (ab_leL.of ⟨rfl, ⟨rfl, ⟨rfl, ⟨rfl, trivial⟩⟩⟩⟩)
        · rw [if_neg b9] at hf
          refine ab_U.run 1 (S' := (66, [some (.ref 232), some (.int l1), some (.int l2), some (.int l3)], [.int l3], hp X G q7.2)) rfl ?_
          obtain rfl := Option.some.inj hf
          exact ab_U.ret rfl rfl ⟨rfl, rfl⟩
set_option maxRecDepth 20000 in
def f_X9_wool (F : Nat)  (x0 : Int32) (x1 : Int32) (μ : fm_M) : Option (Int32 × fm_M) := (Option.bind (f_X9_isStone F x0 μ) (fun q10 => (if q10.1 = 0 then some ((-1), q10.2) else (Option.bind (f_X9_in F ((x1).toInt64) (Int64.ofNat 0) (Int64.ofNat 60) q10.2) (fun q13 => (if ¬ q13.1 = 0 then g_X9_wool F  F 24 x0 x1 0 q13.2 else some ((-1), q13.2)))))))
set_option maxRecDepth 20000 in
theorem t_X9_wool {X : Nat × (Nat → Int32)} {G : Nat → Nat → Option Nat} (hG : fm_Gok G) {F : Nat}   {x0 : Int32} {x1 : Int32} {μ : fm_M} {r : Int32 × fm_M} (hf : f_X9_wool F x0 x1 μ = some r) : ab_F 3 192 [.ref 232, .int x0, .int x1] (hp X G μ) (some (.int r.1)) (hp X G r.2) := by
  unfold f_X9_wool at hf
  refine ab_T.of (d := 2) rfl (Nat.le_of_ble_eq_true rfl) ?_
  show ab_U _ _ kX9_wool (0, [some (.ref 232), some (.int x0), some (.int x1), none], [], hp X G μ) _
  refine ab_U.run 2 (S' := (2, [some (.ref 232), some (.int x0), some (.int x1), none], [.int x0, .ref 232], hp X G μ)) rfl ?_
  obtain ⟨q10, h11, hf⟩ := ab_bnd hf
  refine ab_U.fn rfl rfl (t_X9_isStone (X := X) hG h11) (by omega) ?_
  show ab_U _ _ _ (5, [some (.ref 232), some (.int x0), some (.int x1), none], [.int q10.1], hp X G q10.2) _
  refine ab_U.if_eq rfl (fun b12 => ?_) (fun b12 => ?_)
  · rw [if_pos b12] at hf
    refine ab_U.run 1 (S' := (21, [some (.ref 232), some (.int x0), some (.int x1), none], [.int (-1)], hp X G q10.2)) rfl ?_
    obtain rfl := Option.some.inj hf
    exact ab_U.ret rfl rfl ⟨rfl, rfl⟩
  · rw [if_neg b12] at hf
    refine ab_U.run 4 (S' := (14, [some (.ref 232), some (.int x0), some (.int x1), none], [.long (Int64.ofNat 60), .long (Int64.ofNat 0), .long (x1).toInt64], hp X G q10.2)) rfl ?_
    obtain ⟨q13, h14, hf⟩ := ab_bnd hf
    refine ab_U.fn rfl rfl (t_X9_in (X := X) hG h14) (by omega) ?_
    show ab_U _ _ _ (17, [some (.ref 232), some (.int x0), some (.int x1), none], [.int q13.1], hp X G q13.2) _
    refine ab_U.if_ne rfl (fun b15 => ?_) (fun b15 => ?_)
    · rw [if_pos b15] at hf
      refine ab_U.run 2 (S' := (24, [some (.ref 232), some (.int x0), some (.int x1), some (.int 0)], [], hp X G q13.2)) rfl ?_
      exact ab_U.weak ((t_X9_wool_g (X := X) hG   F) _ _ _ _ _ hf) (ab_leL.of ⟨rfl, ⟨rfl, ⟨rfl, ⟨rfl, trivial⟩⟩⟩⟩)
    · rw [if_neg b15] at hf
      refine ab_U.run 1 (S' := (21, [some (.ref 232), some (.int x0), some (.int x1), none], [.int (-1)], hp X G q13.2)) rfl ?_
      obtain rfl := Option.some.inj hf
      exact ab_U.ret rfl rfl ⟨rfl, rfl⟩
set_option maxRecDepth 20000 in
def f_X9_reaches (F : Nat)  (x0 : Int32) (x1 : Int32) (x2 : Int32) (μ : fm_M) : Option (Unit × fm_M) := (if ab_in ((100 * x0) + x1) 6100 = true then (if (μ.2.1 245 ((100 * x0) + x1).toNatClampNeg) ≤ x2 then (if ab_in ((100 * x0) + x1) 6100 = true then (if ab_in ((100 * x0) + x1) 6100 = true then (Option.bind (some (fm_sA μ 245 (upd (μ.2.1 245) ((100 * x0) + x1).toNatClampNeg (μ.2.1 245 ((100 * x0) + x1).toNatClampNeg)))) (fun m5 => some ((), m5))) else none) else none) else (if ab_in ((100 * x0) + x1) 6100 = true then (Option.bind (some (fm_sA μ 245 (upd (μ.2.1 245) ((100 * x0) + x1).toNatClampNeg x2))) (fun m8 => some ((), m8))) else none)) else none)
set_option maxRecDepth 20000 in
theorem t_X9_reaches {X : Nat × (Nat → Int32)} {G : Nat → Nat → Option Nat} (hG : fm_Gok G) {F : Nat}   {x0 : Int32} {x1 : Int32} {x2 : Int32} {μ : fm_M} {r : Unit × fm_M} (hf : f_X9_reaches F x0 x1 x2 μ = some r) : ab_F 1 193 [.ref 232, .int x0, .int x1, .int x2] (hp X G μ) none (hp X G r.2) := by
  unfold f_X9_reaches at hf
  refine ab_T.of (d := 0) rfl (Nat.le_of_ble_eq_true rfl) ?_
  show ab_U _ _ kX9_reaches (0, [some (.ref 232), some (.int x0), some (.int x1), some (.int x2)], [], hp X G μ) _
  refine ab_U.run 12 (S' := (18, [some (.ref 232), some (.int x0), some (.int x1), some (.int x2)], [.int x0, .int 100, .ref 245, .int x2, .int ((100 * x0) + x1), .ref 245], hp X G μ)) rfl ?_
  refine ab_U.run 3 (S' := (21, [some (.ref 232), some (.int x0), some (.int x1), some (.int x2)], [.int ((100 * x0) + x1), .ref 245, .int x2, .int ((100 * x0) + x1), .ref 245], hp X G μ)) rfl ?_
  obtain ⟨c1, hf⟩ := ab_ifs hf
  refine ab_U.iald (n := 6100) rfl ⟨by decide, rfl⟩ c1 ?_
  show ab_U _ _ _ (22, [some (.ref 232), some (.int x0), some (.int x1), some (.int x2)], [.int (μ.2.1 245 ((100 * x0) + x1).toNatClampNeg), .int x2, .int ((100 * x0) + x1), .ref 245], hp X G μ) _
  refine ab_U.ic_ge rfl (fun b2 => ?_) (fun b2 => ?_)
  · rw [if_pos b2] at hf
    refine ab_U.run 7 (S' := (39, [some (.ref 232), some (.int x0), some (.int x1), some (.int x2)], [.int ((100 * x0) + x1), .ref 245, .int ((100 * x0) + x1), .ref 245], hp X G μ)) rfl ?_
    obtain ⟨c3, hf⟩ := ab_ifs hf
    refine ab_U.iald (n := 6100) rfl ⟨by decide, rfl⟩ c3 ?_
    show ab_U _ _ _ (40, [some (.ref 232), some (.int x0), some (.int x1), some (.int x2)], [.int (μ.2.1 245 ((100 * x0) + x1).toNatClampNeg), .int ((100 * x0) + x1), .ref 245], hp X G μ) _
    obtain ⟨c4, hf⟩ := ab_ifs hf
    obtain ⟨m5, e6, hf⟩ := ab_bnd hf
    have e6 := Option.some.inj e6
    refine ab_U.iast (n := 6100) rfl ⟨by decide, rfl⟩ c4 ?_
    show ab_U _ _ _ (41, [some (.ref 232), some (.int x0), some (.int x1), some (.int x2)], [], hp X G (fm_sA μ 245 (upd (μ.2.1 245) ((100 * x0) + x1).toNatClampNeg (μ.2.1 245 ((100 * x0) + x1).toNatClampNeg)))) _
    rw [e6]
    obtain rfl := Option.some.inj hf
    exact ab_U.ret rfl rfl ⟨rfl, rfl⟩
  · rw [if_neg b2] at hf
    refine ab_U.run 2 (S' := (40, [some (.ref 232), some (.int x0), some (.int x1), some (.int x2)], [.int x2, .int ((100 * x0) + x1), .ref 245], hp X G μ)) rfl ?_
    obtain ⟨c7, hf⟩ := ab_ifs hf
    obtain ⟨m8, e9, hf⟩ := ab_bnd hf
    have e9 := Option.some.inj e9
    refine ab_U.iast (n := 6100) rfl ⟨by decide, rfl⟩ c7 ?_
    show ab_U _ _ _ (41, [some (.ref 232), some (.int x0), some (.int x1), some (.int x2)], [], hp X G (fm_sA μ 245 (upd (μ.2.1 245) ((100 * x0) + x1).toNatClampNeg x2))) _
    rw [e9]
    obtain rfl := Option.some.inj hf
    exact ab_U.ret rfl rfl ⟨rfl, rfl⟩
set_option maxRecDepth 20000 in
def b_X9_walked_13 (F : Nat)  (gg : Nat → Int32 → Int32 → Int32 → Int32 → Int32 → Int32 → fm_M → Option (Int32 × fm_M)) (l1 : Int32) (l2 : Int32) (l4 : Int32) (l5 : Int32) (l6 : Int32) (l7 : Int32) (μ : fm_M) : Option (Int32 × fm_M) := (if ((2 * l5) + 1) < l7 then some (l6, μ) else (if l7 = (l5 + 1) then (Option.bind (f_X9_heatNow F μ) (fun q3 => (if q3.1 ≤ l6 then (if l4 < (l2 + l7) then gg 13 l1 l2 l4 l5 l6 (l7 + 1) q3.2 else (if 5 ≤ l6 then gg 13 l1 l2 l4 l5 l6 (l7 + 1) q3.2 else some ((-4), q3.2))) else (Option.bind (f_X9_heatNow F q3.2) (fun q8 => (if l4 < (l2 + l7) then gg 13 l1 l2 l4 l5 q8.1 (l7 + 1) q8.2 else (if 5 ≤ q8.1 then gg 13 l1 l2 l4 l5 q8.1 (l7 + 1) q8.2 else some ((-4), q8.2)))))))) else (Option.bind (f_X9_rateOn F 0 l1 μ) (fun q12 => (Option.bind (f_X9_cooled F l6 q12.1 q12.2) (fun q14 => (if l4 < (l2 + l7) then gg 13 l1 l2 l4 l5 q14.1 (l7 + 1) q14.2 else (if 5 ≤ q14.1 then gg 13 l1 l2 l4 l5 q14.1 (l7 + 1) q14.2 else some ((-4), q14.2)))))))))
def g_X9_walked (F : Nat)  : Nat → Nat → Int32 → Int32 → Int32 → Int32 → Int32 → Int32 → fm_M → Option (Int32 × fm_M)
  | 0, _, _, _, _, _, _, _, _ => none
  | n + 1, pc, l1, l2, l4, l5, l6, l7, μ => if pc = 13 then b_X9_walked_13 F  (g_X9_walked F  n) l1 l2 l4 l5 l6 l7 μ else none
set_option maxRecDepth 20000 in
theorem t_X9_walked_g {X : Nat × (Nat → Int32)} {G : Nat → Nat → Option Nat} (hG : fm_Gok G) {F : Nat}    : ∀ n : Nat, (∀ (l1 : Int32) (l2 : Int32) (l4 : Int32) (l5 : Int32) (l6 : Int32) (l7 : Int32) (μ : fm_M) (r : Int32 × fm_M), g_X9_walked F  n 13 l1 l2 l4 l5 l6 l7 μ = some r → ab_U 2 (some .int) kX9_walked (13, [some (.ref 232), some (.int l1), some (.int l2), none, some (.int l4), some (.int l5), some (.int l6), some (.int l7)], [], hp X G μ) (fun r9 h9 => r9 = some (.int r.1) ∧ h9 = hp X G r.2))
  | 0 => by
    intros
    rename_i h
    cases h
  | n + 1 => by
    have ih := t_X9_walked_g (X := X) hG (F := F)   n
    · intro l1 l2 l4 l5 l6 l7 μ r hf
      have hf : b_X9_walked_13 F  (g_X9_walked F  n) l1 l2 l4 l5 l6 l7 μ = some r := hf
      unfold b_X9_walked_13 at hf
      refine ab_U.run 6 (S' := (21, [some (.ref 232), some (.int l1), some (.int l2), none, some (.int l4), some (.int l5), some (.int l6), some (.int l7)], [.int ((2 * l5) + 1), .int l7], hp X G μ)) rfl ?_
      refine ab_U.ic_gt rfl (fun b1 => ?_) (fun b1 => ?_)
      · rw [if_pos b1] at hf
        refine ab_U.run 1 (S' := (93, [some (.ref 232), some (.int l1), some (.int l2), none, some (.int l4), some (.int l5), some (.int l6), some (.int l7)], [.int l6], hp X G μ)) rfl ?_
        obtain rfl := Option.some.inj hf
        exact ab_U.ret rfl rfl ⟨rfl, rfl⟩
      · rw [if_neg b1] at hf
        refine ab_U.run 4 (S' := (30, [some (.ref 232), some (.int l1), some (.int l2), none, some (.int l4), some (.int l5), some (.int l6), some (.int l7)], [.int (l5 + 1), .int l7], hp X G μ)) rfl ?_
        refine ab_U.ic_eq rfl (fun b2 => ?_) (fun b2 => ?_)
        · rw [if_pos b2] at hf
          refine ab_U.run 2 (S' := (50, [some (.ref 232), some (.int l1), some (.int l2), none, some (.int l4), some (.int l5), some (.int l6), some (.int l7)], [.ref 232, .int l6], hp X G μ)) rfl ?_
          obtain ⟨q3, h4, hf⟩ := ab_bnd hf
          refine ab_U.fn rfl rfl (t_X9_heatNow (X := X) hG h4) (by omega) ?_
          show ab_U _ _ _ (53, [some (.ref 232), some (.int l1), some (.int l2), none, some (.int l4), some (.int l5), some (.int l6), some (.int l7)], [.int q3.1, .int l6], hp X G q3.2) _
          refine ab_U.ic_ge rfl (fun b5 => ?_) (fun b5 => ?_)
          · rw [if_pos b5] at hf
            refine ab_U.run 6 (S' := (73, [some (.ref 232), some (.int l1), some (.int l2), none, some (.int l4), some (.int l5), some (.int l6), some (.int l7)], [.int l4, .int (l2 + l7)], hp X G q3.2)) rfl ?_
            refine ab_U.ic_gt rfl (fun b6 => ?_) (fun b6 => ?_)
            · rw [if_pos b6] at hf
              refine ab_U.run 2 (S' := (13, [some (.ref 232), some (.int l1), some (.int l2), none, some (.int l4), some (.int l5), some (.int l6), some (.int (l7 + 1))], [], hp X G q3.2)) rfl ?_
              exact ab_U.weak (ih _ _ _ _ _ _ _ _ hf) (ab_leL.of ⟨rfl, ⟨rfl, ⟨rfl, ⟨rfl, ⟨rfl, ⟨rfl, ⟨rfl, trivial⟩⟩⟩⟩⟩⟩⟩)
            · rw [if_neg b6] at hf
              refine ab_U.run 2 (S' := (79, [some (.ref 232), some (.int l1), some (.int l2), none, some (.int l4), some (.int l5), some (.int l6), some (.int l7)], [.int 5, .int l6], hp X G q3.2)) rfl ?_
              refine ab_U.ic_ge rfl (fun b7 => ?_) (fun b7 => ?_)
              · rw [if_pos b7] at hf
                refine ab_U.run 2 (S' := (13, [some (.ref 232), some (.int l1), some (.int l2), none, some (.int l4), some (.int l5), some (.int l6), some (.int (l7 + 1))], [], hp X G q3.2)) rfl ?_
                exact ab_U.weak (ih _ _ _ _ _ _ _ _ hf) (ab_leL.of ⟨rfl, ⟨rfl, ⟨rfl, ⟨rfl, ⟨rfl, ⟨rfl, ⟨rfl, trivial⟩⟩⟩⟩⟩⟩⟩)
              · rw [if_neg b7] at hf
                refine ab_U.run 1 (S' := (84, [some (.ref 232), some (.int l1), some (.int l2), none, some (.int l4), some (.int l5), some (.int l6), some (.int l7)], [.int (-4)], hp X G q3.2)) rfl ?_
                obtain rfl := Option.some.inj hf
                exact ab_U.ret rfl rfl ⟨rfl, rfl⟩
          · rw [if_neg b5] at hf
            refine ab_U.run 1 (S' := (57, [some (.ref 232), some (.int l1), some (.int l2), none, some (.int l4), some (.int l5), some (.int l6), some (.int l7)], [.ref 232], hp X G q3.2)) rfl ?_
            obtain ⟨q8, h9, hf⟩ := ab_bnd hf
            refine ab_U.fn rfl rfl (t_X9_heatNow (X := X) hG h9) (by omega) ?_
            show ab_U _ _ _ (60, [some (.ref 232), some (.int l1), some (.int l2), none, some (.int l4), some (.int l5), some (.int l6), some (.int l7)], [.int q8.1], hp X G q8.2) _
            refine ab_U.run 6 (S' := (73, [some (.ref 232), some (.int l1), some (.int l2), none, some (.int l4), some (.int l5), some (.int q8.1), some (.int l7)], [.int l4, .int (l2 + l7)], hp X G q8.2)) rfl ?_
            refine ab_U.ic_gt rfl (fun b10 => ?_) (fun b10 => ?_)
            · rw [if_pos b10] at hf
              refine ab_U.run 2 (S' := (13, [some (.ref 232), some (.int l1), some (.int l2), none, some (.int l4), some (.int l5), some (.int q8.1), some (.int (l7 + 1))], [], hp X G q8.2)) rfl ?_
              exact ab_U.weak (ih _ _ _ _ _ _ _ _ hf) (ab_leL.of ⟨rfl, ⟨rfl, ⟨rfl, ⟨rfl, ⟨rfl, ⟨rfl, ⟨rfl, trivial⟩⟩⟩⟩⟩⟩⟩)
            · rw [if_neg b10] at hf
              refine ab_U.run 2 (S' := (79, [some (.ref 232), some (.int l1), some (.int l2), none, some (.int l4), some (.int l5), some (.int q8.1), some (.int l7)], [.int 5, .int q8.1], hp X G q8.2)) rfl ?_
              refine ab_U.ic_ge rfl (fun b11 => ?_) (fun b11 => ?_)
              · rw [if_pos b11] at hf
                refine ab_U.run 2 (S' := (13, [some (.ref 232), some (.int l1), some (.int l2), none, some (.int l4), some (.int l5), some (.int q8.1), some (.int (l7 + 1))], [], hp X G q8.2)) rfl ?_
                exact ab_U.weak (ih _ _ _ _ _ _ _ _ hf) (ab_leL.of ⟨rfl, ⟨rfl, ⟨rfl, ⟨rfl, ⟨rfl, ⟨rfl, ⟨rfl, trivial⟩⟩⟩⟩⟩⟩⟩)
              · rw [if_neg b11] at hf
                refine ab_U.run 1 (S' := (84, [some (.ref 232), some (.int l1), some (.int l2), none, some (.int l4), some (.int l5), some (.int q8.1), some (.int l7)], [.int (-4)], hp X G q8.2)) rfl ?_
                obtain rfl := Option.some.inj hf
                exact ab_U.ret rfl rfl ⟨rfl, rfl⟩
        · rw [if_neg b2] at hf
          refine ab_U.run 4 (S' := (38, [some (.ref 232), some (.int l1), some (.int l2), none, some (.int l4), some (.int l5), some (.int l6), some (.int l7)], [.int l1, .int 0, .ref 232, .int l6], hp X G μ)) rfl ?_
          obtain ⟨q12, h13, hf⟩ := ab_bnd hf
          refine ab_U.fn rfl rfl (t_X9_rateOn (X := X) hG h13) (by omega) ?_
          show ab_U _ _ _ (41, [some (.ref 232), some (.int l1), some (.int l2), none, some (.int l4), some (.int l5), some (.int l6), some (.int l7)], [.int q12.1, .int l6], hp X G q12.2) _
          obtain ⟨q14, h15, hf⟩ := ab_bnd hf
          refine ab_U.fn rfl rfl (t_X9_cooled (X := X) hG h15) (by omega) ?_
          show ab_U _ _ _ (44, [some (.ref 232), some (.int l1), some (.int l2), none, some (.int l4), some (.int l5), some (.int l6), some (.int l7)], [.int q14.1], hp X G q14.2) _
          refine ab_U.run 6 (S' := (73, [some (.ref 232), some (.int l1), some (.int l2), none, some (.int l4), some (.int l5), some (.int q14.1), some (.int l7)], [.int l4, .int (l2 + l7)], hp X G q14.2)) rfl ?_
          refine ab_U.ic_gt rfl (fun b16 => ?_) (fun b16 => ?_)
          · rw [if_pos b16] at hf
            refine ab_U.run 2 (S' := (13, [some (.ref 232), some (.int l1), some (.int l2), none, some (.int l4), some (.int l5), some (.int q14.1), some (.int (l7 + 1))], [], hp X G q14.2)) rfl ?_
            exact ab_U.weak (ih _ _ _ _ _ _ _ _ hf) (ab_leL.of ⟨rfl, ⟨rfl, ⟨rfl, ⟨rfl, ⟨rfl, ⟨rfl, ⟨rfl, trivial⟩⟩⟩⟩⟩⟩⟩)
          · rw [if_neg b16] at hf
            refine ab_U.run 2 (S' := (79, [some (.ref 232), some (.int l1), some (.int l2), none, some (.int l4), some (.int l5), some (.int q14.1), some (.int l7)], [.int 5, .int q14.1], hp X G q14.2)) rfl ?_
            refine ab_U.ic_ge rfl (fun b17 => ?_) (fun b17 => ?_)
            · rw [if_pos b17] at hf
              refine ab_U.run 2 (S' := (13, [some (.ref 232), some (.int l1), some (.int l2), none, some (.int l4), some (.int l5), some (.int q14.1), some (.int (l7 + 1))], [], hp X G q14.2)) rfl ?_
              exact ab_U.weak (ih _ _ _ _ _ _ _ _ hf) (ab_leL.of ⟨rfl, ⟨rfl, ⟨rfl, ⟨rfl, ⟨rfl, ⟨rfl, ⟨rfl, trivial⟩⟩⟩⟩⟩⟩⟩)
            · rw [if_neg b17] at hf
              refine ab_U.run 1 (S' := (84, [some (.ref 232), some (.int l1), some (.int l2), none, some (.int l4), some (.int l5), some (.int q14.1), some (.int l7)], [.int (-4)], hp X G q14.2)) rfl ?_
              obtain rfl := Option.some.inj hf
              exact ab_U.ret rfl rfl ⟨rfl, rfl⟩
set_option maxRecDepth 20000 in
def f_X9_walked (F : Nat)  (x0 : Int32) (x1 : Int32) (x2 : Int32) (x3 : Int32) (μ : fm_M) : Option (Int32 × fm_M) := (Option.bind (f_X9_ovenWay F x0 μ) (fun q18 => g_X9_walked F  F 13 x0 x1 x3 q18.1 x2 1 q18.2))
set_option maxRecDepth 20000 in
theorem t_X9_walked {X : Nat × (Nat → Int32)} {G : Nat → Nat → Option Nat} (hG : fm_Gok G) {F : Nat}   {x0 : Int32} {x1 : Int32} {x2 : Int32} {x3 : Int32} {μ : fm_M} {r : Int32 × fm_M} (hf : f_X9_walked F x0 x1 x2 x3 μ = some r) : ab_F 3 194 [.ref 232, .int x0, .int x1, .int x2, .int x3] (hp X G μ) (some (.int r.1)) (hp X G r.2) := by
  unfold f_X9_walked at hf
  refine ab_T.of (d := 2) rfl (Nat.le_of_ble_eq_true rfl) ?_
  show ab_U _ _ kX9_walked (0, [some (.ref 232), some (.int x0), some (.int x1), some (.int x2), some (.int x3), none, none, none], [], hp X G μ) _
  refine ab_U.run 2 (S' := (2, [some (.ref 232), some (.int x0), some (.int x1), some (.int x2), some (.int x3), none, none, none], [.int x0, .ref 232], hp X G μ)) rfl ?_
  obtain ⟨q18, h19, hf⟩ := ab_bnd hf
  refine ab_U.fn rfl rfl (t_X9_ovenWay (X := X) hG h19) (by omega) ?_
  show ab_U _ _ _ (5, [some (.ref 232), some (.int x0), some (.int x1), some (.int x2), some (.int x3), none, none, none], [.int q18.1], hp X G q18.2) _
  refine ab_U.run 5 (S' := (13, [some (.ref 232), some (.int x0), some (.int x1), some (.int x2), some (.int x3), some (.int q18.1), some (.int x2), some (.int 1)], [], hp X G q18.2)) rfl ?_
  exact ab_U.weak ((t_X9_walked_g (X := X) hG   F) _ _ _ _ _ _ _ _ hf) (ab_leL.of ⟨rfl, ⟨rfl, ⟨rfl, ⟨rfl, ⟨rfl, ⟨rfl, ⟨rfl, trivial⟩⟩⟩⟩⟩⟩⟩)
set_option maxRecDepth 20000 in
def b_X9_walks_24 (F : Nat)  (gg : Nat → Int32 → Int32 → Int32 → Int32 → Int32 → fm_M → Option (Int32 × fm_M)) (l1 : Int32) (l2 : Int32) (l3 : Int32) (l4 : Int32) (l5 : Int32) (μ : fm_M) : Option (Int32 × fm_M) := (if 6100 ≤ l3 then (if ab_in (13 + l1) 228 = true then (if (μ.2.1 233 (13 + l1).toNatClampNeg) < 5 then gg 81 l1 l2 1000 0 0 μ else (if ab_in (13 + l1) 228 = true then (Option.bind (f_X9_reaches F 0 (μ.2.1 233 (13 + l1).toNatClampNeg) 0 μ) (fun q5 => gg 81 l1 l2 1000 0 0 q5.2)) else none)) else none) else (if ab_in l3 6100 = true then (Option.bind (some (fm_sA μ 245 (upd (μ.2.1 245) l3.toNatClampNeg 1000))) (fun m8 => gg 24 l1 l2 (l3 + 1) 0 0 m8)) else none))
set_option maxRecDepth 20000 in
def b_X9_walks_81 (F : Nat)  (gg : Nat → Int32 → Int32 → Int32 → Int32 → Int32 → fm_M → Option (Int32 × fm_M)) (l1 : Int32) (l2 : Int32) (l3 : Int32) (l4 : Int32) (l5 : Int32) (μ : fm_M) : Option (Int32 × fm_M) := (if l2 < l4 then (if ¬ l3 = 1000 then some (l3, μ) else some ((-4), μ)) else gg 90 l1 l2 l3 l4 5 μ)
set_option maxRecDepth 20000 in
def b_X9_walks_90 (F : Nat)  (gg : Nat → Int32 → Int32 → Int32 → Int32 → Int32 → fm_M → Option (Int32 × fm_M)) (l1 : Int32) (l2 : Int32) (l3 : Int32) (l4 : Int32) (l5 : Int32) (μ : fm_M) : Option (Int32 × fm_M) := (if 100 ≤ l5 then gg 81 l1 l2 l3 (l4 + 1) 0 μ else (if ab_in ((100 * l4) + l5) 6100 = true then (if 1000 ≤ (μ.2.1 245 ((100 * l4) + l5).toNatClampNeg) then (if ¬ l4 = l2 then gg 90 l1 l2 l3 l4 (l5 + 1) μ else (if l3 ≤ (μ.2.1 245 ((100 * l4) + l5).toNatClampNeg) then gg 90 l1 l2 l3 l4 (l5 + 1) μ else gg 90 l1 l2 (μ.2.1 245 ((100 * l4) + l5).toNatClampNeg) l4 (l5 + 1) μ)) else (if l2 ≤ l4 then (if ¬ l4 = l2 then gg 90 l1 l2 l3 l4 (l5 + 1) μ else (if l3 ≤ (μ.2.1 245 ((100 * l4) + l5).toNatClampNeg) then gg 90 l1 l2 l3 l4 (l5 + 1) μ else gg 90 l1 l2 (μ.2.1 245 ((100 * l4) + l5).toNatClampNeg) l4 (l5 + 1) μ)) else (Option.bind (f_X9_rateOn F 0 l1 μ) (fun q20 => (Option.bind (f_X9_cooled F l5 q20.1 q20.2) (fun q22 => (if q22.1 < 5 then (Option.bind (f_X9_ovenWay F l1 q22.2) (fun q25 => (Option.bind (f_X9_walked F l1 l4 l5 l2 q25.2) (fun q27 => (if q27.1 = (-4) then (if q27.1 = (-4) then (if ¬ l4 = l2 then gg 90 l1 l2 l3 l4 (l5 + 1) q27.2 else (if l3 ≤ (μ.2.1 245 ((100 * l4) + l5).toNatClampNeg) then gg 90 l1 l2 l3 l4 (l5 + 1) q27.2 else gg 90 l1 l2 (μ.2.1 245 ((100 * l4) + l5).toNatClampNeg) l4 (l5 + 1) q27.2)) else (if ((l4 + (2 * q25.1)) + 1) ≤ l2 then (if ¬ l4 = l2 then gg 90 l1 l2 l3 l4 (l5 + 1) q27.2 else (if l3 ≤ (μ.2.1 245 ((100 * l4) + l5).toNatClampNeg) then gg 90 l1 l2 l3 l4 (l5 + 1) q27.2 else gg 90 l1 l2 (μ.2.1 245 ((100 * l4) + l5).toNatClampNeg) l4 (l5 + 1) q27.2)) else (if l3 ≤ ((μ.2.1 245 ((100 * l4) + l5).toNatClampNeg) + 1) then (if ¬ l4 = l2 then gg 90 l1 l2 l3 l4 (l5 + 1) q27.2 else (if l3 ≤ (μ.2.1 245 ((100 * l4) + l5).toNatClampNeg) then gg 90 l1 l2 l3 l4 (l5 + 1) q27.2 else gg 90 l1 l2 (μ.2.1 245 ((100 * l4) + l5).toNatClampNeg) l4 (l5 + 1) q27.2)) else (if ¬ l4 = l2 then gg 90 l1 l2 ((μ.2.1 245 ((100 * l4) + l5).toNatClampNeg) + 1) l4 (l5 + 1) q27.2 else (if ((μ.2.1 245 ((100 * l4) + l5).toNatClampNeg) + 1) ≤ (μ.2.1 245 ((100 * l4) + l5).toNatClampNeg) then gg 90 l1 l2 ((μ.2.1 245 ((100 * l4) + l5).toNatClampNeg) + 1) l4 (l5 + 1) q27.2 else gg 90 l1 l2 (μ.2.1 245 ((100 * l4) + l5).toNatClampNeg) l4 (l5 + 1) q27.2))))) else (if l2 < ((l4 + (2 * q25.1)) + 1) then (if q27.1 = (-4) then (if ¬ l4 = l2 then gg 90 l1 l2 l3 l4 (l5 + 1) q27.2 else (if l3 ≤ (μ.2.1 245 ((100 * l4) + l5).toNatClampNeg) then gg 90 l1 l2 l3 l4 (l5 + 1) q27.2 else gg 90 l1 l2 (μ.2.1 245 ((100 * l4) + l5).toNatClampNeg) l4 (l5 + 1) q27.2)) else (if ((l4 + (2 * q25.1)) + 1) ≤ l2 then (if ¬ l4 = l2 then gg 90 l1 l2 l3 l4 (l5 + 1) q27.2 else (if l3 ≤ (μ.2.1 245 ((100 * l4) + l5).toNatClampNeg) then gg 90 l1 l2 l3 l4 (l5 + 1) q27.2 else gg 90 l1 l2 (μ.2.1 245 ((100 * l4) + l5).toNatClampNeg) l4 (l5 + 1) q27.2)) else (if l3 ≤ ((μ.2.1 245 ((100 * l4) + l5).toNatClampNeg) + 1) then (if ¬ l4 = l2 then gg 90 l1 l2 l3 l4 (l5 + 1) q27.2 else (if l3 ≤ (μ.2.1 245 ((100 * l4) + l5).toNatClampNeg) then gg 90 l1 l2 l3 l4 (l5 + 1) q27.2 else gg 90 l1 l2 (μ.2.1 245 ((100 * l4) + l5).toNatClampNeg) l4 (l5 + 1) q27.2)) else (if ¬ l4 = l2 then gg 90 l1 l2 ((μ.2.1 245 ((100 * l4) + l5).toNatClampNeg) + 1) l4 (l5 + 1) q27.2 else (if ((μ.2.1 245 ((100 * l4) + l5).toNatClampNeg) + 1) ≤ (μ.2.1 245 ((100 * l4) + l5).toNatClampNeg) then gg 90 l1 l2 ((μ.2.1 245 ((100 * l4) + l5).toNatClampNeg) + 1) l4 (l5 + 1) q27.2 else gg 90 l1 l2 (μ.2.1 245 ((100 * l4) + l5).toNatClampNeg) l4 (l5 + 1) q27.2))))) else (Option.bind (f_X9_reaches F ((l4 + (2 * q25.1)) + 1) q27.1 ((μ.2.1 245 ((100 * l4) + l5).toNatClampNeg) + 1) q27.2) (fun q53 => (if q27.1 = (-4) then (if ¬ l4 = l2 then gg 90 l1 l2 l3 l4 (l5 + 1) q53.2 else (if l3 ≤ (μ.2.1 245 ((100 * l4) + l5).toNatClampNeg) then gg 90 l1 l2 l3 l4 (l5 + 1) q53.2 else gg 90 l1 l2 (μ.2.1 245 ((100 * l4) + l5).toNatClampNeg) l4 (l5 + 1) q53.2)) else (if ((l4 + (2 * q25.1)) + 1) ≤ l2 then (if ¬ l4 = l2 then gg 90 l1 l2 l3 l4 (l5 + 1) q53.2 else (if l3 ≤ (μ.2.1 245 ((100 * l4) + l5).toNatClampNeg) then gg 90 l1 l2 l3 l4 (l5 + 1) q53.2 else gg 90 l1 l2 (μ.2.1 245 ((100 * l4) + l5).toNatClampNeg) l4 (l5 + 1) q53.2)) else (if l3 ≤ ((μ.2.1 245 ((100 * l4) + l5).toNatClampNeg) + 1) then (if ¬ l4 = l2 then gg 90 l1 l2 l3 l4 (l5 + 1) q53.2 else (if l3 ≤ (μ.2.1 245 ((100 * l4) + l5).toNatClampNeg) then gg 90 l1 l2 l3 l4 (l5 + 1) q53.2 else gg 90 l1 l2 (μ.2.1 245 ((100 * l4) + l5).toNatClampNeg) l4 (l5 + 1) q53.2)) else (if ¬ l4 = l2 then gg 90 l1 l2 ((μ.2.1 245 ((100 * l4) + l5).toNatClampNeg) + 1) l4 (l5 + 1) q53.2 else (if ((μ.2.1 245 ((100 * l4) + l5).toNatClampNeg) + 1) ≤ (μ.2.1 245 ((100 * l4) + l5).toNatClampNeg) then gg 90 l1 l2 ((μ.2.1 245 ((100 * l4) + l5).toNatClampNeg) + 1) l4 (l5 + 1) q53.2 else gg 90 l1 l2 (μ.2.1 245 ((100 * l4) + l5).toNatClampNeg) l4 (l5 + 1) q53.2))))))))))))) else (Option.bind (f_X9_reaches F (l4 + 1) q22.1 (μ.2.1 245 ((100 * l4) + l5).toNatClampNeg) q22.2) (fun q66 => (Option.bind (f_X9_ovenWay F l1 q66.2) (fun q68 => (Option.bind (f_X9_walked F l1 l4 l5 l2 q68.2) (fun q70 => (if q70.1 = (-4) then (if q70.1 = (-4) then (if ¬ l4 = l2 then gg 90 l1 l2 l3 l4 (l5 + 1) q70.2 else (if l3 ≤ (μ.2.1 245 ((100 * l4) + l5).toNatClampNeg) then gg 90 l1 l2 l3 l4 (l5 + 1) q70.2 else gg 90 l1 l2 (μ.2.1 245 ((100 * l4) + l5).toNatClampNeg) l4 (l5 + 1) q70.2)) else (if ((l4 + (2 * q68.1)) + 1) ≤ l2 then (if ¬ l4 = l2 then gg 90 l1 l2 l3 l4 (l5 + 1) q70.2 else (if l3 ≤ (μ.2.1 245 ((100 * l4) + l5).toNatClampNeg) then gg 90 l1 l2 l3 l4 (l5 + 1) q70.2 else gg 90 l1 l2 (μ.2.1 245 ((100 * l4) + l5).toNatClampNeg) l4 (l5 + 1) q70.2)) else (if l3 ≤ ((μ.2.1 245 ((100 * l4) + l5).toNatClampNeg) + 1) then (if ¬ l4 = l2 then gg 90 l1 l2 l3 l4 (l5 + 1) q70.2 else (if l3 ≤ (μ.2.1 245 ((100 * l4) + l5).toNatClampNeg) then gg 90 l1 l2 l3 l4 (l5 + 1) q70.2 else gg 90 l1 l2 (μ.2.1 245 ((100 * l4) + l5).toNatClampNeg) l4 (l5 + 1) q70.2)) else (if ¬ l4 = l2 then gg 90 l1 l2 ((μ.2.1 245 ((100 * l4) + l5).toNatClampNeg) + 1) l4 (l5 + 1) q70.2 else (if ((μ.2.1 245 ((100 * l4) + l5).toNatClampNeg) + 1) ≤ (μ.2.1 245 ((100 * l4) + l5).toNatClampNeg) then gg 90 l1 l2 ((μ.2.1 245 ((100 * l4) + l5).toNatClampNeg) + 1) l4 (l5 + 1) q70.2 else gg 90 l1 l2 (μ.2.1 245 ((100 * l4) + l5).toNatClampNeg) l4 (l5 + 1) q70.2))))) else (if l2 < ((l4 + (2 * q68.1)) + 1) then (if q70.1 = (-4) then (if ¬ l4 = l2 then gg 90 l1 l2 l3 l4 (l5 + 1) q70.2 else (if l3 ≤ (μ.2.1 245 ((100 * l4) + l5).toNatClampNeg) then gg 90 l1 l2 l3 l4 (l5 + 1) q70.2 else gg 90 l1 l2 (μ.2.1 245 ((100 * l4) + l5).toNatClampNeg) l4 (l5 + 1) q70.2)) else (if ((l4 + (2 * q68.1)) + 1) ≤ l2 then (if ¬ l4 = l2 then gg 90 l1 l2 l3 l4 (l5 + 1) q70.2 else (if l3 ≤ (μ.2.1 245 ((100 * l4) + l5).toNatClampNeg) then gg 90 l1 l2 l3 l4 (l5 + 1) q70.2 else gg 90 l1 l2 (μ.2.1 245 ((100 * l4) + l5).toNatClampNeg) l4 (l5 + 1) q70.2)) else (if l3 ≤ ((μ.2.1 245 ((100 * l4) + l5).toNatClampNeg) + 1) then (if ¬ l4 = l2 then gg 90 l1 l2 l3 l4 (l5 + 1) q70.2 else (if l3 ≤ (μ.2.1 245 ((100 * l4) + l5).toNatClampNeg) then gg 90 l1 l2 l3 l4 (l5 + 1) q70.2 else gg 90 l1 l2 (μ.2.1 245 ((100 * l4) + l5).toNatClampNeg) l4 (l5 + 1) q70.2)) else (if ¬ l4 = l2 then gg 90 l1 l2 ((μ.2.1 245 ((100 * l4) + l5).toNatClampNeg) + 1) l4 (l5 + 1) q70.2 else (if ((μ.2.1 245 ((100 * l4) + l5).toNatClampNeg) + 1) ≤ (μ.2.1 245 ((100 * l4) + l5).toNatClampNeg) then gg 90 l1 l2 ((μ.2.1 245 ((100 * l4) + l5).toNatClampNeg) + 1) l4 (l5 + 1) q70.2 else gg 90 l1 l2 (μ.2.1 245 ((100 * l4) + l5).toNatClampNeg) l4 (l5 + 1) q70.2))))) else (Option.bind (f_X9_reaches F ((l4 + (2 * q68.1)) + 1) q70.1 ((μ.2.1 245 ((100 * l4) + l5).toNatClampNeg) + 1) q70.2) (fun q96 => (if q70.1 = (-4) then (if ¬ l4 = l2 then gg 90 l1 l2 l3 l4 (l5 + 1) q96.2 else (if l3 ≤ (μ.2.1 245 ((100 * l4) + l5).toNatClampNeg) then gg 90 l1 l2 l3 l4 (l5 + 1) q96.2 else gg 90 l1 l2 (μ.2.1 245 ((100 * l4) + l5).toNatClampNeg) l4 (l5 + 1) q96.2)) else (if ((l4 + (2 * q68.1)) + 1) ≤ l2 then (if ¬ l4 = l2 then gg 90 l1 l2 l3 l4 (l5 + 1) q96.2 else (if l3 ≤ (μ.2.1 245 ((100 * l4) + l5).toNatClampNeg) then gg 90 l1 l2 l3 l4 (l5 + 1) q96.2 else gg 90 l1 l2 (μ.2.1 245 ((100 * l4) + l5).toNatClampNeg) l4 (l5 + 1) q96.2)) else (if l3 ≤ ((μ.2.1 245 ((100 * l4) + l5).toNatClampNeg) + 1) then (if ¬ l4 = l2 then gg 90 l1 l2 l3 l4 (l5 + 1) q96.2 else (if l3 ≤ (μ.2.1 245 ((100 * l4) + l5).toNatClampNeg) then gg 90 l1 l2 l3 l4 (l5 + 1) q96.2 else gg 90 l1 l2 (μ.2.1 245 ((100 * l4) + l5).toNatClampNeg) l4 (l5 + 1) q96.2)) else (if ¬ l4 = l2 then gg 90 l1 l2 ((μ.2.1 245 ((100 * l4) + l5).toNatClampNeg) + 1) l4 (l5 + 1) q96.2 else (if ((μ.2.1 245 ((100 * l4) + l5).toNatClampNeg) + 1) ≤ (μ.2.1 245 ((100 * l4) + l5).toNatClampNeg) then gg 90 l1 l2 ((μ.2.1 245 ((100 * l4) + l5).toNatClampNeg) + 1) l4 (l5 + 1) q96.2 else gg 90 l1 l2 (μ.2.1 245 ((100 * l4) + l5).toNatClampNeg) l4 (l5 + 1) q96.2)))))))))))))))))))))) else none))
def g_X9_walks (F : Nat)  : Nat → Nat → Int32 → Int32 → Int32 → Int32 → Int32 → fm_M → Option (Int32 × fm_M)
  | 0, _, _, _, _, _, _, _ => none
  | n + 1, pc, l1, l2, l3, l4, l5, μ => if pc = 24 then b_X9_walks_24 F  (g_X9_walks F  n) l1 l2 l3 l4 l5 μ else if pc = 81 then b_X9_walks_81 F  (g_X9_walks F  n) l1 l2 l3 l4 l5 μ else if pc = 90 then b_X9_walks_90 F  (g_X9_walks F  n) l1 l2 l3 l4 l5 μ else none
set_option maxRecDepth 20000 in
theorem t_X9_walks_g {X : Nat × (Nat → Int32)} {G : Nat → Nat → Option Nat} (hG : fm_Gok G) {F : Nat}    : ∀ n : Nat, (∀ (l1 : Int32) (l2 : Int32) (l3 : Int32) (l4 : Int32) (l5 : Int32) (μ : fm_M) (r : Int32 × fm_M), g_X9_walks F  n 24 l1 l2 l3 l4 l5 μ = some r → ab_U 3 (some .int) kX9_walks (24, [some (.ref 232), some (.int l1), some (.int l2), some (.int l3), none, none, none, none, none, none], [], hp X G μ) (fun r9 h9 => r9 = some (.int r.1) ∧ h9 = hp X G r.2)) ∧ (∀ (l1 : Int32) (l2 : Int32) (l3 : Int32) (l4 : Int32) (l5 : Int32) (μ : fm_M) (r : Int32 × fm_M), g_X9_walks F  n 81 l1 l2 l3 l4 l5 μ = some r → ab_U 3 (some .int) kX9_walks (81, [some (.ref 232), some (.int l1), some (.int l2), some (.int l3), some (.int l4), none, none, none, none, none], [], hp X G μ) (fun r9 h9 => r9 = some (.int r.1) ∧ h9 = hp X G r.2)) ∧ (∀ (l1 : Int32) (l2 : Int32) (l3 : Int32) (l4 : Int32) (l5 : Int32) (μ : fm_M) (r : Int32 × fm_M), g_X9_walks F  n 90 l1 l2 l3 l4 l5 μ = some r → ab_U 3 (some .int) kX9_walks (90, [some (.ref 232), some (.int l1), some (.int l2), some (.int l3), some (.int l4), some (.int l5), none, none, none, none], [], hp X G μ) (fun r9 h9 => r9 = some (.int r.1) ∧ h9 = hp X G r.2))
  | 0 => by
    refine ⟨?_, ?_, ?_⟩
    all_goals (intros; rename_i h; cases h)
  | n + 1 => by
    have ih := t_X9_walks_g (X := X) hG (F := F)   n
    refine ⟨?_, ?_, ?_⟩
    · intro l1 l2 l3 l4 l5 μ r hf
      have hf : b_X9_walks_24 F  (g_X9_walks F  n) l1 l2 l3 l4 l5 μ = some r := hf
      unfold b_X9_walks_24 at hf
      refine ab_U.run 2 (S' := (28, [some (.ref 232), some (.int l1), some (.int l2), some (.int l3), none, none, none, none, none, none], [.int 6100, .int l3], hp X G μ)) rfl ?_
      refine ab_U.ic_ge rfl (fun b1 => ?_) (fun b1 => ?_)
      · rw [if_pos b1] at hf
        refine ab_U.run 7 (S' := (58, [some (.ref 232), some (.int l1), some (.int l2), some (.int 1000), none, none, none, none, none, none], [.int (13 + l1), .ref 233], hp X G μ)) rfl ?_
        obtain ⟨c2, hf⟩ := ab_ifs hf
        refine ab_U.iald (n := 228) rfl ⟨by decide, rfl⟩ c2 ?_
        show ab_U _ _ _ (59, [some (.ref 232), some (.int l1), some (.int l2), some (.int 1000), none, none, none, none, none, none], [.int (μ.2.1 233 (13 + l1).toNatClampNeg)], hp X G μ) _
        refine ab_U.run 1 (S' := (60, [some (.ref 232), some (.int l1), some (.int l2), some (.int 1000), none, none, none, none, none, none], [.int 5, .int (μ.2.1 233 (13 + l1).toNatClampNeg)], hp X G μ)) rfl ?_
        refine ab_U.ic_lt rfl (fun b3 => ?_) (fun b3 => ?_)
        · rw [if_pos b3] at hf
          refine ab_U.run 2 (S' := (81, [some (.ref 232), some (.int l1), some (.int l2), some (.int 1000), some (.int 0), none, none, none, none, none], [], hp X G μ)) rfl ?_
          exact ab_U.weak (ih.2.1 _ _ _ _ _ _ _ hf) (ab_leL.of ⟨rfl, ⟨rfl, ⟨rfl, ⟨rfl, ⟨rfl, trivial⟩⟩⟩⟩⟩)
        · rw [if_neg b3] at hf
          refine ab_U.run 7 (S' := (73, [some (.ref 232), some (.int l1), some (.int l2), some (.int 1000), none, none, none, none, none, none], [.int (13 + l1), .ref 233, .int 0, .ref 232], hp X G μ)) rfl ?_
          obtain ⟨c4, hf⟩ := ab_ifs hf
          refine ab_U.iald (n := 228) rfl ⟨by decide, rfl⟩ c4 ?_
          show ab_U _ _ _ (74, [some (.ref 232), some (.int l1), some (.int l2), some (.int 1000), none, none, none, none, none, none], [.int (μ.2.1 233 (13 + l1).toNatClampNeg), .int 0, .ref 232], hp X G μ) _
          refine ab_U.run 1 (S' := (75, [some (.ref 232), some (.int l1), some (.int l2), some (.int 1000), none, none, none, none, none, none], [.int 0, .int (μ.2.1 233 (13 + l1).toNatClampNeg), .int 0, .ref 232], hp X G μ)) rfl ?_
          obtain ⟨q5, h6, hf⟩ := ab_bnd hf
          refine ab_U.fn rfl rfl (t_X9_reaches (X := X) hG h6) (by omega) ?_
          show ab_U _ _ _ (78, [some (.ref 232), some (.int l1), some (.int l2), some (.int 1000), none, none, none, none, none, none], [], hp X G q5.2) _
          refine ab_U.run 2 (S' := (81, [some (.ref 232), some (.int l1), some (.int l2), some (.int 1000), some (.int 0), none, none, none, none, none], [], hp X G q5.2)) rfl ?_
          exact ab_U.weak (ih.2.1 _ _ _ _ _ _ _ hf) (ab_leL.of ⟨rfl, ⟨rfl, ⟨rfl, ⟨rfl, ⟨rfl, trivial⟩⟩⟩⟩⟩)
      · rw [if_neg b1] at hf
        refine ab_U.run 4 (S' := (39, [some (.ref 232), some (.int l1), some (.int l2), some (.int l3), none, none, none, none, none, none], [.int 1000, .int l3, .ref 245], hp X G μ)) rfl ?_
        obtain ⟨c7, hf⟩ := ab_ifs hf
        obtain ⟨m8, e9, hf⟩ := ab_bnd hf
        have e9 := Option.some.inj e9
        refine ab_U.iast (n := 6100) rfl ⟨by decide, rfl⟩ c7 ?_
        show ab_U _ _ _ (40, [some (.ref 232), some (.int l1), some (.int l2), some (.int l3), none, none, none, none, none, none], [], hp X G (fm_sA μ 245 (upd (μ.2.1 245) l3.toNatClampNeg 1000))) _
        rw [e9]
        refine ab_U.run 2 (S' := (24, [some (.ref 232), some (.int l1), some (.int l2), some (.int (l3 + 1)), none, none, none, none, none, none], [], hp X G m8)) rfl ?_
        exact ab_U.weak (ih.1 _ _ _ _ _ _ _ hf) (ab_leL.of ⟨rfl, ⟨rfl, ⟨rfl, ⟨rfl, trivial⟩⟩⟩⟩)
    · intro l1 l2 l3 l4 l5 μ r hf
      have hf : b_X9_walks_81 F  (g_X9_walks F  n) l1 l2 l3 l4 l5 μ = some r := hf
      unfold b_X9_walks_81 at hf
      refine ab_U.run 2 (S' := (84, [some (.ref 232), some (.int l1), some (.int l2), some (.int l3), some (.int l4), none, none, none, none, none], [.int l2, .int l4], hp X G μ)) rfl ?_
      refine ab_U.ic_gt rfl (fun b10 => ?_) (fun b10 => ?_)
      · rw [if_pos b10] at hf
        refine ab_U.run 2 (S' := (273, [some (.ref 232), some (.int l1), some (.int l2), some (.int l3), some (.int l4), none, none, none, none, none], [.int 1000, .int l3], hp X G μ)) rfl ?_
        refine ab_U.ic_ne rfl (fun b11 => ?_) (fun b11 => ?_)
        · rw [if_pos b11] at hf
          refine ab_U.run 1 (S' := (282, [some (.ref 232), some (.int l1), some (.int l2), some (.int l3), some (.int l4), none, none, none, none, none], [.int l3], hp X G μ)) rfl ?_
          obtain rfl := Option.some.inj hf
          exact ab_U.ret rfl rfl ⟨rfl, rfl⟩
        · rw [if_neg b11] at hf
          refine ab_U.run 2 (S' := (282, [some (.ref 232), some (.int l1), some (.int l2), some (.int l3), some (.int l4), none, none, none, none, none], [.int (-4)], hp X G μ)) rfl ?_
          obtain rfl := Option.some.inj hf
          exact ab_U.ret rfl rfl ⟨rfl, rfl⟩
      · rw [if_neg b10] at hf
        refine ab_U.run 2 (S' := (90, [some (.ref 232), some (.int l1), some (.int l2), some (.int l3), some (.int l4), some (.int 5), none, none, none, none], [], hp X G μ)) rfl ?_
        exact ab_U.weak (ih.2.2 _ _ _ _ _ _ _ hf) (ab_leL.of ⟨rfl, ⟨rfl, ⟨rfl, ⟨rfl, ⟨rfl, ⟨rfl, trivial⟩⟩⟩⟩⟩⟩)
    · intro l1 l2 l3 l4 l5 μ r hf
      have hf : b_X9_walks_90 F  (g_X9_walks F  n) l1 l2 l3 l4 l5 μ = some r := hf
      unfold b_X9_walks_90 at hf
      refine ab_U.run 2 (S' := (94, [some (.ref 232), some (.int l1), some (.int l2), some (.int l3), some (.int l4), some (.int l5), none, none, none, none], [.int 100, .int l5], hp X G μ)) rfl ?_
      refine ab_U.ic_ge rfl (fun b12 => ?_) (fun b12 => ?_)
      · rw [if_pos b12] at hf
        refine ab_U.run 2 (S' := (81, [some (.ref 232), some (.int l1), some (.int l2), some (.int l3), some (.int (l4 + 1)), some (.int l5), none, none, none, none], [], hp X G μ)) rfl ?_
        exact ab_U.weak (ih.2.1 _ _ _ _ _ _ _ hf) (ab_leL.of ⟨rfl, ⟨rfl, ⟨rfl, ⟨rfl, ⟨rfl, trivial⟩⟩⟩⟩⟩)
      · rw [if_neg b12] at hf
        refine ab_U.run 7 (S' := (109, [some (.ref 232), some (.int l1), some (.int l2), some (.int l3), some (.int l4), some (.int l5), none, none, none, none], [.int ((100 * l4) + l5), .ref 245], hp X G μ)) rfl ?_
        obtain ⟨c13, hf⟩ := ab_ifs hf
        refine ab_U.iald (n := 6100) rfl ⟨by decide, rfl⟩ c13 ?_
        show ab_U _ _ _ (110, [some (.ref 232), some (.int l1), some (.int l2), some (.int l3), some (.int l4), some (.int l5), none, none, none, none], [.int (μ.2.1 245 ((100 * l4) + l5).toNatClampNeg)], hp X G μ) _
        refine ab_U.run 3 (S' := (117, [some (.ref 232), some (.int l1), some (.int l2), some (.int l3), some (.int l4), some (.int l5), some (.int (μ.2.1 245 ((100 * l4) + l5).toNatClampNeg)), none, none, none], [.int 1000, .int (μ.2.1 245 ((100 * l4) + l5).toNatClampNeg)], hp X G μ)) rfl ?_
        refine ab_U.ic_ge rfl (fun b14 => ?_) (fun b14 => ?_)
        · rw [if_pos b14] at hf
          refine ab_U.run 2 (S' := (241, [some (.ref 232), some (.int l1), some (.int l2), some (.int l3), some (.int l4), some (.int l5), some (.int (μ.2.1 245 ((100 * l4) + l5).toNatClampNeg)), none, none, none], [.int l2, .int l4], hp X G μ)) rfl ?_
          refine ab_U.ic_ne rfl (fun b15 => ?_) (fun b15 => ?_)
          · rw [if_pos b15] at hf
            refine ab_U.run 4 (S' := (90, [some (.ref 232), some (.int l1), some (.int l2), some (.int l3), some (.int l4), some (.int (l5 + 1)), some (.int (μ.2.1 245 ((100 * l4) + l5).toNatClampNeg)), none, none, none], [], hp X G μ)) rfl ?_
            exact ab_U.weak (ih.2.2 _ _ _ _ _ _ _ hf) (ab_leL.of ⟨rfl, ⟨rfl, ⟨rfl, ⟨rfl, ⟨rfl, ⟨rfl, trivial⟩⟩⟩⟩⟩⟩)
          · rw [if_neg b15] at hf
            refine ab_U.run 2 (S' := (247, [some (.ref 232), some (.int l1), some (.int l2), some (.int l3), some (.int l4), some (.int l5), some (.int (μ.2.1 245 ((100 * l4) + l5).toNatClampNeg)), none, none, none], [.int l3, .int (μ.2.1 245 ((100 * l4) + l5).toNatClampNeg)], hp X G μ)) rfl ?_
            refine ab_U.ic_ge rfl (fun b16 => ?_) (fun b16 => ?_)
            · rw [if_pos b16] at hf
              refine ab_U.run 4 (S' := (90, [some (.ref 232), some (.int l1), some (.int l2), some (.int l3), some (.int l4), some (.int (l5 + 1)), some (.int (μ.2.1 245 ((100 * l4) + l5).toNatClampNeg)), none, none, none], [], hp X G μ)) rfl ?_
              exact ab_U.weak (ih.2.2 _ _ _ _ _ _ _ hf) (ab_leL.of ⟨rfl, ⟨rfl, ⟨rfl, ⟨rfl, ⟨rfl, ⟨rfl, trivial⟩⟩⟩⟩⟩⟩)
            · rw [if_neg b16] at hf
              refine ab_U.run 5 (S' := (90, [some (.ref 232), some (.int l1), some (.int l2), some (.int (μ.2.1 245 ((100 * l4) + l5).toNatClampNeg)), some (.int l4), some (.int (l5 + 1)), some (.int (μ.2.1 245 ((100 * l4) + l5).toNatClampNeg)), none, none, none], [], hp X G μ)) rfl ?_
              exact ab_U.weak (ih.2.2 _ _ _ _ _ _ _ hf) (ab_leL.of ⟨rfl, ⟨rfl, ⟨rfl, ⟨rfl, ⟨rfl, ⟨rfl, trivial⟩⟩⟩⟩⟩⟩)
        · rw [if_neg b14] at hf
          refine ab_U.run 2 (S' := (123, [some (.ref 232), some (.int l1), some (.int l2), some (.int l3), some (.int l4), some (.int l5), some (.int (μ.2.1 245 ((100 * l4) + l5).toNatClampNeg)), none, none, none], [.int l2, .int l4], hp X G μ)) rfl ?_
          refine ab_U.ic_ge rfl (fun b17 => ?_) (fun b17 => ?_)
          · rw [if_pos b17] at hf
            refine ab_U.run 2 (S' := (241, [some (.ref 232), some (.int l1), some (.int l2), some (.int l3), some (.int l4), some (.int l5), some (.int (μ.2.1 245 ((100 * l4) + l5).toNatClampNeg)), none, none, none], [.int l2, .int l4], hp X G μ)) rfl ?_
            refine ab_U.ic_ne rfl (fun b18 => ?_) (fun b18 => ?_)
            · rw [if_pos b18] at hf
              refine ab_U.run 4 (S' := (90, [some (.ref 232), some (.int l1), some (.int l2), some (.int l3), some (.int l4), some (.int (l5 + 1)), some (.int (μ.2.1 245 ((100 * l4) + l5).toNatClampNeg)), none, none, none], [], hp X G μ)) rfl ?_
              exact ab_U.weak (ih.2.2 _ _ _ _ _ _ _ hf) (ab_leL.of ⟨rfl, ⟨rfl, ⟨rfl, ⟨rfl, ⟨rfl, ⟨rfl, trivial⟩⟩⟩⟩⟩⟩)
            · rw [if_neg b18] at hf
              refine ab_U.run 2 (S' := (247, [some (.ref 232), some (.int l1), some (.int l2), some (.int l3), some (.int l4), some (.int l5), some (.int (μ.2.1 245 ((100 * l4) + l5).toNatClampNeg)), none, none, none], [.int l3, .int (μ.2.1 245 ((100 * l4) + l5).toNatClampNeg)], hp X G μ)) rfl ?_
              refine ab_U.ic_ge rfl (fun b19 => ?_) (fun b19 => ?_)
              · rw [if_pos b19] at hf
                refine ab_U.run 4 (S' := (90, [some (.ref 232), some (.int l1), some (.int l2), some (.int l3), some (.int l4), some (.int (l5 + 1)), some (.int (μ.2.1 245 ((100 * l4) + l5).toNatClampNeg)), none, none, none], [], hp X G μ)) rfl ?_
                exact ab_U.weak (ih.2.2 _ _ _ _ _ _ _ hf) (ab_leL.of ⟨rfl, ⟨rfl, ⟨rfl, ⟨rfl, ⟨rfl, ⟨rfl, trivial⟩⟩⟩⟩⟩⟩)
              · rw [if_neg b19] at hf
                refine ab_U.run 5 (S' := (90, [some (.ref 232), some (.int l1), some (.int l2), some (.int (μ.2.1 245 ((100 * l4) + l5).toNatClampNeg)), some (.int l4), some (.int (l5 + 1)), some (.int (μ.2.1 245 ((100 * l4) + l5).toNatClampNeg)), none, none, none], [], hp X G μ)) rfl ?_
                exact ab_U.weak (ih.2.2 _ _ _ _ _ _ _ hf) (ab_leL.of ⟨rfl, ⟨rfl, ⟨rfl, ⟨rfl, ⟨rfl, ⟨rfl, trivial⟩⟩⟩⟩⟩⟩)
          · rw [if_neg b17] at hf
            refine ab_U.run 4 (S' := (131, [some (.ref 232), some (.int l1), some (.int l2), some (.int l3), some (.int l4), some (.int l5), some (.int (μ.2.1 245 ((100 * l4) + l5).toNatClampNeg)), none, none, none], [.int l1, .int 0, .ref 232, .int l5], hp X G μ)) rfl ?_
            obtain ⟨q20, h21, hf⟩ := ab_bnd hf
            refine ab_U.fn rfl rfl (t_X9_rateOn (X := X) hG h21) (by omega) ?_
            show ab_U _ _ _ (134, [some (.ref 232), some (.int l1), some (.int l2), some (.int l3), some (.int l4), some (.int l5), some (.int (μ.2.1 245 ((100 * l4) + l5).toNatClampNeg)), none, none, none], [.int q20.1, .int l5], hp X G q20.2) _
            obtain ⟨q22, h23, hf⟩ := ab_bnd hf
            refine ab_U.fn rfl rfl (t_X9_cooled (X := X) hG h23) (by omega) ?_
            show ab_U _ _ _ (137, [some (.ref 232), some (.int l1), some (.int l2), some (.int l3), some (.int l4), some (.int l5), some (.int (μ.2.1 245 ((100 * l4) + l5).toNatClampNeg)), none, none, none], [.int q22.1], hp X G q22.2) _
            refine ab_U.run 3 (S' := (142, [some (.ref 232), some (.int l1), some (.int l2), some (.int l3), some (.int l4), some (.int l5), some (.int (μ.2.1 245 ((100 * l4) + l5).toNatClampNeg)), some (.int q22.1), none, none], [.int 5, .int q22.1], hp X G q22.2)) rfl ?_
            refine ab_U.ic_lt rfl (fun b24 => ?_) (fun b24 => ?_)
            · rw [if_pos b24] at hf
              refine ab_U.run 4 (S' := (162, [some (.ref 232), some (.int l1), some (.int l2), some (.int l3), some (.int l4), some (.int l5), some (.int (μ.2.1 245 ((100 * l4) + l5).toNatClampNeg)), some (.int q22.1), none, none], [.int l1, .ref 232, .int 2, .int l4], hp X G q22.2)) rfl ?_
              obtain ⟨q25, h26, hf⟩ := ab_bnd hf
              refine ab_U.fn rfl rfl (t_X9_ovenWay (X := X) hG h26) (by omega) ?_
              show ab_U _ _ _ (165, [some (.ref 232), some (.int l1), some (.int l2), some (.int l3), some (.int l4), some (.int l5), some (.int (μ.2.1 245 ((100 * l4) + l5).toNatClampNeg)), some (.int q22.1), none, none], [.int q25.1, .int 2, .int l4], hp X G q25.2) _
              refine ab_U.run 10 (S' := (178, [some (.ref 232), some (.int l1), some (.int l2), some (.int l3), some (.int l4), some (.int l5), some (.int (μ.2.1 245 ((100 * l4) + l5).toNatClampNeg)), some (.int q22.1), some (.int ((l4 + (2 * q25.1)) + 1)), none], [.int l2, .int l5, .int l4, .int l1, .ref 232], hp X G q25.2)) rfl ?_
              obtain ⟨q27, h28, hf⟩ := ab_bnd hf
              refine ab_U.fn rfl rfl (t_X9_walked (X := X) hG h28) (by omega) ?_
              show ab_U _ _ _ (181, [some (.ref 232), some (.int l1), some (.int l2), some (.int l3), some (.int l4), some (.int l5), some (.int (μ.2.1 245 ((100 * l4) + l5).toNatClampNeg)), some (.int q22.1), some (.int ((l4 + (2 * q25.1)) + 1)), none], [.int q27.1], hp X G q27.2) _
              refine ab_U.run 3 (S' := (187, [some (.ref 232), some (.int l1), some (.int l2), some (.int l3), some (.int l4), some (.int l5), some (.int (μ.2.1 245 ((100 * l4) + l5).toNatClampNeg)), some (.int q22.1), some (.int ((l4 + (2 * q25.1)) + 1)), some (.int q27.1)], [.int (-4), .int q27.1], hp X G q27.2)) rfl ?_
              refine ab_U.ic_eq rfl (fun b29 => ?_) (fun b29 => ?_)
              · rw [if_pos b29] at hf
                refine ab_U.run 2 (S' := (212, [some (.ref 232), some (.int l1), some (.int l2), some (.int l3), some (.int l4), some (.int l5), some (.int (μ.2.1 245 ((100 * l4) + l5).toNatClampNeg)), some (.int q22.1), some (.int ((l4 + (2 * q25.1)) + 1)), some (.int q27.1)], [.int (-4), .int q27.1], hp X G q27.2)) rfl ?_
                refine ab_U.ic_eq rfl (fun b30 => ?_) (fun b30 => ?_)
                · rw [if_pos b30] at hf
                  refine ab_U.run 4 (S' := (241, [some (.ref 232), some (.int l1), some (.int l2), some (.int l3), some (.int l4), some (.int l5), some (.int (μ.2.1 245 ((100 * l4) + l5).toNatClampNeg)), some (.int q22.1), some (.int ((l4 + (2 * q25.1)) + 1)), some (.int q27.1)], [.int l2, .int l4], hp X G q27.2)) rfl ?_
                  refine ab_U.ic_ne rfl (fun b31 => ?_) (fun b31 => ?_)
                  · rw [if_pos b31] at hf
                    refine ab_U.run 4 (S' := (90, [some (.ref 232), some (.int l1), some (.int l2), some (.int l3), some (.int l4), some (.int (l5 + 1)), some (.int (μ.2.1 245 ((100 * l4) + l5).toNatClampNeg)), some (.int q22.1), some (.int ((l4 + (2 * q25.1)) + 1)), some (.int q27.1)], [], hp X G q27.2)) rfl ?_
                    exact ab_U.weak (ih.2.2 _ _ _ _ _ _ _ hf) (ab_leL.of ⟨rfl, ⟨rfl, ⟨rfl, ⟨rfl, ⟨rfl, ⟨rfl, trivial⟩⟩⟩⟩⟩⟩)
                  · rw [if_neg b31] at hf
                    refine ab_U.run 2 (S' := (247, [some (.ref 232), some (.int l1), some (.int l2), some (.int l3), some (.int l4), some (.int l5), some (.int (μ.2.1 245 ((100 * l4) + l5).toNatClampNeg)), some (.int q22.1), some (.int ((l4 + (2 * q25.1)) + 1)), some (.int q27.1)], [.int l3, .int (μ.2.1 245 ((100 * l4) + l5).toNatClampNeg)], hp X G q27.2)) rfl ?_
                    refine ab_U.ic_ge rfl (fun b32 => ?_) (fun b32 => ?_)
                    · rw [if_pos b32] at hf
                      refine ab_U.run 4 (S' := (90, [some (.ref 232), some (.int l1), some (.int l2), some (.int l3), some (.int l4), some (.int (l5 + 1)), some (.int (μ.2.1 245 ((100 * l4) + l5).toNatClampNeg)), some (.int q22.1), some (.int ((l4 + (2 * q25.1)) + 1)), some (.int q27.1)], [], hp X G q27.2)) rfl ?_
                      exact ab_U.weak (ih.2.2 _ _ _ _ _ _ _ hf) (ab_leL.of ⟨rfl, ⟨rfl, ⟨rfl, ⟨rfl, ⟨rfl, ⟨rfl, trivial⟩⟩⟩⟩⟩⟩)
                    · rw [if_neg b32] at hf
                      refine ab_U.run 5 (S' := (90, [some (.ref 232), some (.int l1), some (.int l2), some (.int (μ.2.1 245 ((100 * l4) + l5).toNatClampNeg)), some (.int l4), some (.int (l5 + 1)), some (.int (μ.2.1 245 ((100 * l4) + l5).toNatClampNeg)), some (.int q22.1), some (.int ((l4 + (2 * q25.1)) + 1)), some (.int q27.1)], [], hp X G q27.2)) rfl ?_
                      exact ab_U.weak (ih.2.2 _ _ _ _ _ _ _ hf) (ab_leL.of ⟨rfl, ⟨rfl, ⟨rfl, ⟨rfl, ⟨rfl, ⟨rfl, trivial⟩⟩⟩⟩⟩⟩)
                · rw [if_neg b30] at hf
                  refine ab_U.run 2 (S' := (218, [some (.ref 232), some (.int l1), some (.int l2), some (.int l3), some (.int l4), some (.int l5), some (.int (μ.2.1 245 ((100 * l4) + l5).toNatClampNeg)), some (.int q22.1), some (.int ((l4 + (2 * q25.1)) + 1)), some (.int q27.1)], [.int l2, .int ((l4 + (2 * q25.1)) + 1)], hp X G q27.2)) rfl ?_
                  refine ab_U.ic_le rfl (fun b33 => ?_) (fun b33 => ?_)
                  · rw [if_pos b33] at hf
                    refine ab_U.run 4 (S' := (241, [some (.ref 232), some (.int l1), some (.int l2), some (.int l3), some (.int l4), some (.int l5), some (.int (μ.2.1 245 ((100 * l4) + l5).toNatClampNeg)), some (.int q22.1), some (.int ((l4 + (2 * q25.1)) + 1)), some (.int q27.1)], [.int l2, .int l4], hp X G q27.2)) rfl ?_
                    refine ab_U.ic_ne rfl (fun b34 => ?_) (fun b34 => ?_)
                    · rw [if_pos b34] at hf
                      refine ab_U.run 4 (S' := (90, [some (.ref 232), some (.int l1), some (.int l2), some (.int l3), some (.int l4), some (.int (l5 + 1)), some (.int (μ.2.1 245 ((100 * l4) + l5).toNatClampNeg)), some (.int q22.1), some (.int ((l4 + (2 * q25.1)) + 1)), some (.int q27.1)], [], hp X G q27.2)) rfl ?_
                      exact ab_U.weak (ih.2.2 _ _ _ _ _ _ _ hf) (ab_leL.of ⟨rfl, ⟨rfl, ⟨rfl, ⟨rfl, ⟨rfl, ⟨rfl, trivial⟩⟩⟩⟩⟩⟩)
                    · rw [if_neg b34] at hf
                      refine ab_U.run 2 (S' := (247, [some (.ref 232), some (.int l1), some (.int l2), some (.int l3), some (.int l4), some (.int l5), some (.int (μ.2.1 245 ((100 * l4) + l5).toNatClampNeg)), some (.int q22.1), some (.int ((l4 + (2 * q25.1)) + 1)), some (.int q27.1)], [.int l3, .int (μ.2.1 245 ((100 * l4) + l5).toNatClampNeg)], hp X G q27.2)) rfl ?_
                      refine ab_U.ic_ge rfl (fun b35 => ?_) (fun b35 => ?_)
                      · rw [if_pos b35] at hf
                        refine ab_U.run 4 (S' := (90, [some (.ref 232), some (.int l1), some (.int l2), some (.int l3), some (.int l4), some (.int (l5 + 1)), some (.int (μ.2.1 245 ((100 * l4) + l5).toNatClampNeg)), some (.int q22.1), some (.int ((l4 + (2 * q25.1)) + 1)), some (.int q27.1)], [], hp X G q27.2)) rfl ?_
                        exact ab_U.weak (ih.2.2 _ _ _ _ _ _ _ hf) (ab_leL.of ⟨rfl, ⟨rfl, ⟨rfl, ⟨rfl, ⟨rfl, ⟨rfl, trivial⟩⟩⟩⟩⟩⟩)
                      · rw [if_neg b35] at hf
                        refine ab_U.run 5 (S' := (90, [some (.ref 232), some (.int l1), some (.int l2), some (.int (μ.2.1 245 ((100 * l4) + l5).toNatClampNeg)), some (.int l4), some (.int (l5 + 1)), some (.int (μ.2.1 245 ((100 * l4) + l5).toNatClampNeg)), some (.int q22.1), some (.int ((l4 + (2 * q25.1)) + 1)), some (.int q27.1)], [], hp X G q27.2)) rfl ?_
                        exact ab_U.weak (ih.2.2 _ _ _ _ _ _ _ hf) (ab_leL.of ⟨rfl, ⟨rfl, ⟨rfl, ⟨rfl, ⟨rfl, ⟨rfl, trivial⟩⟩⟩⟩⟩⟩)
                  · rw [if_neg b33] at hf
                    refine ab_U.run 4 (S' := (226, [some (.ref 232), some (.int l1), some (.int l2), some (.int l3), some (.int l4), some (.int l5), some (.int (μ.2.1 245 ((100 * l4) + l5).toNatClampNeg)), some (.int q22.1), some (.int ((l4 + (2 * q25.1)) + 1)), some (.int q27.1)], [.int l3, .int ((μ.2.1 245 ((100 * l4) + l5).toNatClampNeg) + 1)], hp X G q27.2)) rfl ?_
                    refine ab_U.ic_ge rfl (fun b36 => ?_) (fun b36 => ?_)
                    · rw [if_pos b36] at hf
                      refine ab_U.run 4 (S' := (241, [some (.ref 232), some (.int l1), some (.int l2), some (.int l3), some (.int l4), some (.int l5), some (.int (μ.2.1 245 ((100 * l4) + l5).toNatClampNeg)), some (.int q22.1), some (.int ((l4 + (2 * q25.1)) + 1)), some (.int q27.1)], [.int l2, .int l4], hp X G q27.2)) rfl ?_
                      refine ab_U.ic_ne rfl (fun b37 => ?_) (fun b37 => ?_)
                      · rw [if_pos b37] at hf
                        refine ab_U.run 4 (S' := (90, [some (.ref 232), some (.int l1), some (.int l2), some (.int l3), some (.int l4), some (.int (l5 + 1)), some (.int (μ.2.1 245 ((100 * l4) + l5).toNatClampNeg)), some (.int q22.1), some (.int ((l4 + (2 * q25.1)) + 1)), some (.int q27.1)], [], hp X G q27.2)) rfl ?_
                        exact ab_U.weak (ih.2.2 _ _ _ _ _ _ _ hf) (ab_leL.of ⟨rfl, ⟨rfl, ⟨rfl, ⟨rfl, ⟨rfl, ⟨rfl, trivial⟩⟩⟩⟩⟩⟩)
                      · rw [if_neg b37] at hf
                        refine ab_U.run 2 (S' := (247, [some (.ref 232), some (.int l1), some (.int l2), some (.int l3), some (.int l4), some (.int l5), some (.int (μ.2.1 245 ((100 * l4) + l5).toNatClampNeg)), some (.int q22.1), some (.int ((l4 + (2 * q25.1)) + 1)), some (.int q27.1)], [.int l3, .int (μ.2.1 245 ((100 * l4) + l5).toNatClampNeg)], hp X G q27.2)) rfl ?_
                        refine ab_U.ic_ge rfl (fun b38 => ?_) (fun b38 => ?_)
                        · rw [if_pos b38] at hf
                          refine ab_U.run 4 (S' := (90, [some (.ref 232), some (.int l1), some (.int l2), some (.int l3), some (.int l4), some (.int (l5 + 1)), some (.int (μ.2.1 245 ((100 * l4) + l5).toNatClampNeg)), some (.int q22.1), some (.int ((l4 + (2 * q25.1)) + 1)), some (.int q27.1)], [], hp X G q27.2)) rfl ?_
                          exact ab_U.weak (ih.2.2 _ _ _ _ _ _ _ hf) (ab_leL.of ⟨rfl, ⟨rfl, ⟨rfl, ⟨rfl, ⟨rfl, ⟨rfl, trivial⟩⟩⟩⟩⟩⟩)
                        · rw [if_neg b38] at hf
                          refine ab_U.run 5 (S' := (90, [some (.ref 232), some (.int l1), some (.int l2), some (.int (μ.2.1 245 ((100 * l4) + l5).toNatClampNeg)), some (.int l4), some (.int (l5 + 1)), some (.int (μ.2.1 245 ((100 * l4) + l5).toNatClampNeg)), some (.int q22.1), some (.int ((l4 + (2 * q25.1)) + 1)), some (.int q27.1)], [], hp X G q27.2)) rfl ?_
                          exact ab_U.weak (ih.2.2 _ _ _ _ _ _ _ hf) (ab_leL.of ⟨rfl, ⟨rfl, ⟨rfl, ⟨rfl, ⟨rfl, ⟨rfl, trivial⟩⟩⟩⟩⟩⟩)
                    · rw [if_neg b36] at hf
                      refine ab_U.run 7 (S' := (241, [some (.ref 232), some (.int l1), some (.int l2), some (.int ((μ.2.1 245 ((100 * l4) + l5).toNatClampNeg) + 1)), some (.int l4), some (.int l5), some (.int (μ.2.1 245 ((100 * l4) + l5).toNatClampNeg)), some (.int q22.1), some (.int ((l4 + (2 * q25.1)) + 1)), some (.int q27.1)], [.int l2, .int l4], hp X G q27.2)) rfl ?_
                      refine ab_U.ic_ne rfl (fun b39 => ?_) (fun b39 => ?_)
                      · rw [if_pos b39] at hf
                        refine ab_U.run 4 (S' := (90, [some (.ref 232), some (.int l1), some (.int l2), some (.int ((μ.2.1 245 ((100 * l4) + l5).toNatClampNeg) + 1)), some (.int l4), some (.int (l5 + 1)), some (.int (μ.2.1 245 ((100 * l4) + l5).toNatClampNeg)), some (.int q22.1), some (.int ((l4 + (2 * q25.1)) + 1)), some (.int q27.1)], [], hp X G q27.2)) rfl ?_
                        exact ab_U.weak (ih.2.2 _ _ _ _ _ _ _ hf) (ab_leL.of ⟨rfl, ⟨rfl, ⟨rfl, ⟨rfl, ⟨rfl, ⟨rfl, trivial⟩⟩⟩⟩⟩⟩)
                      · rw [if_neg b39] at hf
                        refine ab_U.run 2 (S' := (247, [some (.ref 232), some (.int l1), some (.int l2), some (.int ((μ.2.1 245 ((100 * l4) + l5).toNatClampNeg) + 1)), some (.int l4), some (.int l5), some (.int (μ.2.1 245 ((100 * l4) + l5).toNatClampNeg)), some (.int q22.1), some (.int ((l4 + (2 * q25.1)) + 1)), some (.int q27.1)], [.int ((μ.2.1 245 ((100 * l4) + l5).toNatClampNeg) + 1), .int (μ.2.1 245 ((100 * l4) + l5).toNatClampNeg)], hp X G q27.2)) rfl ?_
                        refine ab_U.ic_ge rfl (fun b40 => ?_) (fun b40 => ?_)
                        · rw [if_pos b40] at hf
                          refine ab_U.run 4 (S' := (90, [some (.ref 232), some (.int l1), some (.int l2), some (.int ((μ.2.1 245 ((100 * l4) + l5).toNatClampNeg) + 1)), some (.int l4), some (.int (l5 + 1)), some (.int (μ.2.1 245 ((100 * l4) + l5).toNatClampNeg)), some (.int q22.1), some (.int ((l4 + (2 * q25.1)) + 1)), some (.int q27.1)], [], hp X G q27.2)) rfl ?_
                          exact ab_U.weak (ih.2.2 _ _ _ _ _ _ _ hf) (ab_leL.of ⟨rfl, ⟨rfl, ⟨rfl, ⟨rfl, ⟨rfl, ⟨rfl, trivial⟩⟩⟩⟩⟩⟩)
                        · rw [if_neg b40] at hf
                          refine ab_U.run 5 (S' := (90, [some (.ref 232), some (.int l1), some (.int l2), some (.int (μ.2.1 245 ((100 * l4) + l5).toNatClampNeg)), some (.int l4), some (.int (l5 + 1)), some (.int (μ.2.1 245 ((100 * l4) + l5).toNatClampNeg)), some (.int q22.1), some (.int ((l4 + (2 * q25.1)) + 1)), some (.int q27.1)], [], hp X G q27.2)) rfl ?_
                          exact ab_U.weak (ih.2.2 _ _ _ _ _ _ _ hf) (ab_leL.of ⟨rfl, ⟨rfl, ⟨rfl, ⟨rfl, ⟨rfl, ⟨rfl, trivial⟩⟩⟩⟩⟩⟩)
              · rw [if_neg b29] at hf
                refine ab_U.run 2 (S' := (193, [some (.ref 232), some (.int l1), some (.int l2), some (.int l3), some (.int l4), some (.int l5), some (.int (μ.2.1 245 ((100 * l4) + l5).toNatClampNeg)), some (.int q22.1), some (.int ((l4 + (2 * q25.1)) + 1)), some (.int q27.1)], [.int l2, .int ((l4 + (2 * q25.1)) + 1)], hp X G q27.2)) rfl ?_
                refine ab_U.ic_gt rfl (fun b41 => ?_) (fun b41 => ?_)
                · rw [if_pos b41] at hf
                  refine ab_U.run 2 (S' := (212, [some (.ref 232), some (.int l1), some (.int l2), some (.int l3), some (.int l4), some (.int l5), some (.int (μ.2.1 245 ((100 * l4) + l5).toNatClampNeg)), some (.int q22.1), some (.int ((l4 + (2 * q25.1)) + 1)), some (.int q27.1)], [.int (-4), .int q27.1], hp X G q27.2)) rfl ?_
                  refine ab_U.ic_eq rfl (fun b42 => ?_) (fun b42 => ?_)
                  · rw [if_pos b42] at hf
                    refine ab_U.run 4 (S' := (241, [some (.ref 232), some (.int l1), some (.int l2), some (.int l3), some (.int l4), some (.int l5), some (.int (μ.2.1 245 ((100 * l4) + l5).toNatClampNeg)), some (.int q22.1), some (.int ((l4 + (2 * q25.1)) + 1)), some (.int q27.1)], [.int l2, .int l4], hp X G q27.2)) rfl ?_
                    refine ab_U.ic_ne rfl (fun b43 => ?_) (fun b43 => ?_)
                    · rw [if_pos b43] at hf
                      refine ab_U.run 4 (S' := (90, [some (.ref 232), some (.int l1), some (.int l2), some (.int l3), some (.int l4), some (.int (l5 + 1)), some (.int (μ.2.1 245 ((100 * l4) + l5).toNatClampNeg)), some (.int q22.1), some (.int ((l4 + (2 * q25.1)) + 1)), some (.int q27.1)], [], hp X G q27.2)) rfl ?_
                      exact ab_U.weak (ih.2.2 _ _ _ _ _ _ _ hf) (ab_leL.of ⟨rfl, ⟨rfl, ⟨rfl, ⟨rfl, ⟨rfl, ⟨rfl, trivial⟩⟩⟩⟩⟩⟩)
                    · rw [if_neg b43] at hf
                      refine ab_U.run 2 (S' := (247, [some (.ref 232), some (.int l1), some (.int l2), some (.int l3), some (.int l4), some (.int l5), some (.int (μ.2.1 245 ((100 * l4) + l5).toNatClampNeg)), some (.int q22.1), some (.int ((l4 + (2 * q25.1)) + 1)), some (.int q27.1)], [.int l3, .int (μ.2.1 245 ((100 * l4) + l5).toNatClampNeg)], hp X G q27.2)) rfl ?_
                      refine ab_U.ic_ge rfl (fun b44 => ?_) (fun b44 => ?_)
                      · rw [if_pos b44] at hf
                        refine ab_U.run 4 (S' := (90, [some (.ref 232), some (.int l1), some (.int l2), some (.int l3), some (.int l4), some (.int (l5 + 1)), some (.int (μ.2.1 245 ((100 * l4) + l5).toNatClampNeg)), some (.int q22.1), some (.int ((l4 + (2 * q25.1)) + 1)), some (.int q27.1)], [], hp X G q27.2)) rfl ?_
                        exact ab_U.weak (ih.2.2 _ _ _ _ _ _ _ hf) (ab_leL.of ⟨rfl, ⟨rfl, ⟨rfl, ⟨rfl, ⟨rfl, ⟨rfl, trivial⟩⟩⟩⟩⟩⟩)
                      · rw [if_neg b44] at hf
                        refine ab_U.run 5 (S' := (90, [some (.ref 232), some (.int l1), some (.int l2), some (.int (μ.2.1 245 ((100 * l4) + l5).toNatClampNeg)), some (.int l4), some (.int (l5 + 1)), some (.int (μ.2.1 245 ((100 * l4) + l5).toNatClampNeg)), some (.int q22.1), some (.int ((l4 + (2 * q25.1)) + 1)), some (.int q27.1)], [], hp X G q27.2)) rfl ?_
                        exact ab_U.weak (ih.2.2 _ _ _ _ _ _ _ hf) (ab_leL.of ⟨rfl, ⟨rfl, ⟨rfl, ⟨rfl, ⟨rfl, ⟨rfl, trivial⟩⟩⟩⟩⟩⟩)
                  · rw [if_neg b42] at hf
                    refine ab_U.run 2 (S' := (218, [some (.ref 232), some (.int l1), some (.int l2), some (.int l3), some (.int l4), some (.int l5), some (.int (μ.2.1 245 ((100 * l4) + l5).toNatClampNeg)), some (.int q22.1), some (.int ((l4 + (2 * q25.1)) + 1)), some (.int q27.1)], [.int l2, .int ((l4 + (2 * q25.1)) + 1)], hp X G q27.2)) rfl ?_
                    refine ab_U.ic_le rfl (fun b45 => ?_) (fun b45 => ?_)
                    · rw [if_pos b45] at hf
                      refine ab_U.run 4 (S' := (241, [some (.ref 232), some (.int l1), some (.int l2), some (.int l3), some (.int l4), some (.int l5), some (.int (μ.2.1 245 ((100 * l4) + l5).toNatClampNeg)), some (.int q22.1), some (.int ((l4 + (2 * q25.1)) + 1)), some (.int q27.1)], [.int l2, .int l4], hp X G q27.2)) rfl ?_
                      refine ab_U.ic_ne rfl (fun b46 => ?_) (fun b46 => ?_)
                      · rw [if_pos b46] at hf
                        refine ab_U.run 4 (S' := (90, [some (.ref 232), some (.int l1), some (.int l2), some (.int l3), some (.int l4), some (.int (l5 + 1)), some (.int (μ.2.1 245 ((100 * l4) + l5).toNatClampNeg)), some (.int q22.1), some (.int ((l4 + (2 * q25.1)) + 1)), some (.int q27.1)], [], hp X G q27.2)) rfl ?_
                        exact ab_U.weak (ih.2.2 _ _ _ _ _ _ _ hf) (ab_leL.of ⟨rfl, ⟨rfl, ⟨rfl, ⟨rfl, ⟨rfl, ⟨rfl, trivial⟩⟩⟩⟩⟩⟩)
                      · rw [if_neg b46] at hf
                        refine ab_U.run 2 (S' := (247, [some (.ref 232), some (.int l1), some (.int l2), some (.int l3), some (.int l4), some (.int l5), some (.int (μ.2.1 245 ((100 * l4) + l5).toNatClampNeg)), some (.int q22.1), some (.int ((l4 + (2 * q25.1)) + 1)), some (.int q27.1)], [.int l3, .int (μ.2.1 245 ((100 * l4) + l5).toNatClampNeg)], hp X G q27.2)) rfl ?_
                        refine ab_U.ic_ge rfl (fun b47 => ?_) (fun b47 => ?_)
                        · rw [if_pos b47] at hf
                          refine ab_U.run 4 (S' := (90, [some (.ref 232), some (.int l1), some (.int l2), some (.int l3), some (.int l4), some (.int (l5 + 1)), some (.int (μ.2.1 245 ((100 * l4) + l5).toNatClampNeg)), some (.int q22.1), some (.int ((l4 + (2 * q25.1)) + 1)), some (.int q27.1)], [], hp X G q27.2)) rfl ?_
                          exact ab_U.weak (ih.2.2 _ _ _ _ _ _ _ hf) (ab_leL.of ⟨rfl, ⟨rfl, ⟨rfl, ⟨rfl, ⟨rfl, ⟨rfl, trivial⟩⟩⟩⟩⟩⟩)
                        · rw [if_neg b47] at hf
                          refine ab_U.run 5 (S' := (90, [some (.ref 232), some (.int l1), some (.int l2), some (.int (μ.2.1 245 ((100 * l4) + l5).toNatClampNeg)), some (.int l4), some (.int (l5 + 1)), some (.int (μ.2.1 245 ((100 * l4) + l5).toNatClampNeg)), some (.int q22.1), some (.int ((l4 + (2 * q25.1)) + 1)), some (.int q27.1)], [], hp X G q27.2)) rfl ?_
                          exact ab_U.weak (ih.2.2 _ _ _ _ _ _ _ hf) (ab_leL.of ⟨rfl, ⟨rfl, ⟨rfl, ⟨rfl, ⟨rfl, ⟨rfl, trivial⟩⟩⟩⟩⟩⟩)
                    · rw [if_neg b45] at hf
                      refine ab_U.run 4 (S' := (226, [some (.ref 232), some (.int l1), some (.int l2), some (.int l3), some (.int l4), some (.int l5), some (.int (μ.2.1 245 ((100 * l4) + l5).toNatClampNeg)), some (.int q22.1), some (.int ((l4 + (2 * q25.1)) + 1)), some (.int q27.1)], [.int l3, .int ((μ.2.1 245 ((100 * l4) + l5).toNatClampNeg) + 1)], hp X G q27.2)) rfl ?_
                      refine ab_U.ic_ge rfl (fun b48 => ?_) (fun b48 => ?_)
                      · rw [if_pos b48] at hf
                        refine ab_U.run 4 (S' := (241, [some (.ref 232), some (.int l1), some (.int l2), some (.int l3), some (.int l4), some (.int l5), some (.int (μ.2.1 245 ((100 * l4) + l5).toNatClampNeg)), some (.int q22.1), some (.int ((l4 + (2 * q25.1)) + 1)), some (.int q27.1)], [.int l2, .int l4], hp X G q27.2)) rfl ?_
                        refine ab_U.ic_ne rfl (fun b49 => ?_) (fun b49 => ?_)
                        · rw [if_pos b49] at hf
                          refine ab_U.run 4 (S' := (90, [some (.ref 232), some (.int l1), some (.int l2), some (.int l3), some (.int l4), some (.int (l5 + 1)), some (.int (μ.2.1 245 ((100 * l4) + l5).toNatClampNeg)), some (.int q22.1), some (.int ((l4 + (2 * q25.1)) + 1)), some (.int q27.1)], [], hp X G q27.2)) rfl ?_
                          exact ab_U.weak (ih.2.2 _ _ _ _ _ _ _ hf) (ab_leL.of ⟨rfl, ⟨rfl, ⟨rfl, ⟨rfl, ⟨rfl, ⟨rfl, trivial⟩⟩⟩⟩⟩⟩)
                        · rw [if_neg b49] at hf
                          refine ab_U.run 2 (S' := (247, [some (.ref 232), some (.int l1), some (.int l2), some (.int l3), some (.int l4), some (.int l5), some (.int (μ.2.1 245 ((100 * l4) + l5).toNatClampNeg)), some (.int q22.1), some (.int ((l4 + (2 * q25.1)) + 1)), some (.int q27.1)], [.int l3, .int (μ.2.1 245 ((100 * l4) + l5).toNatClampNeg)], hp X G q27.2)) rfl ?_
                          refine ab_U.ic_ge rfl (fun b50 => ?_) (fun b50 => ?_)
                          · rw [if_pos b50] at hf
                            refine ab_U.run 4 (S' := (90, [some (.ref 232), some (.int l1), some (.int l2), some (.int l3), some (.int l4), some (.int (l5 + 1)), some (.int (μ.2.1 245 ((100 * l4) + l5).toNatClampNeg)), some (.int q22.1), some (.int ((l4 + (2 * q25.1)) + 1)), some (.int q27.1)], [], hp X G q27.2)) rfl ?_
                            exact ab_U.weak (ih.2.2 _ _ _ _ _ _ _ hf) (ab_leL.of ⟨rfl, ⟨rfl, ⟨rfl, ⟨rfl, ⟨rfl, ⟨rfl, trivial⟩⟩⟩⟩⟩⟩)
                          · rw [if_neg b50] at hf
                            refine ab_U.run 5 (S' := (90, [some (.ref 232), some (.int l1), some (.int l2), some (.int (μ.2.1 245 ((100 * l4) + l5).toNatClampNeg)), some (.int l4), some (.int (l5 + 1)), some (.int (μ.2.1 245 ((100 * l4) + l5).toNatClampNeg)), some (.int q22.1), some (.int ((l4 + (2 * q25.1)) + 1)), some (.int q27.1)], [], hp X G q27.2)) rfl ?_
                            exact ab_U.weak (ih.2.2 _ _ _ _ _ _ _ hf) (ab_leL.of ⟨rfl, ⟨rfl, ⟨rfl, ⟨rfl, ⟨rfl, ⟨rfl, trivial⟩⟩⟩⟩⟩⟩)
                      · rw [if_neg b48] at hf
                        refine ab_U.run 7 (S' := (241, [some (.ref 232), some (.int l1), some (.int l2), some (.int ((μ.2.1 245 ((100 * l4) + l5).toNatClampNeg) + 1)), some (.int l4), some (.int l5), some (.int (μ.2.1 245 ((100 * l4) + l5).toNatClampNeg)), some (.int q22.1), some (.int ((l4 + (2 * q25.1)) + 1)), some (.int q27.1)], [.int l2, .int l4], hp X G q27.2)) rfl ?_
                        refine ab_U.ic_ne rfl (fun b51 => ?_) (fun b51 => ?_)
                        · rw [if_pos b51] at hf
                          refine ab_U.run 4 (S' := (90, [some (.ref 232), some (.int l1), some (.int l2), some (.int ((μ.2.1 245 ((100 * l4) + l5).toNatClampNeg) + 1)), some (.int l4), some (.int (l5 + 1)), some (.int (μ.2.1 245 ((100 * l4) + l5).toNatClampNeg)), some (.int q22.1), some (.int ((l4 + (2 * q25.1)) + 1)), some (.int q27.1)], [], hp X G q27.2)) rfl ?_
                          exact ab_U.weak (ih.2.2 _ _ _ _ _ _ _ hf) (ab_leL.of ⟨rfl, ⟨rfl, ⟨rfl, ⟨rfl, ⟨rfl, ⟨rfl, trivial⟩⟩⟩⟩⟩⟩)
                        · rw [if_neg b51] at hf
                          refine ab_U.run 2 (S' := (247, [some (.ref 232), some (.int l1), some (.int l2), some (.int ((μ.2.1 245 ((100 * l4) + l5).toNatClampNeg) + 1)), some (.int l4), some (.int l5), some (.int (μ.2.1 245 ((100 * l4) + l5).toNatClampNeg)), some (.int q22.1), some (.int ((l4 + (2 * q25.1)) + 1)), some (.int q27.1)], [.int ((μ.2.1 245 ((100 * l4) + l5).toNatClampNeg) + 1), .int (μ.2.1 245 ((100 * l4) + l5).toNatClampNeg)], hp X G q27.2)) rfl ?_
                          refine ab_U.ic_ge rfl (fun b52 => ?_) (fun b52 => ?_)
                          · rw [if_pos b52] at hf
                            refine ab_U.run 4 (S' := (90, [some (.ref 232), some (.int l1), some (.int l2), some (.int ((μ.2.1 245 ((100 * l4) + l5).toNatClampNeg) + 1)), some (.int l4), some (.int (l5 + 1)), some (.int (μ.2.1 245 ((100 * l4) + l5).toNatClampNeg)), some (.int q22.1), some (.int ((l4 + (2 * q25.1)) + 1)), some (.int q27.1)], [], hp X G q27.2)) rfl ?_
                            exact ab_U.weak (ih.2.2 _ _ _ _ _ _ _ hf) (ab_leL.of ⟨rfl, ⟨rfl, ⟨rfl, ⟨rfl, ⟨rfl, ⟨rfl, trivial⟩⟩⟩⟩⟩⟩)
                          · rw [if_neg b52] at hf
                            refine ab_U.run 5 (S' := (90, [some (.ref 232), some (.int l1), some (.int l2), some (.int (μ.2.1 245 ((100 * l4) + l5).toNatClampNeg)), some (.int l4), some (.int (l5 + 1)), some (.int (μ.2.1 245 ((100 * l4) + l5).toNatClampNeg)), some (.int q22.1), some (.int ((l4 + (2 * q25.1)) + 1)), some (.int q27.1)], [], hp X G q27.2)) rfl ?_
                            exact ab_U.weak (ih.2.2 _ _ _ _ _ _ _ hf) (ab_leL.of ⟨rfl, ⟨rfl, ⟨rfl, ⟨rfl, ⟨rfl, ⟨rfl, trivial⟩⟩⟩⟩⟩⟩)
                · rw [if_neg b41] at hf
                  refine ab_U.run 6 (S' := (205, [some (.ref 232), some (.int l1), some (.int l2), some (.int l3), some (.int l4), some (.int l5), some (.int (μ.2.1 245 ((100 * l4) + l5).toNatClampNeg)), some (.int q22.1), some (.int ((l4 + (2 * q25.1)) + 1)), some (.int q27.1)], [.int ((μ.2.1 245 ((100 * l4) + l5).toNatClampNeg) + 1), .int q27.1, .int ((l4 + (2 * q25.1)) + 1), .ref 232], hp X G q27.2)) rfl ?_
                  obtain ⟨q53, h54, hf⟩ := ab_bnd hf
                  refine ab_U.fn rfl rfl (t_X9_reaches (X := X) hG h54) (by omega) ?_
                  show ab_U _ _ _ (208, [some (.ref 232), some (.int l1), some (.int l2), some (.int l3), some (.int l4), some (.int l5), some (.int (μ.2.1 245 ((100 * l4) + l5).toNatClampNeg)), some (.int q22.1), some (.int ((l4 + (2 * q25.1)) + 1)), some (.int q27.1)], [], hp X G q53.2) _
                  refine ab_U.run 2 (S' := (212, [some (.ref 232), some (.int l1), some (.int l2), some (.int l3), some (.int l4), some (.int l5), some (.int (μ.2.1 245 ((100 * l4) + l5).toNatClampNeg)), some (.int q22.1), some (.int ((l4 + (2 * q25.1)) + 1)), some (.int q27.1)], [.int (-4), .int q27.1], hp X G q53.2)) rfl ?_
                  refine ab_U.ic_eq rfl (fun b55 => ?_) (fun b55 => ?_)
                  · rw [if_pos b55] at hf
                    refine ab_U.run 4 (S' := (241, [some (.ref 232), some (.int l1), some (.int l2), some (.int l3), some (.int l4), some (.int l5), some (.int (μ.2.1 245 ((100 * l4) + l5).toNatClampNeg)), some (.int q22.1), some (.int ((l4 + (2 * q25.1)) + 1)), some (.int q27.1)], [.int l2, .int l4], hp X G q53.2)) rfl ?_
                    refine ab_U.ic_ne rfl (fun b56 => ?_) (fun b56 => ?_)
                    · rw [if_pos b56] at hf
                      refine ab_U.run 4 (S' := (90, [some (.ref 232), some (.int l1), some (.int l2), some (.int l3), some (.int l4), some (.int (l5 + 1)), some (.int (μ.2.1 245 ((100 * l4) + l5).toNatClampNeg)), some (.int q22.1), some (.int ((l4 + (2 * q25.1)) + 1)), some (.int q27.1)], [], hp X G q53.2)) rfl ?_
                      exact ab_U.weak (ih.2.2 _ _ _ _ _ _ _ hf) (ab_leL.of ⟨rfl, ⟨rfl, ⟨rfl, ⟨rfl, ⟨rfl, ⟨rfl, trivial⟩⟩⟩⟩⟩⟩)
                    · rw [if_neg b56] at hf
                      refine ab_U.run 2 (S' := (247, [some (.ref 232), some (.int l1), some (.int l2), some (.int l3), some (.int l4), some (.int l5), some (.int (μ.2.1 245 ((100 * l4) + l5).toNatClampNeg)), some (.int q22.1), some (.int ((l4 + (2 * q25.1)) + 1)), some (.int q27.1)], [.int l3, .int (μ.2.1 245 ((100 * l4) + l5).toNatClampNeg)], hp X G q53.2)) rfl ?_
                      refine ab_U.ic_ge rfl (fun b57 => ?_) (fun b57 => ?_)
                      · rw [if_pos b57] at hf
                        refine ab_U.run 4 (S' := (90, [some (.ref 232), some (.int l1), some (.int l2), some (.int l3), some (.int l4), some (.int (l5 + 1)), some (.int (μ.2.1 245 ((100 * l4) + l5).toNatClampNeg)), some (.int q22.1), some (.int ((l4 + (2 * q25.1)) + 1)), some (.int q27.1)], [], hp X G q53.2)) rfl ?_
                        exact ab_U.weak (ih.2.2 _ _ _ _ _ _ _ hf) (ab_leL.of ⟨rfl, ⟨rfl, ⟨rfl, ⟨rfl, ⟨rfl, ⟨rfl, trivial⟩⟩⟩⟩⟩⟩)
                      · rw [if_neg b57] at hf
                        refine ab_U.run 5 (S' := (90, [some (.ref 232), some (.int l1), some (.int l2), some (.int (μ.2.1 245 ((100 * l4) + l5).toNatClampNeg)), some (.int l4), some (.int (l5 + 1)), some (.int (μ.2.1 245 ((100 * l4) + l5).toNatClampNeg)), some (.int q22.1), some (.int ((l4 + (2 * q25.1)) + 1)), some (.int q27.1)], [], hp X G q53.2)) rfl ?_
                        exact ab_U.weak (ih.2.2 _ _ _ _ _ _ _ hf) (ab_leL.of ⟨rfl, ⟨rfl, ⟨rfl, ⟨rfl, ⟨rfl, ⟨rfl, trivial⟩⟩⟩⟩⟩⟩)
                  · rw [if_neg b55] at hf
                    refine ab_U.run 2 (S' := (218, [some (.ref 232), some (.int l1), some (.int l2), some (.int l3), some (.int l4), some (.int l5), some (.int (μ.2.1 245 ((100 * l4) + l5).toNatClampNeg)), some (.int q22.1), some (.int ((l4 + (2 * q25.1)) + 1)), some (.int q27.1)], [.int l2, .int ((l4 + (2 * q25.1)) + 1)], hp X G q53.2)) rfl ?_
                    refine ab_U.ic_le rfl (fun b58 => ?_) (fun b58 => ?_)
                    · rw [if_pos b58] at hf
                      refine ab_U.run 4 (S' := (241, [some (.ref 232), some (.int l1), some (.int l2), some (.int l3), some (.int l4), some (.int l5), some (.int (μ.2.1 245 ((100 * l4) + l5).toNatClampNeg)), some (.int q22.1), some (.int ((l4 + (2 * q25.1)) + 1)), some (.int q27.1)], [.int l2, .int l4], hp X G q53.2)) rfl ?_
                      refine ab_U.ic_ne rfl (fun b59 => ?_) (fun b59 => ?_)
                      · rw [if_pos b59] at hf
                        refine ab_U.run 4 (S' := (90, [some (.ref 232), some (.int l1), some (.int l2), some (.int l3), some (.int l4), some (.int (l5 + 1)), some (.int (μ.2.1 245 ((100 * l4) + l5).toNatClampNeg)), some (.int q22.1), some (.int ((l4 + (2 * q25.1)) + 1)), some (.int q27.1)], [], hp X G q53.2)) rfl ?_
                        exact ab_U.weak (ih.2.2 _ _ _ _ _ _ _ hf) (ab_leL.of ⟨rfl, ⟨rfl, ⟨rfl, ⟨rfl, ⟨rfl, ⟨rfl, trivial⟩⟩⟩⟩⟩⟩)
                      · rw [if_neg b59] at hf
                        refine ab_U.run 2 (S' := (247, [some (.ref 232), some (.int l1), some (.int l2), some (.int l3), some (.int l4), some (.int l5), some (.int (μ.2.1 245 ((100 * l4) + l5).toNatClampNeg)), some (.int q22.1), some (.int ((l4 + (2 * q25.1)) + 1)), some (.int q27.1)], [.int l3, .int (μ.2.1 245 ((100 * l4) + l5).toNatClampNeg)], hp X G q53.2)) rfl ?_
                        refine ab_U.ic_ge rfl (fun b60 => ?_) (fun b60 => ?_)
                        · rw [if_pos b60] at hf
                          refine ab_U.run 4 (S' := (90, [some (.ref 232), some (.int l1), some (.int l2), some (.int l3), some (.int l4), some (.int (l5 + 1)), some (.int (μ.2.1 245 ((100 * l4) + l5).toNatClampNeg)), some (.int q22.1), some (.int ((l4 + (2 * q25.1)) + 1)), some (.int q27.1)], [], hp X G q53.2)) rfl ?_
                          exact ab_U.weak (ih.2.2 _ _ _ _ _ _ _ hf) (ab_leL.of ⟨rfl, ⟨rfl, ⟨rfl, ⟨rfl, ⟨rfl, ⟨rfl, trivial⟩⟩⟩⟩⟩⟩)
                        · rw [if_neg b60] at hf
                          refine ab_U.run 5 (S' := (90, [some (.ref 232), some (.int l1), some (.int l2), some (.int (μ.2.1 245 ((100 * l4) + l5).toNatClampNeg)), some (.int l4), some (.int (l5 + 1)), some (.int (μ.2.1 245 ((100 * l4) + l5).toNatClampNeg)), some (.int q22.1), some (.int ((l4 + (2 * q25.1)) + 1)), some (.int q27.1)], [], hp X G q53.2)) rfl ?_
                          exact ab_U.weak (ih.2.2 _ _ _ _ _ _ _ hf) (ab_leL.of ⟨rfl, ⟨rfl, ⟨rfl, ⟨rfl, ⟨rfl, ⟨rfl, trivial⟩⟩⟩⟩⟩⟩)
                    · rw [if_neg b58] at hf
                      refine ab_U.run 4 (S' := (226, [some (.ref 232), some (.int l1), some (.int l2), some (.int l3), some (.int l4), some (.int l5), some (.int (μ.2.1 245 ((100 * l4) + l5).toNatClampNeg)), some (.int q22.1), some (.int ((l4 + (2 * q25.1)) + 1)), some (.int q27.1)], [.int l3, .int ((μ.2.1 245 ((100 * l4) + l5).toNatClampNeg) + 1)], hp X G q53.2)) rfl ?_
                      refine ab_U.ic_ge rfl (fun b61 => ?_) (fun b61 => ?_)
                      · rw [if_pos b61] at hf
                        refine ab_U.run 4 (S' := (241, [some (.ref 232), some (.int l1), some (.int l2), some (.int l3), some (.int l4), some (.int l5), some (.int (μ.2.1 245 ((100 * l4) + l5).toNatClampNeg)), some (.int q22.1), some (.int ((l4 + (2 * q25.1)) + 1)), some (.int q27.1)], [.int l2, .int l4], hp X G q53.2)) rfl ?_
                        refine ab_U.ic_ne rfl (fun b62 => ?_) (fun b62 => ?_)
                        · rw [if_pos b62] at hf
                          refine ab_U.run 4 (S' := (90, [some (.ref 232), some (.int l1), some (.int l2), some (.int l3), some (.int l4), some (.int (l5 + 1)), some (.int (μ.2.1 245 ((100 * l4) + l5).toNatClampNeg)), some (.int q22.1), some (.int ((l4 + (2 * q25.1)) + 1)), some (.int q27.1)], [], hp X G q53.2)) rfl ?_
                          exact ab_U.weak (ih.2.2 _ _ _ _ _ _ _ hf) (ab_leL.of ⟨rfl, ⟨rfl, ⟨rfl, ⟨rfl, ⟨rfl, ⟨rfl, trivial⟩⟩⟩⟩⟩⟩)
                        · rw [if_neg b62] at hf
                          refine ab_U.run 2 (S' := (247, [some (.ref 232), some (.int l1), some (.int l2), some (.int l3), some (.int l4), some (.int l5), some (.int (μ.2.1 245 ((100 * l4) + l5).toNatClampNeg)), some (.int q22.1), some (.int ((l4 + (2 * q25.1)) + 1)), some (.int q27.1)], [.int l3, .int (μ.2.1 245 ((100 * l4) + l5).toNatClampNeg)], hp X G q53.2)) rfl ?_
                          refine ab_U.ic_ge rfl (fun b63 => ?_) (fun b63 => ?_)
                          · rw [if_pos b63] at hf
                            refine ab_U.run 4 (S' := (90, [some (.ref 232), some (.int l1), some (.int l2), some (.int l3), some (.int l4), some (.int (l5 + 1)), some (.int (μ.2.1 245 ((100 * l4) + l5).toNatClampNeg)), some (.int q22.1), some (.int ((l4 + (2 * q25.1)) + 1)), some (.int q27.1)], [], hp X G q53.2)) rfl ?_
                            exact ab_U.weak (ih.2.2 _ _ _ _ _ _ _ hf) (ab_leL.of ⟨rfl, ⟨rfl, ⟨rfl, ⟨rfl, ⟨rfl, ⟨rfl, trivial⟩⟩⟩⟩⟩⟩)
                          · rw [if_neg b63] at hf
                            refine ab_U.run 5 (S' := (90, [some (.ref 232), some (.int l1), some (.int l2), some (.int (μ.2.1 245 ((100 * l4) + l5).toNatClampNeg)), some (.int l4), some (.int (l5 + 1)), some (.int (μ.2.1 245 ((100 * l4) + l5).toNatClampNeg)), some (.int q22.1), some (.int ((l4 + (2 * q25.1)) + 1)), some (.int q27.1)], [], hp X G q53.2)) rfl ?_
                            exact ab_U.weak (ih.2.2 _ _ _ _ _ _ _ hf) (ab_leL.of ⟨rfl, ⟨rfl, ⟨rfl, ⟨rfl, ⟨rfl, ⟨rfl, trivial⟩⟩⟩⟩⟩⟩)
                      · rw [if_neg b61] at hf
                        refine ab_U.run 7 (S' := (241, [some (.ref 232), some (.int l1), some (.int l2), some (.int ((μ.2.1 245 ((100 * l4) + l5).toNatClampNeg) + 1)), some (.int l4), some (.int l5), some (.int (μ.2.1 245 ((100 * l4) + l5).toNatClampNeg)), some (.int q22.1), some (.int ((l4 + (2 * q25.1)) + 1)), some (.int q27.1)], [.int l2, .int l4], hp X G q53.2)) rfl ?_
                        refine ab_U.ic_ne rfl (fun b64 => ?_) (fun b64 => ?_)
                        · rw [if_pos b64] at hf
                          refine ab_U.run 4 (S' := (90, [some (.ref 232), some (.int l1), some (.int l2), some (.int ((μ.2.1 245 ((100 * l4) + l5).toNatClampNeg) + 1)), some (.int l4), some (.int (l5 + 1)), some (.int (μ.2.1 245 ((100 * l4) + l5).toNatClampNeg)), some (.int q22.1), some (.int ((l4 + (2 * q25.1)) + 1)), some (.int q27.1)], [], hp X G q53.2)) rfl ?_
                          exact ab_U.weak (ih.2.2 _ _ _ _ _ _ _ hf) (ab_leL.of ⟨rfl, ⟨rfl, ⟨rfl, ⟨rfl, ⟨rfl, ⟨rfl, trivial⟩⟩⟩⟩⟩⟩)
                        · rw [if_neg b64] at hf
                          refine ab_U.run 2 (S' := (247, [some (.ref 232), some (.int l1), some (.int l2), some (.int ((μ.2.1 245 ((100 * l4) + l5).toNatClampNeg) + 1)), some (.int l4), some (.int l5), some (.int (μ.2.1 245 ((100 * l4) + l5).toNatClampNeg)), some (.int q22.1), some (.int ((l4 + (2 * q25.1)) + 1)), some (.int q27.1)], [.int ((μ.2.1 245 ((100 * l4) + l5).toNatClampNeg) + 1), .int (μ.2.1 245 ((100 * l4) + l5).toNatClampNeg)], hp X G q53.2)) rfl ?_
                          refine ab_U.ic_ge rfl (fun b65 => ?_) (fun b65 => ?_)
                          · rw [if_pos b65] at hf
                            refine ab_U.run 4 (S' := (90, [some (.ref 232), some (.int l1), some (.int l2), some (.int ((μ.2.1 245 ((100 * l4) + l5).toNatClampNeg) + 1)), some (.int l4), some (.int (l5 + 1)), some (.int (μ.2.1 245 ((100 * l4) + l5).toNatClampNeg)), some (.int q22.1), some (.int ((l4 + (2 * q25.1)) + 1)), some (.int q27.1)], [], hp X G q53.2)) rfl ?_
                            exact ab_U.weak (ih.2.2 _ _ _ _ _ _ _ hf) (ab_leL.of ⟨rfl, ⟨rfl, ⟨rfl, ⟨rfl, ⟨rfl, ⟨rfl, trivial⟩⟩⟩⟩⟩⟩)
                          · rw [if_neg b65] at hf
                            refine ab_U.run 5 (S' := (90, [some (.ref 232), some (.int l1), some (.int l2), some (.int (μ.2.1 245 ((100 * l4) + l5).toNatClampNeg)), some (.int l4), some (.int (l5 + 1)), some (.int (μ.2.1 245 ((100 * l4) + l5).toNatClampNeg)), some (.int q22.1), some (.int ((l4 + (2 * q25.1)) + 1)), some (.int q27.1)], [], hp X G q53.2)) rfl ?_
                            exact ab_U.weak (ih.2.2 _ _ _ _ _ _ _ hf) (ab_leL.of ⟨rfl, ⟨rfl, ⟨rfl, ⟨rfl, ⟨rfl, ⟨rfl, trivial⟩⟩⟩⟩⟩⟩)
            · rw [if_neg b24] at hf
              refine ab_U.run 6 (S' := (154, [some (.ref 232), some (.int l1), some (.int l2), some (.int l3), some (.int l4), some (.int l5), some (.int (μ.2.1 245 ((100 * l4) + l5).toNatClampNeg)), some (.int q22.1), none, none], [.int (μ.2.1 245 ((100 * l4) + l5).toNatClampNeg), .int q22.1, .int (l4 + 1), .ref 232], hp X G q22.2)) rfl ?_
              obtain ⟨q66, h67, hf⟩ := ab_bnd hf
              refine ab_U.fn rfl rfl (t_X9_reaches (X := X) hG h67) (by omega) ?_
              show ab_U _ _ _ (157, [some (.ref 232), some (.int l1), some (.int l2), some (.int l3), some (.int l4), some (.int l5), some (.int (μ.2.1 245 ((100 * l4) + l5).toNatClampNeg)), some (.int q22.1), none, none], [], hp X G q66.2) _
              refine ab_U.run 4 (S' := (162, [some (.ref 232), some (.int l1), some (.int l2), some (.int l3), some (.int l4), some (.int l5), some (.int (μ.2.1 245 ((100 * l4) + l5).toNatClampNeg)), some (.int q22.1), none, none], [.int l1, .ref 232, .int 2, .int l4], hp X G q66.2)) rfl ?_
              obtain ⟨q68, h69, hf⟩ := ab_bnd hf
              refine ab_U.fn rfl rfl (t_X9_ovenWay (X := X) hG h69) (by omega) ?_
              show ab_U _ _ _ (165, [some (.ref 232), some (.int l1), some (.int l2), some (.int l3), some (.int l4), some (.int l5), some (.int (μ.2.1 245 ((100 * l4) + l5).toNatClampNeg)), some (.int q22.1), none, none], [.int q68.1, .int 2, .int l4], hp X G q68.2) _
              refine ab_U.run 10 (S' := (178, [some (.ref 232), some (.int l1), some (.int l2), some (.int l3), some (.int l4), some (.int l5), some (.int (μ.2.1 245 ((100 * l4) + l5).toNatClampNeg)), some (.int q22.1), some (.int ((l4 + (2 * q68.1)) + 1)), none], [.int l2, .int l5, .int l4, .int l1, .ref 232], hp X G q68.2)) rfl ?_
              obtain ⟨q70, h71, hf⟩ := ab_bnd hf
              refine ab_U.fn rfl rfl (t_X9_walked (X := X) hG h71) (by omega) ?_
              show ab_U _ _ _ (181, [some (.ref 232), some (.int l1), some (.int l2), some (.int l3), some (.int l4), some (.int l5), some (.int (μ.2.1 245 ((100 * l4) + l5).toNatClampNeg)), some (.int q22.1), some (.int ((l4 + (2 * q68.1)) + 1)), none], [.int q70.1], hp X G q70.2) _
              refine ab_U.run 3 (S' := (187, [some (.ref 232), some (.int l1), some (.int l2), some (.int l3), some (.int l4), some (.int l5), some (.int (μ.2.1 245 ((100 * l4) + l5).toNatClampNeg)), some (.int q22.1), some (.int ((l4 + (2 * q68.1)) + 1)), some (.int q70.1)], [.int (-4), .int q70.1], hp X G q70.2)) rfl ?_
              refine ab_U.ic_eq rfl (fun b72 => ?_) (fun b72 => ?_)
              · rw [if_pos b72] at hf
                refine ab_U.run 2 (S' := (212, [some (.ref 232), some (.int l1), some (.int l2), some (.int l3), some (.int l4), some (.int l5), some (.int (μ.2.1 245 ((100 * l4) + l5).toNatClampNeg)), some (.int q22.1), some (.int ((l4 + (2 * q68.1)) + 1)), some (.int q70.1)], [.int (-4), .int q70.1], hp X G q70.2)) rfl ?_
                refine ab_U.ic_eq rfl (fun b73 => ?_) (fun b73 => ?_)
                · rw [if_pos b73] at hf
                  refine ab_U.run 4 (S' := (241, [some (.ref 232), some (.int l1), some (.int l2), some (.int l3), some (.int l4), some (.int l5), some (.int (μ.2.1 245 ((100 * l4) + l5).toNatClampNeg)), some (.int q22.1), some (.int ((l4 + (2 * q68.1)) + 1)), some (.int q70.1)], [.int l2, .int l4], hp X G q70.2)) rfl ?_
                  refine ab_U.ic_ne rfl (fun b74 => ?_) (fun b74 => ?_)
                  · rw [if_pos b74] at hf
                    refine ab_U.run 4 (S' := (90, [some (.ref 232), some (.int l1), some (.int l2), some (.int l3), some (.int l4), some (.int (l5 + 1)), some (.int (μ.2.1 245 ((100 * l4) + l5).toNatClampNeg)), some (.int q22.1), some (.int ((l4 + (2 * q68.1)) + 1)), some (.int q70.1)], [], hp X G q70.2)) rfl ?_
                    exact ab_U.weak (ih.2.2 _ _ _ _ _ _ _ hf) (ab_leL.of ⟨rfl, ⟨rfl, ⟨rfl, ⟨rfl, ⟨rfl, ⟨rfl, trivial⟩⟩⟩⟩⟩⟩)
                  · rw [if_neg b74] at hf
                    refine ab_U.run 2 (S' := (247, [some (.ref 232), some (.int l1), some (.int l2), some (.int l3), some (.int l4), some (.int l5), some (.int (μ.2.1 245 ((100 * l4) + l5).toNatClampNeg)), some (.int q22.1), some (.int ((l4 + (2 * q68.1)) + 1)), some (.int q70.1)], [.int l3, .int (μ.2.1 245 ((100 * l4) + l5).toNatClampNeg)], hp X G q70.2)) rfl ?_
                    refine ab_U.ic_ge rfl (fun b75 => ?_) (fun b75 => ?_)
                    · rw [if_pos b75] at hf
                      refine ab_U.run 4 (S' := (90, [some (.ref 232), some (.int l1), some (.int l2), some (.int l3), some (.int l4), some (.int (l5 + 1)), some (.int (μ.2.1 245 ((100 * l4) + l5).toNatClampNeg)), some (.int q22.1), some (.int ((l4 + (2 * q68.1)) + 1)), some (.int q70.1)], [], hp X G q70.2)) rfl ?_
                      exact ab_U.weak (ih.2.2 _ _ _ _ _ _ _ hf) (ab_leL.of ⟨rfl, ⟨rfl, ⟨rfl, ⟨rfl, ⟨rfl, ⟨rfl, trivial⟩⟩⟩⟩⟩⟩)
                    · rw [if_neg b75] at hf
                      refine ab_U.run 5 (S' := (90, [some (.ref 232), some (.int l1), some (.int l2), some (.int (μ.2.1 245 ((100 * l4) + l5).toNatClampNeg)), some (.int l4), some (.int (l5 + 1)), some (.int (μ.2.1 245 ((100 * l4) + l5).toNatClampNeg)), some (.int q22.1), some (.int ((l4 + (2 * q68.1)) + 1)), some (.int q70.1)], [], hp X G q70.2)) rfl ?_
                      exact ab_U.weak (ih.2.2 _ _ _ _ _ _ _ hf) (ab_leL.of ⟨rfl, ⟨rfl, ⟨rfl, ⟨rfl, ⟨rfl, ⟨rfl, trivial⟩⟩⟩⟩⟩⟩)
                · rw [if_neg b73] at hf
                  refine ab_U.run 2 (S' := (218, [some (.ref 232), some (.int l1), some (.int l2), some (.int l3), some (.int l4), some (.int l5), some (.int (μ.2.1 245 ((100 * l4) + l5).toNatClampNeg)), some (.int q22.1), some (.int ((l4 + (2 * q68.1)) + 1)), some (.int q70.1)], [.int l2, .int ((l4 + (2 * q68.1)) + 1)], hp X G q70.2)) rfl ?_
                  refine ab_U.ic_le rfl (fun b76 => ?_) (fun b76 => ?_)
                  · rw [if_pos b76] at hf
                    refine ab_U.run 4 (S' := (241, [some (.ref 232), some (.int l1), some (.int l2), some (.int l3), some (.int l4), some (.int l5), some (.int (μ.2.1 245 ((100 * l4) + l5).toNatClampNeg)), some (.int q22.1), some (.int ((l4 + (2 * q68.1)) + 1)), some (.int q70.1)], [.int l2, .int l4], hp X G q70.2)) rfl ?_
                    refine ab_U.ic_ne rfl (fun b77 => ?_) (fun b77 => ?_)
                    · rw [if_pos b77] at hf
                      refine ab_U.run 4 (S' := (90, [some (.ref 232), some (.int l1), some (.int l2), some (.int l3), some (.int l4), some (.int (l5 + 1)), some (.int (μ.2.1 245 ((100 * l4) + l5).toNatClampNeg)), some (.int q22.1), some (.int ((l4 + (2 * q68.1)) + 1)), some (.int q70.1)], [], hp X G q70.2)) rfl ?_
                      exact ab_U.weak (ih.2.2 _ _ _ _ _ _ _ hf) (ab_leL.of ⟨rfl, ⟨rfl, ⟨rfl, ⟨rfl, ⟨rfl, ⟨rfl, trivial⟩⟩⟩⟩⟩⟩)
                    · rw [if_neg b77] at hf
                      refine ab_U.run 2 (S' := (247, [some (.ref 232), some (.int l1), some (.int l2), some (.int l3), some (.int l4), some (.int l5), some (.int (μ.2.1 245 ((100 * l4) + l5).toNatClampNeg)), some (.int q22.1), some (.int ((l4 + (2 * q68.1)) + 1)), some (.int q70.1)], [.int l3, .int (μ.2.1 245 ((100 * l4) + l5).toNatClampNeg)], hp X G q70.2)) rfl ?_
                      refine ab_U.ic_ge rfl (fun b78 => ?_) (fun b78 => ?_)
                      · rw [if_pos b78] at hf
                        refine ab_U.run 4 (S' := (90, [some (.ref 232), some (.int l1), some (.int l2), some (.int l3), some (.int l4), some (.int (l5 + 1)), some (.int (μ.2.1 245 ((100 * l4) + l5).toNatClampNeg)), some (.int q22.1), some (.int ((l4 + (2 * q68.1)) + 1)), some (.int q70.1)], [], hp X G q70.2)) rfl ?_
                        exact ab_U.weak (ih.2.2 _ _ _ _ _ _ _ hf) (ab_leL.of ⟨rfl, ⟨rfl, ⟨rfl, ⟨rfl, ⟨rfl, ⟨rfl, trivial⟩⟩⟩⟩⟩⟩)
                      · rw [if_neg b78] at hf
                        refine ab_U.run 5 (S' := (90, [some (.ref 232), some (.int l1), some (.int l2), some (.int (μ.2.1 245 ((100 * l4) + l5).toNatClampNeg)), some (.int l4), some (.int (l5 + 1)), some (.int (μ.2.1 245 ((100 * l4) + l5).toNatClampNeg)), some (.int q22.1), some (.int ((l4 + (2 * q68.1)) + 1)), some (.int q70.1)], [], hp X G q70.2)) rfl ?_
                        exact ab_U.weak (ih.2.2 _ _ _ _ _ _ _ hf) (ab_leL.of ⟨rfl, ⟨rfl, ⟨rfl, ⟨rfl, ⟨rfl, ⟨rfl, trivial⟩⟩⟩⟩⟩⟩)
                  · rw [if_neg b76] at hf
                    refine ab_U.run 4 (S' := (226, [some (.ref 232), some (.int l1), some (.int l2), some (.int l3), some (.int l4), some (.int l5), some (.int (μ.2.1 245 ((100 * l4) + l5).toNatClampNeg)), some (.int q22.1), some (.int ((l4 + (2 * q68.1)) + 1)), some (.int q70.1)], [.int l3, .int ((μ.2.1 245 ((100 * l4) + l5).toNatClampNeg) + 1)], hp X G q70.2)) rfl ?_
                    refine ab_U.ic_ge rfl (fun b79 => ?_) (fun b79 => ?_)
                    · rw [if_pos b79] at hf
                      refine ab_U.run 4 (S' := (241, [some (.ref 232), some (.int l1), some (.int l2), some (.int l3), some (.int l4), some (.int l5), some (.int (μ.2.1 245 ((100 * l4) + l5).toNatClampNeg)), some (.int q22.1), some (.int ((l4 + (2 * q68.1)) + 1)), some (.int q70.1)], [.int l2, .int l4], hp X G q70.2)) rfl ?_
                      refine ab_U.ic_ne rfl (fun b80 => ?_) (fun b80 => ?_)
                      · rw [if_pos b80] at hf
                        refine ab_U.run 4 (S' := (90, [some (.ref 232), some (.int l1), some (.int l2), some (.int l3), some (.int l4), some (.int (l5 + 1)), some (.int (μ.2.1 245 ((100 * l4) + l5).toNatClampNeg)), some (.int q22.1), some (.int ((l4 + (2 * q68.1)) + 1)), some (.int q70.1)], [], hp X G q70.2)) rfl ?_
                        exact ab_U.weak (ih.2.2 _ _ _ _ _ _ _ hf) (ab_leL.of ⟨rfl, ⟨rfl, ⟨rfl, ⟨rfl, ⟨rfl, ⟨rfl, trivial⟩⟩⟩⟩⟩⟩)
                      · rw [if_neg b80] at hf
                        refine ab_U.run 2 (S' := (247, [some (.ref 232), some (.int l1), some (.int l2), some (.int l3), some (.int l4), some (.int l5), some (.int (μ.2.1 245 ((100 * l4) + l5).toNatClampNeg)), some (.int q22.1), some (.int ((l4 + (2 * q68.1)) + 1)), some (.int q70.1)], [.int l3, .int (μ.2.1 245 ((100 * l4) + l5).toNatClampNeg)], hp X G q70.2)) rfl ?_
                        refine ab_U.ic_ge rfl (fun b81 => ?_) (fun b81 => ?_)
                        · rw [if_pos b81] at hf
                          refine ab_U.run 4 (S' := (90, [some (.ref 232), some (.int l1), some (.int l2), some (.int l3), some (.int l4), some (.int (l5 + 1)), some (.int (μ.2.1 245 ((100 * l4) + l5).toNatClampNeg)), some (.int q22.1), some (.int ((l4 + (2 * q68.1)) + 1)), some (.int q70.1)], [], hp X G q70.2)) rfl ?_
                          exact ab_U.weak (ih.2.2 _ _ _ _ _ _ _ hf) (ab_leL.of ⟨rfl, ⟨rfl, ⟨rfl, ⟨rfl, ⟨rfl, ⟨rfl, trivial⟩⟩⟩⟩⟩⟩)
                        · rw [if_neg b81] at hf
                          refine ab_U.run 5 (S' := (90, [some (.ref 232), some (.int l1), some (.int l2), some (.int (μ.2.1 245 ((100 * l4) + l5).toNatClampNeg)), some (.int l4), some (.int (l5 + 1)), some (.int (μ.2.1 245 ((100 * l4) + l5).toNatClampNeg)), some (.int q22.1), some (.int ((l4 + (2 * q68.1)) + 1)), some (.int q70.1)], [], hp X G q70.2)) rfl ?_
                          exact ab_U.weak (ih.2.2 _ _ _ _ _ _ _ hf) (ab_leL.of ⟨rfl, ⟨rfl, ⟨rfl, ⟨rfl, ⟨rfl, ⟨rfl, trivial⟩⟩⟩⟩⟩⟩)
                    · rw [if_neg b79] at hf
                      refine ab_U.run 7 (S' := (241, [some (.ref 232), some (.int l1), some (.int l2), some (.int ((μ.2.1 245 ((100 * l4) + l5).toNatClampNeg) + 1)), some (.int l4), some (.int l5), some (.int (μ.2.1 245 ((100 * l4) + l5).toNatClampNeg)), some (.int q22.1), some (.int ((l4 + (2 * q68.1)) + 1)), some (.int q70.1)], [.int l2, .int l4], hp X G q70.2)) rfl ?_
                      refine ab_U.ic_ne rfl (fun b82 => ?_) (fun b82 => ?_)
                      · rw [if_pos b82] at hf
                        refine ab_U.run 4 (S' := (90, [some (.ref 232), some (.int l1), some (.int l2), some (.int ((μ.2.1 245 ((100 * l4) + l5).toNatClampNeg) + 1)), some (.int l4), some (.int (l5 + 1)), some (.int (μ.2.1 245 ((100 * l4) + l5).toNatClampNeg)), some (.int q22.1), some (.int ((l4 + (2 * q68.1)) + 1)), some (.int q70.1)], [], hp X G q70.2)) rfl ?_
                        exact ab_U.weak (ih.2.2 _ _ _ _ _ _ _ hf) (ab_leL.of ⟨rfl, ⟨rfl, ⟨rfl, ⟨rfl, ⟨rfl, ⟨rfl, trivial⟩⟩⟩⟩⟩⟩)
                      · rw [if_neg b82] at hf
                        refine ab_U.run 2 (S' := (247, [some (.ref 232), some (.int l1), some (.int l2), some (.int ((μ.2.1 245 ((100 * l4) + l5).toNatClampNeg) + 1)), some (.int l4), some (.int l5), some (.int (μ.2.1 245 ((100 * l4) + l5).toNatClampNeg)), some (.int q22.1), some (.int ((l4 + (2 * q68.1)) + 1)), some (.int q70.1)], [.int ((μ.2.1 245 ((100 * l4) + l5).toNatClampNeg) + 1), .int (μ.2.1 245 ((100 * l4) + l5).toNatClampNeg)], hp X G q70.2)) rfl ?_
                        refine ab_U.ic_ge rfl (fun b83 => ?_) (fun b83 => ?_)
                        · rw [if_pos b83] at hf
                          refine ab_U.run 4 (S' := (90, [some (.ref 232), some (.int l1), some (.int l2), some (.int ((μ.2.1 245 ((100 * l4) + l5).toNatClampNeg) + 1)), some (.int l4), some (.int (l5 + 1)), some (.int (μ.2.1 245 ((100 * l4) + l5).toNatClampNeg)), some (.int q22.1), some (.int ((l4 + (2 * q68.1)) + 1)), some (.int q70.1)], [], hp X G q70.2)) rfl ?_
                          exact ab_U.weak (ih.2.2 _ _ _ _ _ _ _ hf) (ab_leL.of ⟨rfl, ⟨rfl, ⟨rfl, ⟨rfl, ⟨rfl, ⟨rfl, trivial⟩⟩⟩⟩⟩⟩)
                        · rw [if_neg b83] at hf
                          refine ab_U.run 5 (S' := (90, [some (.ref 232), some (.int l1), some (.int l2), some (.int (μ.2.1 245 ((100 * l4) + l5).toNatClampNeg)), some (.int l4), some (.int (l5 + 1)), some (.int (μ.2.1 245 ((100 * l4) + l5).toNatClampNeg)), some (.int q22.1), some (.int ((l4 + (2 * q68.1)) + 1)), some (.int q70.1)], [], hp X G q70.2)) rfl ?_
                          exact ab_U.weak (ih.2.2 _ _ _ _ _ _ _ hf) (ab_leL.of ⟨rfl, ⟨rfl, ⟨rfl, ⟨rfl, ⟨rfl, ⟨rfl, trivial⟩⟩⟩⟩⟩⟩)
              · rw [if_neg b72] at hf
                refine ab_U.run 2 (S' := (193, [some (.ref 232), some (.int l1), some (.int l2), some (.int l3), some (.int l4), some (.int l5), some (.int (μ.2.1 245 ((100 * l4) + l5).toNatClampNeg)), some (.int q22.1), some (.int ((l4 + (2 * q68.1)) + 1)), some (.int q70.1)], [.int l2, .int ((l4 + (2 * q68.1)) + 1)], hp X G q70.2)) rfl ?_
                refine ab_U.ic_gt rfl (fun b84 => ?_) (fun b84 => ?_)
                · rw [if_pos b84] at hf
                  refine ab_U.run 2 (S' := (212, [some (.ref 232), some (.int l1), some (.int l2), some (.int l3), some (.int l4), some (.int l5), some (.int (μ.2.1 245 ((100 * l4) + l5).toNatClampNeg)), some (.int q22.1), some (.int ((l4 + (2 * q68.1)) + 1)), some (.int q70.1)], [.int (-4), .int q70.1], hp X G q70.2)) rfl ?_
                  refine ab_U.ic_eq rfl (fun b85 => ?_) (fun b85 => ?_)
                  · rw [if_pos b85] at hf
                    refine ab_U.run 4 (S' := (241, [some (.ref 232), some (.int l1), some (.int l2), some (.int l3), some (.int l4), some (.int l5), some (.int (μ.2.1 245 ((100 * l4) + l5).toNatClampNeg)), some (.int q22.1), some (.int ((l4 + (2 * q68.1)) + 1)), some (.int q70.1)], [.int l2, .int l4], hp X G q70.2)) rfl ?_
                    refine ab_U.ic_ne rfl (fun b86 => ?_) (fun b86 => ?_)
                    · rw [if_pos b86] at hf
                      refine ab_U.run 4 (S' := (90, [some (.ref 232), some (.int l1), some (.int l2), some (.int l3), some (.int l4), some (.int (l5 + 1)), some (.int (μ.2.1 245 ((100 * l4) + l5).toNatClampNeg)), some (.int q22.1), some (.int ((l4 + (2 * q68.1)) + 1)), some (.int q70.1)], [], hp X G q70.2)) rfl ?_
                      exact ab_U.weak (ih.2.2 _ _ _ _ _ _ _ hf) (ab_leL.of ⟨rfl, ⟨rfl, ⟨rfl, ⟨rfl, ⟨rfl, ⟨rfl, trivial⟩⟩⟩⟩⟩⟩)
                    · rw [if_neg b86] at hf
                      refine ab_U.run 2 (S' := (247, [some (.ref 232), some (.int l1), some (.int l2), some (.int l3), some (.int l4), some (.int l5), some (.int (μ.2.1 245 ((100 * l4) + l5).toNatClampNeg)), some (.int q22.1), some (.int ((l4 + (2 * q68.1)) + 1)), some (.int q70.1)], [.int l3, .int (μ.2.1 245 ((100 * l4) + l5).toNatClampNeg)], hp X G q70.2)) rfl ?_
                      refine ab_U.ic_ge rfl (fun b87 => ?_) (fun b87 => ?_)
                      · rw [if_pos b87] at hf
                        refine ab_U.run 4 (S' := (90, [some (.ref 232), some (.int l1), some (.int l2), some (.int l3), some (.int l4), some (.int (l5 + 1)), some (.int (μ.2.1 245 ((100 * l4) + l5).toNatClampNeg)), some (.int q22.1), some (.int ((l4 + (2 * q68.1)) + 1)), some (.int q70.1)], [], hp X G q70.2)) rfl ?_
                        exact ab_U.weak (ih.2.2 _ _ _ _ _ _ _ hf) (ab_leL.of ⟨rfl, ⟨rfl, ⟨rfl, ⟨rfl, ⟨rfl, ⟨rfl, trivial⟩⟩⟩⟩⟩⟩)
                      · rw [if_neg b87] at hf
                        refine ab_U.run 5 (S' := (90, [some (.ref 232), some (.int l1), some (.int l2), some (.int (μ.2.1 245 ((100 * l4) + l5).toNatClampNeg)), some (.int l4), some (.int (l5 + 1)), some (.int (μ.2.1 245 ((100 * l4) + l5).toNatClampNeg)), some (.int q22.1), some (.int ((l4 + (2 * q68.1)) + 1)), some (.int q70.1)], [], hp X G q70.2)) rfl ?_
                        exact ab_U.weak (ih.2.2 _ _ _ _ _ _ _ hf) (ab_leL.of ⟨rfl, ⟨rfl, ⟨rfl, ⟨rfl, ⟨rfl, ⟨rfl, trivial⟩⟩⟩⟩⟩⟩)
                  · rw [if_neg b85] at hf
                    refine ab_U.run 2 (S' := (218, [some (.ref 232), some (.int l1), some (.int l2), some (.int l3), some (.int l4), some (.int l5), some (.int (μ.2.1 245 ((100 * l4) + l5).toNatClampNeg)), some (.int q22.1), some (.int ((l4 + (2 * q68.1)) + 1)), some (.int q70.1)], [.int l2, .int ((l4 + (2 * q68.1)) + 1)], hp X G q70.2)) rfl ?_
                    refine ab_U.ic_le rfl (fun b88 => ?_) (fun b88 => ?_)
                    · rw [if_pos b88] at hf
                      refine ab_U.run 4 (S' := (241, [some (.ref 232), some (.int l1), some (.int l2), some (.int l3), some (.int l4), some (.int l5), some (.int (μ.2.1 245 ((100 * l4) + l5).toNatClampNeg)), some (.int q22.1), some (.int ((l4 + (2 * q68.1)) + 1)), some (.int q70.1)], [.int l2, .int l4], hp X G q70.2)) rfl ?_
                      refine ab_U.ic_ne rfl (fun b89 => ?_) (fun b89 => ?_)
                      · rw [if_pos b89] at hf
                        refine ab_U.run 4 (S' := (90, [some (.ref 232), some (.int l1), some (.int l2), some (.int l3), some (.int l4), some (.int (l5 + 1)), some (.int (μ.2.1 245 ((100 * l4) + l5).toNatClampNeg)), some (.int q22.1), some (.int ((l4 + (2 * q68.1)) + 1)), some (.int q70.1)], [], hp X G q70.2)) rfl ?_
                        exact ab_U.weak (ih.2.2 _ _ _ _ _ _ _ hf) (ab_leL.of ⟨rfl, ⟨rfl, ⟨rfl, ⟨rfl, ⟨rfl, ⟨rfl, trivial⟩⟩⟩⟩⟩⟩)
                      · rw [if_neg b89] at hf
                        refine ab_U.run 2 (S' := (247, [some (.ref 232), some (.int l1), some (.int l2), some (.int l3), some (.int l4), some (.int l5), some (.int (μ.2.1 245 ((100 * l4) + l5).toNatClampNeg)), some (.int q22.1), some (.int ((l4 + (2 * q68.1)) + 1)), some (.int q70.1)], [.int l3, .int (μ.2.1 245 ((100 * l4) + l5).toNatClampNeg)], hp X G q70.2)) rfl ?_
                        refine ab_U.ic_ge rfl (fun b90 => ?_) (fun b90 => ?_)
                        · rw [if_pos b90] at hf
                          refine ab_U.run 4 (S' := (90, [some (.ref 232), some (.int l1), some (.int l2), some (.int l3), some (.int l4), some (.int (l5 + 1)), some (.int (μ.2.1 245 ((100 * l4) + l5).toNatClampNeg)), some (.int q22.1), some (.int ((l4 + (2 * q68.1)) + 1)), some (.int q70.1)], [], hp X G q70.2)) rfl ?_
                          exact ab_U.weak (ih.2.2 _ _ _ _ _ _ _ hf) (ab_leL.of ⟨rfl, ⟨rfl, ⟨rfl, ⟨rfl, ⟨rfl, ⟨rfl, trivial⟩⟩⟩⟩⟩⟩)
                        · rw [if_neg b90] at hf
                          refine ab_U.run 5 (S' := (90, [some (.ref 232), some (.int l1), some (.int l2), some (.int (μ.2.1 245 ((100 * l4) + l5).toNatClampNeg)), some (.int l4), some (.int (l5 + 1)), some (.int (μ.2.1 245 ((100 * l4) + l5).toNatClampNeg)), some (.int q22.1), some (.int ((l4 + (2 * q68.1)) + 1)), some (.int q70.1)], [], hp X G q70.2)) rfl ?_
                          exact ab_U.weak (ih.2.2 _ _ _ _ _ _ _ hf) (ab_leL.of ⟨rfl, ⟨rfl, ⟨rfl, ⟨rfl, ⟨rfl, ⟨rfl, trivial⟩⟩⟩⟩⟩⟩)
                    · rw [if_neg b88] at hf
                      refine ab_U.run 4 (S' := (226, [some (.ref 232), some (.int l1), some (.int l2), some (.int l3), some (.int l4), some (.int l5), some (.int (μ.2.1 245 ((100 * l4) + l5).toNatClampNeg)), some (.int q22.1), some (.int ((l4 + (2 * q68.1)) + 1)), some (.int q70.1)], [.int l3, .int ((μ.2.1 245 ((100 * l4) + l5).toNatClampNeg) + 1)], hp X G q70.2)) rfl ?_
                      refine ab_U.ic_ge rfl (fun b91 => ?_) (fun b91 => ?_)
                      · rw [if_pos b91] at hf
                        refine ab_U.run 4 (S' := (241, [some (.ref 232), some (.int l1), some (.int l2), some (.int l3), some (.int l4), some (.int l5), some (.int (μ.2.1 245 ((100 * l4) + l5).toNatClampNeg)), some (.int q22.1), some (.int ((l4 + (2 * q68.1)) + 1)), some (.int q70.1)], [.int l2, .int l4], hp X G q70.2)) rfl ?_
                        refine ab_U.ic_ne rfl (fun b92 => ?_) (fun b92 => ?_)
                        · rw [if_pos b92] at hf
                          refine ab_U.run 4 (S' := (90, [some (.ref 232), some (.int l1), some (.int l2), some (.int l3), some (.int l4), some (.int (l5 + 1)), some (.int (μ.2.1 245 ((100 * l4) + l5).toNatClampNeg)), some (.int q22.1), some (.int ((l4 + (2 * q68.1)) + 1)), some (.int q70.1)], [], hp X G q70.2)) rfl ?_
                          exact ab_U.weak (ih.2.2 _ _ _ _ _ _ _ hf) (ab_leL.of ⟨rfl, ⟨rfl, ⟨rfl, ⟨rfl, ⟨rfl, ⟨rfl, trivial⟩⟩⟩⟩⟩⟩)
                        · rw [if_neg b92] at hf
                          refine ab_U.run 2 (S' := (247, [some (.ref 232), some (.int l1), some (.int l2), some (.int l3), some (.int l4), some (.int l5), some (.int (μ.2.1 245 ((100 * l4) + l5).toNatClampNeg)), some (.int q22.1), some (.int ((l4 + (2 * q68.1)) + 1)), some (.int q70.1)], [.int l3, .int (μ.2.1 245 ((100 * l4) + l5).toNatClampNeg)], hp X G q70.2)) rfl ?_
                          refine ab_U.ic_ge rfl (fun b93 => ?_) (fun b93 => ?_)
                          · rw [if_pos b93] at hf
                            refine ab_U.run 4 (S' := (90, [some (.ref 232), some (.int l1), some (.int l2), some (.int l3), some (.int l4), some (.int (l5 + 1)), some (.int (μ.2.1 245 ((100 * l4) + l5).toNatClampNeg)), some (.int q22.1), some (.int ((l4 + (2 * q68.1)) + 1)), some (.int q70.1)], [], hp X G q70.2)) rfl ?_
                            exact ab_U.weak (ih.2.2 _ _ _ _ _ _ _ hf) (ab_leL.of ⟨rfl, ⟨rfl, ⟨rfl, ⟨rfl, ⟨rfl, ⟨rfl, trivial⟩⟩⟩⟩⟩⟩)
                          · rw [if_neg b93] at hf
                            refine ab_U.run 5 (S' := (90, [some (.ref 232), some (.int l1), some (.int l2), some (.int (μ.2.1 245 ((100 * l4) + l5).toNatClampNeg)), some (.int l4), some (.int (l5 + 1)), some (.int (μ.2.1 245 ((100 * l4) + l5).toNatClampNeg)), some (.int q22.1), some (.int ((l4 + (2 * q68.1)) + 1)), some (.int q70.1)], [], hp X G q70.2)) rfl ?_
                            exact ab_U.weak (ih.2.2 _ _ _ _ _ _ _ hf) (ab_leL.of ⟨rfl, ⟨rfl, ⟨rfl, ⟨rfl, ⟨rfl, ⟨rfl, trivial⟩⟩⟩⟩⟩⟩)
                      · rw [if_neg b91] at hf
                        refine ab_U.run 7 (S' := (241, [some (.ref 232), some (.int l1), some (.int l2), some (.int ((μ.2.1 245 ((100 * l4) + l5).toNatClampNeg) + 1)), some (.int l4), some (.int l5), some (.int (μ.2.1 245 ((100 * l4) + l5).toNatClampNeg)), some (.int q22.1), some (.int ((l4 + (2 * q68.1)) + 1)), some (.int q70.1)], [.int l2, .int l4], hp X G q70.2)) rfl ?_
                        refine ab_U.ic_ne rfl (fun b94 => ?_) (fun b94 => ?_)
                        · rw [if_pos b94] at hf
                          refine ab_U.run 4 (S' := (90, [some (.ref 232), some (.int l1), some (.int l2), some (.int ((μ.2.1 245 ((100 * l4) + l5).toNatClampNeg) + 1)), some (.int l4), some (.int (l5 + 1)), some (.int (μ.2.1 245 ((100 * l4) + l5).toNatClampNeg)), some (.int q22.1), some (.int ((l4 + (2 * q68.1)) + 1)), some (.int q70.1)], [], hp X G q70.2)) rfl ?_
                          exact ab_U.weak (ih.2.2 _ _ _ _ _ _ _ hf) (ab_leL.of ⟨rfl, ⟨rfl, ⟨rfl, ⟨rfl, ⟨rfl, ⟨rfl, trivial⟩⟩⟩⟩⟩⟩)
                        · rw [if_neg b94] at hf
                          refine ab_U.run 2 (S' := (247, [some (.ref 232), some (.int l1), some (.int l2), some (.int ((μ.2.1 245 ((100 * l4) + l5).toNatClampNeg) + 1)), some (.int l4), some (.int l5), some (.int (μ.2.1 245 ((100 * l4) + l5).toNatClampNeg)), some (.int q22.1), some (.int ((l4 + (2 * q68.1)) + 1)), some (.int q70.1)], [.int ((μ.2.1 245 ((100 * l4) + l5).toNatClampNeg) + 1), .int (μ.2.1 245 ((100 * l4) + l5).toNatClampNeg)], hp X G q70.2)) rfl ?_
                          refine ab_U.ic_ge rfl (fun b95 => ?_) (fun b95 => ?_)
                          · rw [if_pos b95] at hf
                            refine ab_U.run 4 (S' := (90, [some (.ref 232), some (.int l1), some (.int l2), some (.int ((μ.2.1 245 ((100 * l4) + l5).toNatClampNeg) + 1)), some (.int l4), some (.int (l5 + 1)), some (.int (μ.2.1 245 ((100 * l4) + l5).toNatClampNeg)), some (.int q22.1), some (.int ((l4 + (2 * q68.1)) + 1)), some (.int q70.1)], [], hp X G q70.2)) rfl ?_
                            exact ab_U.weak (ih.2.2 _ _ _ _ _ _ _ hf) (ab_leL.of ⟨rfl, ⟨rfl, ⟨rfl, ⟨rfl, ⟨rfl, ⟨rfl, trivial⟩⟩⟩⟩⟩⟩)
                          · rw [if_neg b95] at hf
                            refine ab_U.run 5 (S' := (90, [some (.ref 232), some (.int l1), some (.int l2), some (.int (μ.2.1 245 ((100 * l4) + l5).toNatClampNeg)), some (.int l4), some (.int (l5 + 1)), some (.int (μ.2.1 245 ((100 * l4) + l5).toNatClampNeg)), some (.int q22.1), some (.int ((l4 + (2 * q68.1)) + 1)), some (.int q70.1)], [], hp X G q70.2)) rfl ?_
                            exact ab_U.weak (ih.2.2 _ _ _ _ _ _ _ hf) (ab_leL.of ⟨rfl, ⟨rfl, ⟨rfl, ⟨rfl, ⟨rfl, ⟨rfl, trivial⟩⟩⟩⟩⟩⟩)
                · rw [if_neg b84] at hf
                  refine ab_U.run 6 (S' := (205, [some (.ref 232), some (.int l1), some (.int l2), some (.int l3), some (.int l4), some (.int l5), some (.int (μ.2.1 245 ((100 * l4) + l5).toNatClampNeg)), some (.int q22.1), some (.int ((l4 + (2 * q68.1)) + 1)), some (.int q70.1)], [.int ((μ.2.1 245 ((100 * l4) + l5).toNatClampNeg) + 1), .int q70.1, .int ((l4 + (2 * q68.1)) + 1), .ref 232], hp X G q70.2)) rfl ?_
                  obtain ⟨q96, h97, hf⟩ := ab_bnd hf
                  refine ab_U.fn rfl rfl (t_X9_reaches (X := X) hG h97) (by omega) ?_
                  show ab_U _ _ _ (208, [some (.ref 232), some (.int l1), some (.int l2), some (.int l3), some (.int l4), some (.int l5), some (.int (μ.2.1 245 ((100 * l4) + l5).toNatClampNeg)), some (.int q22.1), some (.int ((l4 + (2 * q68.1)) + 1)), some (.int q70.1)], [], hp X G q96.2) _
                  refine ab_U.run 2 (S' := (212, [some (.ref 232), some (.int l1), some (.int l2), some (.int l3), some (.int l4), some (.int l5), some (.int (μ.2.1 245 ((100 * l4) + l5).toNatClampNeg)), some (.int q22.1), some (.int ((l4 + (2 * q68.1)) + 1)), some (.int q70.1)], [.int (-4), .int q70.1], hp X G q96.2)) rfl ?_
                  refine ab_U.ic_eq rfl (fun b98 => ?_) (fun b98 => ?_)
                  · rw [if_pos b98] at hf
                    refine ab_U.run 4 (S' := (241, [some (.ref 232), some (.int l1), some (.int l2), some (.int l3), some (.int l4), some (.int l5), some (.int (μ.2.1 245 ((100 * l4) + l5).toNatClampNeg)), some (.int q22.1), some (.int ((l4 + (2 * q68.1)) + 1)), some (.int q70.1)], [.int l2, .int l4], hp X G q96.2)) rfl ?_
                    refine ab_U.ic_ne rfl (fun b99 => ?_) (fun b99 => ?_)
                    · rw [if_pos b99] at hf
                      refine ab_U.run 4 (S' := (90, [some (.ref 232), some (.int l1), some (.int l2), some (.int l3), some (.int l4), some (.int (l5 + 1)), some (.int (μ.2.1 245 ((100 * l4) + l5).toNatClampNeg)), some (.int q22.1), some (.int ((l4 + (2 * q68.1)) + 1)), some (.int q70.1)], [], hp X G q96.2)) rfl ?_
                      exact ab_U.weak (ih.2.2 _ _ _ _ _ _ _ hf) (ab_leL.of ⟨rfl, ⟨rfl, ⟨rfl, ⟨rfl, ⟨rfl, ⟨rfl, trivial⟩⟩⟩⟩⟩⟩)
                    · rw [if_neg b99] at hf
                      refine ab_U.run 2 (S' := (247, [some (.ref 232), some (.int l1), some (.int l2), some (.int l3), some (.int l4), some (.int l5), some (.int (μ.2.1 245 ((100 * l4) + l5).toNatClampNeg)), some (.int q22.1), some (.int ((l4 + (2 * q68.1)) + 1)), some (.int q70.1)], [.int l3, .int (μ.2.1 245 ((100 * l4) + l5).toNatClampNeg)], hp X G q96.2)) rfl ?_
                      refine ab_U.ic_ge rfl (fun b100 => ?_) (fun b100 => ?_)
                      · rw [if_pos b100] at hf
                        refine ab_U.run 4 (S' := (90, [some (.ref 232), some (.int l1), some (.int l2), some (.int l3), some (.int l4), some (.int (l5 + 1)), some (.int (μ.2.1 245 ((100 * l4) + l5).toNatClampNeg)), some (.int q22.1), some (.int ((l4 + (2 * q68.1)) + 1)), some (.int q70.1)], [], hp X G q96.2)) rfl ?_
                        exact ab_U.weak (ih.2.2 _ _ _ _ _ _ _ hf) (ab_leL.of ⟨rfl, ⟨rfl, ⟨rfl, ⟨rfl, ⟨rfl, ⟨rfl, trivial⟩⟩⟩⟩⟩⟩)
                      · rw [if_neg b100] at hf
                        refine ab_U.run 5 (S' := (90, [some (.ref 232), some (.int l1), some (.int l2), some (.int (μ.2.1 245 ((100 * l4) + l5).toNatClampNeg)), some (.int l4), some (.int (l5 + 1)), some (.int (μ.2.1 245 ((100 * l4) + l5).toNatClampNeg)), some (.int q22.1), some (.int ((l4 + (2 * q68.1)) + 1)), some (.int q70.1)], [], hp X G q96.2)) rfl ?_
                        exact ab_U.weak (ih.2.2 _ _ _ _ _ _ _ hf) (ab_leL.of ⟨rfl, ⟨rfl, ⟨rfl, ⟨rfl, ⟨rfl, ⟨rfl, trivial⟩⟩⟩⟩⟩⟩)
                  · rw [if_neg b98] at hf
                    refine ab_U.run 2 (S' := (218, [some (.ref 232), some (.int l1), some (.int l2), some (.int l3), some (.int l4), some (.int l5), some (.int (μ.2.1 245 ((100 * l4) + l5).toNatClampNeg)), some (.int q22.1), some (.int ((l4 + (2 * q68.1)) + 1)), some (.int q70.1)], [.int l2, .int ((l4 + (2 * q68.1)) + 1)], hp X G q96.2)) rfl ?_
                    refine ab_U.ic_le rfl (fun b101 => ?_) (fun b101 => ?_)
                    · rw [if_pos b101] at hf
                      refine ab_U.run 4 (S' := (241, [some (.ref 232), some (.int l1), some (.int l2), some (.int l3), some (.int l4), some (.int l5), some (.int (μ.2.1 245 ((100 * l4) + l5).toNatClampNeg)), some (.int q22.1), some (.int ((l4 + (2 * q68.1)) + 1)), some (.int q70.1)], [.int l2, .int l4], hp X G q96.2)) rfl ?_
                      refine ab_U.ic_ne rfl (fun b102 => ?_) (fun b102 => ?_)
                      · rw [if_pos b102] at hf
                        refine ab_U.run 4 (S' := (90, [some (.ref 232), some (.int l1), some (.int l2), some (.int l3), some (.int l4), some (.int (l5 + 1)), some (.int (μ.2.1 245 ((100 * l4) + l5).toNatClampNeg)), some (.int q22.1), some (.int ((l4 + (2 * q68.1)) + 1)), some (.int q70.1)], [], hp X G q96.2)) rfl ?_
                        exact ab_U.weak (ih.2.2 _ _ _ _ _ _ _ hf) (ab_leL.of ⟨rfl, ⟨rfl, ⟨rfl, ⟨rfl, ⟨rfl, ⟨rfl, trivial⟩⟩⟩⟩⟩⟩)
                      · rw [if_neg b102] at hf
                        refine ab_U.run 2 (S' := (247, [some (.ref 232), some (.int l1), some (.int l2), some (.int l3), some (.int l4), some (.int l5), some (.int (μ.2.1 245 ((100 * l4) + l5).toNatClampNeg)), some (.int q22.1), some (.int ((l4 + (2 * q68.1)) + 1)), some (.int q70.1)], [.int l3, .int (μ.2.1 245 ((100 * l4) + l5).toNatClampNeg)], hp X G q96.2)) rfl ?_
                        refine ab_U.ic_ge rfl (fun b103 => ?_) (fun b103 => ?_)
                        · rw [if_pos b103] at hf
                          refine ab_U.run 4 (S' := (90, [some (.ref 232), some (.int l1), some (.int l2), some (.int l3), some (.int l4), some (.int (l5 + 1)), some (.int (μ.2.1 245 ((100 * l4) + l5).toNatClampNeg)), some (.int q22.1), some (.int ((l4 + (2 * q68.1)) + 1)), some (.int q70.1)], [], hp X G q96.2)) rfl ?_
                          exact ab_U.weak (ih.2.2 _ _ _ _ _ _ _ hf) (ab_leL.of ⟨rfl, ⟨rfl, ⟨rfl, ⟨rfl, ⟨rfl, ⟨rfl, trivial⟩⟩⟩⟩⟩⟩)
                        · rw [if_neg b103] at hf
                          refine ab_U.run 5 (S' := (90, [some (.ref 232), some (.int l1), some (.int l2), some (.int (μ.2.1 245 ((100 * l4) + l5).toNatClampNeg)), some (.int l4), some (.int (l5 + 1)), some (.int (μ.2.1 245 ((100 * l4) + l5).toNatClampNeg)), some (.int q22.1), some (.int ((l4 + (2 * q68.1)) + 1)), some (.int q70.1)], [], hp X G q96.2)) rfl ?_
                          exact ab_U.weak (ih.2.2 _ _ _ _ _ _ _ hf) (ab_leL.of ⟨rfl, ⟨rfl, ⟨rfl, ⟨rfl, ⟨rfl, ⟨rfl, trivial⟩⟩⟩⟩⟩⟩)
                    · rw [if_neg b101] at hf
                      refine ab_U.run 4 (S' := (226, [some (.ref 232), some (.int l1), some (.int l2), some (.int l3), some (.int l4), some (.int l5), some (.int (μ.2.1 245 ((100 * l4) + l5).toNatClampNeg)), some (.int q22.1), some (.int ((l4 + (2 * q68.1)) + 1)), some (.int q70.1)], [.int l3, .int ((μ.2.1 245 ((100 * l4) + l5).toNatClampNeg) + 1)], hp X G q96.2)) rfl ?_
                      refine ab_U.ic_ge rfl (fun b104 => ?_) (fun b104 => ?_)
                      · rw [if_pos b104] at hf
                        refine ab_U.run 4 (S' := (241, [some (.ref 232), some (.int l1), some (.int l2), some (.int l3), some (.int l4), some (.int l5), some (.int (μ.2.1 245 ((100 * l4) + l5).toNatClampNeg)), some (.int q22.1), some (.int ((l4 + (2 * q68.1)) + 1)), some (.int q70.1)], [.int l2, .int l4], hp X G q96.2)) rfl ?_
                        refine ab_U.ic_ne rfl (fun b105 => ?_) (fun b105 => ?_)
                        · rw [if_pos b105] at hf
                          refine ab_U.run 4 (S' := (90, [some (.ref 232), some (.int l1), some (.int l2), some (.int l3), some (.int l4), some (.int (l5 + 1)), some (.int (μ.2.1 245 ((100 * l4) + l5).toNatClampNeg)), some (.int q22.1), some (.int ((l4 + (2 * q68.1)) + 1)), some (.int q70.1)], [], hp X G q96.2)) rfl ?_
                          exact ab_U.weak (ih.2.2 _ _ _ _ _ _ _ hf) (ab_leL.of ⟨rfl, ⟨rfl, ⟨rfl, ⟨rfl, ⟨rfl, ⟨rfl, trivial⟩⟩⟩⟩⟩⟩)
                        · rw [if_neg b105] at hf
                          refine ab_U.run 2 (S' := (247, [some (.ref 232), some (.int l1), some (.int l2), some (.int l3), some (.int l4), some (.int l5), some (.int (μ.2.1 245 ((100 * l4) + l5).toNatClampNeg)), some (.int q22.1), some (.int ((l4 + (2 * q68.1)) + 1)), some (.int q70.1)], [.int l3, .int (μ.2.1 245 ((100 * l4) + l5).toNatClampNeg)], hp X G q96.2)) rfl ?_
                          refine ab_U.ic_ge rfl (fun b106 => ?_) (fun b106 => ?_)
                          · rw [if_pos b106] at hf
                            refine ab_U.run 4 (S' := (90, [some (.ref 232), some (.int l1), some (.int l2), some (.int l3), some (.int l4), some (.int (l5 + 1)), some (.int (μ.2.1 245 ((100 * l4) + l5).toNatClampNeg)), some (.int q22.1), some (.int ((l4 + (2 * q68.1)) + 1)), some (.int q70.1)], [], hp X G q96.2)) rfl ?_
                            exact ab_U.weak (ih.2.2 _ _ _ _ _ _ _ hf) (ab_leL.of ⟨rfl, ⟨rfl, ⟨rfl, ⟨rfl, ⟨rfl, ⟨rfl, trivial⟩⟩⟩⟩⟩⟩)
                          · rw [if_neg b106] at hf
                            refine ab_U.run 5 (S' := (90, [some (.ref 232), some (.int l1), some (.int l2), some (.int (μ.2.1 245 ((100 * l4) + l5).toNatClampNeg)), some (.int l4), some (.int (l5 + 1)), some (.int (μ.2.1 245 ((100 * l4) + l5).toNatClampNeg)), some (.int q22.1), some (.int ((l4 + (2 * q68.1)) + 1)), some (.int q70.1)], [], hp X G q96.2)) rfl ?_
                            exact ab_U.weak (ih.2.2 _ _ _ _ _ _ _ hf) (ab_leL.of ⟨rfl, ⟨rfl, ⟨rfl, ⟨rfl, ⟨rfl, ⟨rfl, trivial⟩⟩⟩⟩⟩⟩)
                      · rw [if_neg b104] at hf
                        refine ab_U.run 7 (S' := (241, [some (.ref 232), some (.int l1), some (.int l2), some (.int ((μ.2.1 245 ((100 * l4) + l5).toNatClampNeg) + 1)), some (.int l4), some (.int l5), some (.int (μ.2.1 245 ((100 * l4) + l5).toNatClampNeg)), some (.int q22.1), some (.int ((l4 + (2 * q68.1)) + 1)), some (.int q70.1)], [.int l2, .int l4], hp X G q96.2)) rfl ?_
                        refine ab_U.ic_ne rfl (fun b107 => ?_) (fun b107 => ?_)
                        · rw [if_pos b107] at hf
                          refine ab_U.run 4 (S' := (90, [some (.ref 232), some (.int l1), some (.int l2), some (.int ((μ.2.1 245 ((100 * l4) + l5).toNatClampNeg) + 1)), some (.int l4), some (.int (l5 + 1)), some (.int (μ.2.1 245 ((100 * l4) + l5).toNatClampNeg)), some (.int q22.1), some (.int ((l4 + (2 * q68.1)) + 1)), some (.int q70.1)], [], hp X G q96.2)) rfl ?_
                          exact ab_U.weak (ih.2.2 _ _ _ _ _ _ _ hf) (ab_leL.of ⟨rfl, ⟨rfl, ⟨rfl, ⟨rfl, ⟨rfl, ⟨rfl, trivial⟩⟩⟩⟩⟩⟩)
                        · rw [if_neg b107] at hf
                          refine ab_U.run 2 (S' := (247, [some (.ref 232), some (.int l1), some (.int l2), some (.int ((μ.2.1 245 ((100 * l4) + l5).toNatClampNeg) + 1)), some (.int l4), some (.int l5), some (.int (μ.2.1 245 ((100 * l4) + l5).toNatClampNeg)), some (.int q22.1), some (.int ((l4 + (2 * q68.1)) + 1)), some (.int q70.1)], [.int ((μ.2.1 245 ((100 * l4) + l5).toNatClampNeg) + 1), .int (μ.2.1 245 ((100 * l4) + l5).toNatClampNeg)], hp X G q96.2)) rfl ?_
                          refine ab_U.ic_ge rfl (fun b108 => ?_) (fun b108 => ?_)
                          · rw [if_pos b108] at hf
                            refine ab_U.run 4 (S' := (90, [some (.ref 232), some (.int l1), some (.int l2), some (.int ((μ.2.1 245 ((100 * l4) + l5).toNatClampNeg) + 1)), some (.int l4), some (.int (l5 + 1)), some (.int (μ.2.1 245 ((100 * l4) + l5).toNatClampNeg)), some (.int q22.1), some (.int ((l4 + (2 * q68.1)) + 1)), some (.int q70.1)], [], hp X G q96.2)) rfl ?_
                            exact ab_U.weak (ih.2.2 _ _ _ _ _ _ _ hf) (ab_leL.of ⟨rfl, ⟨rfl, ⟨rfl, ⟨rfl, ⟨rfl, ⟨rfl, trivial⟩⟩⟩⟩⟩⟩)
                          · rw [if_neg b108] at hf
                            refine ab_U.run 5 (S' := (90, [some (.ref 232), some (.int l1), some (.int l2), some (.int (μ.2.1 245 ((100 * l4) + l5).toNatClampNeg)), some (.int l4), some (.int (l5 + 1)), some (.int (μ.2.1 245 ((100 * l4) + l5).toNatClampNeg)), some (.int q22.1), some (.int ((l4 + (2 * q68.1)) + 1)), some (.int q70.1)], [], hp X G q96.2)) rfl ?_
                            exact ab_U.weak (ih.2.2 _ _ _ _ _ _ _ hf) (ab_leL.of ⟨rfl, ⟨rfl, ⟨rfl, ⟨rfl, ⟨rfl, ⟨rfl, trivial⟩⟩⟩⟩⟩⟩)
set_option maxRecDepth 20000 in
def f_X9_walks (F : Nat)  (x0 : Int32) (x1 : Int32) (μ : fm_M) : Option (Int32 × fm_M) := (Option.bind (f_X9_isStone F x0 μ) (fun q109 => (if q109.1 = 0 then some ((-1), q109.2) else (Option.bind (f_X9_in F ((x1).toInt64) (Int64.ofNat 0) (Int64.ofNat 60) q109.2) (fun q112 => (if ¬ q112.1 = 0 then g_X9_walks F  F 24 x0 x1 0 0 0 q112.2 else some ((-1), q112.2)))))))
set_option maxRecDepth 20000 in
theorem t_X9_walks {X : Nat × (Nat → Int32)} {G : Nat → Nat → Option Nat} (hG : fm_Gok G) {F : Nat}   {x0 : Int32} {x1 : Int32} {μ : fm_M} {r : Int32 × fm_M} (hf : f_X9_walks F x0 x1 μ = some r) : ab_F 4 195 [.ref 232, .int x0, .int x1] (hp X G μ) (some (.int r.1)) (hp X G r.2) := by
  unfold f_X9_walks at hf
  refine ab_T.of (d := 3) rfl (Nat.le_of_ble_eq_true rfl) ?_
  show ab_U _ _ kX9_walks (0, [some (.ref 232), some (.int x0), some (.int x1), none, none, none, none, none, none, none], [], hp X G μ) _
  refine ab_U.run 2 (S' := (2, [some (.ref 232), some (.int x0), some (.int x1), none, none, none, none, none, none, none], [.int x0, .ref 232], hp X G μ)) rfl ?_
  obtain ⟨q109, h110, hf⟩ := ab_bnd hf
  refine ab_U.fn rfl rfl (t_X9_isStone (X := X) hG h110) (by omega) ?_
  show ab_U _ _ _ (5, [some (.ref 232), some (.int x0), some (.int x1), none, none, none, none, none, none, none], [.int q109.1], hp X G q109.2) _
  refine ab_U.if_eq rfl (fun b111 => ?_) (fun b111 => ?_)
  · rw [if_pos b111] at hf
    refine ab_U.run 1 (S' := (21, [some (.ref 232), some (.int x0), some (.int x1), none, none, none, none, none, none, none], [.int (-1)], hp X G q109.2)) rfl ?_
    obtain rfl := Option.some.inj hf
    exact ab_U.ret rfl rfl ⟨rfl, rfl⟩
  · rw [if_neg b111] at hf
    refine ab_U.run 4 (S' := (14, [some (.ref 232), some (.int x0), some (.int x1), none, none, none, none, none, none, none], [.long (Int64.ofNat 60), .long (Int64.ofNat 0), .long (x1).toInt64], hp X G q109.2)) rfl ?_
    obtain ⟨q112, h113, hf⟩ := ab_bnd hf
    refine ab_U.fn rfl rfl (t_X9_in (X := X) hG h113) (by omega) ?_
    show ab_U _ _ _ (17, [some (.ref 232), some (.int x0), some (.int x1), none, none, none, none, none, none, none], [.int q112.1], hp X G q112.2) _
    refine ab_U.if_ne rfl (fun b114 => ?_) (fun b114 => ?_)
    · rw [if_pos b114] at hf
      refine ab_U.run 2 (S' := (24, [some (.ref 232), some (.int x0), some (.int x1), some (.int 0), none, none, none, none, none, none], [], hp X G q112.2)) rfl ?_
      exact ab_U.weak ((t_X9_walks_g (X := X) hG   F).1 _ _ _ _ _ _ _ hf) (ab_leL.of ⟨rfl, ⟨rfl, ⟨rfl, ⟨rfl, trivial⟩⟩⟩⟩)
    · rw [if_neg b114] at hf
      refine ab_U.run 1 (S' := (21, [some (.ref 232), some (.int x0), some (.int x1), none, none, none, none, none, none, none], [.int (-1)], hp X G q112.2)) rfl ?_
      obtain rfl := Option.some.inj hf
      exact ab_U.ret rfl rfl ⟨rfl, rfl⟩
set_option maxRecDepth 20000 in
def f_X9_bought (F : Nat)  (x0 : Int32) (x1 : Int32) (μ : fm_M) : Option (Int32 × fm_M) := (if ab_in (27 + x1) 228 = true then (if ¬ ((μ.2.1 233 (27 + x1).toNatClampNeg) + 1) = 0 then some ((x0 / ((μ.2.1 233 (27 + x1).toNatClampNeg) + 1)), μ) else none) else none)
set_option maxRecDepth 20000 in
theorem t_X9_bought {X : Nat × (Nat → Int32)} {G : Nat → Nat → Option Nat} (hG : fm_Gok G) {F : Nat}   {x0 : Int32} {x1 : Int32} {μ : fm_M} {r : Int32 × fm_M} (hf : f_X9_bought F x0 x1 μ = some r) : ab_F 1 196 [.ref 232, .int x0, .int x1] (hp X G μ) (some (.int r.1)) (hp X G r.2) := by
  unfold f_X9_bought at hf
  refine ab_T.of (d := 0) rfl (Nat.le_of_ble_eq_true rfl) ?_
  show ab_U _ _ kX9_bought (0, [some (.ref 232), some (.int x0), some (.int x1)], [], hp X G μ) _
  refine ab_U.run 6 (S' := (9, [some (.ref 232), some (.int x0), some (.int x1)], [.int (27 + x1), .ref 233, .int x0], hp X G μ)) rfl ?_
  obtain ⟨c1, hf⟩ := ab_ifs hf
  refine ab_U.iald (n := 228) rfl ⟨by decide, rfl⟩ c1 ?_
  show ab_U _ _ _ (10, [some (.ref 232), some (.int x0), some (.int x1)], [.int (μ.2.1 233 (27 + x1).toNatClampNeg), .int x0], hp X G μ) _
  refine ab_U.run 2 (S' := (12, [some (.ref 232), some (.int x0), some (.int x1)], [.int ((μ.2.1 233 (27 + x1).toNatClampNeg) + 1), .int x0], hp X G μ)) rfl ?_
  obtain ⟨c2, hf⟩ := ab_ifs hf
  refine ab_U.idv rfl c2 ?_
  obtain rfl := Option.some.inj hf
  exact ab_U.ret rfl rfl ⟨rfl, rfl⟩
