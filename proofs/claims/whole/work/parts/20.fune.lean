/-! by program: each method as a function over the memory, and that our machine does it -/
set_option maxRecDepth 20000 in
def b_X8_drift_64 (F : Nat)  (gg : Nat → Int32 → Int32 → Int32 → Int32 → Int32 → fm_M → Option (Int32 × fm_M)) (l2 : Int32) (l3 : Int32) (l4 : Int32) (l5 : Int32) (l6 : Int32) (μ : fm_M) : Option (Int32 × fm_M) := (if l2 ≤ l6 then (if ¬ l3 = 0 then some (((μ.1 111 15) - (μ.1 101 15)), μ) else some (l4, μ)) else (Option.bind (f_X8_nextSeed F l5 μ) (fun q3 => (Option.bind (f_X8_seedBits F q3.1 q3.2) (fun q5 => (if ¬ (q5.2.1 101 3) = 0 then (Option.bind (f_X8_nextSeed F q3.1 q5.2) (fun q8 => (Option.bind (f_X8_seedBits F q8.1 q8.2) (fun q10 => (if ¬ (q10.2.1 101 0) = 0 then (if ab_in (q5.1 - q5.1 / (q5.2.1 101 3) * (q5.2.1 101 3)) 5 = true then (if ¬ (q10.2.2.1 116 (q5.1 - q5.1 / (q5.2.1 101 3) * (q5.2.1 101 3)).toNatClampNeg) = (q10.1 - q10.1 / (q10.2.1 101 0) * (q10.2.1 101 0)) then (Option.bind (f_X7_handOver F 111 (q5.1 - q5.1 / (q5.2.1 101 3) * (q5.2.1 101 3)) (q10.1 - q10.1 / (q10.2.1 101 0) * (q10.2.1 101 0)) q10.2) (fun q15 => gg 64 l2 l3 (l4 + q15.1) q8.1 (l6 + 1) q15.2)) else (Option.bind (f_X7_letPass F 111 1 q10.2) (fun q17 => gg 64 l2 l3 l4 q8.1 (l6 + 1) q17.2))) else none) else none))))) else none))))))
def g_X8_drift (F : Nat)  : Nat → Nat → Int32 → Int32 → Int32 → Int32 → Int32 → fm_M → Option (Int32 × fm_M)
  | 0, _, _, _, _, _, _, _ => none
  | n + 1, pc, l2, l3, l4, l5, l6, μ => if pc = 64 then b_X8_drift_64 F  (g_X8_drift F  n) l2 l3 l4 l5 l6 μ else none
set_option maxRecDepth 20000 in
theorem t_X8_drift_g {X : Nat × (Nat → Int32)} {G : Nat → Nat → Option Nat} (hG : fm_Gok G) {F : Nat}    : ∀ n : Nat, (∀ (l2 : Int32) (l3 : Int32) (l4 : Int32) (l5 : Int32) (l6 : Int32) (μ : fm_M) (r : Int32 × fm_M), g_X8_drift F  n 64 l2 l3 l4 l5 l6 μ = some r → ab_U 5 (some .int) kX8_drift (64, [some (.ref 100), none, some (.int l2), some (.int l3), some (.int l4), some (.int l5), some (.int l6), none, none], [], hp X G μ) (fun r9 h9 => r9 = some (.int r.1) ∧ h9 = hp X G r.2))
  | 0 => by
    intros
    rename_i h
    cases h
  | n + 1 => by
    have ih := t_X8_drift_g (X := X) hG (F := F)   n
    · intro l2 l3 l4 l5 l6 μ r hf
      have hf : b_X8_drift_64 F  (g_X8_drift F  n) l2 l3 l4 l5 l6 μ = some r := hf
      unfold b_X8_drift_64 at hf
      refine ab_U.run 2 (S' := (67, [some (.ref 100), none, some (.int l2), some (.int l3), some (.int l4), some (.int l5), some (.int l6), none, none], [.int l2, .int l6], hp X G μ)) rfl ?_
      refine ab_U.ic_ge rfl (fun b1 => ?_) (fun b1 => ?_)
      · rw [if_pos b1] at hf
        refine ab_U.run 1 (S' := (163, [some (.ref 100), none, some (.int l2), some (.int l3), some (.int l4), some (.int l5), some (.int l6), none, none], [.int l3], hp X G μ)) rfl ?_
        refine ab_U.if_ne rfl (fun b2 => ?_) (fun b2 => ?_)
        · rw [if_pos b2] at hf
          refine ab_U.run 7 (S' := (186, [some (.ref 100), none, some (.int l2), some (.int l3), some (.int l4), some (.int l5), some (.int l6), none, none], [.int ((μ.1 111 15) - (μ.1 101 15))], hp X G μ)) rfl ?_
          obtain rfl := Option.some.inj hf
          exact ab_U.ret rfl rfl ⟨rfl, rfl⟩
        · rw [if_neg b2] at hf
          refine ab_U.run 2 (S' := (186, [some (.ref 100), none, some (.int l2), some (.int l3), some (.int l4), some (.int l5), some (.int l6), none, none], [.int l4], hp X G μ)) rfl ?_
          obtain rfl := Option.some.inj hf
          exact ab_U.ret rfl rfl ⟨rfl, rfl⟩
      · rw [if_neg b1] at hf
        refine ab_U.run 1 (S' := (72, [some (.ref 100), none, some (.int l2), some (.int l3), some (.int l4), some (.int l5), some (.int l6), none, none], [.int l5], hp X G μ)) rfl ?_
        obtain ⟨q3, h4, hf⟩ := ab_bnd hf
        refine ab_U.fn rfl rfl (t_X8_nextSeed (X := X) hG h4) (by omega) ?_
        show ab_U _ _ _ (75, [some (.ref 100), none, some (.int l2), some (.int l3), some (.int l4), some (.int l5), some (.int l6), none, none], [.int q3.1], hp X G q3.2) _
        refine ab_U.run 2 (S' := (79, [some (.ref 100), none, some (.int l2), some (.int l3), some (.int l4), some (.int q3.1), some (.int l6), none, none], [.int q3.1], hp X G q3.2)) rfl ?_
        obtain ⟨q5, h6, hf⟩ := ab_bnd hf
        refine ab_U.fn rfl rfl (t_X8_seedBits (X := X) hG h6) (by omega) ?_
        show ab_U _ _ _ (82, [some (.ref 100), none, some (.int l2), some (.int l3), some (.int l4), some (.int q3.1), some (.int l6), none, none], [.int q5.1], hp X G q5.2) _
        refine ab_U.run 3 (S' := (89, [some (.ref 100), none, some (.int l2), some (.int l3), some (.int l4), some (.int q3.1), some (.int l6), none, none], [.int (q5.2.1 101 3), .int q5.1], hp X G q5.2)) rfl ?_
        obtain ⟨c7, hf⟩ := ab_ifs hf
        refine ab_U.irm rfl c7 ?_
        refine ab_U.run 2 (S' := (94, [some (.ref 100), none, some (.int l2), some (.int l3), some (.int l4), some (.int q3.1), some (.int l6), some (.int (q5.1 - q5.1 / (q5.2.1 101 3) * (q5.2.1 101 3))), none], [.int q3.1], hp X G q5.2)) rfl ?_
        obtain ⟨q8, h9, hf⟩ := ab_bnd hf
        refine ab_U.fn rfl rfl (t_X8_nextSeed (X := X) hG h9) (by omega) ?_
        show ab_U _ _ _ (97, [some (.ref 100), none, some (.int l2), some (.int l3), some (.int l4), some (.int q3.1), some (.int l6), some (.int (q5.1 - q5.1 / (q5.2.1 101 3) * (q5.2.1 101 3))), none], [.int q8.1], hp X G q8.2) _
        refine ab_U.run 2 (S' := (101, [some (.ref 100), none, some (.int l2), some (.int l3), some (.int l4), some (.int q8.1), some (.int l6), some (.int (q5.1 - q5.1 / (q5.2.1 101 3) * (q5.2.1 101 3))), none], [.int q8.1], hp X G q8.2)) rfl ?_
        obtain ⟨q10, h11, hf⟩ := ab_bnd hf
        refine ab_U.fn rfl rfl (t_X8_seedBits (X := X) hG h11) (by omega) ?_
        show ab_U _ _ _ (104, [some (.ref 100), none, some (.int l2), some (.int l3), some (.int l4), some (.int q8.1), some (.int l6), some (.int (q5.1 - q5.1 / (q5.2.1 101 3) * (q5.2.1 101 3))), none], [.int q10.1], hp X G q10.2) _
        refine ab_U.run 3 (S' := (111, [some (.ref 100), none, some (.int l2), some (.int l3), some (.int l4), some (.int q8.1), some (.int l6), some (.int (q5.1 - q5.1 / (q5.2.1 101 3) * (q5.2.1 101 3))), none], [.int (q10.2.1 101 0), .int q10.1], hp X G q10.2)) rfl ?_
        obtain ⟨c12, hf⟩ := ab_ifs hf
        refine ab_U.irm rfl c12 ?_
        refine ab_U.run 5 (S' := (123, [some (.ref 100), none, some (.int l2), some (.int l3), some (.int l4), some (.int q8.1), some (.int l6), some (.int (q5.1 - q5.1 / (q5.2.1 101 3) * (q5.2.1 101 3))), some (.int (q10.1 - q10.1 / (q10.2.1 101 0) * (q10.2.1 101 0)))], [.int (q5.1 - q5.1 / (q5.2.1 101 3) * (q5.2.1 101 3)), .ref 116], hp X G q10.2)) rfl ?_
        obtain ⟨c13, hf⟩ := ab_ifs hf
        refine ab_U.iald (n := 5) rfl ⟨by decide, rfl⟩ c13 ?_
        show ab_U _ _ _ (124, [some (.ref 100), none, some (.int l2), some (.int l3), some (.int l4), some (.int q8.1), some (.int l6), some (.int (q5.1 - q5.1 / (q5.2.1 101 3) * (q5.2.1 101 3))), some (.int (q10.1 - q10.1 / (q10.2.1 101 0) * (q10.2.1 101 0)))], [.int (q10.2.2.1 116 (q5.1 - q5.1 / (q5.2.1 101 3) * (q5.2.1 101 3)).toNatClampNeg)], hp X G q10.2) _
        refine ab_U.run 1 (S' := (126, [some (.ref 100), none, some (.int l2), some (.int l3), some (.int l4), some (.int q8.1), some (.int l6), some (.int (q5.1 - q5.1 / (q5.2.1 101 3) * (q5.2.1 101 3))), some (.int (q10.1 - q10.1 / (q10.2.1 101 0) * (q10.2.1 101 0)))], [.int (q10.1 - q10.1 / (q10.2.1 101 0) * (q10.2.1 101 0)), .int (q10.2.2.1 116 (q5.1 - q5.1 / (q5.2.1 101 3) * (q5.2.1 101 3)).toNatClampNeg)], hp X G q10.2)) rfl ?_
        refine ab_U.ic_ne rfl (fun b14 => ?_) (fun b14 => ?_)
        · rw [if_pos b14] at hf
          refine ab_U.run 5 (S' := (150, [some (.ref 100), none, some (.int l2), some (.int l3), some (.int l4), some (.int q8.1), some (.int l6), some (.int (q5.1 - q5.1 / (q5.2.1 101 3) * (q5.2.1 101 3))), some (.int (q10.1 - q10.1 / (q10.2.1 101 0) * (q10.2.1 101 0)))], [.int (q10.1 - q10.1 / (q10.2.1 101 0) * (q10.2.1 101 0)), .int (q5.1 - q5.1 / (q5.2.1 101 3) * (q5.2.1 101 3)), .ref 111, .int l4], hp X G q10.2)) rfl ?_
          obtain ⟨q15, h16, hf⟩ := ab_bnd hf
          refine ab_U.fn rfl rfl (t_X7_handOver (X := X) hG (by decide) h16) (by omega) ?_
          show ab_U _ _ _ (153, [some (.ref 100), none, some (.int l2), some (.int l3), some (.int l4), some (.int q8.1), some (.int l6), some (.int (q5.1 - q5.1 / (q5.2.1 101 3) * (q5.2.1 101 3))), some (.int (q10.1 - q10.1 / (q10.2.1 101 0) * (q10.2.1 101 0)))], [.int q15.1, .int l4], hp X G q15.2) _
          refine ab_U.run 4 (S' := (64, [some (.ref 100), none, some (.int l2), some (.int l3), some (.int (l4 + q15.1)), some (.int q8.1), some (.int (l6 + 1)), some (.int (q5.1 - q5.1 / (q5.2.1 101 3) * (q5.2.1 101 3))), some (.int (q10.1 - q10.1 / (q10.2.1 101 0) * (q10.2.1 101 0)))], [], hp X G q15.2)) rfl ?_
          exact ab_U.weak (ih _ _ _ _ _ _ _ hf) (ab_leL.of ⟨rfl, ⟨rfl, ⟨rfl, ⟨rfl, ⟨rfl, ⟨rfl, trivial⟩⟩⟩⟩⟩⟩)
        · rw [if_neg b14] at hf
          refine ab_U.run 3 (S' := (134, [some (.ref 100), none, some (.int l2), some (.int l3), some (.int l4), some (.int q8.1), some (.int l6), some (.int (q5.1 - q5.1 / (q5.2.1 101 3) * (q5.2.1 101 3))), some (.int (q10.1 - q10.1 / (q10.2.1 101 0) * (q10.2.1 101 0)))], [.int 1, .ref 111], hp X G q10.2)) rfl ?_
          obtain ⟨q17, h18, hf⟩ := ab_bnd hf
          refine ab_U.fn rfl rfl (t_X7_letPass (X := X) hG (by decide) h18) (by omega) ?_
          show ab_U _ _ _ (137, [some (.ref 100), none, some (.int l2), some (.int l3), some (.int l4), some (.int q8.1), some (.int l6), some (.int (q5.1 - q5.1 / (q5.2.1 101 3) * (q5.2.1 101 3))), some (.int (q10.1 - q10.1 / (q10.2.1 101 0) * (q10.2.1 101 0)))], [], hp X G q17.2) _
          refine ab_U.run 3 (S' := (64, [some (.ref 100), none, some (.int l2), some (.int l3), some (.int l4), some (.int q8.1), some (.int (l6 + 1)), some (.int (q5.1 - q5.1 / (q5.2.1 101 3) * (q5.2.1 101 3))), some (.int (q10.1 - q10.1 / (q10.2.1 101 0) * (q10.2.1 101 0)))], [], hp X G q17.2)) rfl ?_
          exact ab_U.weak (ih _ _ _ _ _ _ _ hf) (ab_leL.of ⟨rfl, ⟨rfl, ⟨rfl, ⟨rfl, ⟨rfl, ⟨rfl, trivial⟩⟩⟩⟩⟩⟩)
set_option maxRecDepth 20000 in
def f_X8_drift (F : Nat)  (x0 : Int32) (x1 : Int32) (x2 : Int32) (μ : fm_M) : Option (Int32 × fm_M) := (Option.bind (f_X8_isIn F x1 1 60 μ) (fun q19 => (if q19.1 = 0 then some ((-1), q19.2) else (Option.bind (f_X8_isIn F x2 0 1 q19.2) (fun q22 => (if ¬ q22.1 = 0 then (if (q22.2.1 101 3) ≤ 0 then some ((-2), q22.2) else (if 0 < (q22.2.1 101 0) then (Option.bind (f_X7_copyFrom F 111 101 q22.2) (fun q27 => g_X8_drift F  F 64 x1 x2 0 x0 0 q27.2)) else some ((-2), q22.2))) else some ((-1), q22.2)))))))
set_option maxRecDepth 20000 in
theorem t_X8_drift {X : Nat × (Nat → Int32)} {G : Nat → Nat → Option Nat} (hG : fm_Gok G) {F : Nat}   {x0 : Int32} {x1 : Int32} {x2 : Int32} {μ : fm_M} {r : Int32 × fm_M} (hf : f_X8_drift F x0 x1 x2 μ = some r) : ab_F 6 110 [.ref 100, .int x0, .int x1, .int x2] (hp X G μ) (some (.int r.1)) (hp X G r.2) := by
  unfold f_X8_drift at hf
  refine ab_T.of (d := 5) rfl (Nat.le_of_ble_eq_true rfl) ?_
  show ab_U _ _ kX8_drift (0, [some (.ref 100), some (.int x0), some (.int x1), some (.int x2), none, none, none, none, none], [], hp X G μ) _
  refine ab_U.run 3 (S' := (4, [some (.ref 100), some (.int x0), some (.int x1), some (.int x2), none, none, none, none, none], [.int 60, .int 1, .int x1], hp X G μ)) rfl ?_
  obtain ⟨q19, h20, hf⟩ := ab_bnd hf
  refine ab_U.fn rfl rfl (t_X8_isIn (X := X) hG h20) (by omega) ?_
  show ab_U _ _ _ (7, [some (.ref 100), some (.int x0), some (.int x1), some (.int x2), none, none, none, none, none], [.int q19.1], hp X G q19.2) _
  refine ab_U.if_eq rfl (fun b21 => ?_) (fun b21 => ?_)
  · rw [if_pos b21] at hf
    refine ab_U.run 1 (S' := (20, [some (.ref 100), some (.int x0), some (.int x1), some (.int x2), none, none, none, none, none], [.int (-1)], hp X G q19.2)) rfl ?_
    obtain rfl := Option.some.inj hf
    exact ab_U.ret rfl rfl ⟨rfl, rfl⟩
  · rw [if_neg b21] at hf
    refine ab_U.run 3 (S' := (13, [some (.ref 100), some (.int x0), some (.int x1), some (.int x2), none, none, none, none, none], [.int 1, .int 0, .int x2], hp X G q19.2)) rfl ?_
    obtain ⟨q22, h23, hf⟩ := ab_bnd hf
    refine ab_U.fn rfl rfl (t_X8_isIn (X := X) hG h23) (by omega) ?_
    show ab_U _ _ _ (16, [some (.ref 100), some (.int x0), some (.int x1), some (.int x2), none, none, none, none, none], [.int q22.1], hp X G q22.2) _
    refine ab_U.if_ne rfl (fun b24 => ?_) (fun b24 => ?_)
    · rw [if_pos b24] at hf
      refine ab_U.run 3 (S' := (28, [some (.ref 100), some (.int x0), some (.int x1), some (.int x2), none, none, none, none, none], [.int (q22.2.1 101 3)], hp X G q22.2)) rfl ?_
      refine ab_U.if_le rfl (fun b25 => ?_) (fun b25 => ?_)
      · rw [if_pos b25] at hf
        refine ab_U.run 1 (S' := (43, [some (.ref 100), some (.int x0), some (.int x1), some (.int x2), none, none, none, none, none], [.int (-2)], hp X G q22.2)) rfl ?_
        obtain rfl := Option.some.inj hf
        exact ab_U.ret rfl rfl ⟨rfl, rfl⟩
      · rw [if_neg b25] at hf
        refine ab_U.run 3 (S' := (38, [some (.ref 100), some (.int x0), some (.int x1), some (.int x2), none, none, none, none, none], [.int (q22.2.1 101 0)], hp X G q22.2)) rfl ?_
        refine ab_U.if_gt rfl (fun b26 => ?_) (fun b26 => ?_)
        · rw [if_pos b26] at hf
          refine ab_U.run 4 (S' := (52, [some (.ref 100), some (.int x0), some (.int x1), some (.int x2), none, none, none, none, none], [.ref 101, .ref 111], hp X G q22.2)) rfl ?_
          obtain ⟨q27, h28, hf⟩ := ab_bnd hf
          refine ab_U.fn rfl rfl (t_X7_copyFrom (X := X) hG (by decide) (by decide) h28) (by omega) ?_
          show ab_U _ _ _ (55, [some (.ref 100), some (.int x0), some (.int x1), some (.int x2), none, none, none, none, none], [], hp X G q27.2) _
          refine ab_U.run 6 (S' := (64, [some (.ref 100), some (.int x0), some (.int x1), some (.int x2), some (.int 0), some (.int x0), some (.int 0), none, none], [], hp X G q27.2)) rfl ?_
          exact ab_U.weak ((t_X8_drift_g (X := X) hG   F) _ _ _ _ _ _ _ hf) (ab_leL.of ⟨rfl, ⟨rfl, ⟨rfl, ⟨rfl, ⟨rfl, ⟨rfl, trivial⟩⟩⟩⟩⟩⟩)
        · rw [if_neg b26] at hf
          refine ab_U.run 1 (S' := (43, [some (.ref 100), some (.int x0), some (.int x1), some (.int x2), none, none, none, none, none], [.int (-2)], hp X G q22.2)) rfl ?_
          obtain rfl := Option.some.inj hf
          exact ab_U.ret rfl rfl ⟨rfl, rfl⟩
    · rw [if_neg b24] at hf
      refine ab_U.run 1 (S' := (20, [some (.ref 100), some (.int x0), some (.int x1), some (.int x2), none, none, none, none, none], [.int (-1)], hp X G q22.2)) rfl ?_
      obtain rfl := Option.some.inj hf
      exact ab_U.ret rfl rfl ⟨rfl, rfl⟩
set_option maxRecDepth 20000 in
def f_X8_keep (F : Nat)  (x0 : Int32) (μ : fm_M) : Option (Int32 × fm_M) := (Option.bind (f_X8_isIn F x0 0 1 μ) (fun q1 => (if ¬ q1.1 = 0 then (if ab_in x0 2 = true then (if (q1.2.2.1 122 x0.toNatClampNeg) = 0 then (if ab_in x0 2 = true then (if fm_isW ((204 + 10 * x0.toNatClampNeg)) = true then (Option.bind (f_X7_copyFrom F ((204 + 10 * x0.toNatClampNeg)) 101 q1.2) (fun q8 => (if ab_in x0 2 = true then (Option.bind (some (fm_sA q8.2 122 (upd (q8.2.2.1 122) x0.toNatClampNeg (1 &&& 1)))) (fun m11 => some (0, m11))) else none))) else none) else none) else (if ab_in x0 2 = true then (if fm_isW ((204 + 10 * x0.toNatClampNeg)) = true then (Option.bind (f_X7_copyFrom F ((204 + 10 * x0.toNatClampNeg)) 101 q1.2) (fun q15 => (if ab_in x0 2 = true then (Option.bind (some (fm_sA q15.2 122 (upd (q15.2.2.1 122) x0.toNatClampNeg (1 &&& 1)))) (fun m18 => some (1, m18))) else none))) else none) else none)) else none) else some ((-1), q1.2))))
set_option maxRecDepth 20000 in
theorem t_X8_keep {X : Nat × (Nat → Int32)} {G : Nat → Nat → Option Nat} (hG : fm_Gok G) {F : Nat}   {x0 : Int32} {μ : fm_M} {r : Int32 × fm_M} (hf : f_X8_keep F x0 μ = some r) : ab_F 2 111 [.ref 100, .int x0] (hp X G μ) (some (.int r.1)) (hp X G r.2) := by
  unfold f_X8_keep at hf
  refine ab_T.of (d := 1) rfl (Nat.le_of_ble_eq_true rfl) ?_
  show ab_U _ _ kX8_keep (0, [some (.ref 100), some (.int x0), none], [], hp X G μ) _
  refine ab_U.run 3 (S' := (3, [some (.ref 100), some (.int x0), none], [.int 1, .int 0, .int x0], hp X G μ)) rfl ?_
  obtain ⟨q1, h2, hf⟩ := ab_bnd hf
  refine ab_U.fn rfl rfl (t_X8_isIn (X := X) hG h2) (by omega) ?_
  show ab_U _ _ _ (6, [some (.ref 100), some (.int x0), none], [.int q1.1], hp X G q1.2) _
  refine ab_U.if_ne rfl (fun b3 => ?_) (fun b3 => ?_)
  · rw [if_pos b3] at hf
    refine ab_U.run 3 (S' := (16, [some (.ref 100), some (.int x0), none], [.int x0, .ref 122], hp X G q1.2)) rfl ?_
    obtain ⟨c4, hf⟩ := ab_ifs hf
    refine ab_U.baldZ (n := 2) rfl ⟨by decide, rfl⟩ c4 ?_
    show ab_U _ _ _ (17, [some (.ref 100), some (.int x0), none], [.int (q1.2.2.1 122 x0.toNatClampNeg)], hp X G q1.2) _
    refine ab_U.if_eq rfl (fun b5 => ?_) (fun b5 => ?_)
    · rw [if_pos b5] at hf
      refine ab_U.run 5 (S' := (31, [some (.ref 100), some (.int x0), some (.int 0)], [.int x0, .ref 121], hp X G q1.2)) rfl ?_
      obtain ⟨c6, hf⟩ := ab_ifs hf
      refine ab_U.aaldG (n := 2) (ty := .object "TepidPurse$World") (v := (204 + 10 * x0.toNatClampNeg)) hG rfl ⟨by decide, rfl⟩ rfl c6 rfl rfl ?_
      refine ab_U.run 2 (S' := (36, [some (.ref 100), some (.int x0), some (.int 0)], [.ref 101, .ref (204 + 10 * x0.toNatClampNeg)], hp X G q1.2)) rfl ?_
      obtain ⟨c7, hf⟩ := ab_ifs hf
      obtain ⟨q8, h9, hf⟩ := ab_bnd hf
      refine ab_U.fnV rfl rfl (fm_WO c7) rfl (t_X7_copyFrom (X := X) hG c7 (by decide) h9) (by omega) ?_
      show ab_U _ _ _ (39, [some (.ref 100), some (.int x0), some (.int 0)], [], hp X G q8.2) _
      refine ab_U.run 4 (S' := (45, [some (.ref 100), some (.int x0), some (.int 0)], [.int 1, .int x0, .ref 122], hp X G q8.2)) rfl ?_
      obtain ⟨c10, hf⟩ := ab_ifs hf
      obtain ⟨m11, e12, hf⟩ := ab_bnd hf
      have e12 := Option.some.inj e12
      refine ab_U.bastZ (n := 2) rfl ⟨by decide, rfl⟩ c10 ?_
      show ab_U _ _ _ (46, [some (.ref 100), some (.int x0), some (.int 0)], [], hp X G (fm_sA q8.2 122 (upd (q8.2.2.1 122) x0.toNatClampNeg (1 &&& 1)))) _
      rw [e12]
      refine ab_U.run 1 (S' := (47, [some (.ref 100), some (.int x0), some (.int 0)], [.int 0], hp X G m11)) rfl ?_
      obtain rfl := Option.some.inj hf
      exact ab_U.ret rfl rfl ⟨rfl, rfl⟩
    · rw [if_neg b5] at hf
      refine ab_U.run 6 (S' := (31, [some (.ref 100), some (.int x0), some (.int 1)], [.int x0, .ref 121], hp X G q1.2)) rfl ?_
      obtain ⟨c13, hf⟩ := ab_ifs hf
      refine ab_U.aaldG (n := 2) (ty := .object "TepidPurse$World") (v := (204 + 10 * x0.toNatClampNeg)) hG rfl ⟨by decide, rfl⟩ rfl c13 rfl rfl ?_
      refine ab_U.run 2 (S' := (36, [some (.ref 100), some (.int x0), some (.int 1)], [.ref 101, .ref (204 + 10 * x0.toNatClampNeg)], hp X G q1.2)) rfl ?_
      obtain ⟨c14, hf⟩ := ab_ifs hf
      obtain ⟨q15, h16, hf⟩ := ab_bnd hf
      refine ab_U.fnV rfl rfl (fm_WO c14) rfl (t_X7_copyFrom (X := X) hG c14 (by decide) h16) (by omega) ?_
      show ab_U _ _ _ (39, [some (.ref 100), some (.int x0), some (.int 1)], [], hp X G q15.2) _
      refine ab_U.run 4 (S' := (45, [some (.ref 100), some (.int x0), some (.int 1)], [.int 1, .int x0, .ref 122], hp X G q15.2)) rfl ?_
      obtain ⟨c17, hf⟩ := ab_ifs hf
      obtain ⟨m18, e19, hf⟩ := ab_bnd hf
      have e19 := Option.some.inj e19
      refine ab_U.bastZ (n := 2) rfl ⟨by decide, rfl⟩ c17 ?_
      show ab_U _ _ _ (46, [some (.ref 100), some (.int x0), some (.int 1)], [], hp X G (fm_sA q15.2 122 (upd (q15.2.2.1 122) x0.toNatClampNeg (1 &&& 1)))) _
      rw [e19]
      refine ab_U.run 1 (S' := (47, [some (.ref 100), some (.int x0), some (.int 1)], [.int 1], hp X G m18)) rfl ?_
      obtain rfl := Option.some.inj hf
      exact ab_U.ret rfl rfl ⟨rfl, rfl⟩
  · rw [if_neg b3] at hf
    refine ab_U.run 1 (S' := (10, [some (.ref 100), some (.int x0), none], [.int (-1)], hp X G q1.2)) rfl ?_
    obtain rfl := Option.some.inj hf
    exact ab_U.ret rfl rfl ⟨rfl, rfl⟩
set_option maxRecDepth 20000 in
def f_X8_back (F : Nat)  (x0 : Int32) (μ : fm_M) : Option (Int32 × fm_M) := (Option.bind (f_X8_isIn F x0 0 1 μ) (fun q1 => (if ¬ q1.1 = 0 then (if ab_in x0 2 = true then (if ¬ (q1.2.2.1 122 x0.toNatClampNeg) = 0 then (if ab_in x0 2 = true then (if fm_isW ((204 + 10 * x0.toNatClampNeg)) = true then (Option.bind (f_X7_copyFrom F 101 ((204 + 10 * x0.toNatClampNeg)) q1.2) (fun q8 => some ((q8.2.1 101 15), q8.2))) else none) else none) else some ((-2), q1.2)) else none) else some ((-1), q1.2))))
set_option maxRecDepth 20000 in
theorem t_X8_back {X : Nat × (Nat → Int32)} {G : Nat → Nat → Option Nat} (hG : fm_Gok G) {F : Nat}   {x0 : Int32} {μ : fm_M} {r : Int32 × fm_M} (hf : f_X8_back F x0 μ = some r) : ab_F 2 112 [.ref 100, .int x0] (hp X G μ) (some (.int r.1)) (hp X G r.2) := by
  unfold f_X8_back at hf
  refine ab_T.of (d := 1) rfl (Nat.le_of_ble_eq_true rfl) ?_
  show ab_U _ _ kX8_back (0, [some (.ref 100), some (.int x0)], [], hp X G μ) _
  refine ab_U.run 3 (S' := (3, [some (.ref 100), some (.int x0)], [.int 1, .int 0, .int x0], hp X G μ)) rfl ?_
  obtain ⟨q1, h2, hf⟩ := ab_bnd hf
  refine ab_U.fn rfl rfl (t_X8_isIn (X := X) hG h2) (by omega) ?_
  show ab_U _ _ _ (6, [some (.ref 100), some (.int x0)], [.int q1.1], hp X G q1.2) _
  refine ab_U.if_ne rfl (fun b3 => ?_) (fun b3 => ?_)
  · rw [if_pos b3] at hf
    refine ab_U.run 3 (S' := (16, [some (.ref 100), some (.int x0)], [.int x0, .ref 122], hp X G q1.2)) rfl ?_
    obtain ⟨c4, hf⟩ := ab_ifs hf
    refine ab_U.baldZ (n := 2) rfl ⟨by decide, rfl⟩ c4 ?_
    show ab_U _ _ _ (17, [some (.ref 100), some (.int x0)], [.int (q1.2.2.1 122 x0.toNatClampNeg)], hp X G q1.2) _
    refine ab_U.if_ne rfl (fun b5 => ?_) (fun b5 => ?_)
    · rw [if_pos b5] at hf
      refine ab_U.run 5 (S' := (32, [some (.ref 100), some (.int x0)], [.int x0, .ref 121, .ref 101], hp X G q1.2)) rfl ?_
      obtain ⟨c6, hf⟩ := ab_ifs hf
      refine ab_U.aaldG (n := 2) (ty := .object "TepidPurse$World") (v := (204 + 10 * x0.toNatClampNeg)) hG rfl ⟨by decide, rfl⟩ rfl c6 rfl rfl ?_
      obtain ⟨c7, hf⟩ := ab_ifs hf
      obtain ⟨q8, h9, hf⟩ := ab_bnd hf
      refine ab_U.fn rfl rfl (t_X7_copyFrom (X := X) hG (by decide) c7 h9) (by omega) ?_
      show ab_U _ _ _ (36, [some (.ref 100), some (.int x0)], [], hp X G q8.2) _
      refine ab_U.run 3 (S' := (43, [some (.ref 100), some (.int x0)], [.int (q8.2.1 101 15)], hp X G q8.2)) rfl ?_
      obtain rfl := Option.some.inj hf
      exact ab_U.ret rfl rfl ⟨rfl, rfl⟩
    · rw [if_neg b5] at hf
      refine ab_U.run 1 (S' := (22, [some (.ref 100), some (.int x0)], [.int (-2)], hp X G q1.2)) rfl ?_
      obtain rfl := Option.some.inj hf
      exact ab_U.ret rfl rfl ⟨rfl, rfl⟩
  · rw [if_neg b3] at hf
    refine ab_U.run 1 (S' := (10, [some (.ref 100), some (.int x0)], [.int (-1)], hp X G q1.2)) rfl ?_
    obtain rfl := Option.some.inj hf
    exact ab_U.ret rfl rfl ⟨rfl, rfl⟩
set_option maxRecDepth 20000 in
def f_X8_isSheet (F : Nat)  (x0 : Int32) (μ : fm_M) : Option (Int32 × fm_M) := (Option.bind (f_X8_isIn F x0 0 3 μ) (fun q1 => (if q1.1 = 0 ∨ q1.1 = 1 then some (q1.1, q1.2) else none)))
set_option maxRecDepth 20000 in
theorem t_X8_isSheet {X : Nat × (Nat → Int32)} {G : Nat → Nat → Option Nat} (hG : fm_Gok G) {F : Nat}   {x0 : Int32} {μ : fm_M} {r : Int32 × fm_M} (hf : f_X8_isSheet F x0 μ = some r) : ab_F 2 119 [.int x0] (hp X G μ) (some (.int r.1)) (hp X G r.2) := by
  unfold f_X8_isSheet at hf
  refine ab_T.of (d := 1) rfl (Nat.le_of_ble_eq_true rfl) ?_
  show ab_U _ _ kX8_isSheet (0, [some (.int x0)], [], hp X G μ) _
  refine ab_U.run 3 (S' := (3, [some (.int x0)], [.int 3, .int 0, .int x0], hp X G μ)) rfl ?_
  obtain ⟨q1, h2, hf⟩ := ab_bnd hf
  refine ab_U.fn rfl rfl (t_X8_isIn (X := X) hG h2) (by omega) ?_
  show ab_U _ _ _ (6, [some (.int x0)], [.int q1.1], hp X G q1.2) _
  obtain ⟨c3, hf⟩ := ab_ifs hf
  obtain rfl := Option.some.inj hf
  exact ab_U.retZ rfl c3 ⟨rfl, rfl⟩
set_option maxRecDepth 20000 in
def f_X8_isLane (F : Nat)  (x0 : Int32) (μ : fm_M) : Option (Int32 × fm_M) := (Option.bind (f_X8_isIn F x0 0 2 μ) (fun q1 => (if q1.1 = 0 ∨ q1.1 = 1 then some (q1.1, q1.2) else none)))
set_option maxRecDepth 20000 in
theorem t_X8_isLane {X : Nat × (Nat → Int32)} {G : Nat → Nat → Option Nat} (hG : fm_Gok G) {F : Nat}   {x0 : Int32} {μ : fm_M} {r : Int32 × fm_M} (hf : f_X8_isLane F x0 μ = some r) : ab_F 2 120 [.int x0] (hp X G μ) (some (.int r.1)) (hp X G r.2) := by
  unfold f_X8_isLane at hf
  refine ab_T.of (d := 1) rfl (Nat.le_of_ble_eq_true rfl) ?_
  show ab_U _ _ kX8_isLane (0, [some (.int x0)], [], hp X G μ) _
  refine ab_U.run 3 (S' := (3, [some (.int x0)], [.int 2, .int 0, .int x0], hp X G μ)) rfl ?_
  obtain ⟨q1, h2, hf⟩ := ab_bnd hf
  refine ab_U.fn rfl rfl (t_X8_isIn (X := X) hG h2) (by omega) ?_
  show ab_U _ _ _ (6, [some (.int x0)], [.int q1.1], hp X G q1.2) _
  obtain ⟨c3, hf⟩ := ab_ifs hf
  obtain rfl := Option.some.inj hf
  exact ab_U.retZ rfl c3 ⟨rfl, rfl⟩
set_option maxRecDepth 20000 in
def f_X8_sheet (F : Nat)  (x0 : Int32) (x1 : Int32) (x2 : Int32) (μ : fm_M) : Option (Int32 × fm_M) := (Option.bind (f_X8_isSheet F x0 μ) (fun q1 => (if q1.1 = 0 then some ((-1), q1.2) else (Option.bind (f_X8_isLane F x1 q1.2) (fun q4 => (if q4.1 = 0 then some ((-1), q4.2) else (if x2 ≤ 40 then (if 0 ≤ x2 then (if ab_in x0 4 = true then (if fm_isS ((224 + 2 * x0.toNatClampNeg)) = true then (Option.bind (f_X3_renew F ((224 + 2 * x0.toNatClampNeg)) x1 x2 q4.2) (fun q11 => some (1, q11.2))) else none) else none) else some ((-14), q4.2)) else some ((-1), q4.2))))))))
set_option maxRecDepth 20000 in
theorem t_X8_sheet {X : Nat × (Nat → Int32)} {G : Nat → Nat → Option Nat} (hG : fm_Gok G) {F : Nat}   {x0 : Int32} {x1 : Int32} {x2 : Int32} {μ : fm_M} {r : Int32 × fm_M} (hf : f_X8_sheet F x0 x1 x2 μ = some r) : ab_F 3 113 [.ref 100, .int x0, .int x1, .int x2] (hp X G μ) (some (.int r.1)) (hp X G r.2) := by
  unfold f_X8_sheet at hf
  refine ab_T.of (d := 2) rfl (Nat.le_of_ble_eq_true rfl) ?_
  show ab_U _ _ kX8_sheet (0, [some (.ref 100), some (.int x0), some (.int x1), some (.int x2)], [], hp X G μ) _
  refine ab_U.run 1 (S' := (1, [some (.ref 100), some (.int x0), some (.int x1), some (.int x2)], [.int x0], hp X G μ)) rfl ?_
  obtain ⟨q1, h2, hf⟩ := ab_bnd hf
  refine ab_U.fn rfl rfl (t_X8_isSheet (X := X) hG h2) (by omega) ?_
  show ab_U _ _ _ (4, [some (.ref 100), some (.int x0), some (.int x1), some (.int x2)], [.int q1.1], hp X G q1.2) _
  refine ab_U.if_eq rfl (fun b3 => ?_) (fun b3 => ?_)
  · rw [if_pos b3] at hf
    refine ab_U.run 1 (S' := (21, [some (.ref 100), some (.int x0), some (.int x1), some (.int x2)], [.int (-1)], hp X G q1.2)) rfl ?_
    obtain rfl := Option.some.inj hf
    exact ab_U.ret rfl rfl ⟨rfl, rfl⟩
  · rw [if_neg b3] at hf
    refine ab_U.run 1 (S' := (8, [some (.ref 100), some (.int x0), some (.int x1), some (.int x2)], [.int x1], hp X G q1.2)) rfl ?_
    obtain ⟨q4, h5, hf⟩ := ab_bnd hf
    refine ab_U.fn rfl rfl (t_X8_isLane (X := X) hG h5) (by omega) ?_
    show ab_U _ _ _ (11, [some (.ref 100), some (.int x0), some (.int x1), some (.int x2)], [.int q4.1], hp X G q4.2) _
    refine ab_U.if_eq rfl (fun b6 => ?_) (fun b6 => ?_)
    · rw [if_pos b6] at hf
      refine ab_U.run 1 (S' := (21, [some (.ref 100), some (.int x0), some (.int x1), some (.int x2)], [.int (-1)], hp X G q4.2)) rfl ?_
      obtain rfl := Option.some.inj hf
      exact ab_U.ret rfl rfl ⟨rfl, rfl⟩
    · rw [if_neg b6] at hf
      refine ab_U.run 2 (S' := (17, [some (.ref 100), some (.int x0), some (.int x1), some (.int x2)], [.int 40, .int x2], hp X G q4.2)) rfl ?_
      refine ab_U.ic_le rfl (fun b7 => ?_) (fun b7 => ?_)
      · rw [if_pos b7] at hf
        refine ab_U.run 1 (S' := (23, [some (.ref 100), some (.int x0), some (.int x1), some (.int x2)], [.int x2], hp X G q4.2)) rfl ?_
        refine ab_U.if_ge rfl (fun b8 => ?_) (fun b8 => ?_)
        · rw [if_pos b8] at hf
          refine ab_U.run 3 (S' := (34, [some (.ref 100), some (.int x0), some (.int x1), some (.int x2)], [.int x0, .ref 128], hp X G q4.2)) rfl ?_
          obtain ⟨c9, hf⟩ := ab_ifs hf
          refine ab_U.aaldG (n := 4) (ty := .object "TepidPurse$Sheet") (v := (224 + 2 * x0.toNatClampNeg)) hG rfl ⟨by decide, rfl⟩ rfl c9 rfl rfl ?_
          refine ab_U.run 2 (S' := (37, [some (.ref 100), some (.int x0), some (.int x1), some (.int x2)], [.int x2, .int x1, .ref (224 + 2 * x0.toNatClampNeg)], hp X G q4.2)) rfl ?_
          obtain ⟨c10, hf⟩ := ab_ifs hf
          obtain ⟨q11, h12, hf⟩ := ab_bnd hf
          refine ab_U.fnV rfl rfl (fm_SO c10).1 rfl (t_X3_renew (X := X) hG c10 h12) (by omega) ?_
          show ab_U _ _ _ (40, [some (.ref 100), some (.int x0), some (.int x1), some (.int x2)], [], hp X G q11.2) _
          refine ab_U.run 1 (S' := (41, [some (.ref 100), some (.int x0), some (.int x1), some (.int x2)], [.int 1], hp X G q11.2)) rfl ?_
          obtain rfl := Option.some.inj hf
          exact ab_U.ret rfl rfl ⟨rfl, rfl⟩
        · rw [if_neg b8] at hf
          refine ab_U.run 1 (S' := (28, [some (.ref 100), some (.int x0), some (.int x1), some (.int x2)], [.int (-14)], hp X G q4.2)) rfl ?_
          obtain rfl := Option.some.inj hf
          exact ab_U.ret rfl rfl ⟨rfl, rfl⟩
      · rw [if_neg b7] at hf
        refine ab_U.run 1 (S' := (21, [some (.ref 100), some (.int x0), some (.int x1), some (.int x2)], [.int (-1)], hp X G q4.2)) rfl ?_
        obtain rfl := Option.some.inj hf
        exact ab_U.ret rfl rfl ⟨rfl, rfl⟩
set_option maxRecDepth 20000 in
def f_X8_lay (F : Nat)  (x0 : Int32) (x1 : Int32) (x2 : Int32) (μ : fm_M) : Option (Int32 × fm_M) := (Option.bind (f_X8_isSheet F x0 μ) (fun q1 => (if ¬ q1.1 = 0 then (if ab_in x0 4 = true then (if fm_isS ((224 + 2 * x0.toNatClampNeg)) = true then (Option.bind (f_X3_faultOfCells F ((224 + 2 * x0.toNatClampNeg)) ((x1).toInt64) 1 q1.2) (fun q6 => (if q6.1 = 0 then (if ab_in x0 4 = true then (if fm_isS ((224 + 2 * x0.toNatClampNeg)) = true then (Option.bind (f_X3_put F ((224 + 2 * x0.toNatClampNeg)) x1 x2 q6.2) (fun q11 => some (1, q11.2))) else none) else none) else some (((-10) - q6.1), q6.2)))) else none) else none) else some ((-1), q1.2))))
set_option maxRecDepth 20000 in
theorem t_X8_lay {X : Nat × (Nat → Int32)} {G : Nat → Nat → Option Nat} (hG : fm_Gok G) {F : Nat}   {x0 : Int32} {x1 : Int32} {x2 : Int32} {μ : fm_M} {r : Int32 × fm_M} (hf : f_X8_lay F x0 x1 x2 μ = some r) : ab_F 3 114 [.ref 100, .int x0, .int x1, .int x2] (hp X G μ) (some (.int r.1)) (hp X G r.2) := by
  unfold f_X8_lay at hf
  refine ab_T.of (d := 2) rfl (Nat.le_of_ble_eq_true rfl) ?_
  show ab_U _ _ kX8_lay (0, [some (.ref 100), some (.int x0), some (.int x1), some (.int x2), none], [], hp X G μ) _
  refine ab_U.run 1 (S' := (1, [some (.ref 100), some (.int x0), some (.int x1), some (.int x2), none], [.int x0], hp X G μ)) rfl ?_
  obtain ⟨q1, h2, hf⟩ := ab_bnd hf
  refine ab_U.fn rfl rfl (t_X8_isSheet (X := X) hG h2) (by omega) ?_
  show ab_U _ _ _ (4, [some (.ref 100), some (.int x0), some (.int x1), some (.int x2), none], [.int q1.1], hp X G q1.2) _
  refine ab_U.if_ne rfl (fun b3 => ?_) (fun b3 => ?_)
  · rw [if_pos b3] at hf
    refine ab_U.run 3 (S' := (14, [some (.ref 100), some (.int x0), some (.int x1), some (.int x2), none], [.int x0, .ref 128], hp X G q1.2)) rfl ?_
    obtain ⟨c4, hf⟩ := ab_ifs hf
    refine ab_U.aaldG (n := 4) (ty := .object "TepidPurse$Sheet") (v := (224 + 2 * x0.toNatClampNeg)) hG rfl ⟨by decide, rfl⟩ rfl c4 rfl rfl ?_
    refine ab_U.run 3 (S' := (18, [some (.ref 100), some (.int x0), some (.int x1), some (.int x2), none], [.int 1, .long (x1).toInt64, .ref (224 + 2 * x0.toNatClampNeg)], hp X G q1.2)) rfl ?_
    obtain ⟨c5, hf⟩ := ab_ifs hf
    obtain ⟨q6, h7, hf⟩ := ab_bnd hf
    refine ab_U.fnV rfl rfl (fm_SO c5).1 rfl (t_X3_faultOfCells (X := X) hG c5 h7) (by omega) ?_
    show ab_U _ _ _ (21, [some (.ref 100), some (.int x0), some (.int x1), some (.int x2), none], [.int q6.1], hp X G q6.2) _
    refine ab_U.run 2 (S' := (25, [some (.ref 100), some (.int x0), some (.int x1), some (.int x2), some (.int q6.1)], [.int q6.1], hp X G q6.2)) rfl ?_
    refine ab_U.if_eq rfl (fun b8 => ?_) (fun b8 => ?_)
    · rw [if_pos b8] at hf
      refine ab_U.run 3 (S' := (39, [some (.ref 100), some (.int x0), some (.int x1), some (.int x2), some (.int q6.1)], [.int x0, .ref 128], hp X G q6.2)) rfl ?_
      obtain ⟨c9, hf⟩ := ab_ifs hf
      refine ab_U.aaldG (n := 4) (ty := .object "TepidPurse$Sheet") (v := (224 + 2 * x0.toNatClampNeg)) hG rfl ⟨by decide, rfl⟩ rfl c9 rfl rfl ?_
      refine ab_U.run 2 (S' := (42, [some (.ref 100), some (.int x0), some (.int x1), some (.int x2), some (.int q6.1)], [.int x2, .int x1, .ref (224 + 2 * x0.toNatClampNeg)], hp X G q6.2)) rfl ?_
      obtain ⟨c10, hf⟩ := ab_ifs hf
      obtain ⟨q11, h12, hf⟩ := ab_bnd hf
      refine ab_U.fnV rfl rfl (fm_SO c10).1 rfl (t_X3_put (X := X) hG c10 h12) (by omega) ?_
      show ab_U _ _ _ (45, [some (.ref 100), some (.int x0), some (.int x1), some (.int x2), some (.int q6.1)], [], hp X G q11.2) _
      refine ab_U.run 1 (S' := (46, [some (.ref 100), some (.int x0), some (.int x1), some (.int x2), some (.int q6.1)], [.int 1], hp X G q11.2)) rfl ?_
      obtain rfl := Option.some.inj hf
      exact ab_U.ret rfl rfl ⟨rfl, rfl⟩
    · rw [if_neg b8] at hf
      refine ab_U.run 3 (S' := (33, [some (.ref 100), some (.int x0), some (.int x1), some (.int x2), some (.int q6.1)], [.int ((-10) - q6.1)], hp X G q6.2)) rfl ?_
      obtain rfl := Option.some.inj hf
      exact ab_U.ret rfl rfl ⟨rfl, rfl⟩
  · rw [if_neg b3] at hf
    refine ab_U.run 1 (S' := (8, [some (.ref 100), some (.int x0), some (.int x1), some (.int x2), none], [.int (-1)], hp X G q1.2)) rfl ?_
    obtain rfl := Option.some.inj hf
    exact ab_U.ret rfl rfl ⟨rfl, rfl⟩
set_option maxRecDepth 20000 in
def b_X8_read_55 (F : Nat)  (gg : Nat → Int32 → Int32 → Int32 → Nat → Int32 → Int32 → Int32 → fm_M → Option (Int32 × fm_M)) (l2 : Int32) (l3 : Int32) (l4 : Int32) (l5 : Nat) (l6 : Int32) (l7 : Int32) (l8 : Int32) (μ : fm_M) : Option (Int32 × fm_M) := (if l4 ≤ l8 then (Option.bind (f_X7_copyFrom F 101 111 μ) (fun q2 => (Option.bind (some (fm_sI q2.2 100 12 l7)) (fun m4 => some (l6, m4))))) else (if ¬ l7 = 0 then (Option.bind (f_X7_copyFrom F 101 111 μ) (fun q7 => (Option.bind (some (fm_sI q7.2 100 12 l7)) (fun m9 => some (l6, m9))))) else (if fm_isS l5 = true then (Option.bind (f_X3_faultOfPair F l5 l2 ((l3).toInt64 + ((Int64.ofNat 2) * (l8).toInt64)) μ) (fun q12 => (if ¬ q12.1 = 0 then gg 55 l2 l3 l4 l5 l6 q12.1 (l8 + 1) q12.2 else (if fm_isS l5 = true then (if ab_in ((((l3).toInt64 + ((Int64.ofNat 2) * (l8).toInt64))).toInt32) 40 = true then (Option.bind (some (q12.2.2.1 ((l5 + 1)) ((((l3).toInt64 + ((Int64.ofNat 2) * (l8).toInt64))).toInt32).toNatClampNeg)) (fun v17 => (if ab_in ((((l3).toInt64 + ((Int64.ofNat 2) * (l8).toInt64))).toInt32 + 1) 40 = true then (Option.bind (some (q12.2.2.1 ((l5 + 1)) ((((l3).toInt64 + ((Int64.ofNat 2) * (l8).toInt64))).toInt32 + 1).toNatClampNeg)) (fun v20 => (Option.bind (f_X7_refusalToPay F 111 v17 v20 q12.2) (fun q22 => (if q22.1 = 0 then (Option.bind (f_X7_handOver F 111 v17 v20 q22.2) (fun q25 => gg 55 l2 l3 l4 l5 (l6 + 1) q12.1 (l8 + 1) q25.2)) else some (((-20) - l8), q22.2)))))) else none))) else none) else none)))) else none)))
def g_X8_read (F : Nat)  : Nat → Nat → Int32 → Int32 → Int32 → Nat → Int32 → Int32 → Int32 → fm_M → Option (Int32 × fm_M)
  | 0, _, _, _, _, _, _, _, _, _ => none
  | n + 1, pc, l2, l3, l4, l5, l6, l7, l8, μ => if pc = 55 then b_X8_read_55 F  (g_X8_read F  n) l2 l3 l4 l5 l6 l7 l8 μ else none
set_option maxRecDepth 20000 in
theorem t_X8_read_g {X : Nat × (Nat → Int32)} {G : Nat → Nat → Option Nat} (hG : fm_Gok G) {F : Nat}    : ∀ n : Nat, (∀ (l2 : Int32) (l3 : Int32) (l4 : Int32) (l5 : Nat) (l6 : Int32) (l7 : Int32) (l8 : Int32) (μ : fm_M) (r : Int32 × fm_M), g_X8_read F  n 55 l2 l3 l4 l5 l6 l7 l8 μ = some r → ab_U 5 (some .int) kX8_read (55, [some (.ref 100), none, some (.int l2), some (.int l3), some (.int l4), some (.ref l5), some (.int l6), some (.int l7), some (.int l8), none, none, none, none], [], hp X G μ) (fun r9 h9 => r9 = some (.int r.1) ∧ h9 = hp X G r.2))
  | 0 => by
    intros
    rename_i h
    cases h
  | n + 1 => by
    have ih := t_X8_read_g (X := X) hG (F := F)   n
    · intro l2 l3 l4 l5 l6 l7 l8 μ r hf
      have hf : b_X8_read_55 F  (g_X8_read F  n) l2 l3 l4 l5 l6 l7 l8 μ = some r := hf
      unfold b_X8_read_55 at hf
      refine ab_U.run 2 (S' := (59, [some (.ref 100), none, some (.int l2), some (.int l3), some (.int l4), some (.ref l5), some (.int l6), some (.int l7), some (.int l8), none, none, none, none], [.int l4, .int l8], hp X G μ)) rfl ?_
      refine ab_U.ic_ge rfl (fun b1 => ?_) (fun b1 => ?_)
      · rw [if_pos b1] at hf
        refine ab_U.run 4 (S' := (167, [some (.ref 100), none, some (.int l2), some (.int l3), some (.int l4), some (.ref l5), some (.int l6), some (.int l7), some (.int l8), none, none, none, none], [.ref 111, .ref 101], hp X G μ)) rfl ?_
        obtain ⟨q2, h3, hf⟩ := ab_bnd hf
        refine ab_U.fn rfl rfl (t_X7_copyFrom (X := X) hG (by decide) (by decide) h3) (by omega) ?_
        show ab_U _ _ _ (170, [some (.ref 100), none, some (.int l2), some (.int l3), some (.int l4), some (.ref l5), some (.int l6), some (.int l7), some (.int l8), none, none, none, none], [], hp X G q2.2) _
        refine ab_U.run 2 (S' := (173, [some (.ref 100), none, some (.int l2), some (.int l3), some (.int l4), some (.ref l5), some (.int l6), some (.int l7), some (.int l8), none, none, none, none], [.int l7, .ref 100], hp X G q2.2)) rfl ?_
        obtain ⟨m4, e5, hf⟩ := ab_bnd hf
        have e5 := Option.some.inj e5
        refine ab_U.pfI (ci := 8) (k9 := 12) rfl ⟨by decide, rfl⟩ ⟨rfl, rfl, by decide, rfl⟩ rfl ?_
        show ab_U _ _ _ (176, [some (.ref 100), none, some (.int l2), some (.int l3), some (.int l4), some (.ref l5), some (.int l6), some (.int l7), some (.int l8), none, none, none, none], [], hp X G (fm_sI q2.2 100 12 l7)) _
        rw [e5]
        refine ab_U.run 1 (S' := (178, [some (.ref 100), none, some (.int l2), some (.int l3), some (.int l4), some (.ref l5), some (.int l6), some (.int l7), some (.int l8), none, none, none, none], [.int l6], hp X G m4)) rfl ?_
        obtain rfl := Option.some.inj hf
        exact ab_U.ret rfl rfl ⟨rfl, rfl⟩
      · rw [if_neg b1] at hf
        refine ab_U.run 1 (S' := (64, [some (.ref 100), none, some (.int l2), some (.int l3), some (.int l4), some (.ref l5), some (.int l6), some (.int l7), some (.int l8), none, none, none, none], [.int l7], hp X G μ)) rfl ?_
        refine ab_U.if_ne rfl (fun b6 => ?_) (fun b6 => ?_)
        · rw [if_pos b6] at hf
          refine ab_U.run 4 (S' := (167, [some (.ref 100), none, some (.int l2), some (.int l3), some (.int l4), some (.ref l5), some (.int l6), some (.int l7), some (.int l8), none, none, none, none], [.ref 111, .ref 101], hp X G μ)) rfl ?_
          obtain ⟨q7, h8, hf⟩ := ab_bnd hf
          refine ab_U.fn rfl rfl (t_X7_copyFrom (X := X) hG (by decide) (by decide) h8) (by omega) ?_
          show ab_U _ _ _ (170, [some (.ref 100), none, some (.int l2), some (.int l3), some (.int l4), some (.ref l5), some (.int l6), some (.int l7), some (.int l8), none, none, none, none], [], hp X G q7.2) _
          refine ab_U.run 2 (S' := (173, [some (.ref 100), none, some (.int l2), some (.int l3), some (.int l4), some (.ref l5), some (.int l6), some (.int l7), some (.int l8), none, none, none, none], [.int l7, .ref 100], hp X G q7.2)) rfl ?_
          obtain ⟨m9, e10, hf⟩ := ab_bnd hf
          have e10 := Option.some.inj e10
          refine ab_U.pfI (ci := 8) (k9 := 12) rfl ⟨by decide, rfl⟩ ⟨rfl, rfl, by decide, rfl⟩ rfl ?_
          show ab_U _ _ _ (176, [some (.ref 100), none, some (.int l2), some (.int l3), some (.int l4), some (.ref l5), some (.int l6), some (.int l7), some (.int l8), none, none, none, none], [], hp X G (fm_sI q7.2 100 12 l7)) _
          rw [e10]
          refine ab_U.run 1 (S' := (178, [some (.ref 100), none, some (.int l2), some (.int l3), some (.int l4), some (.ref l5), some (.int l6), some (.int l7), some (.int l8), none, none, none, none], [.int l6], hp X G m9)) rfl ?_
          obtain rfl := Option.some.inj hf
          exact ab_U.ret rfl rfl ⟨rfl, rfl⟩
        · rw [if_neg b6] at hf
          refine ab_U.run 11 (S' := (84, [some (.ref 100), none, some (.int l2), some (.int l3), some (.int l4), some (.ref l5), some (.int l6), some (.int l7), some (.int l8), some (.long ((l3).toInt64 + ((Int64.ofNat 2) * (l8).toInt64))), none, none, none], [.long ((l3).toInt64 + ((Int64.ofNat 2) * (l8).toInt64)), .int l2, .ref l5], hp X G μ)) rfl ?_
          obtain ⟨c11, hf⟩ := ab_ifs hf
          obtain ⟨q12, h13, hf⟩ := ab_bnd hf
          refine ab_U.fnV rfl rfl (fm_SO c11).1 rfl (t_X3_faultOfPair (X := X) hG c11 h13) (by omega) ?_
          show ab_U _ _ _ (87, [some (.ref 100), none, some (.int l2), some (.int l3), some (.int l4), some (.ref l5), some (.int l6), some (.int l7), some (.int l8), some (.long ((l3).toInt64 + ((Int64.ofNat 2) * (l8).toInt64))), none, none, none], [.int q12.1], hp X G q12.2) _
          refine ab_U.run 2 (S' := (91, [some (.ref 100), none, some (.int l2), some (.int l3), some (.int l4), some (.ref l5), some (.int l6), some (.int q12.1), some (.int l8), some (.long ((l3).toInt64 + ((Int64.ofNat 2) * (l8).toInt64))), none, none, none], [.int q12.1], hp X G q12.2)) rfl ?_
          refine ab_U.if_ne rfl (fun b14 => ?_) (fun b14 => ?_)
          · rw [if_pos b14] at hf
            refine ab_U.run 2 (S' := (55, [some (.ref 100), none, some (.int l2), some (.int l3), some (.int l4), some (.ref l5), some (.int l6), some (.int q12.1), some (.int (l8 + 1)), some (.long ((l3).toInt64 + ((Int64.ofNat 2) * (l8).toInt64))), none, none, none], [], hp X G q12.2)) rfl ?_
            exact ab_U.weak (ih _ _ _ _ _ _ _ _ _ hf) (ab_leL.of ⟨rfl, ⟨rfl, ⟨rfl, ⟨rfl, ⟨rfl, ⟨rfl, ⟨rfl, ⟨rfl, trivial⟩⟩⟩⟩⟩⟩⟩⟩)
          · rw [if_neg b14] at hf
            refine ab_U.run 1 (S' := (96, [some (.ref 100), none, some (.int l2), some (.int l3), some (.int l4), some (.ref l5), some (.int l6), some (.int q12.1), some (.int l8), some (.long ((l3).toInt64 + ((Int64.ofNat 2) * (l8).toInt64))), none, none, none], [.ref l5], hp X G q12.2)) rfl ?_
            obtain ⟨c15, hf⟩ := ab_ifs hf
            refine ab_U.gfS rfl c15 ?_
            show ab_U _ _ _ (99, [some (.ref 100), none, some (.int l2), some (.int l3), some (.int l4), some (.ref l5), some (.int l6), some (.int q12.1), some (.int l8), some (.long ((l3).toInt64 + ((Int64.ofNat 2) * (l8).toInt64))), none, none, none], [.ref (l5 + 1)], hp X G q12.2) _
            refine ab_U.run 2 (S' := (102, [some (.ref 100), none, some (.int l2), some (.int l3), some (.int l4), some (.ref l5), some (.int l6), some (.int q12.1), some (.int l8), some (.long ((l3).toInt64 + ((Int64.ofNat 2) * (l8).toInt64))), none, none, none], [.int (((l3).toInt64 + ((Int64.ofNat 2) * (l8).toInt64))).toInt32, .ref (l5 + 1)], hp X G q12.2)) rfl ?_
            obtain ⟨c16, hf⟩ := ab_ifs hf
            refine ab_U.iald (n := 40) rfl (fm_SO c15).2 c16 ?_
            show ab_U _ _ _ (103, [some (.ref 100), none, some (.int l2), some (.int l3), some (.int l4), some (.ref l5), some (.int l6), some (.int q12.1), some (.int l8), some (.long ((l3).toInt64 + ((Int64.ofNat 2) * (l8).toInt64))), none, none, none], [.int (q12.2.2.1 ((l5 + 1)) ((((l3).toInt64 + ((Int64.ofNat 2) * (l8).toInt64))).toInt32).toNatClampNeg)], hp X G q12.2) _
            refine ab_U.run 1 (S' := (105, [some (.ref 100), none, some (.int l2), some (.int l3), some (.int l4), some (.ref l5), some (.int l6), some (.int q12.1), some (.int l8), some (.long ((l3).toInt64 + ((Int64.ofNat 2) * (l8).toInt64))), none, some (.int (q12.2.2.1 ((l5 + 1)) ((((l3).toInt64 + ((Int64.ofNat 2) * (l8).toInt64))).toInt32).toNatClampNeg)), none], [], hp X G q12.2)) rfl ?_
            obtain ⟨v17, e18, hf⟩ := ab_bnd hf
            have e18 := Option.some.inj e18
            rw [e18]
            show ab_U _ _ _ (105, [some (.ref 100), none, some (.int l2), some (.int l3), some (.int l4), some (.ref l5), some (.int l6), some (.int q12.1), some (.int l8), some (.long ((l3).toInt64 + ((Int64.ofNat 2) * (l8).toInt64))), none, some (.int v17), none], [], hp X G q12.2) _
            refine ab_U.run 1 (S' := (107, [some (.ref 100), none, some (.int l2), some (.int l3), some (.int l4), some (.ref l5), some (.int l6), some (.int q12.1), some (.int l8), some (.long ((l3).toInt64 + ((Int64.ofNat 2) * (l8).toInt64))), none, some (.int v17), none], [.ref l5], hp X G q12.2)) rfl ?_
            refine ab_U.gfS rfl c15 ?_
            show ab_U _ _ _ (110, [some (.ref 100), none, some (.int l2), some (.int l3), some (.int l4), some (.ref l5), some (.int l6), some (.int q12.1), some (.int l8), some (.long ((l3).toInt64 + ((Int64.ofNat 2) * (l8).toInt64))), none, some (.int v17), none], [.ref (l5 + 1)], hp X G q12.2) _
            refine ab_U.run 4 (S' := (115, [some (.ref 100), none, some (.int l2), some (.int l3), some (.int l4), some (.ref l5), some (.int l6), some (.int q12.1), some (.int l8), some (.long ((l3).toInt64 + ((Int64.ofNat 2) * (l8).toInt64))), none, some (.int v17), none], [.int ((((l3).toInt64 + ((Int64.ofNat 2) * (l8).toInt64))).toInt32 + 1), .ref (l5 + 1)], hp X G q12.2)) rfl ?_
            obtain ⟨c19, hf⟩ := ab_ifs hf
            refine ab_U.iald (n := 40) rfl (fm_SO c15).2 c19 ?_
            show ab_U _ _ _ (116, [some (.ref 100), none, some (.int l2), some (.int l3), some (.int l4), some (.ref l5), some (.int l6), some (.int q12.1), some (.int l8), some (.long ((l3).toInt64 + ((Int64.ofNat 2) * (l8).toInt64))), none, some (.int v17), none], [.int (q12.2.2.1 ((l5 + 1)) ((((l3).toInt64 + ((Int64.ofNat 2) * (l8).toInt64))).toInt32 + 1).toNatClampNeg)], hp X G q12.2) _
            refine ab_U.run 1 (S' := (118, [some (.ref 100), none, some (.int l2), some (.int l3), some (.int l4), some (.ref l5), some (.int l6), some (.int q12.1), some (.int l8), some (.long ((l3).toInt64 + ((Int64.ofNat 2) * (l8).toInt64))), none, some (.int v17), some (.int (q12.2.2.1 ((l5 + 1)) ((((l3).toInt64 + ((Int64.ofNat 2) * (l8).toInt64))).toInt32 + 1).toNatClampNeg))], [], hp X G q12.2)) rfl ?_
            obtain ⟨v20, e21, hf⟩ := ab_bnd hf
            have e21 := Option.some.inj e21
            rw [e21]
            show ab_U _ _ _ (118, [some (.ref 100), none, some (.int l2), some (.int l3), some (.int l4), some (.ref l5), some (.int l6), some (.int q12.1), some (.int l8), some (.long ((l3).toInt64 + ((Int64.ofNat 2) * (l8).toInt64))), none, some (.int v17), some (.int v20)], [], hp X G q12.2) _
            refine ab_U.run 4 (S' := (126, [some (.ref 100), none, some (.int l2), some (.int l3), some (.int l4), some (.ref l5), some (.int l6), some (.int q12.1), some (.int l8), some (.long ((l3).toInt64 + ((Int64.ofNat 2) * (l8).toInt64))), none, some (.int v17), some (.int v20)], [.int v20, .int v17, .ref 111], hp X G q12.2)) rfl ?_
            obtain ⟨q22, h23, hf⟩ := ab_bnd hf
            refine ab_U.fn rfl rfl (t_X7_refusalToPay (X := X) hG (by decide) h23) (by omega) ?_
            show ab_U _ _ _ (129, [some (.ref 100), none, some (.int l2), some (.int l3), some (.int l4), some (.ref l5), some (.int l6), some (.int q12.1), some (.int l8), some (.long ((l3).toInt64 + ((Int64.ofNat 2) * (l8).toInt64))), none, some (.int v17), some (.int v20)], [.int q22.1], hp X G q22.2) _
            refine ab_U.if_eq rfl (fun b24 => ?_) (fun b24 => ?_)
            · rw [if_pos b24] at hf
              refine ab_U.run 4 (S' := (146, [some (.ref 100), none, some (.int l2), some (.int l3), some (.int l4), some (.ref l5), some (.int l6), some (.int q12.1), some (.int l8), some (.long ((l3).toInt64 + ((Int64.ofNat 2) * (l8).toInt64))), none, some (.int v17), some (.int v20)], [.int v20, .int v17, .ref 111], hp X G q22.2)) rfl ?_
              obtain ⟨q25, h26, hf⟩ := ab_bnd hf
              refine ab_U.fn rfl rfl (t_X7_handOver (X := X) hG (by decide) h26) (by omega) ?_
              show ab_U _ _ _ (149, [some (.ref 100), none, some (.int l2), some (.int l3), some (.int l4), some (.ref l5), some (.int l6), some (.int q12.1), some (.int l8), some (.long ((l3).toInt64 + ((Int64.ofNat 2) * (l8).toInt64))), none, some (.int v17), some (.int v20)], [.int q25.1], hp X G q25.2) _
              refine ab_U.run 4 (S' := (55, [some (.ref 100), none, some (.int l2), some (.int l3), some (.int l4), some (.ref l5), some (.int (l6 + 1)), some (.int q12.1), some (.int (l8 + 1)), some (.long ((l3).toInt64 + ((Int64.ofNat 2) * (l8).toInt64))), none, some (.int v17), some (.int v20)], [], hp X G q25.2)) rfl ?_
              exact ab_U.weak (ih _ _ _ _ _ _ _ _ _ hf) (ab_leL.of ⟨rfl, ⟨rfl, ⟨rfl, ⟨rfl, ⟨rfl, ⟨rfl, ⟨rfl, ⟨rfl, trivial⟩⟩⟩⟩⟩⟩⟩⟩)
            · rw [if_neg b24] at hf
              refine ab_U.run 3 (S' := (137, [some (.ref 100), none, some (.int l2), some (.int l3), some (.int l4), some (.ref l5), some (.int l6), some (.int q12.1), some (.int l8), some (.long ((l3).toInt64 + ((Int64.ofNat 2) * (l8).toInt64))), none, some (.int v17), some (.int v20)], [.int ((-20) - l8)], hp X G q22.2)) rfl ?_
              obtain rfl := Option.some.inj hf
              exact ab_U.ret rfl rfl ⟨rfl, rfl⟩
set_option maxRecDepth 20000 in
def f_X8_read (F : Nat)  (x0 : Int32) (x1 : Int32) (x2 : Int32) (x3 : Int32) (μ : fm_M) : Option (Int32 × fm_M) := (Option.bind (f_X8_isSheet F x0 μ) (fun q27 => (if q27.1 = 0 then some ((-1), q27.2) else (Option.bind (f_X8_isLane F x1 q27.2) (fun q30 => (if q30.1 = 0 then some ((-1), q30.2) else (Option.bind (f_X8_isIn F x3 0 20 q30.2) (fun q33 => (if ¬ q33.1 = 0 then (if ab_in x0 4 = true then (Option.bind (f_X7_copyFrom F 111 101 q33.2) (fun q37 => g_X8_read F  F 55 x1 x2 x3 ((224 + 2 * x0.toNatClampNeg)) 0 0 0 q37.2)) else none) else some ((-1), q33.2))))))))))
set_option maxRecDepth 20000 in
theorem t_X8_read {X : Nat × (Nat → Int32)} {G : Nat → Nat → Option Nat} (hG : fm_Gok G) {F : Nat}   {x0 : Int32} {x1 : Int32} {x2 : Int32} {x3 : Int32} {μ : fm_M} {r : Int32 × fm_M} (hf : f_X8_read F x0 x1 x2 x3 μ = some r) : ab_F 6 115 [.ref 100, .int x0, .int x1, .int x2, .int x3] (hp X G μ) (some (.int r.1)) (hp X G r.2) := by
  unfold f_X8_read at hf
  refine ab_T.of (d := 5) rfl (Nat.le_of_ble_eq_true rfl) ?_
  show ab_U _ _ kX8_read (0, [some (.ref 100), some (.int x0), some (.int x1), some (.int x2), some (.int x3), none, none, none, none, none, none, none, none], [], hp X G μ) _
  refine ab_U.run 1 (S' := (1, [some (.ref 100), some (.int x0), some (.int x1), some (.int x2), some (.int x3), none, none, none, none, none, none, none, none], [.int x0], hp X G μ)) rfl ?_
  obtain ⟨q27, h28, hf⟩ := ab_bnd hf
  refine ab_U.fn rfl rfl (t_X8_isSheet (X := X) hG h28) (by omega) ?_
  show ab_U _ _ _ (4, [some (.ref 100), some (.int x0), some (.int x1), some (.int x2), some (.int x3), none, none, none, none, none, none, none, none], [.int q27.1], hp X G q27.2) _
  refine ab_U.if_eq rfl (fun b29 => ?_) (fun b29 => ?_)
  · rw [if_pos b29] at hf
    refine ab_U.run 1 (S' := (26, [some (.ref 100), some (.int x0), some (.int x1), some (.int x2), some (.int x3), none, none, none, none, none, none, none, none], [.int (-1)], hp X G q27.2)) rfl ?_
    obtain rfl := Option.some.inj hf
    exact ab_U.ret rfl rfl ⟨rfl, rfl⟩
  · rw [if_neg b29] at hf
    refine ab_U.run 1 (S' := (8, [some (.ref 100), some (.int x0), some (.int x1), some (.int x2), some (.int x3), none, none, none, none, none, none, none, none], [.int x1], hp X G q27.2)) rfl ?_
    obtain ⟨q30, h31, hf⟩ := ab_bnd hf
    refine ab_U.fn rfl rfl (t_X8_isLane (X := X) hG h31) (by omega) ?_
    show ab_U _ _ _ (11, [some (.ref 100), some (.int x0), some (.int x1), some (.int x2), some (.int x3), none, none, none, none, none, none, none, none], [.int q30.1], hp X G q30.2) _
    refine ab_U.if_eq rfl (fun b32 => ?_) (fun b32 => ?_)
    · rw [if_pos b32] at hf
      refine ab_U.run 1 (S' := (26, [some (.ref 100), some (.int x0), some (.int x1), some (.int x2), some (.int x3), none, none, none, none, none, none, none, none], [.int (-1)], hp X G q30.2)) rfl ?_
      obtain rfl := Option.some.inj hf
      exact ab_U.ret rfl rfl ⟨rfl, rfl⟩
    · rw [if_neg b32] at hf
      refine ab_U.run 3 (S' := (19, [some (.ref 100), some (.int x0), some (.int x1), some (.int x2), some (.int x3), none, none, none, none, none, none, none, none], [.int 20, .int 0, .int x3], hp X G q30.2)) rfl ?_
      obtain ⟨q33, h34, hf⟩ := ab_bnd hf
      refine ab_U.fn rfl rfl (t_X8_isIn (X := X) hG h34) (by omega) ?_
      show ab_U _ _ _ (22, [some (.ref 100), some (.int x0), some (.int x1), some (.int x2), some (.int x3), none, none, none, none, none, none, none, none], [.int q33.1], hp X G q33.2) _
      refine ab_U.if_ne rfl (fun b35 => ?_) (fun b35 => ?_)
      · rw [if_pos b35] at hf
        refine ab_U.run 3 (S' := (32, [some (.ref 100), some (.int x0), some (.int x1), some (.int x2), some (.int x3), none, none, none, none, none, none, none, none], [.int x0, .ref 128], hp X G q33.2)) rfl ?_
        obtain ⟨c36, hf⟩ := ab_ifs hf
        refine ab_U.aaldG (n := 4) (ty := .object "TepidPurse$Sheet") (v := (224 + 2 * x0.toNatClampNeg)) hG rfl ⟨by decide, rfl⟩ rfl c36 rfl rfl ?_
        refine ab_U.run 5 (S' := (43, [some (.ref 100), some (.int x0), some (.int x1), some (.int x2), some (.int x3), some (.ref (224 + 2 * x0.toNatClampNeg)), none, none, none, none, none, none, none], [.ref 101, .ref 111], hp X G q33.2)) rfl ?_
        obtain ⟨q37, h38, hf⟩ := ab_bnd hf
        refine ab_U.fn rfl rfl (t_X7_copyFrom (X := X) hG (by decide) (by decide) h38) (by omega) ?_
        show ab_U _ _ _ (46, [some (.ref 100), some (.int x0), some (.int x1), some (.int x2), some (.int x3), some (.ref (224 + 2 * x0.toNatClampNeg)), none, none, none, none, none, none, none], [], hp X G q37.2) _
        refine ab_U.run 6 (S' := (55, [some (.ref 100), some (.int x0), some (.int x1), some (.int x2), some (.int x3), some (.ref (224 + 2 * x0.toNatClampNeg)), some (.int 0), some (.int 0), some (.int 0), none, none, none, none], [], hp X G q37.2)) rfl ?_
        exact ab_U.weak ((t_X8_read_g (X := X) hG   F) _ _ _ _ _ _ _ _ _ hf) (ab_leL.of ⟨rfl, ⟨rfl, ⟨rfl, ⟨rfl, ⟨rfl, ⟨rfl, ⟨rfl, ⟨rfl, trivial⟩⟩⟩⟩⟩⟩⟩⟩)
      · rw [if_neg b35] at hf
        refine ab_U.run 1 (S' := (26, [some (.ref 100), some (.int x0), some (.int x1), some (.int x2), some (.int x3), none, none, none, none, none, none, none, none], [.int (-1)], hp X G q33.2)) rfl ?_
        obtain rfl := Option.some.inj hf
        exact ab_U.ret rfl rfl ⟨rfl, rfl⟩
set_option maxRecDepth 20000 in
def f_X8_torn (F : Nat)   (μ : fm_M) : Option (Int32 × fm_M) := some ((μ.1 100 12), μ)
set_option maxRecDepth 20000 in
theorem t_X8_torn {X : Nat × (Nat → Int32)} {G : Nat → Nat → Option Nat} (hG : fm_Gok G) {F : Nat}    {μ : fm_M} {r : Int32 × fm_M} (hf : f_X8_torn F  μ = some r) : ab_F 1 116 [.ref 100] (hp X G μ) (some (.int r.1)) (hp X G r.2) := by
  unfold f_X8_torn at hf
  refine ab_T.of (d := 0) rfl (Nat.le_of_ble_eq_true rfl) ?_
  show ab_U _ _ kX8_torn (0, [some (.ref 100)], [], hp X G μ) _
  refine ab_U.run 2 (S' := (4, [some (.ref 100)], [.int (μ.1 100 12)], hp X G μ)) rfl ?_
  obtain rfl := Option.some.inj hf
  exact ab_U.ret rfl rfl ⟨rfl, rfl⟩
set_option maxRecDepth 20000 in
def f_X8_count (F : Nat)  (x0 : Int32) (μ : fm_M) : Option (Int32 × fm_M) := (if x0.toInt < 0 ∨ 6 < x0.toInt then some ((-1), μ) else (if x0.toInt = 0 then some ((μ.1 125 0), μ) else (if x0.toInt = 1 then (if ab_in 0 2 = true then (if (μ.2.1 122 (0 : Int32).toNatClampNeg) = 0 then (if ab_in 1 2 = true then (if (μ.2.1 122 (1 : Int32).toNatClampNeg) = 0 then some ((0 + 0), μ) else some ((0 + 1), μ)) else none) else (if ab_in 1 2 = true then (if (μ.2.1 122 (1 : Int32).toNatClampNeg) = 0 then some ((1 + 0), μ) else some ((1 + 1), μ)) else none)) else none) else (if x0.toInt = 2 then some ((μ.1 123 1), μ) else (if x0.toInt = 3 then (if ab_in 0 4 = true then (Option.bind (f_X3_isThere F 224 μ) (fun q13 => (if q13.1 = 0 then some ((-4), q13.2) else (if ab_in 0 4 = true then some ((q13.2.1 224 1), q13.2) else none)))) else none) else (if x0.toInt = 4 then (Option.bind (f_X7_countWarm F 101 μ) (fun q18 => some (q18.1, q18.2))) else (if x0.toInt = 5 then (Option.bind (f_X7_allWarmth F 101 μ) (fun q21 => some (q21.1, q21.2))) else (Option.bind (f_X7_allDebts F 101 μ) (fun q24 => some (q24.1, q24.2))))))))))
set_option maxRecDepth 20000 in
theorem t_X8_count {X : Nat × (Nat → Int32)} {G : Nat → Nat → Option Nat} (hG : fm_Gok G) {F : Nat}   {x0 : Int32} {μ : fm_M} {r : Int32 × fm_M} (hf : f_X8_count F x0 μ = some r) : ab_F 3 117 [.ref 100, .int x0] (hp X G μ) (some (.int r.1)) (hp X G r.2) := by
  unfold f_X8_count at hf
  refine ab_T.of (d := 2) rfl (Nat.le_of_ble_eq_true rfl) ?_
  show ab_U _ _ kX8_count (0, [some (.ref 100), some (.int x0)], [], hp X G μ) _
  refine ab_U.run 1 (S' := (1, [some (.ref 100), some (.int x0)], [.int x0], hp X G μ)) rfl ?_
  by_cases b1 : x0.toInt < 0 ∨ 6 < x0.toInt
  · rw [if_pos b1] at hf
    refine ab_U.tswD rfl b1 ?_
    refine ab_U.run 1 (S' := (142, [some (.ref 100), some (.int x0)], [.int (-1)], hp X G μ)) rfl ?_
    obtain rfl := Option.some.inj hf
    exact ab_U.ret rfl rfl ⟨rfl, rfl⟩
  · rw [if_neg b1] at hf
    by_cases b2 : x0.toInt = 0
    · rw [if_pos b2] at hf
      refine ab_U.tswT (t := 44) rfl b1 (by rw [b2]; rfl) ?_
      refine ab_U.run 3 (S' := (51, [some (.ref 100), some (.int x0)], [.int (μ.1 125 0)], hp X G μ)) rfl ?_
      obtain rfl := Option.some.inj hf
      exact ab_U.ret rfl rfl ⟨rfl, rfl⟩
    · rw [if_neg b2] at hf
      by_cases b3 : x0.toInt = 1
      · rw [if_pos b3] at hf
        refine ab_U.tswT (t := 52) rfl b1 (by rw [b3]; rfl) ?_
        refine ab_U.run 3 (S' := (57, [some (.ref 100), some (.int x0)], [.int 0, .ref 122], hp X G μ)) rfl ?_
        obtain ⟨c4, hf⟩ := ab_ifs hf
        refine ab_U.baldZ (n := 2) rfl ⟨by decide, rfl⟩ c4 ?_
        show ab_U _ _ _ (58, [some (.ref 100), some (.int x0)], [.int (μ.2.1 122 (0 : Int32).toNatClampNeg)], hp X G μ) _
        refine ab_U.if_eq rfl (fun b5 => ?_) (fun b5 => ?_)
        · rw [if_pos b5] at hf
          refine ab_U.run 4 (S' := (71, [some (.ref 100), some (.int x0)], [.int 1, .ref 122, .int 0], hp X G μ)) rfl ?_
          obtain ⟨c6, hf⟩ := ab_ifs hf
          refine ab_U.baldZ (n := 2) rfl ⟨by decide, rfl⟩ c6 ?_
          show ab_U _ _ _ (72, [some (.ref 100), some (.int x0)], [.int (μ.2.1 122 (1 : Int32).toNatClampNeg), .int 0], hp X G μ) _
          refine ab_U.if_eq rfl (fun b7 => ?_) (fun b7 => ?_)
          · rw [if_pos b7] at hf
            refine ab_U.run 2 (S' := (81, [some (.ref 100), some (.int x0)], [.int (0 + 0)], hp X G μ)) rfl ?_
            obtain rfl := Option.some.inj hf
            exact ab_U.ret rfl rfl ⟨rfl, rfl⟩
          · rw [if_neg b7] at hf
            refine ab_U.run 3 (S' := (81, [some (.ref 100), some (.int x0)], [.int (0 + 1)], hp X G μ)) rfl ?_
            obtain rfl := Option.some.inj hf
            exact ab_U.ret rfl rfl ⟨rfl, rfl⟩
        · rw [if_neg b5] at hf
          refine ab_U.run 5 (S' := (71, [some (.ref 100), some (.int x0)], [.int 1, .ref 122, .int 1], hp X G μ)) rfl ?_
          obtain ⟨c8, hf⟩ := ab_ifs hf
          refine ab_U.baldZ (n := 2) rfl ⟨by decide, rfl⟩ c8 ?_
          show ab_U _ _ _ (72, [some (.ref 100), some (.int x0)], [.int (μ.2.1 122 (1 : Int32).toNatClampNeg), .int 1], hp X G μ) _
          refine ab_U.if_eq rfl (fun b9 => ?_) (fun b9 => ?_)
          · rw [if_pos b9] at hf
            refine ab_U.run 2 (S' := (81, [some (.ref 100), some (.int x0)], [.int (1 + 0)], hp X G μ)) rfl ?_
            obtain rfl := Option.some.inj hf
            exact ab_U.ret rfl rfl ⟨rfl, rfl⟩
          · rw [if_neg b9] at hf
            refine ab_U.run 3 (S' := (81, [some (.ref 100), some (.int x0)], [.int (1 + 1)], hp X G μ)) rfl ?_
            obtain rfl := Option.some.inj hf
            exact ab_U.ret rfl rfl ⟨rfl, rfl⟩
      · rw [if_neg b3] at hf
        by_cases b10 : x0.toInt = 2
        · rw [if_pos b10] at hf
          refine ab_U.tswT (t := 82) rfl b1 (by rw [b10]; rfl) ?_
          refine ab_U.run 3 (S' := (89, [some (.ref 100), some (.int x0)], [.int (μ.1 123 1)], hp X G μ)) rfl ?_
          obtain rfl := Option.some.inj hf
          exact ab_U.ret rfl rfl ⟨rfl, rfl⟩
        · rw [if_neg b10] at hf
          by_cases b11 : x0.toInt = 3
          · rw [if_pos b11] at hf
            refine ab_U.tswT (t := 90) rfl b1 (by rw [b11]; rfl) ?_
            refine ab_U.run 3 (S' := (95, [some (.ref 100), some (.int x0)], [.int 0, .ref 128], hp X G μ)) rfl ?_
            obtain ⟨c12, hf⟩ := ab_ifs hf
            refine ab_U.aaldG (n := 4) (ty := .object "TepidPurse$Sheet") (v := 224) hG rfl ⟨by decide, rfl⟩ rfl c12 rfl rfl ?_
            obtain ⟨q13, h14, hf⟩ := ab_bnd hf
            refine ab_U.fn rfl rfl (t_X3_isThere (X := X) hG (by decide) h14) (by omega) ?_
            show ab_U _ _ _ (99, [some (.ref 100), some (.int x0)], [.int q13.1], hp X G q13.2) _
            refine ab_U.if_eq rfl (fun b15 => ?_) (fun b15 => ?_)
            · rw [if_pos b15] at hf
              refine ab_U.run 1 (S' := (116, [some (.ref 100), some (.int x0)], [.int (-4)], hp X G q13.2)) rfl ?_
              obtain rfl := Option.some.inj hf
              exact ab_U.ret rfl rfl ⟨rfl, rfl⟩
            · rw [if_neg b15] at hf
              refine ab_U.run 3 (S' := (107, [some (.ref 100), some (.int x0)], [.int 0, .ref 128], hp X G q13.2)) rfl ?_
              obtain ⟨c16, hf⟩ := ab_ifs hf
              refine ab_U.aaldG (n := 4) (ty := .object "TepidPurse$Sheet") (v := 224) hG rfl ⟨by decide, rfl⟩ rfl c16 rfl rfl ?_
              refine ab_U.run 2 (S' := (116, [some (.ref 100), some (.int x0)], [.int (q13.2.1 224 1)], hp X G q13.2)) rfl ?_
              obtain rfl := Option.some.inj hf
              exact ab_U.ret rfl rfl ⟨rfl, rfl⟩
          · rw [if_neg b11] at hf
            by_cases b17 : x0.toInt = 4
            · rw [if_pos b17] at hf
              refine ab_U.tswT (t := 117) rfl b1 (by rw [b17]; rfl) ?_
              refine ab_U.run 2 (S' := (121, [some (.ref 100), some (.int x0)], [.ref 101], hp X G μ)) rfl ?_
              obtain ⟨q18, h19, hf⟩ := ab_bnd hf
              refine ab_U.fn rfl rfl (t_X7_countWarm (X := X) hG (by decide) h19) (by omega) ?_
              show ab_U _ _ _ (124, [some (.ref 100), some (.int x0)], [.int q18.1], hp X G q18.2) _
              obtain rfl := Option.some.inj hf
              exact ab_U.ret rfl rfl ⟨rfl, rfl⟩
            · rw [if_neg b17] at hf
              by_cases b20 : x0.toInt = 5
              · rw [if_pos b20] at hf
                refine ab_U.tswT (t := 125) rfl b1 (by rw [b20]; rfl) ?_
                refine ab_U.run 2 (S' := (129, [some (.ref 100), some (.int x0)], [.ref 101], hp X G μ)) rfl ?_
                obtain ⟨q21, h22, hf⟩ := ab_bnd hf
                refine ab_U.fn rfl rfl (t_X7_allWarmth (X := X) hG (by decide) h22) (by omega) ?_
                show ab_U _ _ _ (132, [some (.ref 100), some (.int x0)], [.int q21.1], hp X G q21.2) _
                obtain rfl := Option.some.inj hf
                exact ab_U.ret rfl rfl ⟨rfl, rfl⟩
              · rw [if_neg b20] at hf
                have b23 : x0.toInt = 6 := by omega
                refine ab_U.tswT (t := 133) rfl b1 (by rw [b23]; rfl) ?_
                refine ab_U.run 2 (S' := (137, [some (.ref 100), some (.int x0)], [.ref 101], hp X G μ)) rfl ?_
                obtain ⟨q24, h25, hf⟩ := ab_bnd hf
                refine ab_U.fn rfl rfl (t_X7_allDebts (X := X) hG (by decide) h25) (by omega) ?_
                show ab_U _ _ _ (140, [some (.ref 100), some (.int x0)], [.int q24.1], hp X G q24.2) _
                obtain rfl := Option.some.inj hf
                exact ab_U.ret rfl rfl ⟨rfl, rfl⟩
set_option maxRecDepth 20000 in
def f_X9_in (F : Nat)  (x0 : Int64) (x1 : Int64) (x2 : Int64) (μ : fm_M) : Option (Int32 × fm_M) := (if (lg_cmp x0 x1) < 0 then some (0, μ) else (if 0 < (lg_cmp x0 x2) then some (0, μ) else some (1, μ)))
set_option maxRecDepth 20000 in
theorem t_X9_in {X : Nat × (Nat → Int32)} {G : Nat → Nat → Option Nat} (hG : fm_Gok G) {F : Nat}   {x0 : Int64} {x1 : Int64} {x2 : Int64} {μ : fm_M} {r : Int32 × fm_M} (hf : f_X9_in F x0 x1 x2 μ = some r) : ab_F 1 135 [.long x0, .long x1, .long x2] (hp X G μ) (some (.int r.1)) (hp X G r.2) := by
  unfold f_X9_in at hf
  refine ab_T.of (d := 0) rfl (Nat.le_of_ble_eq_true rfl) ?_
  show ab_U _ _ kX9_in (0, [some (.long x0), none, some (.long x1), none, some (.long x2), none], [], hp X G μ) _
  refine ab_U.run 3 (S' := (3, [some (.long x0), none, some (.long x1), none, some (.long x2), none], [.int (lg_cmp x0 x1)], hp X G μ)) rfl ?_
  refine ab_U.if_lt rfl (fun b1 => ?_) (fun b1 => ?_)
  · rw [if_pos b1] at hf
    refine ab_U.run 1 (S' := (18, [some (.long x0), none, some (.long x1), none, some (.long x2), none], [.int 0], hp X G μ)) rfl ?_
    obtain rfl := Option.some.inj hf
    exact ab_U.ret rfl rfl ⟨rfl, rfl⟩
  · rw [if_neg b1] at hf
    refine ab_U.run 3 (S' := (10, [some (.long x0), none, some (.long x1), none, some (.long x2), none], [.int (lg_cmp x0 x2)], hp X G μ)) rfl ?_
    refine ab_U.if_gt rfl (fun b2 => ?_) (fun b2 => ?_)
    · rw [if_pos b2] at hf
      refine ab_U.run 1 (S' := (18, [some (.long x0), none, some (.long x1), none, some (.long x2), none], [.int 0], hp X G μ)) rfl ?_
      obtain rfl := Option.some.inj hf
      exact ab_U.ret rfl rfl ⟨rfl, rfl⟩
    · rw [if_neg b2] at hf
      refine ab_U.run 2 (S' := (18, [some (.long x0), none, some (.long x1), none, some (.long x2), none], [.int 1], hp X G μ)) rfl ?_
      obtain rfl := Option.some.inj hf
      exact ab_U.ret rfl rfl ⟨rfl, rfl⟩
set_option maxRecDepth 20000 in
def f_X9_feed (F : Nat)  (x0 : Int32) (μ : fm_M) : Option (Int32 × fm_M) := (Option.bind (f_X9_in F ((x0).toInt64) (Int64.ofNat 0) (Int64.ofNat 127) μ) (fun q1 => (if ¬ q1.1 = 0 then (if ¬ (q1.2.1 232 13) = 160 then (if ab_in (q1.2.1 232 13) 160 = true then (Option.bind (some (fm_sA q1.2 238 (upd (q1.2.2.1 238) (q1.2.1 232 13).toNatClampNeg x0))) (fun m6 => (Option.bind (some (fm_sI m6 232 13 ((m6.1 232 13) + 1))) (fun m8 => some ((m8.1 232 13), m8))))) else none) else some ((-3), q1.2)) else some ((-1), q1.2))))
set_option maxRecDepth 20000 in
theorem t_X9_feed {X : Nat × (Nat → Int32)} {G : Nat → Nat → Option Nat} (hG : fm_Gok G) {F : Nat}   {x0 : Int32} {μ : fm_M} {r : Int32 × fm_M} (hf : f_X9_feed F x0 μ = some r) : ab_F 2 136 [.ref 232, .int x0] (hp X G μ) (some (.int r.1)) (hp X G r.2) := by
  unfold f_X9_feed at hf
  refine ab_T.of (d := 1) rfl (Nat.le_of_ble_eq_true rfl) ?_
  show ab_U _ _ kX9_feed (0, [some (.ref 232), some (.int x0)], [], hp X G μ) _
  refine ab_U.run 4 (S' := (6, [some (.ref 232), some (.int x0)], [.long (Int64.ofNat 127), .long (Int64.ofNat 0), .long (x0).toInt64], hp X G μ)) rfl ?_
  obtain ⟨q1, h2, hf⟩ := ab_bnd hf
  refine ab_U.fn rfl rfl (t_X9_in (X := X) hG h2) (by omega) ?_
  show ab_U _ _ _ (9, [some (.ref 232), some (.int x0)], [.int q1.1], hp X G q1.2) _
  refine ab_U.if_ne rfl (fun b3 => ?_) (fun b3 => ?_)
  · rw [if_pos b3] at hf
    refine ab_U.run 3 (S' := (21, [some (.ref 232), some (.int x0)], [.int 160, .int (q1.2.1 232 13)], hp X G q1.2)) rfl ?_
    refine ab_U.ic_ne rfl (fun b4 => ?_) (fun b4 => ?_)
    · rw [if_pos b4] at hf
      refine ab_U.run 5 (S' := (36, [some (.ref 232), some (.int x0)], [.int x0, .int (q1.2.1 232 13), .ref 238], hp X G q1.2)) rfl ?_
      obtain ⟨c5, hf⟩ := ab_ifs hf
      obtain ⟨m6, e7, hf⟩ := ab_bnd hf
      have e7 := Option.some.inj e7
      refine ab_U.iast (n := 160) rfl ⟨by decide, rfl⟩ c5 ?_
      show ab_U _ _ _ (37, [some (.ref 232), some (.int x0)], [], hp X G (fm_sA q1.2 238 (upd (q1.2.2.1 238) (q1.2.1 232 13).toNatClampNeg x0))) _
      rw [e7]
      refine ab_U.run 5 (S' := (44, [some (.ref 232), some (.int x0)], [.int ((m6.1 232 13) + 1), .ref 232], hp X G m6)) rfl ?_
      obtain ⟨m8, e9, hf⟩ := ab_bnd hf
      have e9 := Option.some.inj e9
      refine ab_U.pfI (ci := 9) (k9 := 13) rfl ⟨by decide, rfl⟩ ⟨rfl, rfl, by decide, rfl⟩ rfl ?_
      show ab_U _ _ _ (47, [some (.ref 232), some (.int x0)], [], hp X G (fm_sI m6 232 13 ((m6.1 232 13) + 1))) _
      rw [e9]
      refine ab_U.run 2 (S' := (51, [some (.ref 232), some (.int x0)], [.int (m8.1 232 13)], hp X G m8)) rfl ?_
      obtain rfl := Option.some.inj hf
      exact ab_U.ret rfl rfl ⟨rfl, rfl⟩
    · rw [if_neg b4] at hf
      refine ab_U.run 1 (S' := (26, [some (.ref 232), some (.int x0)], [.int (-3)], hp X G q1.2)) rfl ?_
      obtain rfl := Option.some.inj hf
      exact ab_U.ret rfl rfl ⟨rfl, rfl⟩
  · rw [if_neg b3] at hf
    refine ab_U.run 1 (S' := (13, [some (.ref 232), some (.int x0)], [.int (-1)], hp X G q1.2)) rfl ?_
    obtain rfl := Option.some.inj hf
    exact ab_U.ret rfl rfl ⟨rfl, rfl⟩
set_option maxRecDepth 20000 in
def f_X9_end (F : Nat)  (x0 : Int32) (μ : fm_M) : Option (Int32 × fm_M) := (Option.bind (f_X9_in F ((x0).toInt64) (Int64.ofNat 0) (((μ.1 232 13)).toInt64) μ) (fun q1 => (if ¬ q1.1 = 0 then (Option.bind (some (fm_sI q1.2 232 13 x0)) (fun m4 => some ((q1.2.1 232 13), m4))) else some ((-1), q1.2))))
set_option maxRecDepth 20000 in
theorem t_X9_end {X : Nat × (Nat → Int32)} {G : Nat → Nat → Option Nat} (hG : fm_Gok G) {F : Nat}   {x0 : Int32} {μ : fm_M} {r : Int32 × fm_M} (hf : f_X9_end F x0 μ = some r) : ab_F 2 137 [.ref 232, .int x0] (hp X G μ) (some (.int r.1)) (hp X G r.2) := by
  unfold f_X9_end at hf
  refine ab_T.of (d := 1) rfl (Nat.le_of_ble_eq_true rfl) ?_
  show ab_U _ _ kX9_end (0, [some (.ref 232), some (.int x0), none], [], hp X G μ) _
  refine ab_U.run 6 (S' := (8, [some (.ref 232), some (.int x0), none], [.long ((μ.1 232 13)).toInt64, .long (Int64.ofNat 0), .long (x0).toInt64], hp X G μ)) rfl ?_
  obtain ⟨q1, h2, hf⟩ := ab_bnd hf
  refine ab_U.fn rfl rfl (t_X9_in (X := X) hG h2) (by omega) ?_
  show ab_U _ _ _ (11, [some (.ref 232), some (.int x0), none], [.int q1.1], hp X G q1.2) _
  refine ab_U.if_ne rfl (fun b3 => ?_) (fun b3 => ?_)
  · rw [if_pos b3] at hf
    refine ab_U.run 5 (S' := (23, [some (.ref 232), some (.int x0), some (.int (q1.2.1 232 13))], [.int x0, .ref 232], hp X G q1.2)) rfl ?_
    obtain ⟨m4, e5, hf⟩ := ab_bnd hf
    have e5 := Option.some.inj e5
    refine ab_U.pfI (ci := 9) (k9 := 13) rfl ⟨by decide, rfl⟩ ⟨rfl, rfl, by decide, rfl⟩ rfl ?_
    show ab_U _ _ _ (26, [some (.ref 232), some (.int x0), some (.int (q1.2.1 232 13))], [], hp X G (fm_sI q1.2 232 13 x0)) _
    rw [e5]
    refine ab_U.run 1 (S' := (27, [some (.ref 232), some (.int x0), some (.int (q1.2.1 232 13))], [.int (q1.2.1 232 13)], hp X G m4)) rfl ?_
    obtain rfl := Option.some.inj hf
    exact ab_U.ret rfl rfl ⟨rfl, rfl⟩
  · rw [if_neg b3] at hf
    refine ab_U.run 1 (S' := (15, [some (.ref 232), some (.int x0), none], [.int (-1)], hp X G q1.2)) rfl ?_
    obtain rfl := Option.some.inj hf
    exact ab_U.ret rfl rfl ⟨rfl, rfl⟩
set_option maxRecDepth 20000 in
def f_X9_byteAt (F : Nat)  (x0 : Int32) (μ : fm_M) : Option (Int32 × fm_M) := (if (μ.1 232 13) ≤ x0 then some ((-4), μ) else (if ab_in x0 160 = true then some ((μ.2.1 238 x0.toNatClampNeg), μ) else none))
set_option maxRecDepth 20000 in
theorem t_X9_byteAt {X : Nat × (Nat → Int32)} {G : Nat → Nat → Option Nat} (hG : fm_Gok G) {F : Nat}   {x0 : Int32} {μ : fm_M} {r : Int32 × fm_M} (hf : f_X9_byteAt F x0 μ = some r) : ab_F 1 138 [.ref 232, .int x0] (hp X G μ) (some (.int r.1)) (hp X G r.2) := by
  unfold f_X9_byteAt at hf
  refine ab_T.of (d := 0) rfl (Nat.le_of_ble_eq_true rfl) ?_
  show ab_U _ _ kX9_byteAt (0, [some (.ref 232), some (.int x0)], [], hp X G μ) _
  refine ab_U.run 3 (S' := (5, [some (.ref 232), some (.int x0)], [.int (μ.1 232 13), .int x0], hp X G μ)) rfl ?_
  refine ab_U.ic_ge rfl (fun b1 => ?_) (fun b1 => ?_)
  · rw [if_pos b1] at hf
    refine ab_U.run 1 (S' := (19, [some (.ref 232), some (.int x0)], [.int (-4)], hp X G μ)) rfl ?_
    obtain rfl := Option.some.inj hf
    exact ab_U.ret rfl rfl ⟨rfl, rfl⟩
  · rw [if_neg b1] at hf
    refine ab_U.run 3 (S' := (13, [some (.ref 232), some (.int x0)], [.int x0, .ref 238], hp X G μ)) rfl ?_
    obtain ⟨c2, hf⟩ := ab_ifs hf
    refine ab_U.iald (n := 160) rfl ⟨by decide, rfl⟩ c2 ?_
    show ab_U _ _ _ (14, [some (.ref 232), some (.int x0)], [.int (μ.2.1 238 x0.toNatClampNeg)], hp X G μ) _
    refine ab_U.run 1 (S' := (19, [some (.ref 232), some (.int x0)], [.int (μ.2.1 238 x0.toNatClampNeg)], hp X G μ)) rfl ?_
    obtain rfl := Option.some.inj hf
    exact ab_U.ret rfl rfl ⟨rfl, rfl⟩
set_option maxRecDepth 20000 in
def f_X9_fails (F : Nat)  (x0 : Int32) (μ : fm_M) : Option (Unit × fm_M) := (if ¬ (μ.1 232 15) = 0 then some ((), μ) else (Option.bind (some (fm_sI μ 232 15 x0)) (fun m2 => (Option.bind (some (fm_sI m2 232 16 (m2.1 232 18))) (fun m4 => some ((), m4))))))
set_option maxRecDepth 20000 in
theorem t_X9_fails {X : Nat × (Nat → Int32)} {G : Nat → Nat → Option Nat} (hG : fm_Gok G) {F : Nat}   {x0 : Int32} {μ : fm_M} {r : Unit × fm_M} (hf : f_X9_fails F x0 μ = some r) : ab_F 1 139 [.ref 232, .int x0] (hp X G μ) none (hp X G r.2) := by
  unfold f_X9_fails at hf
  refine ab_T.of (d := 0) rfl (Nat.le_of_ble_eq_true rfl) ?_
  show ab_U _ _ kX9_fails (0, [some (.ref 232), some (.int x0)], [], hp X G μ) _
  refine ab_U.run 2 (S' := (4, [some (.ref 232), some (.int x0)], [.int (μ.1 232 15)], hp X G μ)) rfl ?_
  refine ab_U.if_ne rfl (fun b1 => ?_) (fun b1 => ?_)
  · rw [if_pos b1] at hf
    obtain rfl := Option.some.inj hf
    exact ab_U.ret rfl rfl ⟨rfl, rfl⟩
  · rw [if_neg b1] at hf
    refine ab_U.run 2 (S' := (9, [some (.ref 232), some (.int x0)], [.int x0, .ref 232], hp X G μ)) rfl ?_
    obtain ⟨m2, e3, hf⟩ := ab_bnd hf
    have e3 := Option.some.inj e3
    refine ab_U.pfI (ci := 9) (k9 := 15) rfl ⟨by decide, rfl⟩ ⟨rfl, rfl, by decide, rfl⟩ rfl ?_
    show ab_U _ _ _ (12, [some (.ref 232), some (.int x0)], [], hp X G (fm_sI μ 232 15 x0)) _
    rw [e3]
    refine ab_U.run 3 (S' := (17, [some (.ref 232), some (.int x0)], [.int (m2.1 232 18), .ref 232], hp X G m2)) rfl ?_
    obtain ⟨m4, e5, hf⟩ := ab_bnd hf
    have e5 := Option.some.inj e5
    refine ab_U.pfI (ci := 9) (k9 := 16) rfl ⟨by decide, rfl⟩ ⟨rfl, rfl, by decide, rfl⟩ rfl ?_
    show ab_U _ _ _ (20, [some (.ref 232), some (.int x0)], [], hp X G (fm_sI m2 232 16 (m2.1 232 18))) _
    rw [e5]
    obtain rfl := Option.some.inj hf
    exact ab_U.ret rfl rfl ⟨rfl, rfl⟩
set_option maxRecDepth 20000 in
def b_X9_nameHere_2 (F : Nat)  (gg : Nat → Int32 → Int32 → Int32 → fm_M → Option (Int32 × fm_M)) (l1 : Int32) (l2 : Int32) (l3 : Int32) (μ : fm_M) : Option (Int32 × fm_M) := (if 9 ≤ l1 then some ((-4), μ) else (if ¬ (μ.1 232 19) = 1 then some ((-4), μ) else (if ab_in (l1 + 1) 10 = true then (if ab_in l1 10 = true then (if ¬ ((μ.1 232 17) - (μ.1 232 18)) = ((μ.2.1 239 (l1 + 1).toNatClampNeg) - (μ.2.1 239 l1.toNatClampNeg)) then gg 51 l1 0 0 μ else gg 51 l1 1 0 μ) else none) else none)))
set_option maxRecDepth 20000 in
def b_X9_nameHere_51 (F : Nat)  (gg : Nat → Int32 → Int32 → Int32 → fm_M → Option (Int32 × fm_M)) (l1 : Int32) (l2 : Int32) (l3 : Int32) (μ : fm_M) : Option (Int32 × fm_M) := (if l2 = 0 then (if l2 = 0 then gg 2 (l1 + 1) 0 0 μ else some (l1, μ)) else (if ((μ.1 232 17) - (μ.1 232 18)) ≤ l3 then (if l2 = 0 then gg 2 (l1 + 1) 0 0 μ else some (l1, μ)) else (Option.bind (f_X9_byteAt F ((μ.1 232 18) + l3) μ) (fun q10 => (if ab_in l1 10 = true then (if ab_in ((q10.2.2.1 239 l1.toNatClampNeg) + l3) 39 = true then (if ¬ q10.1 = (q10.2.2.1 240 ((q10.2.2.1 239 l1.toNatClampNeg) + l3).toNatClampNeg) then gg 51 l1 0 (l3 + 1) q10.2 else gg 51 l1 1 (l3 + 1) q10.2) else none) else none)))))
def g_X9_nameHere (F : Nat)  : Nat → Nat → Int32 → Int32 → Int32 → fm_M → Option (Int32 × fm_M)
  | 0, _, _, _, _, _ => none
  | n + 1, pc, l1, l2, l3, μ => if pc = 2 then b_X9_nameHere_2 F  (g_X9_nameHere F  n) l1 l2 l3 μ else if pc = 51 then b_X9_nameHere_51 F  (g_X9_nameHere F  n) l1 l2 l3 μ else none
set_option maxRecDepth 20000 in
theorem t_X9_nameHere_g {X : Nat × (Nat → Int32)} {G : Nat → Nat → Option Nat} (hG : fm_Gok G) {F : Nat}    : ∀ n : Nat, (∀ (l1 : Int32) (l2 : Int32) (l3 : Int32) (μ : fm_M) (r : Int32 × fm_M), g_X9_nameHere F  n 2 l1 l2 l3 μ = some r → ab_U 1 (some .int) kX9_nameHere (2, [some (.ref 232), some (.int l1), none, none], [], hp X G μ) (fun r9 h9 => r9 = some (.int r.1) ∧ h9 = hp X G r.2)) ∧ (∀ (l1 : Int32) (l2 : Int32) (l3 : Int32) (μ : fm_M) (r : Int32 × fm_M), g_X9_nameHere F  n 51 l1 l2 l3 μ = some r → ab_U 1 (some .int) kX9_nameHere (51, [some (.ref 232), some (.int l1), some (.int l2), some (.int l3)], [], hp X G μ) (fun r9 h9 => r9 = some (.int r.1) ∧ h9 = hp X G r.2))
  | 0 => by
    refine ⟨?_, ?_⟩
    all_goals (intros; rename_i h; cases h)
  | n + 1 => by
    have ih := t_X9_nameHere_g (X := X) hG (F := F)   n
    refine ⟨?_, ?_⟩
    · intro l1 l2 l3 μ r hf
      have hf : b_X9_nameHere_2 F  (g_X9_nameHere F  n) l1 l2 l3 μ = some r := hf
      unfold b_X9_nameHere_2 at hf
      refine ab_U.run 2 (S' := (5, [some (.ref 232), some (.int l1), none, none], [.int 9, .int l1], hp X G μ)) rfl ?_
      refine ab_U.ic_ge rfl (fun b1 => ?_) (fun b1 => ?_)
      · rw [if_pos b1] at hf
        refine ab_U.run 1 (S' := (120, [some (.ref 232), some (.int l1), none, none], [.int (-4)], hp X G μ)) rfl ?_
        obtain rfl := Option.some.inj hf
        exact ab_U.ret rfl rfl ⟨rfl, rfl⟩
      · rw [if_neg b1] at hf
        refine ab_U.run 3 (S' := (13, [some (.ref 232), some (.int l1), none, none], [.int 1, .int (μ.1 232 19)], hp X G μ)) rfl ?_
        refine ab_U.ic_ne rfl (fun b2 => ?_) (fun b2 => ?_)
        · rw [if_pos b2] at hf
          refine ab_U.run 1 (S' := (120, [some (.ref 232), some (.int l1), none, none], [.int (-4)], hp X G μ)) rfl ?_
          obtain rfl := Option.some.inj hf
          exact ab_U.ret rfl rfl ⟨rfl, rfl⟩
        · rw [if_neg b2] at hf
          refine ab_U.run 10 (S' := (32, [some (.ref 232), some (.int l1), none, none], [.int (l1 + 1), .ref 239, .int ((μ.1 232 17) - (μ.1 232 18))], hp X G μ)) rfl ?_
          obtain ⟨c3, hf⟩ := ab_ifs hf
          refine ab_U.iald (n := 10) rfl ⟨by decide, rfl⟩ c3 ?_
          show ab_U _ _ _ (33, [some (.ref 232), some (.int l1), none, none], [.int (μ.2.1 239 (l1 + 1).toNatClampNeg), .int ((μ.1 232 17) - (μ.1 232 18))], hp X G μ) _
          refine ab_U.run 3 (S' := (38, [some (.ref 232), some (.int l1), none, none], [.int l1, .ref 239, .int (μ.2.1 239 (l1 + 1).toNatClampNeg), .int ((μ.1 232 17) - (μ.1 232 18))], hp X G μ)) rfl ?_
          obtain ⟨c4, hf⟩ := ab_ifs hf
          refine ab_U.iald (n := 10) rfl ⟨by decide, rfl⟩ c4 ?_
          show ab_U _ _ _ (39, [some (.ref 232), some (.int l1), none, none], [.int (μ.2.1 239 l1.toNatClampNeg), .int (μ.2.1 239 (l1 + 1).toNatClampNeg), .int ((μ.1 232 17) - (μ.1 232 18))], hp X G μ) _
          refine ab_U.run 1 (S' := (40, [some (.ref 232), some (.int l1), none, none], [.int ((μ.2.1 239 (l1 + 1).toNatClampNeg) - (μ.2.1 239 l1.toNatClampNeg)), .int ((μ.1 232 17) - (μ.1 232 18))], hp X G μ)) rfl ?_
          refine ab_U.ic_ne rfl (fun b5 => ?_) (fun b5 => ?_)
          · rw [if_pos b5] at hf
            refine ab_U.run 4 (S' := (51, [some (.ref 232), some (.int l1), some (.int 0), some (.int 0)], [], hp X G μ)) rfl ?_
            exact ab_U.weak (ih.2 _ _ _ _ _ hf) (ab_leL.of ⟨rfl, ⟨rfl, ⟨rfl, ⟨rfl, trivial⟩⟩⟩⟩)
          · rw [if_neg b5] at hf
            refine ab_U.run 5 (S' := (51, [some (.ref 232), some (.int l1), some (.int 1), some (.int 0)], [], hp X G μ)) rfl ?_
            exact ab_U.weak (ih.2 _ _ _ _ _ hf) (ab_leL.of ⟨rfl, ⟨rfl, ⟨rfl, ⟨rfl, trivial⟩⟩⟩⟩)
    · intro l1 l2 l3 μ r hf
      have hf : b_X9_nameHere_51 F  (g_X9_nameHere F  n) l1 l2 l3 μ = some r := hf
      unfold b_X9_nameHere_51 at hf
      refine ab_U.run 1 (S' := (52, [some (.ref 232), some (.int l1), some (.int l2), some (.int l3)], [.int l2], hp X G μ)) rfl ?_
      refine ab_U.if_eq rfl (fun b6 => ?_) (fun b6 => ?_)
      · rw [if_pos b6] at hf
        refine ab_U.run 1 (S' := (107, [some (.ref 232), some (.int l1), some (.int l2), some (.int l3)], [.int l2], hp X G μ)) rfl ?_
        refine ab_U.if_eq rfl (fun b7 => ?_) (fun b7 => ?_)
        · rw [if_pos b7] at hf
          refine ab_U.run 2 (S' := (2, [some (.ref 232), some (.int (l1 + 1)), some (.int l2), some (.int l3)], [], hp X G μ)) rfl ?_
          exact ab_U.weak (ih.1 _ _ _ _ _ hf) (ab_leL.of ⟨rfl, ⟨rfl, trivial⟩⟩)
        · rw [if_neg b7] at hf
          refine ab_U.run 1 (S' := (111, [some (.ref 232), some (.int l1), some (.int l2), some (.int l3)], [.int l1], hp X G μ)) rfl ?_
          obtain rfl := Option.some.inj hf
          exact ab_U.ret rfl rfl ⟨rfl, rfl⟩
      · rw [if_neg b6] at hf
        refine ab_U.run 6 (S' := (65, [some (.ref 232), some (.int l1), some (.int l2), some (.int l3)], [.int ((μ.1 232 17) - (μ.1 232 18)), .int l3], hp X G μ)) rfl ?_
        refine ab_U.ic_ge rfl (fun b8 => ?_) (fun b8 => ?_)
        · rw [if_pos b8] at hf
          refine ab_U.run 1 (S' := (107, [some (.ref 232), some (.int l1), some (.int l2), some (.int l3)], [.int l2], hp X G μ)) rfl ?_
          refine ab_U.if_eq rfl (fun b9 => ?_) (fun b9 => ?_)
          · rw [if_pos b9] at hf
            refine ab_U.run 2 (S' := (2, [some (.ref 232), some (.int (l1 + 1)), some (.int l2), some (.int l3)], [], hp X G μ)) rfl ?_
            exact ab_U.weak (ih.1 _ _ _ _ _ hf) (ab_leL.of ⟨rfl, ⟨rfl, trivial⟩⟩)
          · rw [if_neg b9] at hf
            refine ab_U.run 1 (S' := (111, [some (.ref 232), some (.int l1), some (.int l2), some (.int l3)], [.int l1], hp X G μ)) rfl ?_
            obtain rfl := Option.some.inj hf
            exact ab_U.ret rfl rfl ⟨rfl, rfl⟩
        · rw [if_neg b8] at hf
          refine ab_U.run 5 (S' := (75, [some (.ref 232), some (.int l1), some (.int l2), some (.int l3)], [.int ((μ.1 232 18) + l3), .ref 232], hp X G μ)) rfl ?_
          obtain ⟨q10, h11, hf⟩ := ab_bnd hf
          refine ab_U.fn rfl rfl (t_X9_byteAt (X := X) hG h11) (by omega) ?_
          show ab_U _ _ _ (78, [some (.ref 232), some (.int l1), some (.int l2), some (.int l3)], [.int q10.1], hp X G q10.2) _
          refine ab_U.run 5 (S' := (87, [some (.ref 232), some (.int l1), some (.int l2), some (.int l3)], [.int l1, .ref 239, .ref 240, .int q10.1], hp X G q10.2)) rfl ?_
          obtain ⟨c12, hf⟩ := ab_ifs hf
          refine ab_U.iald (n := 10) rfl ⟨by decide, rfl⟩ c12 ?_
          show ab_U _ _ _ (88, [some (.ref 232), some (.int l1), some (.int l2), some (.int l3)], [.int (q10.2.2.1 239 l1.toNatClampNeg), .ref 240, .int q10.1], hp X G q10.2) _
          refine ab_U.run 2 (S' := (90, [some (.ref 232), some (.int l1), some (.int l2), some (.int l3)], [.int ((q10.2.2.1 239 l1.toNatClampNeg) + l3), .ref 240, .int q10.1], hp X G q10.2)) rfl ?_
          obtain ⟨c13, hf⟩ := ab_ifs hf
          refine ab_U.iald (n := 39) rfl ⟨by decide, rfl⟩ c13 ?_
          show ab_U _ _ _ (91, [some (.ref 232), some (.int l1), some (.int l2), some (.int l3)], [.int (q10.2.2.1 240 ((q10.2.2.1 239 l1.toNatClampNeg) + l3).toNatClampNeg), .int q10.1], hp X G q10.2) _
          refine ab_U.ic_ne rfl (fun b14 => ?_) (fun b14 => ?_)
          · rw [if_pos b14] at hf
            refine ab_U.run 4 (S' := (51, [some (.ref 232), some (.int l1), some (.int 0), some (.int (l3 + 1))], [], hp X G q10.2)) rfl ?_
            exact ab_U.weak (ih.2 _ _ _ _ _ hf) (ab_leL.of ⟨rfl, ⟨rfl, ⟨rfl, ⟨rfl, trivial⟩⟩⟩⟩)
          · rw [if_neg b14] at hf
            refine ab_U.run 5 (S' := (51, [some (.ref 232), some (.int l1), some (.int 1), some (.int (l3 + 1))], [], hp X G q10.2)) rfl ?_
            exact ab_U.weak (ih.2 _ _ _ _ _ hf) (ab_leL.of ⟨rfl, ⟨rfl, ⟨rfl, ⟨rfl, trivial⟩⟩⟩⟩)
set_option maxRecDepth 20000 in
def f_X9_nameHere (F : Nat)   (μ : fm_M) : Option (Int32 × fm_M) := g_X9_nameHere F  F 2 0 0 0 μ
set_option maxRecDepth 20000 in
theorem t_X9_nameHere {X : Nat × (Nat → Int32)} {G : Nat → Nat → Option Nat} (hG : fm_Gok G) {F : Nat}    {μ : fm_M} {r : Int32 × fm_M} (hf : f_X9_nameHere F  μ = some r) : ab_F 2 140 [.ref 232] (hp X G μ) (some (.int r.1)) (hp X G r.2) := by
  unfold f_X9_nameHere at hf
  refine ab_T.of (d := 1) rfl (Nat.le_of_ble_eq_true rfl) ?_
  show ab_U _ _ kX9_nameHere (0, [some (.ref 232), none, none, none], [], hp X G μ) _
  refine ab_U.run 2 (S' := (2, [some (.ref 232), some (.int 0), none, none], [], hp X G μ)) rfl ?_
  exact ab_U.weak ((t_X9_nameHere_g (X := X) hG   F).1 _ _ _ _ _ hf) (ab_leL.of ⟨rfl, ⟨rfl, trivial⟩⟩)
set_option maxRecDepth 20000 in
def b_X9_step_8 (F : Nat)  (gg : Nat → fm_M → Option (Unit × fm_M))  (μ : fm_M) : Option (Unit × fm_M) := (Option.bind (f_X9_byteAt F (μ.1 232 17) μ) (fun q1 => (if ¬ q1.1 = 32 then (Option.bind (some (fm_sI q1.2 232 18 (q1.2.1 232 17))) (fun m4 => (Option.bind (f_X9_byteAt F (m4.1 232 17) m4) (fun q6 => (Option.bind (some (fm_sI q6.2 232 20 0)) (fun m8 => (if ¬ q6.1 = (-4) then (Option.bind (f_X9_in F ((q6.1).toInt64) (Int64.ofNat 97) (Int64.ofNat 122) m8) (fun q11 => (if q11.1 = 0 then (Option.bind (f_X9_in F ((q6.1).toInt64) (Int64.ofNat 48) (Int64.ofNat 57) q11.2) (fun q14 => (if q14.1 = 0 then (Option.bind (some (fm_sI q14.2 232 19 3)) (fun m17 => (Option.bind (some (fm_sI m17 232 17 ((m17.1 232 17) + 1))) (fun m19 => (if q6.1 = 59 then some ((), m19) else (Option.bind (f_X9_fails F 1 m19) (fun q22 => some ((), q22.2)))))))) else gg 140  q14.2))) else gg 84  q11.2))) else (Option.bind (some (fm_sI m8 232 19 0)) (fun m24 => some ((), m24)))))))))) else (Option.bind (some (fm_sI q1.2 232 17 ((q1.2.1 232 17) + 1))) (fun m26 => gg 8  m26)))))
set_option maxRecDepth 20000 in
def b_X9_step_84 (F : Nat)  (gg : Nat → fm_M → Option (Unit × fm_M))  (μ : fm_M) : Option (Unit × fm_M) := (Option.bind (f_X9_byteAt F (μ.1 232 17) μ) (fun q28 => (Option.bind (f_X9_in F ((q28.1).toInt64) (Int64.ofNat 97) (Int64.ofNat 122) q28.2) (fun q30 => (if q30.1 = 0 then (Option.bind (some (fm_sI q30.2 232 19 1)) (fun m33 => some ((), m33))) else (Option.bind (some (fm_sI q30.2 232 17 ((q30.2.1 232 17) + 1))) (fun m35 => gg 84  m35)))))))
set_option maxRecDepth 20000 in
def b_X9_step_140 (F : Nat)  (gg : Nat → fm_M → Option (Unit × fm_M))  (μ : fm_M) : Option (Unit × fm_M) := (Option.bind (f_X9_byteAt F (μ.1 232 17) μ) (fun q37 => (Option.bind (f_X9_in F ((q37.1).toInt64) (Int64.ofNat 48) (Int64.ofNat 57) q37.2) (fun q39 => (if q39.1 = 0 then (Option.bind (some (fm_sI q39.2 232 19 2)) (fun m42 => (if ((m42.1 232 17) - (m42.1 232 18)) ≤ 2 then some ((), m42) else (Option.bind (f_X9_fails F 1 m42) (fun q45 => some ((), q45.2)))))) else (if 2 ≤ ((q39.2.1 232 17) - (q39.2.1 232 18)) then (Option.bind (some (fm_sI q39.2 232 20 (q39.2.1 232 20))) (fun m48 => (Option.bind (some (fm_sI m48 232 17 ((m48.1 232 17) + 1))) (fun m50 => gg 140  m50)))) else (Option.bind (f_X9_byteAt F (q39.2.1 232 17) q39.2) (fun q52 => (Option.bind (some (fm_sI q52.2 232 20 (((10 * (q39.2.1 232 20)) + q52.1) - 48))) (fun m54 => (Option.bind (some (fm_sI m54 232 17 ((m54.1 232 17) + 1))) (fun m56 => gg 140  m56))))))))))))
def g_X9_step (F : Nat)  : Nat → Nat → fm_M → Option (Unit × fm_M)
  | 0, _, _ => none
  | n + 1, pc, μ => if pc = 8 then b_X9_step_8 F  (g_X9_step F  n)  μ else if pc = 84 then b_X9_step_84 F  (g_X9_step F  n)  μ else if pc = 140 then b_X9_step_140 F  (g_X9_step F  n)  μ else none
set_option maxRecDepth 20000 in
theorem t_X9_step_g {X : Nat × (Nat → Int32)} {G : Nat → Nat → Option Nat} (hG : fm_Gok G) {F : Nat}    : ∀ n : Nat, (∀  (μ : fm_M) (r : Unit × fm_M), g_X9_step F  n 8  μ = some r → ab_U 1 (none) kX9_step (8, [some (.ref 232), none], [], hp X G μ) (fun r9 h9 => r9 = none ∧ h9 = hp X G r.2)) ∧ (∀  (μ : fm_M) (r : Unit × fm_M), g_X9_step F  n 84  μ = some r → ab_U 1 (none) kX9_step (84, [some (.ref 232), none], [], hp X G μ) (fun r9 h9 => r9 = none ∧ h9 = hp X G r.2)) ∧ (∀  (μ : fm_M) (r : Unit × fm_M), g_X9_step F  n 140  μ = some r → ab_U 1 (none) kX9_step (140, [some (.ref 232), none], [], hp X G μ) (fun r9 h9 => r9 = none ∧ h9 = hp X G r.2))
  | 0 => by
    refine ⟨?_, ?_, ?_⟩
    all_goals (intros; rename_i h; cases h)
  | n + 1 => by
    have ih := t_X9_step_g (X := X) hG (F := F)   n
    refine ⟨?_, ?_, ?_⟩
    · intro  μ r hf
      have hf : b_X9_step_8 F  (g_X9_step F  n)  μ = some r := hf
      unfold b_X9_step_8 at hf
      refine ab_U.run 3 (S' := (13, [some (.ref 232), none], [.int (μ.1 232 17), .ref 232], hp X G μ)) rfl ?_
      obtain ⟨q1, h2, hf⟩ := ab_bnd hf
      refine ab_U.fn rfl rfl (t_X9_byteAt (X := X) hG h2) (by omega) ?_
      show ab_U _ _ _ (16, [some (.ref 232), none], [.int q1.1], hp X G q1.2) _
      refine ab_U.run 1 (S' := (18, [some (.ref 232), none], [.int 32, .int q1.1], hp X G q1.2)) rfl ?_
      refine ab_U.ic_ne rfl (fun b3 => ?_) (fun b3 => ?_)
      · rw [if_pos b3] at hf
        refine ab_U.run 3 (S' := (39, [some (.ref 232), none], [.int (q1.2.1 232 17), .ref 232], hp X G q1.2)) rfl ?_
        obtain ⟨m4, e5, hf⟩ := ab_bnd hf
        have e5 := Option.some.inj e5
        refine ab_U.pfI (ci := 9) (k9 := 18) rfl ⟨by decide, rfl⟩ ⟨rfl, rfl, by decide, rfl⟩ rfl ?_
        show ab_U _ _ _ (42, [some (.ref 232), none], [], hp X G (fm_sI q1.2 232 18 (q1.2.1 232 17))) _
        rw [e5]
        refine ab_U.run 3 (S' := (47, [some (.ref 232), none], [.int (m4.1 232 17), .ref 232], hp X G m4)) rfl ?_
        obtain ⟨q6, h7, hf⟩ := ab_bnd hf
        refine ab_U.fn rfl rfl (t_X9_byteAt (X := X) hG h7) (by omega) ?_
        show ab_U _ _ _ (50, [some (.ref 232), none], [.int q6.1], hp X G q6.2) _
        refine ab_U.run 3 (S' := (53, [some (.ref 232), some (.int q6.1)], [.int 0, .ref 232], hp X G q6.2)) rfl ?_
        obtain ⟨m8, e9, hf⟩ := ab_bnd hf
        have e9 := Option.some.inj e9
        refine ab_U.pfI (ci := 9) (k9 := 20) rfl ⟨by decide, rfl⟩ ⟨rfl, rfl, by decide, rfl⟩ rfl ?_
        show ab_U _ _ _ (56, [some (.ref 232), some (.int q6.1)], [], hp X G (fm_sI q6.2 232 20 0)) _
        rw [e9]
        refine ab_U.run 2 (S' := (59, [some (.ref 232), some (.int q6.1)], [.int (-4), .int q6.1], hp X G m8)) rfl ?_
        refine ab_U.ic_ne rfl (fun b10 => ?_) (fun b10 => ?_)
        · rw [if_pos b10] at hf
          refine ab_U.run 4 (S' := (78, [some (.ref 232), some (.int q6.1)], [.long (Int64.ofNat 122), .long (Int64.ofNat 97), .long (q6.1).toInt64], hp X G m8)) rfl ?_
          obtain ⟨q11, h12, hf⟩ := ab_bnd hf
          refine ab_U.fn rfl rfl (t_X9_in (X := X) hG h12) (by omega) ?_
          show ab_U _ _ _ (81, [some (.ref 232), some (.int q6.1)], [.int q11.1], hp X G q11.2) _
          refine ab_U.if_eq rfl (fun b13 => ?_) (fun b13 => ?_)
          · rw [if_pos b13] at hf
            refine ab_U.run 4 (S' := (134, [some (.ref 232), some (.int q6.1)], [.long (Int64.ofNat 57), .long (Int64.ofNat 48), .long (q6.1).toInt64], hp X G q11.2)) rfl ?_
            obtain ⟨q14, h15, hf⟩ := ab_bnd hf
            refine ab_U.fn rfl rfl (t_X9_in (X := X) hG h15) (by omega) ?_
            show ab_U _ _ _ (137, [some (.ref 232), some (.int q6.1)], [.int q14.1], hp X G q14.2) _
            refine ab_U.if_eq rfl (fun b16 => ?_) (fun b16 => ?_)
            · rw [if_pos b16] at hf
              refine ab_U.run 2 (S' := (245, [some (.ref 232), some (.int q6.1)], [.int 3, .ref 232], hp X G q14.2)) rfl ?_
              obtain ⟨m17, e18, hf⟩ := ab_bnd hf
              have e18 := Option.some.inj e18
              refine ab_U.pfI (ci := 9) (k9 := 19) rfl ⟨by decide, rfl⟩ ⟨rfl, rfl, by decide, rfl⟩ rfl ?_
              show ab_U _ _ _ (248, [some (.ref 232), some (.int q6.1)], [], hp X G (fm_sI q14.2 232 19 3)) _
              rw [e18]
              refine ab_U.run 5 (S' := (255, [some (.ref 232), some (.int q6.1)], [.int ((m17.1 232 17) + 1), .ref 232], hp X G m17)) rfl ?_
              obtain ⟨m19, e20, hf⟩ := ab_bnd hf
              have e20 := Option.some.inj e20
              refine ab_U.pfI (ci := 9) (k9 := 17) rfl ⟨by decide, rfl⟩ ⟨rfl, rfl, by decide, rfl⟩ rfl ?_
              show ab_U _ _ _ (258, [some (.ref 232), some (.int q6.1)], [], hp X G (fm_sI m17 232 17 ((m17.1 232 17) + 1))) _
              rw [e20]
              refine ab_U.run 2 (S' := (261, [some (.ref 232), some (.int q6.1)], [.int 59, .int q6.1], hp X G m19)) rfl ?_
              refine ab_U.ic_eq rfl (fun b21 => ?_) (fun b21 => ?_)
              · rw [if_pos b21] at hf
                obtain rfl := Option.some.inj hf
                exact ab_U.ret rfl rfl ⟨rfl, rfl⟩
              · rw [if_neg b21] at hf
                refine ab_U.run 2 (S' := (266, [some (.ref 232), some (.int q6.1)], [.int 1, .ref 232], hp X G m19)) rfl ?_
                obtain ⟨q22, h23, hf⟩ := ab_bnd hf
                refine ab_U.fn rfl rfl (t_X9_fails (X := X) hG h23) (by omega) ?_
                show ab_U _ _ _ (269, [some (.ref 232), some (.int q6.1)], [], hp X G q22.2) _
                obtain rfl := Option.some.inj hf
                exact ab_U.ret rfl rfl ⟨rfl, rfl⟩
            · rw [if_neg b16] at hf
              exact ab_U.weak (ih.2.2  _ _ hf) (ab_leL.of ⟨rfl, trivial⟩)
          · rw [if_neg b13] at hf
            exact ab_U.weak (ih.2.1  _ _ hf) (ab_leL.of ⟨rfl, trivial⟩)
        · rw [if_neg b10] at hf
          refine ab_U.run 2 (S' := (64, [some (.ref 232), some (.int q6.1)], [.int 0, .ref 232], hp X G m8)) rfl ?_
          obtain ⟨m24, e25, hf⟩ := ab_bnd hf
          have e25 := Option.some.inj e25
          refine ab_U.pfI (ci := 9) (k9 := 19) rfl ⟨by decide, rfl⟩ ⟨rfl, rfl, by decide, rfl⟩ rfl ?_
          show ab_U _ _ _ (67, [some (.ref 232), some (.int q6.1)], [], hp X G (fm_sI m8 232 19 0)) _
          rw [e25]
          refine ab_U.run 1 (S' := (269, [some (.ref 232), some (.int q6.1)], [], hp X G m24)) rfl ?_
          obtain rfl := Option.some.inj hf
          exact ab_U.ret rfl rfl ⟨rfl, rfl⟩
      · rw [if_neg b3] at hf
        refine ab_U.run 5 (S' := (28, [some (.ref 232), none], [.int ((q1.2.1 232 17) + 1), .ref 232], hp X G q1.2)) rfl ?_
        obtain ⟨m26, e27, hf⟩ := ab_bnd hf
        have e27 := Option.some.inj e27
        refine ab_U.pfI (ci := 9) (k9 := 17) rfl ⟨by decide, rfl⟩ ⟨rfl, rfl, by decide, rfl⟩ rfl ?_
        show ab_U _ _ _ (31, [some (.ref 232), none], [], hp X G (fm_sI q1.2 232 17 ((q1.2.1 232 17) + 1))) _
        rw [e27]
        refine ab_U.run 1 (S' := (8, [some (.ref 232), none], [], hp X G m26)) rfl ?_
        exact ab_U.weak (ih.1  _ _ hf) (ab_leL.of ⟨rfl, trivial⟩)
    · intro  μ r hf
      have hf : b_X9_step_84 F  (g_X9_step F  n)  μ = some r := hf
      unfold b_X9_step_84 at hf
      refine ab_U.run 3 (S' := (89, [some (.ref 232), none], [.int (μ.1 232 17), .ref 232], hp X G μ)) rfl ?_
      obtain ⟨q28, h29, hf⟩ := ab_bnd hf
      refine ab_U.fn rfl rfl (t_X9_byteAt (X := X) hG h29) (by omega) ?_
      show ab_U _ _ _ (92, [some (.ref 232), none], [.int q28.1], hp X G q28.2) _
      refine ab_U.run 3 (S' := (99, [some (.ref 232), none], [.long (Int64.ofNat 122), .long (Int64.ofNat 97), .long (q28.1).toInt64], hp X G q28.2)) rfl ?_
      obtain ⟨q30, h31, hf⟩ := ab_bnd hf
      refine ab_U.fn rfl rfl (t_X9_in (X := X) hG h31) (by omega) ?_
      show ab_U _ _ _ (102, [some (.ref 232), none], [.int q30.1], hp X G q30.2) _
      refine ab_U.if_eq rfl (fun b32 => ?_) (fun b32 => ?_)
      · rw [if_pos b32] at hf
        refine ab_U.run 2 (S' := (120, [some (.ref 232), none], [.int 1, .ref 232], hp X G q30.2)) rfl ?_
        obtain ⟨m33, e34, hf⟩ := ab_bnd hf
        have e34 := Option.some.inj e34
        refine ab_U.pfI (ci := 9) (k9 := 19) rfl ⟨by decide, rfl⟩ ⟨rfl, rfl, by decide, rfl⟩ rfl ?_
        show ab_U _ _ _ (123, [some (.ref 232), none], [], hp X G (fm_sI q30.2 232 19 1)) _
        rw [e34]
        refine ab_U.run 1 (S' := (269, [some (.ref 232), none], [], hp X G m33)) rfl ?_
        obtain rfl := Option.some.inj hf
        exact ab_U.ret rfl rfl ⟨rfl, rfl⟩
      · rw [if_neg b32] at hf
        refine ab_U.run 5 (S' := (112, [some (.ref 232), none], [.int ((q30.2.1 232 17) + 1), .ref 232], hp X G q30.2)) rfl ?_
        obtain ⟨m35, e36, hf⟩ := ab_bnd hf
        have e36 := Option.some.inj e36
        refine ab_U.pfI (ci := 9) (k9 := 17) rfl ⟨by decide, rfl⟩ ⟨rfl, rfl, by decide, rfl⟩ rfl ?_
        show ab_U _ _ _ (115, [some (.ref 232), none], [], hp X G (fm_sI q30.2 232 17 ((q30.2.1 232 17) + 1))) _
        rw [e36]
        refine ab_U.run 1 (S' := (84, [some (.ref 232), none], [], hp X G m35)) rfl ?_
        exact ab_U.weak (ih.2.1  _ _ hf) (ab_leL.of ⟨rfl, trivial⟩)
    · intro  μ r hf
      have hf : b_X9_step_140 F  (g_X9_step F  n)  μ = some r := hf
      unfold b_X9_step_140 at hf
      refine ab_U.run 3 (S' := (145, [some (.ref 232), none], [.int (μ.1 232 17), .ref 232], hp X G μ)) rfl ?_
      obtain ⟨q37, h38, hf⟩ := ab_bnd hf
      refine ab_U.fn rfl rfl (t_X9_byteAt (X := X) hG h38) (by omega) ?_
      show ab_U _ _ _ (148, [some (.ref 232), none], [.int q37.1], hp X G q37.2) _
      refine ab_U.run 3 (S' := (155, [some (.ref 232), none], [.long (Int64.ofNat 57), .long (Int64.ofNat 48), .long (q37.1).toInt64], hp X G q37.2)) rfl ?_
      obtain ⟨q39, h40, hf⟩ := ab_bnd hf
      refine ab_U.fn rfl rfl (t_X9_in (X := X) hG h40) (by omega) ?_
      show ab_U _ _ _ (158, [some (.ref 232), none], [.int q39.1], hp X G q39.2) _
      refine ab_U.if_eq rfl (fun b41 => ?_) (fun b41 => ?_)
      · rw [if_pos b41] at hf
        refine ab_U.run 2 (S' := (219, [some (.ref 232), none], [.int 2, .ref 232], hp X G q39.2)) rfl ?_
        obtain ⟨m42, e43, hf⟩ := ab_bnd hf
        have e43 := Option.some.inj e43
        refine ab_U.pfI (ci := 9) (k9 := 19) rfl ⟨by decide, rfl⟩ ⟨rfl, rfl, by decide, rfl⟩ rfl ?_
        show ab_U _ _ _ (222, [some (.ref 232), none], [], hp X G (fm_sI q39.2 232 19 2)) _
        rw [e43]
        refine ab_U.run 6 (S' := (232, [some (.ref 232), none], [.int 2, .int ((m42.1 232 17) - (m42.1 232 18))], hp X G m42)) rfl ?_
        refine ab_U.ic_le rfl (fun b44 => ?_) (fun b44 => ?_)
        · rw [if_pos b44] at hf
          obtain rfl := Option.some.inj hf
          exact ab_U.ret rfl rfl ⟨rfl, rfl⟩
        · rw [if_neg b44] at hf
          refine ab_U.run 2 (S' := (237, [some (.ref 232), none], [.int 1, .ref 232], hp X G m42)) rfl ?_
          obtain ⟨q45, h46, hf⟩ := ab_bnd hf
          refine ab_U.fn rfl rfl (t_X9_fails (X := X) hG h46) (by omega) ?_
          show ab_U _ _ _ (240, [some (.ref 232), none], [], hp X G q45.2) _
          refine ab_U.run 1 (S' := (269, [some (.ref 232), none], [], hp X G q45.2)) rfl ?_
          obtain rfl := Option.some.inj hf
          exact ab_U.ret rfl rfl ⟨rfl, rfl⟩
      · rw [if_neg b41] at hf
        refine ab_U.run 7 (S' := (172, [some (.ref 232), none], [.int 2, .int ((q39.2.1 232 17) - (q39.2.1 232 18)), .ref 232], hp X G q39.2)) rfl ?_
        refine ab_U.ic_ge rfl (fun b47 => ?_) (fun b47 => ?_)
        · rw [if_pos b47] at hf
          refine ab_U.run 2 (S' := (201, [some (.ref 232), none], [.int (q39.2.1 232 20), .ref 232], hp X G q39.2)) rfl ?_
          obtain ⟨m48, e49, hf⟩ := ab_bnd hf
          have e49 := Option.some.inj e49
          refine ab_U.pfI (ci := 9) (k9 := 20) rfl ⟨by decide, rfl⟩ ⟨rfl, rfl, by decide, rfl⟩ rfl ?_
          show ab_U _ _ _ (204, [some (.ref 232), none], [], hp X G (fm_sI q39.2 232 20 (q39.2.1 232 20))) _
          rw [e49]
          refine ab_U.run 5 (S' := (211, [some (.ref 232), none], [.int ((m48.1 232 17) + 1), .ref 232], hp X G m48)) rfl ?_
          obtain ⟨m50, e51, hf⟩ := ab_bnd hf
          have e51 := Option.some.inj e51
          refine ab_U.pfI (ci := 9) (k9 := 17) rfl ⟨by decide, rfl⟩ ⟨rfl, rfl, by decide, rfl⟩ rfl ?_
          show ab_U _ _ _ (214, [some (.ref 232), none], [], hp X G (fm_sI m48 232 17 ((m48.1 232 17) + 1))) _
          rw [e51]
          refine ab_U.run 1 (S' := (140, [some (.ref 232), none], [], hp X G m50)) rfl ?_
          exact ab_U.weak (ih.2.2  _ _ hf) (ab_leL.of ⟨rfl, trivial⟩)
        · rw [if_neg b47] at hf
          refine ab_U.run 7 (S' := (187, [some (.ref 232), none], [.int (q39.2.1 232 17), .ref 232, .int (10 * (q39.2.1 232 20)), .ref 232], hp X G q39.2)) rfl ?_
          obtain ⟨q52, h53, hf⟩ := ab_bnd hf
          refine ab_U.fn rfl rfl (t_X9_byteAt (X := X) hG h53) (by omega) ?_
          show ab_U _ _ _ (190, [some (.ref 232), none], [.int q52.1, .int (10 * (q39.2.1 232 20)), .ref 232], hp X G q52.2) _
          refine ab_U.run 4 (S' := (201, [some (.ref 232), none], [.int (((10 * (q39.2.1 232 20)) + q52.1) - 48), .ref 232], hp X G q52.2)) rfl ?_
          obtain ⟨m54, e55, hf⟩ := ab_bnd hf
          have e55 := Option.some.inj e55
          refine ab_U.pfI (ci := 9) (k9 := 20) rfl ⟨by decide, rfl⟩ ⟨rfl, rfl, by decide, rfl⟩ rfl ?_
          show ab_U _ _ _ (204, [some (.ref 232), none], [], hp X G (fm_sI q52.2 232 20 (((10 * (q39.2.1 232 20)) + q52.1) - 48))) _
          rw [e55]
          refine ab_U.run 5 (S' := (211, [some (.ref 232), none], [.int ((m54.1 232 17) + 1), .ref 232], hp X G m54)) rfl ?_
          obtain ⟨m56, e57, hf⟩ := ab_bnd hf
          have e57 := Option.some.inj e57
          refine ab_U.pfI (ci := 9) (k9 := 17) rfl ⟨by decide, rfl⟩ ⟨rfl, rfl, by decide, rfl⟩ rfl ?_
          show ab_U _ _ _ (214, [some (.ref 232), none], [], hp X G (fm_sI m54 232 17 ((m54.1 232 17) + 1))) _
          rw [e57]
          refine ab_U.run 1 (S' := (140, [some (.ref 232), none], [], hp X G m56)) rfl ?_
          exact ab_U.weak (ih.2.2  _ _ hf) (ab_leL.of ⟨rfl, trivial⟩)
set_option maxRecDepth 20000 in
def f_X9_step (F : Nat)   (μ : fm_M) : Option (Unit × fm_M) := (if (μ.1 232 15) ≤ 0 then g_X9_step F  F 8  μ else some ((), μ))
set_option maxRecDepth 20000 in
theorem t_X9_step {X : Nat × (Nat → Int32)} {G : Nat → Nat → Option Nat} (hG : fm_Gok G) {F : Nat}    {μ : fm_M} {r : Unit × fm_M} (hf : f_X9_step F  μ = some r) : ab_F 2 141 [.ref 232] (hp X G μ) none (hp X G r.2) := by
  unfold f_X9_step at hf
  refine ab_T.of (d := 1) rfl (Nat.le_of_ble_eq_true rfl) ?_
  show ab_U _ _ kX9_step (0, [some (.ref 232), none], [], hp X G μ) _
  refine ab_U.run 2 (S' := (4, [some (.ref 232), none], [.int (μ.1 232 15)], hp X G μ)) rfl ?_
  refine ab_U.if_le rfl (fun b58 => ?_) (fun b58 => ?_)
  · rw [if_pos b58] at hf
    exact ab_U.weak ((t_X9_step_g (X := X) hG   F).1  _ _ hf) (ab_leL.of ⟨rfl, trivial⟩)
  · rw [if_neg b58] at hf
    obtain rfl := Option.some.inj hf
    exact ab_U.ret rfl rfl ⟨rfl, rfl⟩
set_option maxRecDepth 20000 in
def f_X9_number (F : Nat)  (x0 : Int32) (x1 : Int32) (μ : fm_M) : Option (Int32 × fm_M) := (if ¬ (μ.1 232 15) = 0 then (if ¬ (μ.1 232 15) = 0 then (if ¬ (μ.1 232 15) = 0 then (Option.bind (f_X9_step F μ) (fun q4 => some (x0, q4.2))) else (Option.bind (f_X9_step F μ) (fun q6 => some ((μ.1 232 20), q6.2)))) else (Option.bind (f_X9_in F (((μ.1 232 20)).toInt64) ((x0).toInt64) ((x1).toInt64) μ) (fun q8 => (if ¬ q8.1 = 0 then (if ¬ (q8.2.1 232 15) = 0 then (Option.bind (f_X9_step F q8.2) (fun q12 => some (x0, q12.2))) else (Option.bind (f_X9_step F q8.2) (fun q14 => some ((q8.2.1 232 20), q14.2)))) else (Option.bind (f_X9_fails F 3 q8.2) (fun q16 => (if ¬ (q16.2.1 232 15) = 0 then (Option.bind (f_X9_step F q16.2) (fun q19 => some (x0, q19.2))) else (Option.bind (f_X9_step F q16.2) (fun q21 => some ((q16.2.1 232 20), q21.2)))))))))) else (if (μ.1 232 19) = 2 then (if ¬ (μ.1 232 15) = 0 then (if ¬ (μ.1 232 15) = 0 then (Option.bind (f_X9_step F μ) (fun q26 => some (x0, q26.2))) else (Option.bind (f_X9_step F μ) (fun q28 => some ((μ.1 232 20), q28.2)))) else (Option.bind (f_X9_in F (((μ.1 232 20)).toInt64) ((x0).toInt64) ((x1).toInt64) μ) (fun q30 => (if ¬ q30.1 = 0 then (if ¬ (q30.2.1 232 15) = 0 then (Option.bind (f_X9_step F q30.2) (fun q34 => some (x0, q34.2))) else (Option.bind (f_X9_step F q30.2) (fun q36 => some ((q30.2.1 232 20), q36.2)))) else (Option.bind (f_X9_fails F 3 q30.2) (fun q38 => (if ¬ (q38.2.1 232 15) = 0 then (Option.bind (f_X9_step F q38.2) (fun q41 => some (x0, q41.2))) else (Option.bind (f_X9_step F q38.2) (fun q43 => some ((q38.2.1 232 20), q43.2)))))))))) else (Option.bind (f_X9_fails F 2 μ) (fun q45 => (if ¬ (q45.2.1 232 15) = 0 then (if ¬ (q45.2.1 232 15) = 0 then (Option.bind (f_X9_step F q45.2) (fun q49 => some (x0, q49.2))) else (Option.bind (f_X9_step F q45.2) (fun q51 => some ((q45.2.1 232 20), q51.2)))) else (Option.bind (f_X9_in F (((q45.2.1 232 20)).toInt64) ((x0).toInt64) ((x1).toInt64) q45.2) (fun q53 => (if ¬ q53.1 = 0 then (if ¬ (q53.2.1 232 15) = 0 then (Option.bind (f_X9_step F q53.2) (fun q57 => some (x0, q57.2))) else (Option.bind (f_X9_step F q53.2) (fun q59 => some ((q53.2.1 232 20), q59.2)))) else (Option.bind (f_X9_fails F 3 q53.2) (fun q61 => (if ¬ (q61.2.1 232 15) = 0 then (Option.bind (f_X9_step F q61.2) (fun q64 => some (x0, q64.2))) else (Option.bind (f_X9_step F q61.2) (fun q66 => some ((q61.2.1 232 20), q66.2))))))))))))))
set_option maxRecDepth 20000 in
theorem t_X9_number {X : Nat × (Nat → Int32)} {G : Nat → Nat → Option Nat} (hG : fm_Gok G) {F : Nat}   {x0 : Int32} {x1 : Int32} {μ : fm_M} {r : Int32 × fm_M} (hf : f_X9_number F x0 x1 μ = some r) : ab_F 3 142 [.ref 232, .int x0, .int x1] (hp X G μ) (some (.int r.1)) (hp X G r.2) := by
  unfold f_X9_number at hf
  refine ab_T.of (d := 2) rfl (Nat.le_of_ble_eq_true rfl) ?_
  show ab_U _ _ kX9_number (0, [some (.ref 232), some (.int x0), some (.int x1), none], [], hp X G μ) _
  refine ab_U.run 2 (S' := (4, [some (.ref 232), some (.int x0), some (.int x1), none], [.int (μ.1 232 15)], hp X G μ)) rfl ?_
  refine ab_U.if_ne rfl (fun b1 => ?_) (fun b1 => ?_)
  · rw [if_pos b1] at hf
    refine ab_U.run 2 (S' := (24, [some (.ref 232), some (.int x0), some (.int x1), none], [.int (μ.1 232 15)], hp X G μ)) rfl ?_
    refine ab_U.if_ne rfl (fun b2 => ?_) (fun b2 => ?_)
    · rw [if_pos b2] at hf
      refine ab_U.run 2 (S' := (51, [some (.ref 232), some (.int x0), some (.int x1), none], [.int (μ.1 232 15)], hp X G μ)) rfl ?_
      refine ab_U.if_ne rfl (fun b3 => ?_) (fun b3 => ?_)
      · rw [if_pos b3] at hf
        refine ab_U.run 3 (S' := (64, [some (.ref 232), some (.int x0), some (.int x1), some (.int x0)], [.ref 232], hp X G μ)) rfl ?_
        obtain ⟨q4, h5, hf⟩ := ab_bnd hf
        refine ab_U.fn rfl rfl (t_X9_step (X := X) hG h5) (by omega) ?_
        show ab_U _ _ _ (67, [some (.ref 232), some (.int x0), some (.int x1), some (.int x0)], [], hp X G q4.2) _
        refine ab_U.run 1 (S' := (68, [some (.ref 232), some (.int x0), some (.int x1), some (.int x0)], [.int x0], hp X G q4.2)) rfl ?_
        obtain rfl := Option.some.inj hf
        exact ab_U.ret rfl rfl ⟨rfl, rfl⟩
      · rw [if_neg b3] at hf
        refine ab_U.run 5 (S' := (64, [some (.ref 232), some (.int x0), some (.int x1), some (.int (μ.1 232 20))], [.ref 232], hp X G μ)) rfl ?_
        obtain ⟨q6, h7, hf⟩ := ab_bnd hf
        refine ab_U.fn rfl rfl (t_X9_step (X := X) hG h7) (by omega) ?_
        show ab_U _ _ _ (67, [some (.ref 232), some (.int x0), some (.int x1), some (.int (μ.1 232 20))], [], hp X G q6.2) _
        refine ab_U.run 1 (S' := (68, [some (.ref 232), some (.int x0), some (.int x1), some (.int (μ.1 232 20))], [.int (μ.1 232 20)], hp X G q6.2)) rfl ?_
        obtain rfl := Option.some.inj hf
        exact ab_U.ret rfl rfl ⟨rfl, rfl⟩
    · rw [if_neg b2] at hf
      refine ab_U.run 7 (S' := (36, [some (.ref 232), some (.int x0), some (.int x1), none], [.long (x1).toInt64, .long (x0).toInt64, .long ((μ.1 232 20)).toInt64], hp X G μ)) rfl ?_
      obtain ⟨q8, h9, hf⟩ := ab_bnd hf
      refine ab_U.fn rfl rfl (t_X9_in (X := X) hG h9) (by omega) ?_
      show ab_U _ _ _ (39, [some (.ref 232), some (.int x0), some (.int x1), none], [.int q8.1], hp X G q8.2) _
      refine ab_U.if_ne rfl (fun b10 => ?_) (fun b10 => ?_)
      · rw [if_pos b10] at hf
        refine ab_U.run 2 (S' := (51, [some (.ref 232), some (.int x0), some (.int x1), none], [.int (q8.2.1 232 15)], hp X G q8.2)) rfl ?_
        refine ab_U.if_ne rfl (fun b11 => ?_) (fun b11 => ?_)
        · rw [if_pos b11] at hf
          refine ab_U.run 3 (S' := (64, [some (.ref 232), some (.int x0), some (.int x1), some (.int x0)], [.ref 232], hp X G q8.2)) rfl ?_
          obtain ⟨q12, h13, hf⟩ := ab_bnd hf
          refine ab_U.fn rfl rfl (t_X9_step (X := X) hG h13) (by omega) ?_
          show ab_U _ _ _ (67, [some (.ref 232), some (.int x0), some (.int x1), some (.int x0)], [], hp X G q12.2) _
          refine ab_U.run 1 (S' := (68, [some (.ref 232), some (.int x0), some (.int x1), some (.int x0)], [.int x0], hp X G q12.2)) rfl ?_
          obtain rfl := Option.some.inj hf
          exact ab_U.ret rfl rfl ⟨rfl, rfl⟩
        · rw [if_neg b11] at hf
          refine ab_U.run 5 (S' := (64, [some (.ref 232), some (.int x0), some (.int x1), some (.int (q8.2.1 232 20))], [.ref 232], hp X G q8.2)) rfl ?_
          obtain ⟨q14, h15, hf⟩ := ab_bnd hf
          refine ab_U.fn rfl rfl (t_X9_step (X := X) hG h15) (by omega) ?_
          show ab_U _ _ _ (67, [some (.ref 232), some (.int x0), some (.int x1), some (.int (q8.2.1 232 20))], [], hp X G q14.2) _
          refine ab_U.run 1 (S' := (68, [some (.ref 232), some (.int x0), some (.int x1), some (.int (q8.2.1 232 20))], [.int (q8.2.1 232 20)], hp X G q14.2)) rfl ?_
          obtain rfl := Option.some.inj hf
          exact ab_U.ret rfl rfl ⟨rfl, rfl⟩
      · rw [if_neg b10] at hf
        refine ab_U.run 2 (S' := (44, [some (.ref 232), some (.int x0), some (.int x1), none], [.int 3, .ref 232], hp X G q8.2)) rfl ?_
        obtain ⟨q16, h17, hf⟩ := ab_bnd hf
        refine ab_U.fn rfl rfl (t_X9_fails (X := X) hG h17) (by omega) ?_
        show ab_U _ _ _ (47, [some (.ref 232), some (.int x0), some (.int x1), none], [], hp X G q16.2) _
        refine ab_U.run 2 (S' := (51, [some (.ref 232), some (.int x0), some (.int x1), none], [.int (q16.2.1 232 15)], hp X G q16.2)) rfl ?_
        refine ab_U.if_ne rfl (fun b18 => ?_) (fun b18 => ?_)
        · rw [if_pos b18] at hf
          refine ab_U.run 3 (S' := (64, [some (.ref 232), some (.int x0), some (.int x1), some (.int x0)], [.ref 232], hp X G q16.2)) rfl ?_
          obtain ⟨q19, h20, hf⟩ := ab_bnd hf
          refine ab_U.fn rfl rfl (t_X9_step (X := X) hG h20) (by omega) ?_
          show ab_U _ _ _ (67, [some (.ref 232), some (.int x0), some (.int x1), some (.int x0)], [], hp X G q19.2) _
          refine ab_U.run 1 (S' := (68, [some (.ref 232), some (.int x0), some (.int x1), some (.int x0)], [.int x0], hp X G q19.2)) rfl ?_
          obtain rfl := Option.some.inj hf
          exact ab_U.ret rfl rfl ⟨rfl, rfl⟩
        · rw [if_neg b18] at hf
          refine ab_U.run 5 (S' := (64, [some (.ref 232), some (.int x0), some (.int x1), some (.int (q16.2.1 232 20))], [.ref 232], hp X G q16.2)) rfl ?_
          obtain ⟨q21, h22, hf⟩ := ab_bnd hf
          refine ab_U.fn rfl rfl (t_X9_step (X := X) hG h22) (by omega) ?_
          show ab_U _ _ _ (67, [some (.ref 232), some (.int x0), some (.int x1), some (.int (q16.2.1 232 20))], [], hp X G q21.2) _
          refine ab_U.run 1 (S' := (68, [some (.ref 232), some (.int x0), some (.int x1), some (.int (q16.2.1 232 20))], [.int (q16.2.1 232 20)], hp X G q21.2)) rfl ?_
          obtain rfl := Option.some.inj hf
          exact ab_U.ret rfl rfl ⟨rfl, rfl⟩
  · rw [if_neg b1] at hf
    refine ab_U.run 3 (S' := (12, [some (.ref 232), some (.int x0), some (.int x1), none], [.int 2, .int (μ.1 232 19)], hp X G μ)) rfl ?_
    refine ab_U.ic_eq rfl (fun b23 => ?_) (fun b23 => ?_)
    · rw [if_pos b23] at hf
      refine ab_U.run 2 (S' := (24, [some (.ref 232), some (.int x0), some (.int x1), none], [.int (μ.1 232 15)], hp X G μ)) rfl ?_
      refine ab_U.if_ne rfl (fun b24 => ?_) (fun b24 => ?_)
      · rw [if_pos b24] at hf
        refine ab_U.run 2 (S' := (51, [some (.ref 232), some (.int x0), some (.int x1), none], [.int (μ.1 232 15)], hp X G μ)) rfl ?_
        refine ab_U.if_ne rfl (fun b25 => ?_) (fun b25 => ?_)
        · rw [if_pos b25] at hf
          refine ab_U.run 3 (S' := (64, [some (.ref 232), some (.int x0), some (.int x1), some (.int x0)], [.ref 232], hp X G μ)) rfl ?_
          obtain ⟨q26, h27, hf⟩ := ab_bnd hf
          refine ab_U.fn rfl rfl (t_X9_step (X := X) hG h27) (by omega) ?_
          show ab_U _ _ _ (67, [some (.ref 232), some (.int x0), some (.int x1), some (.int x0)], [], hp X G q26.2) _
          refine ab_U.run 1 (S' := (68, [some (.ref 232), some (.int x0), some (.int x1), some (.int x0)], [.int x0], hp X G q26.2)) rfl ?_
          obtain rfl := Option.some.inj hf
          exact ab_U.ret rfl rfl ⟨rfl, rfl⟩
        · rw [if_neg b25] at hf
          refine ab_U.run 5 (S' := (64, [some (.ref 232), some (.int x0), some (.int x1), some (.int (μ.1 232 20))], [.ref 232], hp X G μ)) rfl ?_
          obtain ⟨q28, h29, hf⟩ := ab_bnd hf
          refine ab_U.fn rfl rfl (t_X9_step (X := X) hG h29) (by omega) ?_
          show ab_U _ _ _ (67, [some (.ref 232), some (.int x0), some (.int x1), some (.int (μ.1 232 20))], [], hp X G q28.2) _
          refine ab_U.run 1 (S' := (68, [some (.ref 232), some (.int x0), some (.int x1), some (.int (μ.1 232 20))], [.int (μ.1 232 20)], hp X G q28.2)) rfl ?_
          obtain rfl := Option.some.inj hf
          exact ab_U.ret rfl rfl ⟨rfl, rfl⟩
      · rw [if_neg b24] at hf
        refine ab_U.run 7 (S' := (36, [some (.ref 232), some (.int x0), some (.int x1), none], [.long (x1).toInt64, .long (x0).toInt64, .long ((μ.1 232 20)).toInt64], hp X G μ)) rfl ?_
        obtain ⟨q30, h31, hf⟩ := ab_bnd hf
        refine ab_U.fn rfl rfl (t_X9_in (X := X) hG h31) (by omega) ?_
        show ab_U _ _ _ (39, [some (.ref 232), some (.int x0), some (.int x1), none], [.int q30.1], hp X G q30.2) _
        refine ab_U.if_ne rfl (fun b32 => ?_) (fun b32 => ?_)
        · rw [if_pos b32] at hf
          refine ab_U.run 2 (S' := (51, [some (.ref 232), some (.int x0), some (.int x1), none], [.int (q30.2.1 232 15)], hp X G q30.2)) rfl ?_
          refine ab_U.if_ne rfl (fun b33 => ?_) (fun b33 => ?_)
          · rw [if_pos b33] at hf
            refine ab_U.run 3 (S' := (64, [some (.ref 232), some (.int x0), some (.int x1), some (.int x0)], [.ref 232], hp X G q30.2)) rfl ?_
            obtain ⟨q34, h35, hf⟩ := ab_bnd hf
            refine ab_U.fn rfl rfl (t_X9_step (X := X) hG h35) (by omega) ?_
            show ab_U _ _ _ (67, [some (.ref 232), some (.int x0), some (.int x1), some (.int x0)], [], hp X G q34.2) _
            refine ab_U.run 1 (S' := (68, [some (.ref 232), some (.int x0), some (.int x1), some (.int x0)], [.int x0], hp X G q34.2)) rfl ?_
            obtain rfl := Option.some.inj hf
            exact ab_U.ret rfl rfl ⟨rfl, rfl⟩
          · rw [if_neg b33] at hf
            refine ab_U.run 5 (S' := (64, [some (.ref 232), some (.int x0), some (.int x1), some (.int (q30.2.1 232 20))], [.ref 232], hp X G q30.2)) rfl ?_
            obtain ⟨q36, h37, hf⟩ := ab_bnd hf
            refine ab_U.fn rfl rfl (t_X9_step (X := X) hG h37) (by omega) ?_
            show ab_U _ _ _ (67, [some (.ref 232), some (.int x0), some (.int x1), some (.int (q30.2.1 232 20))], [], hp X G q36.2) _
            refine ab_U.run 1 (S' := (68, [some (.ref 232), some (.int x0), some (.int x1), some (.int (q30.2.1 232 20))], [.int (q30.2.1 232 20)], hp X G q36.2)) rfl ?_
            obtain rfl := Option.some.inj hf
            exact ab_U.ret rfl rfl ⟨rfl, rfl⟩
        · rw [if_neg b32] at hf
          refine ab_U.run 2 (S' := (44, [some (.ref 232), some (.int x0), some (.int x1), none], [.int 3, .ref 232], hp X G q30.2)) rfl ?_
          obtain ⟨q38, h39, hf⟩ := ab_bnd hf
          refine ab_U.fn rfl rfl (t_X9_fails (X := X) hG h39) (by omega) ?_
          show ab_U _ _ _ (47, [some (.ref 232), some (.int x0), some (.int x1), none], [], hp X G q38.2) _
          refine ab_U.run 2 (S' := (51, [some (.ref 232), some (.int x0), some (.int x1), none], [.int (q38.2.1 232 15)], hp X G q38.2)) rfl ?_
          refine ab_U.if_ne rfl (fun b40 => ?_) (fun b40 => ?_)
          · rw [if_pos b40] at hf
            refine ab_U.run 3 (S' := (64, [some (.ref 232), some (.int x0), some (.int x1), some (.int x0)], [.ref 232], hp X G q38.2)) rfl ?_
            obtain ⟨q41, h42, hf⟩ := ab_bnd hf
            refine ab_U.fn rfl rfl (t_X9_step (X := X) hG h42) (by omega) ?_
            show ab_U _ _ _ (67, [some (.ref 232), some (.int x0), some (.int x1), some (.int x0)], [], hp X G q41.2) _
            refine ab_U.run 1 (S' := (68, [some (.ref 232), some (.int x0), some (.int x1), some (.int x0)], [.int x0], hp X G q41.2)) rfl ?_
            obtain rfl := Option.some.inj hf
            exact ab_U.ret rfl rfl ⟨rfl, rfl⟩
          · rw [if_neg b40] at hf
            refine ab_U.run 5 (S' := (64, [some (.ref 232), some (.int x0), some (.int x1), some (.int (q38.2.1 232 20))], [.ref 232], hp X G q38.2)) rfl ?_
            obtain ⟨q43, h44, hf⟩ := ab_bnd hf
            refine ab_U.fn rfl rfl (t_X9_step (X := X) hG h44) (by omega) ?_
            show ab_U _ _ _ (67, [some (.ref 232), some (.int x0), some (.int x1), some (.int (q38.2.1 232 20))], [], hp X G q43.2) _
            refine ab_U.run 1 (S' := (68, [some (.ref 232), some (.int x0), some (.int x1), some (.int (q38.2.1 232 20))], [.int (q38.2.1 232 20)], hp X G q43.2)) rfl ?_
            obtain rfl := Option.some.inj hf
            exact ab_U.ret rfl rfl ⟨rfl, rfl⟩
    · rw [if_neg b23] at hf
      refine ab_U.run 2 (S' := (17, [some (.ref 232), some (.int x0), some (.int x1), none], [.int 2, .ref 232], hp X G μ)) rfl ?_
      obtain ⟨q45, h46, hf⟩ := ab_bnd hf
      refine ab_U.fn rfl rfl (t_X9_fails (X := X) hG h46) (by omega) ?_
      show ab_U _ _ _ (20, [some (.ref 232), some (.int x0), some (.int x1), none], [], hp X G q45.2) _
      refine ab_U.run 2 (S' := (24, [some (.ref 232), some (.int x0), some (.int x1), none], [.int (q45.2.1 232 15)], hp X G q45.2)) rfl ?_
      refine ab_U.if_ne rfl (fun b47 => ?_) (fun b47 => ?_)
      · rw [if_pos b47] at hf
        refine ab_U.run 2 (S' := (51, [some (.ref 232), some (.int x0), some (.int x1), none], [.int (q45.2.1 232 15)], hp X G q45.2)) rfl ?_
        refine ab_U.if_ne rfl (fun b48 => ?_) (fun b48 => ?_)
        · rw [if_pos b48] at hf
          refine ab_U.run 3 (S' := (64, [some (.ref 232), some (.int x0), some (.int x1), some (.int x0)], [.ref 232], hp X G q45.2)) rfl ?_
          obtain ⟨q49, h50, hf⟩ := ab_bnd hf
          refine ab_U.fn rfl rfl (t_X9_step (X := X) hG h50) (by omega) ?_
          show ab_U _ _ _ (67, [some (.ref 232), some (.int x0), some (.int x1), some (.int x0)], [], hp X G q49.2) _
          refine ab_U.run 1 (S' := (68, [some (.ref 232), some (.int x0), some (.int x1), some (.int x0)], [.int x0], hp X G q49.2)) rfl ?_
          obtain rfl := Option.some.inj hf
          exact ab_U.ret rfl rfl ⟨rfl, rfl⟩
        · rw [if_neg b48] at hf
          refine ab_U.run 5 (S' := (64, [some (.ref 232), some (.int x0), some (.int x1), some (.int (q45.2.1 232 20))], [.ref 232], hp X G q45.2)) rfl ?_
          obtain ⟨q51, h52, hf⟩ := ab_bnd hf
          refine ab_U.fn rfl rfl (t_X9_step (X := X) hG h52) (by omega) ?_
          show ab_U _ _ _ (67, [some (.ref 232), some (.int x0), some (.int x1), some (.int (q45.2.1 232 20))], [], hp X G q51.2) _
          refine ab_U.run 1 (S' := (68, [some (.ref 232), some (.int x0), some (.int x1), some (.int (q45.2.1 232 20))], [.int (q45.2.1 232 20)], hp X G q51.2)) rfl ?_
          obtain rfl := Option.some.inj hf
          exact ab_U.ret rfl rfl ⟨rfl, rfl⟩
      · rw [if_neg b47] at hf
        refine ab_U.run 7 (S' := (36, [some (.ref 232), some (.int x0), some (.int x1), none], [.long (x1).toInt64, .long (x0).toInt64, .long ((q45.2.1 232 20)).toInt64], hp X G q45.2)) rfl ?_
        obtain ⟨q53, h54, hf⟩ := ab_bnd hf
        refine ab_U.fn rfl rfl (t_X9_in (X := X) hG h54) (by omega) ?_
        show ab_U _ _ _ (39, [some (.ref 232), some (.int x0), some (.int x1), none], [.int q53.1], hp X G q53.2) _
        refine ab_U.if_ne rfl (fun b55 => ?_) (fun b55 => ?_)
        · rw [if_pos b55] at hf
          refine ab_U.run 2 (S' := (51, [some (.ref 232), some (.int x0), some (.int x1), none], [.int (q53.2.1 232 15)], hp X G q53.2)) rfl ?_
          refine ab_U.if_ne rfl (fun b56 => ?_) (fun b56 => ?_)
          · rw [if_pos b56] at hf
            refine ab_U.run 3 (S' := (64, [some (.ref 232), some (.int x0), some (.int x1), some (.int x0)], [.ref 232], hp X G q53.2)) rfl ?_
            obtain ⟨q57, h58, hf⟩ := ab_bnd hf
            refine ab_U.fn rfl rfl (t_X9_step (X := X) hG h58) (by omega) ?_
            show ab_U _ _ _ (67, [some (.ref 232), some (.int x0), some (.int x1), some (.int x0)], [], hp X G q57.2) _
            refine ab_U.run 1 (S' := (68, [some (.ref 232), some (.int x0), some (.int x1), some (.int x0)], [.int x0], hp X G q57.2)) rfl ?_
            obtain rfl := Option.some.inj hf
            exact ab_U.ret rfl rfl ⟨rfl, rfl⟩
          · rw [if_neg b56] at hf
            refine ab_U.run 5 (S' := (64, [some (.ref 232), some (.int x0), some (.int x1), some (.int (q53.2.1 232 20))], [.ref 232], hp X G q53.2)) rfl ?_
            obtain ⟨q59, h60, hf⟩ := ab_bnd hf
            refine ab_U.fn rfl rfl (t_X9_step (X := X) hG h60) (by omega) ?_
            show ab_U _ _ _ (67, [some (.ref 232), some (.int x0), some (.int x1), some (.int (q53.2.1 232 20))], [], hp X G q59.2) _
            refine ab_U.run 1 (S' := (68, [some (.ref 232), some (.int x0), some (.int x1), some (.int (q53.2.1 232 20))], [.int (q53.2.1 232 20)], hp X G q59.2)) rfl ?_
            obtain rfl := Option.some.inj hf
            exact ab_U.ret rfl rfl ⟨rfl, rfl⟩
        · rw [if_neg b55] at hf
          refine ab_U.run 2 (S' := (44, [some (.ref 232), some (.int x0), some (.int x1), none], [.int 3, .ref 232], hp X G q53.2)) rfl ?_
          obtain ⟨q61, h62, hf⟩ := ab_bnd hf
          refine ab_U.fn rfl rfl (t_X9_fails (X := X) hG h62) (by omega) ?_
          show ab_U _ _ _ (47, [some (.ref 232), some (.int x0), some (.int x1), none], [], hp X G q61.2) _
          refine ab_U.run 2 (S' := (51, [some (.ref 232), some (.int x0), some (.int x1), none], [.int (q61.2.1 232 15)], hp X G q61.2)) rfl ?_
          refine ab_U.if_ne rfl (fun b63 => ?_) (fun b63 => ?_)
          · rw [if_pos b63] at hf
            refine ab_U.run 3 (S' := (64, [some (.ref 232), some (.int x0), some (.int x1), some (.int x0)], [.ref 232], hp X G q61.2)) rfl ?_
            obtain ⟨q64, h65, hf⟩ := ab_bnd hf
            refine ab_U.fn rfl rfl (t_X9_step (X := X) hG h65) (by omega) ?_
            show ab_U _ _ _ (67, [some (.ref 232), some (.int x0), some (.int x1), some (.int x0)], [], hp X G q64.2) _
            refine ab_U.run 1 (S' := (68, [some (.ref 232), some (.int x0), some (.int x1), some (.int x0)], [.int x0], hp X G q64.2)) rfl ?_
            obtain rfl := Option.some.inj hf
            exact ab_U.ret rfl rfl ⟨rfl, rfl⟩
          · rw [if_neg b63] at hf
            refine ab_U.run 5 (S' := (64, [some (.ref 232), some (.int x0), some (.int x1), some (.int (q61.2.1 232 20))], [.ref 232], hp X G q61.2)) rfl ?_
            obtain ⟨q66, h67, hf⟩ := ab_bnd hf
            refine ab_U.fn rfl rfl (t_X9_step (X := X) hG h67) (by omega) ?_
            show ab_U _ _ _ (67, [some (.ref 232), some (.int x0), some (.int x1), some (.int (q61.2.1 232 20))], [], hp X G q66.2) _
            refine ab_U.run 1 (S' := (68, [some (.ref 232), some (.int x0), some (.int x1), some (.int (q61.2.1 232 20))], [.int (q61.2.1 232 20)], hp X G q66.2)) rfl ?_
            obtain rfl := Option.some.inj hf
            exact ab_U.ret rfl rfl ⟨rfl, rfl⟩
set_option maxRecDepth 20000 in
def f_X9_oneHere (F : Nat)   (μ : fm_M) : Option (Int32 × fm_M) := (Option.bind (f_X9_number F 0 3 μ) (fun q1 => (if q1.1 ≤ (q1.2.1 232 11) then (Option.bind (some (fm_sI q1.2 232 11 (q1.2.1 232 11))) (fun m4 => some (q1.1, m4))) else (Option.bind (some (fm_sI q1.2 232 11 q1.1)) (fun m6 => some (q1.1, m6))))))
set_option maxRecDepth 20000 in
theorem t_X9_oneHere {X : Nat × (Nat → Int32)} {G : Nat → Nat → Option Nat} (hG : fm_Gok G) {F : Nat}    {μ : fm_M} {r : Int32 × fm_M} (hf : f_X9_oneHere F  μ = some r) : ab_F 4 143 [.ref 232] (hp X G μ) (some (.int r.1)) (hp X G r.2) := by
  unfold f_X9_oneHere at hf
  refine ab_T.of (d := 3) rfl (Nat.le_of_ble_eq_true rfl) ?_
  show ab_U _ _ kX9_oneHere (0, [some (.ref 232), none], [], hp X G μ) _
  refine ab_U.run 3 (S' := (3, [some (.ref 232), none], [.int 3, .int 0, .ref 232], hp X G μ)) rfl ?_
  obtain ⟨q1, h2, hf⟩ := ab_bnd hf
  refine ab_U.fn rfl rfl (t_X9_number (X := X) hG h2) (by omega) ?_
  show ab_U _ _ _ (6, [some (.ref 232), none], [.int q1.1], hp X G q1.2) _
  refine ab_U.run 5 (S' := (13, [some (.ref 232), some (.int q1.1)], [.int (q1.2.1 232 11), .int q1.1, .ref 232], hp X G q1.2)) rfl ?_
  refine ab_U.ic_le rfl (fun b3 => ?_) (fun b3 => ?_)
  · rw [if_pos b3] at hf
    refine ab_U.run 2 (S' := (24, [some (.ref 232), some (.int q1.1)], [.int (q1.2.1 232 11), .ref 232], hp X G q1.2)) rfl ?_
    obtain ⟨m4, e5, hf⟩ := ab_bnd hf
    have e5 := Option.some.inj e5
    refine ab_U.pfI (ci := 9) (k9 := 11) rfl ⟨by decide, rfl⟩ ⟨rfl, rfl, by decide, rfl⟩ rfl ?_
    show ab_U _ _ _ (27, [some (.ref 232), some (.int q1.1)], [], hp X G (fm_sI q1.2 232 11 (q1.2.1 232 11))) _
    rw [e5]
    refine ab_U.run 1 (S' := (28, [some (.ref 232), some (.int q1.1)], [.int q1.1], hp X G m4)) rfl ?_
    obtain rfl := Option.some.inj hf
    exact ab_U.ret rfl rfl ⟨rfl, rfl⟩
  · rw [if_neg b3] at hf
    refine ab_U.run 2 (S' := (24, [some (.ref 232), some (.int q1.1)], [.int q1.1, .ref 232], hp X G q1.2)) rfl ?_
    obtain ⟨m6, e7, hf⟩ := ab_bnd hf
    have e7 := Option.some.inj e7
    refine ab_U.pfI (ci := 9) (k9 := 11) rfl ⟨by decide, rfl⟩ ⟨rfl, rfl, by decide, rfl⟩ rfl ?_
    show ab_U _ _ _ (27, [some (.ref 232), some (.int q1.1)], [], hp X G (fm_sI q1.2 232 11 q1.1)) _
    rw [e7]
    refine ab_U.run 1 (S' := (28, [some (.ref 232), some (.int q1.1)], [.int q1.1], hp X G m6)) rfl ?_
    obtain rfl := Option.some.inj hf
    exact ab_U.ret rfl rfl ⟨rfl, rfl⟩
set_option maxRecDepth 20000 in
def f_X9_readDebt (F : Nat)   (μ : fm_M) : Option (Unit × fm_M) := (Option.bind (f_X9_oneHere F μ) (fun q1 => (if ¬ (q1.2.1 232 15) = 0 then (if ab_in (2 * (q1.2.1 232 8)) 8 = true then (Option.bind (some (fm_sA q1.2 237 (upd (q1.2.2.1 237) (2 * (q1.2.1 232 8)).toNatClampNeg q1.1))) (fun m5 => (Option.bind (f_X9_oneHere F m5) (fun q7 => (if ab_in ((2 * (m5.1 232 8)) + 1) 8 = true then (Option.bind (some (fm_sA q7.2 237 (upd (q7.2.2.1 237) ((2 * (m5.1 232 8)) + 1).toNatClampNeg q7.1))) (fun m10 => (Option.bind (f_X9_number F 0 99 m10) (fun q12 => (if ab_in (33 + (m10.1 232 8)) 38 = true then (Option.bind (some (fm_sA q12.2 236 (upd (q12.2.2.1 236) (33 + (m10.1 232 8)).toNatClampNeg q12.1))) (fun m15 => (Option.bind (some (fm_sI m15 232 8 ((m15.1 232 8) + 1))) (fun m17 => some ((), m17))))) else none))))) else none))))) else none) else (if ¬ (q1.2.1 232 19) = 2 then (if ab_in (2 * (q1.2.1 232 8)) 8 = true then (Option.bind (some (fm_sA q1.2 237 (upd (q1.2.2.1 237) (2 * (q1.2.1 232 8)).toNatClampNeg q1.1))) (fun m21 => (Option.bind (f_X9_oneHere F m21) (fun q23 => (if ab_in ((2 * (m21.1 232 8)) + 1) 8 = true then (Option.bind (some (fm_sA q23.2 237 (upd (q23.2.2.1 237) ((2 * (m21.1 232 8)) + 1).toNatClampNeg q23.1))) (fun m26 => (Option.bind (f_X9_number F 0 99 m26) (fun q28 => (if ab_in (33 + (m26.1 232 8)) 38 = true then (Option.bind (some (fm_sA q28.2 236 (upd (q28.2.2.1 236) (33 + (m26.1 232 8)).toNatClampNeg q28.1))) (fun m31 => (Option.bind (some (fm_sI m31 232 8 ((m31.1 232 8) + 1))) (fun m33 => some ((), m33))))) else none))))) else none))))) else none) else (if ¬ (q1.2.1 232 20) = q1.1 then (if ab_in (2 * (q1.2.1 232 8)) 8 = true then (Option.bind (some (fm_sA q1.2 237 (upd (q1.2.2.1 237) (2 * (q1.2.1 232 8)).toNatClampNeg q1.1))) (fun m37 => (Option.bind (f_X9_oneHere F m37) (fun q39 => (if ab_in ((2 * (m37.1 232 8)) + 1) 8 = true then (Option.bind (some (fm_sA q39.2 237 (upd (q39.2.2.1 237) ((2 * (m37.1 232 8)) + 1).toNatClampNeg q39.1))) (fun m42 => (Option.bind (f_X9_number F 0 99 m42) (fun q44 => (if ab_in (33 + (m42.1 232 8)) 38 = true then (Option.bind (some (fm_sA q44.2 236 (upd (q44.2.2.1 236) (33 + (m42.1 232 8)).toNatClampNeg q44.1))) (fun m47 => (Option.bind (some (fm_sI m47 232 8 ((m47.1 232 8) + 1))) (fun m49 => some ((), m49))))) else none))))) else none))))) else none) else (Option.bind (f_X9_fails F 3 q1.2) (fun q51 => (if ab_in (2 * (q51.2.1 232 8)) 8 = true then (Option.bind (some (fm_sA q51.2 237 (upd (q51.2.2.1 237) (2 * (q51.2.1 232 8)).toNatClampNeg q1.1))) (fun m54 => (Option.bind (f_X9_oneHere F m54) (fun q56 => (if ab_in ((2 * (m54.1 232 8)) + 1) 8 = true then (Option.bind (some (fm_sA q56.2 237 (upd (q56.2.2.1 237) ((2 * (m54.1 232 8)) + 1).toNatClampNeg q56.1))) (fun m59 => (Option.bind (f_X9_number F 0 99 m59) (fun q61 => (if ab_in (33 + (m59.1 232 8)) 38 = true then (Option.bind (some (fm_sA q61.2 236 (upd (q61.2.2.1 236) (33 + (m59.1 232 8)).toNatClampNeg q61.1))) (fun m64 => (Option.bind (some (fm_sI m64 232 8 ((m64.1 232 8) + 1))) (fun m66 => some ((), m66))))) else none))))) else none))))) else none))))))))
set_option maxRecDepth 20000 in
theorem t_X9_readDebt {X : Nat × (Nat → Int32)} {G : Nat → Nat → Option Nat} (hG : fm_Gok G) {F : Nat}    {μ : fm_M} {r : Unit × fm_M} (hf : f_X9_readDebt F  μ = some r) : ab_F 5 144 [.ref 232] (hp X G μ) none (hp X G r.2) := by
  unfold f_X9_readDebt at hf
  refine ab_T.of (d := 4) rfl (Nat.le_of_ble_eq_true rfl) ?_
  show ab_U _ _ kX9_readDebt (0, [some (.ref 232), none], [], hp X G μ) _
  refine ab_U.run 1 (S' := (1, [some (.ref 232), none], [.ref 232], hp X G μ)) rfl ?_
  obtain ⟨q1, h2, hf⟩ := ab_bnd hf
  refine ab_U.fn rfl rfl (t_X9_oneHere (X := X) hG h2) (by omega) ?_
  show ab_U _ _ _ (4, [some (.ref 232), none], [.int q1.1], hp X G q1.2) _
  refine ab_U.run 3 (S' := (9, [some (.ref 232), some (.int q1.1)], [.int (q1.2.1 232 15)], hp X G q1.2)) rfl ?_
  refine ab_U.if_ne rfl (fun b3 => ?_) (fun b3 => ?_)
  · rw [if_pos b3] at hf
    refine ab_U.run 7 (S' := (44, [some (.ref 232), some (.int q1.1)], [.int q1.1, .int (2 * (q1.2.1 232 8)), .ref 237], hp X G q1.2)) rfl ?_
    obtain ⟨c4, hf⟩ := ab_ifs hf
    obtain ⟨m5, e6, hf⟩ := ab_bnd hf
    have e6 := Option.some.inj e6
    refine ab_U.iast (n := 8) rfl ⟨by decide, rfl⟩ c4 ?_
    show ab_U _ _ _ (45, [some (.ref 232), some (.int q1.1)], [], hp X G (fm_sA q1.2 237 (upd (q1.2.2.1 237) (2 * (q1.2.1 232 8)).toNatClampNeg q1.1))) _
    rw [e6]
    refine ab_U.run 9 (S' := (58, [some (.ref 232), some (.int q1.1)], [.ref 232, .int ((2 * (m5.1 232 8)) + 1), .ref 237], hp X G m5)) rfl ?_
    obtain ⟨q7, h8, hf⟩ := ab_bnd hf
    refine ab_U.fn rfl rfl (t_X9_oneHere (X := X) hG h8) (by omega) ?_
    show ab_U _ _ _ (61, [some (.ref 232), some (.int q1.1)], [.int q7.1, .int ((2 * (m5.1 232 8)) + 1), .ref 237], hp X G q7.2) _
    obtain ⟨c9, hf⟩ := ab_ifs hf
    obtain ⟨m10, e11, hf⟩ := ab_bnd hf
    have e11 := Option.some.inj e11
    refine ab_U.iast (n := 8) rfl ⟨by decide, rfl⟩ c9 ?_
    show ab_U _ _ _ (62, [some (.ref 232), some (.int q1.1)], [], hp X G (fm_sA q7.2 237 (upd (q7.2.2.1 237) ((2 * (m5.1 232 8)) + 1).toNatClampNeg q7.1))) _
    rw [e11]
    refine ab_U.run 9 (S' := (77, [some (.ref 232), some (.int q1.1)], [.int 99, .int 0, .ref 232, .int (33 + (m10.1 232 8)), .ref 236], hp X G m10)) rfl ?_
    obtain ⟨q12, h13, hf⟩ := ab_bnd hf
    refine ab_U.fn rfl rfl (t_X9_number (X := X) hG h13) (by omega) ?_
    show ab_U _ _ _ (80, [some (.ref 232), some (.int q1.1)], [.int q12.1, .int (33 + (m10.1 232 8)), .ref 236], hp X G q12.2) _
    obtain ⟨c14, hf⟩ := ab_ifs hf
    obtain ⟨m15, e16, hf⟩ := ab_bnd hf
    have e16 := Option.some.inj e16
    refine ab_U.iast (n := 38) rfl ⟨by decide, rfl⟩ c14 ?_
    show ab_U _ _ _ (81, [some (.ref 232), some (.int q1.1)], [], hp X G (fm_sA q12.2 236 (upd (q12.2.2.1 236) (33 + (m10.1 232 8)).toNatClampNeg q12.1))) _
    rw [e16]
    refine ab_U.run 5 (S' := (88, [some (.ref 232), some (.int q1.1)], [.int ((m15.1 232 8) + 1), .ref 232], hp X G m15)) rfl ?_
    obtain ⟨m17, e18, hf⟩ := ab_bnd hf
    have e18 := Option.some.inj e18
    refine ab_U.pfI (ci := 9) (k9 := 8) rfl ⟨by decide, rfl⟩ ⟨rfl, rfl, by decide, rfl⟩ rfl ?_
    show ab_U _ _ _ (91, [some (.ref 232), some (.int q1.1)], [], hp X G (fm_sI m15 232 8 ((m15.1 232 8) + 1))) _
    rw [e18]
    obtain rfl := Option.some.inj hf
    exact ab_U.ret rfl rfl ⟨rfl, rfl⟩
  · rw [if_neg b3] at hf
    refine ab_U.run 3 (S' := (17, [some (.ref 232), some (.int q1.1)], [.int 2, .int (q1.2.1 232 19)], hp X G q1.2)) rfl ?_
    refine ab_U.ic_ne rfl (fun b19 => ?_) (fun b19 => ?_)
    · rw [if_pos b19] at hf
      refine ab_U.run 7 (S' := (44, [some (.ref 232), some (.int q1.1)], [.int q1.1, .int (2 * (q1.2.1 232 8)), .ref 237], hp X G q1.2)) rfl ?_
      obtain ⟨c20, hf⟩ := ab_ifs hf
      obtain ⟨m21, e22, hf⟩ := ab_bnd hf
      have e22 := Option.some.inj e22
      refine ab_U.iast (n := 8) rfl ⟨by decide, rfl⟩ c20 ?_
      show ab_U _ _ _ (45, [some (.ref 232), some (.int q1.1)], [], hp X G (fm_sA q1.2 237 (upd (q1.2.2.1 237) (2 * (q1.2.1 232 8)).toNatClampNeg q1.1))) _
      rw [e22]
      refine ab_U.run 9 (S' := (58, [some (.ref 232), some (.int q1.1)], [.ref 232, .int ((2 * (m21.1 232 8)) + 1), .ref 237], hp X G m21)) rfl ?_
      obtain ⟨q23, h24, hf⟩ := ab_bnd hf
      refine ab_U.fn rfl rfl (t_X9_oneHere (X := X) hG h24) (by omega) ?_
      show ab_U _ _ _ (61, [some (.ref 232), some (.int q1.1)], [.int q23.1, .int ((2 * (m21.1 232 8)) + 1), .ref 237], hp X G q23.2) _
      obtain ⟨c25, hf⟩ := ab_ifs hf
      obtain ⟨m26, e27, hf⟩ := ab_bnd hf
      have e27 := Option.some.inj e27
      refine ab_U.iast (n := 8) rfl ⟨by decide, rfl⟩ c25 ?_
      show ab_U _ _ _ (62, [some (.ref 232), some (.int q1.1)], [], hp X G (fm_sA q23.2 237 (upd (q23.2.2.1 237) ((2 * (m21.1 232 8)) + 1).toNatClampNeg q23.1))) _
      rw [e27]
      refine ab_U.run 9 (S' := (77, [some (.ref 232), some (.int q1.1)], [.int 99, .int 0, .ref 232, .int (33 + (m26.1 232 8)), .ref 236], hp X G m26)) rfl ?_
      obtain ⟨q28, h29, hf⟩ := ab_bnd hf
      refine ab_U.fn rfl rfl (t_X9_number (X := X) hG h29) (by omega) ?_
      show ab_U _ _ _ (80, [some (.ref 232), some (.int q1.1)], [.int q28.1, .int (33 + (m26.1 232 8)), .ref 236], hp X G q28.2) _
      obtain ⟨c30, hf⟩ := ab_ifs hf
      obtain ⟨m31, e32, hf⟩ := ab_bnd hf
      have e32 := Option.some.inj e32
      refine ab_U.iast (n := 38) rfl ⟨by decide, rfl⟩ c30 ?_
      show ab_U _ _ _ (81, [some (.ref 232), some (.int q1.1)], [], hp X G (fm_sA q28.2 236 (upd (q28.2.2.1 236) (33 + (m26.1 232 8)).toNatClampNeg q28.1))) _
      rw [e32]
      refine ab_U.run 5 (S' := (88, [some (.ref 232), some (.int q1.1)], [.int ((m31.1 232 8) + 1), .ref 232], hp X G m31)) rfl ?_
      obtain ⟨m33, e34, hf⟩ := ab_bnd hf
      have e34 := Option.some.inj e34
      refine ab_U.pfI (ci := 9) (k9 := 8) rfl ⟨by decide, rfl⟩ ⟨rfl, rfl, by decide, rfl⟩ rfl ?_
      show ab_U _ _ _ (91, [some (.ref 232), some (.int q1.1)], [], hp X G (fm_sI m31 232 8 ((m31.1 232 8) + 1))) _
      rw [e34]
      obtain rfl := Option.some.inj hf
      exact ab_U.ret rfl rfl ⟨rfl, rfl⟩
    · rw [if_neg b19] at hf
      refine ab_U.run 3 (S' := (25, [some (.ref 232), some (.int q1.1)], [.int q1.1, .int (q1.2.1 232 20)], hp X G q1.2)) rfl ?_
      refine ab_U.ic_ne rfl (fun b35 => ?_) (fun b35 => ?_)
      · rw [if_pos b35] at hf
        refine ab_U.run 7 (S' := (44, [some (.ref 232), some (.int q1.1)], [.int q1.1, .int (2 * (q1.2.1 232 8)), .ref 237], hp X G q1.2)) rfl ?_
        obtain ⟨c36, hf⟩ := ab_ifs hf
        obtain ⟨m37, e38, hf⟩ := ab_bnd hf
        have e38 := Option.some.inj e38
        refine ab_U.iast (n := 8) rfl ⟨by decide, rfl⟩ c36 ?_
        show ab_U _ _ _ (45, [some (.ref 232), some (.int q1.1)], [], hp X G (fm_sA q1.2 237 (upd (q1.2.2.1 237) (2 * (q1.2.1 232 8)).toNatClampNeg q1.1))) _
        rw [e38]
        refine ab_U.run 9 (S' := (58, [some (.ref 232), some (.int q1.1)], [.ref 232, .int ((2 * (m37.1 232 8)) + 1), .ref 237], hp X G m37)) rfl ?_
        obtain ⟨q39, h40, hf⟩ := ab_bnd hf
        refine ab_U.fn rfl rfl (t_X9_oneHere (X := X) hG h40) (by omega) ?_
        show ab_U _ _ _ (61, [some (.ref 232), some (.int q1.1)], [.int q39.1, .int ((2 * (m37.1 232 8)) + 1), .ref 237], hp X G q39.2) _
        obtain ⟨c41, hf⟩ := ab_ifs hf
        obtain ⟨m42, e43, hf⟩ := ab_bnd hf
        have e43 := Option.some.inj e43
        refine ab_U.iast (n := 8) rfl ⟨by decide, rfl⟩ c41 ?_
        show ab_U _ _ _ (62, [some (.ref 232), some (.int q1.1)], [], hp X G (fm_sA q39.2 237 (upd (q39.2.2.1 237) ((2 * (m37.1 232 8)) + 1).toNatClampNeg q39.1))) _
        rw [e43]
        refine ab_U.run 9 (S' := (77, [some (.ref 232), some (.int q1.1)], [.int 99, .int 0, .ref 232, .int (33 + (m42.1 232 8)), .ref 236], hp X G m42)) rfl ?_
        obtain ⟨q44, h45, hf⟩ := ab_bnd hf
        refine ab_U.fn rfl rfl (t_X9_number (X := X) hG h45) (by omega) ?_
        show ab_U _ _ _ (80, [some (.ref 232), some (.int q1.1)], [.int q44.1, .int (33 + (m42.1 232 8)), .ref 236], hp X G q44.2) _
        obtain ⟨c46, hf⟩ := ab_ifs hf
        obtain ⟨m47, e48, hf⟩ := ab_bnd hf
        have e48 := Option.some.inj e48
        refine ab_U.iast (n := 38) rfl ⟨by decide, rfl⟩ c46 ?_
        show ab_U _ _ _ (81, [some (.ref 232), some (.int q1.1)], [], hp X G (fm_sA q44.2 236 (upd (q44.2.2.1 236) (33 + (m42.1 232 8)).toNatClampNeg q44.1))) _
        rw [e48]
        refine ab_U.run 5 (S' := (88, [some (.ref 232), some (.int q1.1)], [.int ((m47.1 232 8) + 1), .ref 232], hp X G m47)) rfl ?_
        obtain ⟨m49, e50, hf⟩ := ab_bnd hf
        have e50 := Option.some.inj e50
        refine ab_U.pfI (ci := 9) (k9 := 8) rfl ⟨by decide, rfl⟩ ⟨rfl, rfl, by decide, rfl⟩ rfl ?_
        show ab_U _ _ _ (91, [some (.ref 232), some (.int q1.1)], [], hp X G (fm_sI m47 232 8 ((m47.1 232 8) + 1))) _
        rw [e50]
        obtain rfl := Option.some.inj hf
        exact ab_U.ret rfl rfl ⟨rfl, rfl⟩
      · rw [if_neg b35] at hf
        refine ab_U.run 2 (S' := (30, [some (.ref 232), some (.int q1.1)], [.int 3, .ref 232], hp X G q1.2)) rfl ?_
        obtain ⟨q51, h52, hf⟩ := ab_bnd hf
        refine ab_U.fn rfl rfl (t_X9_fails (X := X) hG h52) (by omega) ?_
        show ab_U _ _ _ (33, [some (.ref 232), some (.int q1.1)], [], hp X G q51.2) _
        refine ab_U.run 7 (S' := (44, [some (.ref 232), some (.int q1.1)], [.int q1.1, .int (2 * (q51.2.1 232 8)), .ref 237], hp X G q51.2)) rfl ?_
        obtain ⟨c53, hf⟩ := ab_ifs hf
        obtain ⟨m54, e55, hf⟩ := ab_bnd hf
        have e55 := Option.some.inj e55
        refine ab_U.iast (n := 8) rfl ⟨by decide, rfl⟩ c53 ?_
        show ab_U _ _ _ (45, [some (.ref 232), some (.int q1.1)], [], hp X G (fm_sA q51.2 237 (upd (q51.2.2.1 237) (2 * (q51.2.1 232 8)).toNatClampNeg q1.1))) _
        rw [e55]
        refine ab_U.run 9 (S' := (58, [some (.ref 232), some (.int q1.1)], [.ref 232, .int ((2 * (m54.1 232 8)) + 1), .ref 237], hp X G m54)) rfl ?_
        obtain ⟨q56, h57, hf⟩ := ab_bnd hf
        refine ab_U.fn rfl rfl (t_X9_oneHere (X := X) hG h57) (by omega) ?_
        show ab_U _ _ _ (61, [some (.ref 232), some (.int q1.1)], [.int q56.1, .int ((2 * (m54.1 232 8)) + 1), .ref 237], hp X G q56.2) _
        obtain ⟨c58, hf⟩ := ab_ifs hf
        obtain ⟨m59, e60, hf⟩ := ab_bnd hf
        have e60 := Option.some.inj e60
        refine ab_U.iast (n := 8) rfl ⟨by decide, rfl⟩ c58 ?_
        show ab_U _ _ _ (62, [some (.ref 232), some (.int q1.1)], [], hp X G (fm_sA q56.2 237 (upd (q56.2.2.1 237) ((2 * (m54.1 232 8)) + 1).toNatClampNeg q56.1))) _
        rw [e60]
        refine ab_U.run 9 (S' := (77, [some (.ref 232), some (.int q1.1)], [.int 99, .int 0, .ref 232, .int (33 + (m59.1 232 8)), .ref 236], hp X G m59)) rfl ?_
        obtain ⟨q61, h62, hf⟩ := ab_bnd hf
        refine ab_U.fn rfl rfl (t_X9_number (X := X) hG h62) (by omega) ?_
        show ab_U _ _ _ (80, [some (.ref 232), some (.int q1.1)], [.int q61.1, .int (33 + (m59.1 232 8)), .ref 236], hp X G q61.2) _
        obtain ⟨c63, hf⟩ := ab_ifs hf
        obtain ⟨m64, e65, hf⟩ := ab_bnd hf
        have e65 := Option.some.inj e65
        refine ab_U.iast (n := 38) rfl ⟨by decide, rfl⟩ c63 ?_
        show ab_U _ _ _ (81, [some (.ref 232), some (.int q1.1)], [], hp X G (fm_sA q61.2 236 (upd (q61.2.2.1 236) (33 + (m59.1 232 8)).toNatClampNeg q61.1))) _
        rw [e65]
        refine ab_U.run 5 (S' := (88, [some (.ref 232), some (.int q1.1)], [.int ((m64.1 232 8) + 1), .ref 232], hp X G m64)) rfl ?_
        obtain ⟨m66, e67, hf⟩ := ab_bnd hf
        have e67 := Option.some.inj e67
        refine ab_U.pfI (ci := 9) (k9 := 8) rfl ⟨by decide, rfl⟩ ⟨rfl, rfl, by decide, rfl⟩ rfl ?_
        show ab_U _ _ _ (91, [some (.ref 232), some (.int q1.1)], [], hp X G (fm_sI m64 232 8 ((m64.1 232 8) + 1))) _
        rw [e67]
        obtain rfl := Option.some.inj hf
        exact ab_U.ret rfl rfl ⟨rfl, rfl⟩
