/-! by program: each method as a function over the memory, and that our machine does it -/
set_option maxRecDepth 20000 in
def b_X9_text_39 (F : Nat)  (gg : Nat → Int32 → Int32 → fm_M → Option (Int32 × fm_M)) (l1 : Int32) (l2 : Int32) (μ : fm_M) : Option (Int32 × fm_M) := (if 38 ≤ l2 then (Option.bind (f_X9_step F μ) (fun q2 => gg 62 l1 0 q2.2)) else (if ab_in l2 38 = true then (Option.bind (some (fm_sA μ 236 (upd (μ.2.1 236) l2.toNatClampNeg 0))) (fun m5 => gg 39 l1 (l2 + 1) m5)) else none))
set_option maxRecDepth 20000 in
def b_X9_text_62 (F : Nat)  (gg : Nat → Int32 → Int32 → fm_M → Option (Int32 × fm_M)) (l1 : Int32) (l2 : Int32) (μ : fm_M) : Option (Int32 × fm_M) := (if ¬ (μ.1 232 15) = 0 then (if ¬ (μ.1 232 15) = 0 then (Option.bind (some (fm_sI μ 232 13 0)) (fun m9 => (Option.bind (some (fm_sI m9 232 14 (m9.1 232 15))) (fun m11 => (if (m11.1 232 15) ≤ 0 then gg 140 l1 0 m11 else some (((-10) - (m11.1 232 16)), m11)))))) else (if (μ.1 232 11) < (μ.1 232 7) then (Option.bind (some (fm_sI μ 232 13 0)) (fun m15 => (Option.bind (some (fm_sI m15 232 14 (m15.1 232 15))) (fun m17 => (if (m17.1 232 15) ≤ 0 then gg 140 l1 0 m17 else some (((-10) - (m17.1 232 16)), m17)))))) else (Option.bind (f_X9_fails F 6 μ) (fun q20 => (Option.bind (some (fm_sI q20.2 232 13 0)) (fun m22 => (Option.bind (some (fm_sI m22 232 14 (m22.1 232 15))) (fun m24 => (if (m24.1 232 15) ≤ 0 then gg 140 l1 0 m24 else some (((-10) - (m24.1 232 16)), m24)))))))))) else (if (μ.1 232 19) = 0 then (if ¬ (μ.1 232 15) = 0 then (Option.bind (some (fm_sI μ 232 13 0)) (fun m29 => (Option.bind (some (fm_sI m29 232 14 (m29.1 232 15))) (fun m31 => (if (m31.1 232 15) ≤ 0 then gg 140 l1 0 m31 else some (((-10) - (m31.1 232 16)), m31)))))) else (if (μ.1 232 11) < (μ.1 232 7) then (Option.bind (some (fm_sI μ 232 13 0)) (fun m35 => (Option.bind (some (fm_sI m35 232 14 (m35.1 232 15))) (fun m37 => (if (m37.1 232 15) ≤ 0 then gg 140 l1 0 m37 else some (((-10) - (m37.1 232 16)), m37)))))) else (Option.bind (f_X9_fails F 6 μ) (fun q40 => (Option.bind (some (fm_sI q40.2 232 13 0)) (fun m42 => (Option.bind (some (fm_sI m42 232 14 (m42.1 232 15))) (fun m44 => (if (m44.1 232 15) ≤ 0 then gg 140 l1 0 m44 else some (((-10) - (m44.1 232 16)), m44)))))))))) else (Option.bind (f_X9_readLine F μ) (fun q47 => gg 62 (l1 + 1) 0 q47.2))))
set_option maxRecDepth 20000 in
def b_X9_text_140 (F : Nat)  (gg : Nat → Int32 → Int32 → fm_M → Option (Int32 × fm_M)) (l1 : Int32) (l2 : Int32) (μ : fm_M) : Option (Int32 × fm_M) := (if 38 ≤ l2 then (Option.bind (some (fm_sI μ 232 1 (μ.1 232 7))) (fun m50 => (Option.bind (some (fm_sI m50 232 3 (m50.1 232 8))) (fun m52 => (Option.bind (some (fm_sI m52 232 33 0)) (fun m54 => (if ab_in 0 2 = true then (Option.bind (some (fm_sA m54 249 (upd (m54.2.1 249) (0 : Int32).toNatClampNeg (0 &&& 1)))) (fun m57 => (if ab_in 1 2 = true then (Option.bind (some (fm_sA m57 249 (upd (m57.2.1 249) (1 : Int32).toNatClampNeg (0 &&& 1)))) (fun m60 => some (l1, m60))) else none))) else none))))))) else (if ab_in l2 38 = true then (if ab_in l2 228 = true then (Option.bind (some (fm_sA μ 233 (upd (μ.2.1 233) l2.toNatClampNeg (μ.2.1 236 l2.toNatClampNeg)))) (fun m64 => (if ab_in (l2 - l2 / 8 * 8) 8 = true then (if ab_in (l2 - l2 / 8 * 8) 8 = true then (Option.bind (some (fm_sA m64 234 (upd (m64.2.1 234) (l2 - l2 / 8 * 8).toNatClampNeg (m64.2.1 237 (l2 - l2 / 8 * 8).toNatClampNeg)))) (fun m68 => gg 140 l1 (l2 + 1) m68)) else none) else none))) else none) else none))
def g_X9_text (F : Nat)  : Nat → Nat → Int32 → Int32 → fm_M → Option (Int32 × fm_M)
  | 0, _, _, _, _ => none
  | n + 1, pc, l1, l2, μ => if pc = 39 then b_X9_text_39 F  (g_X9_text F  n) l1 l2 μ else if pc = 62 then b_X9_text_62 F  (g_X9_text F  n) l1 l2 μ else if pc = 140 then b_X9_text_140 F  (g_X9_text F  n) l1 l2 μ else none
set_option maxRecDepth 20000 in
theorem t_X9_text_g {X : Nat × (Nat → Int32)} {G : Nat → Nat → Option Nat} (hG : fm_Gok G) {F : Nat}    : ∀ n : Nat, (∀ (l1 : Int32) (l2 : Int32) (μ : fm_M) (r : Int32 × fm_M), g_X9_text F  n 39 l1 l2 μ = some r → ab_U 7 (some .int) kX9_text (39, [some (.ref 232), some (.int l1), some (.int l2)], [], hp X G μ) (fun r9 h9 => r9 = some (.int r.1) ∧ h9 = hp X G r.2)) ∧ (∀ (l1 : Int32) (l2 : Int32) (μ : fm_M) (r : Int32 × fm_M), g_X9_text F  n 62 l1 l2 μ = some r → ab_U 7 (some .int) kX9_text (62, [some (.ref 232), some (.int l1), none], [], hp X G μ) (fun r9 h9 => r9 = some (.int r.1) ∧ h9 = hp X G r.2)) ∧ (∀ (l1 : Int32) (l2 : Int32) (μ : fm_M) (r : Int32 × fm_M), g_X9_text F  n 140 l1 l2 μ = some r → ab_U 7 (some .int) kX9_text (140, [some (.ref 232), some (.int l1), some (.int l2)], [], hp X G μ) (fun r9 h9 => r9 = some (.int r.1) ∧ h9 = hp X G r.2))
  | 0 => by
    refine ⟨?_, ?_, ?_⟩
    all_goals (intros; rename_i h; cases h)
  | n + 1 => by
    have ih := t_X9_text_g (X := X) hG (F := F)   n
    refine ⟨?_, ?_, ?_⟩
    · intro l1 l2 μ r hf
      have hf : b_X9_text_39 F  (g_X9_text F  n) l1 l2 μ = some r := hf
      unfold b_X9_text_39 at hf
      refine ab_U.run 2 (S' := (42, [some (.ref 232), some (.int l1), some (.int l2)], [.int 38, .int l2], hp X G μ)) rfl ?_
      refine ab_U.ic_ge rfl (fun b1 => ?_) (fun b1 => ?_)
      · rw [if_pos b1] at hf
        refine ab_U.run 1 (S' := (59, [some (.ref 232), some (.int l1), some (.int l2)], [.ref 232], hp X G μ)) rfl ?_
        obtain ⟨q2, h3, hf⟩ := ab_bnd hf
        refine ab_U.fn rfl rfl (t_X9_step (X := X) hG h3) (by omega) ?_
        show ab_U _ _ _ (62, [some (.ref 232), some (.int l1), some (.int l2)], [], hp X G q2.2) _
        exact ab_U.weak (ih.2.1 _ _ _ _ hf) (ab_leL.of ⟨rfl, ⟨rfl, trivial⟩⟩)
      · rw [if_neg b1] at hf
        refine ab_U.run 4 (S' := (51, [some (.ref 232), some (.int l1), some (.int l2)], [.int 0, .int l2, .ref 236], hp X G μ)) rfl ?_
        obtain ⟨c4, hf⟩ := ab_ifs hf
        obtain ⟨m5, e6, hf⟩ := ab_bnd hf
        have e6 := Option.some.inj e6
        refine ab_U.iast (n := 38) rfl ⟨by decide, rfl⟩ c4 ?_
        show ab_U _ _ _ (52, [some (.ref 232), some (.int l1), some (.int l2)], [], hp X G (fm_sA μ 236 (upd (μ.2.1 236) l2.toNatClampNeg 0))) _
        rw [e6]
        refine ab_U.run 2 (S' := (39, [some (.ref 232), some (.int l1), some (.int (l2 + 1))], [], hp X G m5)) rfl ?_
        exact ab_U.weak (ih.1 _ _ _ _ hf) (ab_leL.of ⟨rfl, ⟨rfl, ⟨rfl, trivial⟩⟩⟩)
    · intro l1 l2 μ r hf
      have hf : b_X9_text_62 F  (g_X9_text F  n) l1 l2 μ = some r := hf
      unfold b_X9_text_62 at hf
      refine ab_U.run 2 (S' := (66, [some (.ref 232), some (.int l1), none], [.int (μ.1 232 15)], hp X G μ)) rfl ?_
      refine ab_U.if_ne rfl (fun b7 => ?_) (fun b7 => ?_)
      · rw [if_pos b7] at hf
        refine ab_U.run 2 (S' := (90, [some (.ref 232), some (.int l1), none], [.int (μ.1 232 15)], hp X G μ)) rfl ?_
        refine ab_U.if_ne rfl (fun b8 => ?_) (fun b8 => ?_)
        · rw [if_pos b8] at hf
          refine ab_U.run 2 (S' := (112, [some (.ref 232), some (.int l1), none], [.int 0, .ref 232], hp X G μ)) rfl ?_
          obtain ⟨m9, e10, hf⟩ := ab_bnd hf
          have e10 := Option.some.inj e10
          refine ab_U.pfI (ci := 9) (k9 := 13) rfl ⟨by decide, rfl⟩ ⟨rfl, rfl, by decide, rfl⟩ rfl ?_
          show ab_U _ _ _ (115, [some (.ref 232), some (.int l1), none], [], hp X G (fm_sI μ 232 13 0)) _
          rw [e10]
          refine ab_U.run 3 (S' := (120, [some (.ref 232), some (.int l1), none], [.int (m9.1 232 15), .ref 232], hp X G m9)) rfl ?_
          obtain ⟨m11, e12, hf⟩ := ab_bnd hf
          have e12 := Option.some.inj e12
          refine ab_U.pfI (ci := 9) (k9 := 14) rfl ⟨by decide, rfl⟩ ⟨rfl, rfl, by decide, rfl⟩ rfl ?_
          show ab_U _ _ _ (123, [some (.ref 232), some (.int l1), none], [], hp X G (fm_sI m9 232 14 (m9.1 232 15))) _
          rw [e12]
          refine ab_U.run 2 (S' := (127, [some (.ref 232), some (.int l1), none], [.int (m11.1 232 15)], hp X G m11)) rfl ?_
          refine ab_U.if_le rfl (fun b13 => ?_) (fun b13 => ?_)
          · rw [if_pos b13] at hf
            refine ab_U.run 2 (S' := (140, [some (.ref 232), some (.int l1), some (.int 0)], [], hp X G m11)) rfl ?_
            exact ab_U.weak (ih.2.2 _ _ _ _ hf) (ab_leL.of ⟨rfl, ⟨rfl, ⟨rfl, trivial⟩⟩⟩)
          · rw [if_neg b13] at hf
            refine ab_U.run 4 (S' := (137, [some (.ref 232), some (.int l1), none], [.int ((-10) - (m11.1 232 16))], hp X G m11)) rfl ?_
            obtain rfl := Option.some.inj hf
            exact ab_U.ret rfl rfl ⟨rfl, rfl⟩
        · rw [if_neg b8] at hf
          refine ab_U.run 4 (S' := (101, [some (.ref 232), some (.int l1), none], [.int (μ.1 232 7), .int (μ.1 232 11)], hp X G μ)) rfl ?_
          refine ab_U.ic_lt rfl (fun b14 => ?_) (fun b14 => ?_)
          · rw [if_pos b14] at hf
            refine ab_U.run 2 (S' := (112, [some (.ref 232), some (.int l1), none], [.int 0, .ref 232], hp X G μ)) rfl ?_
            obtain ⟨m15, e16, hf⟩ := ab_bnd hf
            have e16 := Option.some.inj e16
            refine ab_U.pfI (ci := 9) (k9 := 13) rfl ⟨by decide, rfl⟩ ⟨rfl, rfl, by decide, rfl⟩ rfl ?_
            show ab_U _ _ _ (115, [some (.ref 232), some (.int l1), none], [], hp X G (fm_sI μ 232 13 0)) _
            rw [e16]
            refine ab_U.run 3 (S' := (120, [some (.ref 232), some (.int l1), none], [.int (m15.1 232 15), .ref 232], hp X G m15)) rfl ?_
            obtain ⟨m17, e18, hf⟩ := ab_bnd hf
            have e18 := Option.some.inj e18
            refine ab_U.pfI (ci := 9) (k9 := 14) rfl ⟨by decide, rfl⟩ ⟨rfl, rfl, by decide, rfl⟩ rfl ?_
            show ab_U _ _ _ (123, [some (.ref 232), some (.int l1), none], [], hp X G (fm_sI m15 232 14 (m15.1 232 15))) _
            rw [e18]
            refine ab_U.run 2 (S' := (127, [some (.ref 232), some (.int l1), none], [.int (m17.1 232 15)], hp X G m17)) rfl ?_
            refine ab_U.if_le rfl (fun b19 => ?_) (fun b19 => ?_)
            · rw [if_pos b19] at hf
              refine ab_U.run 2 (S' := (140, [some (.ref 232), some (.int l1), some (.int 0)], [], hp X G m17)) rfl ?_
              exact ab_U.weak (ih.2.2 _ _ _ _ hf) (ab_leL.of ⟨rfl, ⟨rfl, ⟨rfl, trivial⟩⟩⟩)
            · rw [if_neg b19] at hf
              refine ab_U.run 4 (S' := (137, [some (.ref 232), some (.int l1), none], [.int ((-10) - (m17.1 232 16))], hp X G m17)) rfl ?_
              obtain rfl := Option.some.inj hf
              exact ab_U.ret rfl rfl ⟨rfl, rfl⟩
          · rw [if_neg b14] at hf
            refine ab_U.run 2 (S' := (107, [some (.ref 232), some (.int l1), none], [.int 6, .ref 232], hp X G μ)) rfl ?_
            obtain ⟨q20, h21, hf⟩ := ab_bnd hf
            refine ab_U.fn rfl rfl (t_X9_fails (X := X) hG h21) (by omega) ?_
            show ab_U _ _ _ (110, [some (.ref 232), some (.int l1), none], [], hp X G q20.2) _
            refine ab_U.run 2 (S' := (112, [some (.ref 232), some (.int l1), none], [.int 0, .ref 232], hp X G q20.2)) rfl ?_
            obtain ⟨m22, e23, hf⟩ := ab_bnd hf
            have e23 := Option.some.inj e23
            refine ab_U.pfI (ci := 9) (k9 := 13) rfl ⟨by decide, rfl⟩ ⟨rfl, rfl, by decide, rfl⟩ rfl ?_
            show ab_U _ _ _ (115, [some (.ref 232), some (.int l1), none], [], hp X G (fm_sI q20.2 232 13 0)) _
            rw [e23]
            refine ab_U.run 3 (S' := (120, [some (.ref 232), some (.int l1), none], [.int (m22.1 232 15), .ref 232], hp X G m22)) rfl ?_
            obtain ⟨m24, e25, hf⟩ := ab_bnd hf
            have e25 := Option.some.inj e25
            refine ab_U.pfI (ci := 9) (k9 := 14) rfl ⟨by decide, rfl⟩ ⟨rfl, rfl, by decide, rfl⟩ rfl ?_
            show ab_U _ _ _ (123, [some (.ref 232), some (.int l1), none], [], hp X G (fm_sI m22 232 14 (m22.1 232 15))) _
            rw [e25]
            refine ab_U.run 2 (S' := (127, [some (.ref 232), some (.int l1), none], [.int (m24.1 232 15)], hp X G m24)) rfl ?_
            refine ab_U.if_le rfl (fun b26 => ?_) (fun b26 => ?_)
            · rw [if_pos b26] at hf
              refine ab_U.run 2 (S' := (140, [some (.ref 232), some (.int l1), some (.int 0)], [], hp X G m24)) rfl ?_
              exact ab_U.weak (ih.2.2 _ _ _ _ hf) (ab_leL.of ⟨rfl, ⟨rfl, ⟨rfl, trivial⟩⟩⟩)
            · rw [if_neg b26] at hf
              refine ab_U.run 4 (S' := (137, [some (.ref 232), some (.int l1), none], [.int ((-10) - (m24.1 232 16))], hp X G m24)) rfl ?_
              obtain rfl := Option.some.inj hf
              exact ab_U.ret rfl rfl ⟨rfl, rfl⟩
      · rw [if_neg b7] at hf
        refine ab_U.run 2 (S' := (73, [some (.ref 232), some (.int l1), none], [.int (μ.1 232 19)], hp X G μ)) rfl ?_
        refine ab_U.if_eq rfl (fun b27 => ?_) (fun b27 => ?_)
        · rw [if_pos b27] at hf
          refine ab_U.run 2 (S' := (90, [some (.ref 232), some (.int l1), none], [.int (μ.1 232 15)], hp X G μ)) rfl ?_
          refine ab_U.if_ne rfl (fun b28 => ?_) (fun b28 => ?_)
          · rw [if_pos b28] at hf
            refine ab_U.run 2 (S' := (112, [some (.ref 232), some (.int l1), none], [.int 0, .ref 232], hp X G μ)) rfl ?_
            obtain ⟨m29, e30, hf⟩ := ab_bnd hf
            have e30 := Option.some.inj e30
            refine ab_U.pfI (ci := 9) (k9 := 13) rfl ⟨by decide, rfl⟩ ⟨rfl, rfl, by decide, rfl⟩ rfl ?_
            show ab_U _ _ _ (115, [some (.ref 232), some (.int l1), none], [], hp X G (fm_sI μ 232 13 0)) _
            rw [e30]
            refine ab_U.run 3 (S' := (120, [some (.ref 232), some (.int l1), none], [.int (m29.1 232 15), .ref 232], hp X G m29)) rfl ?_
            obtain ⟨m31, e32, hf⟩ := ab_bnd hf
            have e32 := Option.some.inj e32
            refine ab_U.pfI (ci := 9) (k9 := 14) rfl ⟨by decide, rfl⟩ ⟨rfl, rfl, by decide, rfl⟩ rfl ?_
            show ab_U _ _ _ (123, [some (.ref 232), some (.int l1), none], [], hp X G (fm_sI m29 232 14 (m29.1 232 15))) _
            rw [e32]
            refine ab_U.run 2 (S' := (127, [some (.ref 232), some (.int l1), none], [.int (m31.1 232 15)], hp X G m31)) rfl ?_
            refine ab_U.if_le rfl (fun b33 => ?_) (fun b33 => ?_)
            · rw [if_pos b33] at hf
              refine ab_U.run 2 (S' := (140, [some (.ref 232), some (.int l1), some (.int 0)], [], hp X G m31)) rfl ?_
              exact ab_U.weak (ih.2.2 _ _ _ _ hf) (ab_leL.of ⟨rfl, ⟨rfl, ⟨rfl, trivial⟩⟩⟩)
            · rw [if_neg b33] at hf
              refine ab_U.run 4 (S' := (137, [some (.ref 232), some (.int l1), none], [.int ((-10) - (m31.1 232 16))], hp X G m31)) rfl ?_
              obtain rfl := Option.some.inj hf
              exact ab_U.ret rfl rfl ⟨rfl, rfl⟩
          · rw [if_neg b28] at hf
            refine ab_U.run 4 (S' := (101, [some (.ref 232), some (.int l1), none], [.int (μ.1 232 7), .int (μ.1 232 11)], hp X G μ)) rfl ?_
            refine ab_U.ic_lt rfl (fun b34 => ?_) (fun b34 => ?_)
            · rw [if_pos b34] at hf
              refine ab_U.run 2 (S' := (112, [some (.ref 232), some (.int l1), none], [.int 0, .ref 232], hp X G μ)) rfl ?_
              obtain ⟨m35, e36, hf⟩ := ab_bnd hf
              have e36 := Option.some.inj e36
              refine ab_U.pfI (ci := 9) (k9 := 13) rfl ⟨by decide, rfl⟩ ⟨rfl, rfl, by decide, rfl⟩ rfl ?_
              show ab_U _ _ _ (115, [some (.ref 232), some (.int l1), none], [], hp X G (fm_sI μ 232 13 0)) _
              rw [e36]
              refine ab_U.run 3 (S' := (120, [some (.ref 232), some (.int l1), none], [.int (m35.1 232 15), .ref 232], hp X G m35)) rfl ?_
              obtain ⟨m37, e38, hf⟩ := ab_bnd hf
              have e38 := Option.some.inj e38
              refine ab_U.pfI (ci := 9) (k9 := 14) rfl ⟨by decide, rfl⟩ ⟨rfl, rfl, by decide, rfl⟩ rfl ?_
              show ab_U _ _ _ (123, [some (.ref 232), some (.int l1), none], [], hp X G (fm_sI m35 232 14 (m35.1 232 15))) _
              rw [e38]
              refine ab_U.run 2 (S' := (127, [some (.ref 232), some (.int l1), none], [.int (m37.1 232 15)], hp X G m37)) rfl ?_
              refine ab_U.if_le rfl (fun b39 => ?_) (fun b39 => ?_)
              · rw [if_pos b39] at hf
                refine ab_U.run 2 (S' := (140, [some (.ref 232), some (.int l1), some (.int 0)], [], hp X G m37)) rfl ?_
                exact ab_U.weak (ih.2.2 _ _ _ _ hf) (ab_leL.of ⟨rfl, ⟨rfl, ⟨rfl, trivial⟩⟩⟩)
              · rw [if_neg b39] at hf
                refine ab_U.run 4 (S' := (137, [some (.ref 232), some (.int l1), none], [.int ((-10) - (m37.1 232 16))], hp X G m37)) rfl ?_
                obtain rfl := Option.some.inj hf
                exact ab_U.ret rfl rfl ⟨rfl, rfl⟩
            · rw [if_neg b34] at hf
              refine ab_U.run 2 (S' := (107, [some (.ref 232), some (.int l1), none], [.int 6, .ref 232], hp X G μ)) rfl ?_
              obtain ⟨q40, h41, hf⟩ := ab_bnd hf
              refine ab_U.fn rfl rfl (t_X9_fails (X := X) hG h41) (by omega) ?_
              show ab_U _ _ _ (110, [some (.ref 232), some (.int l1), none], [], hp X G q40.2) _
              refine ab_U.run 2 (S' := (112, [some (.ref 232), some (.int l1), none], [.int 0, .ref 232], hp X G q40.2)) rfl ?_
              obtain ⟨m42, e43, hf⟩ := ab_bnd hf
              have e43 := Option.some.inj e43
              refine ab_U.pfI (ci := 9) (k9 := 13) rfl ⟨by decide, rfl⟩ ⟨rfl, rfl, by decide, rfl⟩ rfl ?_
              show ab_U _ _ _ (115, [some (.ref 232), some (.int l1), none], [], hp X G (fm_sI q40.2 232 13 0)) _
              rw [e43]
              refine ab_U.run 3 (S' := (120, [some (.ref 232), some (.int l1), none], [.int (m42.1 232 15), .ref 232], hp X G m42)) rfl ?_
              obtain ⟨m44, e45, hf⟩ := ab_bnd hf
              have e45 := Option.some.inj e45
              refine ab_U.pfI (ci := 9) (k9 := 14) rfl ⟨by decide, rfl⟩ ⟨rfl, rfl, by decide, rfl⟩ rfl ?_
              show ab_U _ _ _ (123, [some (.ref 232), some (.int l1), none], [], hp X G (fm_sI m42 232 14 (m42.1 232 15))) _
              rw [e45]
              refine ab_U.run 2 (S' := (127, [some (.ref 232), some (.int l1), none], [.int (m44.1 232 15)], hp X G m44)) rfl ?_
              refine ab_U.if_le rfl (fun b46 => ?_) (fun b46 => ?_)
              · rw [if_pos b46] at hf
                refine ab_U.run 2 (S' := (140, [some (.ref 232), some (.int l1), some (.int 0)], [], hp X G m44)) rfl ?_
                exact ab_U.weak (ih.2.2 _ _ _ _ hf) (ab_leL.of ⟨rfl, ⟨rfl, ⟨rfl, trivial⟩⟩⟩)
              · rw [if_neg b46] at hf
                refine ab_U.run 4 (S' := (137, [some (.ref 232), some (.int l1), none], [.int ((-10) - (m44.1 232 16))], hp X G m44)) rfl ?_
                obtain rfl := Option.some.inj hf
                exact ab_U.ret rfl rfl ⟨rfl, rfl⟩
        · rw [if_neg b27] at hf
          refine ab_U.run 1 (S' := (77, [some (.ref 232), some (.int l1), none], [.ref 232], hp X G μ)) rfl ?_
          obtain ⟨q47, h48, hf⟩ := ab_bnd hf
          refine ab_U.fn rfl rfl (t_X9_readLine (X := X) hG h48) (by omega) ?_
          show ab_U _ _ _ (80, [some (.ref 232), some (.int l1), none], [], hp X G q47.2) _
          refine ab_U.run 2 (S' := (62, [some (.ref 232), some (.int (l1 + 1)), none], [], hp X G q47.2)) rfl ?_
          exact ab_U.weak (ih.2.1 _ _ _ _ hf) (ab_leL.of ⟨rfl, ⟨rfl, trivial⟩⟩)
    · intro l1 l2 μ r hf
      have hf : b_X9_text_140 F  (g_X9_text F  n) l1 l2 μ = some r := hf
      unfold b_X9_text_140 at hf
      refine ab_U.run 2 (S' := (143, [some (.ref 232), some (.int l1), some (.int l2)], [.int 38, .int l2], hp X G μ)) rfl ?_
      refine ab_U.ic_ge rfl (fun b49 => ?_) (fun b49 => ?_)
      · rw [if_pos b49] at hf
        refine ab_U.run 3 (S' := (187, [some (.ref 232), some (.int l1), some (.int l2)], [.int (μ.1 232 7), .ref 232], hp X G μ)) rfl ?_
        obtain ⟨m50, e51, hf⟩ := ab_bnd hf
        have e51 := Option.some.inj e51
        refine ab_U.pfI (ci := 9) (k9 := 1) rfl ⟨by decide, rfl⟩ ⟨rfl, rfl, by decide, rfl⟩ rfl ?_
        show ab_U _ _ _ (190, [some (.ref 232), some (.int l1), some (.int l2)], [], hp X G (fm_sI μ 232 1 (μ.1 232 7))) _
        rw [e51]
        refine ab_U.run 3 (S' := (195, [some (.ref 232), some (.int l1), some (.int l2)], [.int (m50.1 232 8), .ref 232], hp X G m50)) rfl ?_
        obtain ⟨m52, e53, hf⟩ := ab_bnd hf
        have e53 := Option.some.inj e53
        refine ab_U.pfI (ci := 9) (k9 := 3) rfl ⟨by decide, rfl⟩ ⟨rfl, rfl, by decide, rfl⟩ rfl ?_
        show ab_U _ _ _ (198, [some (.ref 232), some (.int l1), some (.int l2)], [], hp X G (fm_sI m50 232 3 (m50.1 232 8))) _
        rw [e53]
        refine ab_U.run 2 (S' := (200, [some (.ref 232), some (.int l1), some (.int l2)], [.int 0, .ref 232], hp X G m52)) rfl ?_
        obtain ⟨m54, e55, hf⟩ := ab_bnd hf
        have e55 := Option.some.inj e55
        refine ab_U.pfI (ci := 9) (k9 := 33) rfl ⟨by decide, rfl⟩ ⟨rfl, rfl, by decide, rfl⟩ rfl ?_
        show ab_U _ _ _ (203, [some (.ref 232), some (.int l1), some (.int l2)], [], hp X G (fm_sI m52 232 33 0)) _
        rw [e55]
        refine ab_U.run 4 (S' := (209, [some (.ref 232), some (.int l1), some (.int l2)], [.int 0, .int 0, .ref 249], hp X G m54)) rfl ?_
        obtain ⟨c56, hf⟩ := ab_ifs hf
        obtain ⟨m57, e58, hf⟩ := ab_bnd hf
        have e58 := Option.some.inj e58
        refine ab_U.bastZ (n := 2) rfl ⟨by decide, rfl⟩ c56 ?_
        show ab_U _ _ _ (210, [some (.ref 232), some (.int l1), some (.int l2)], [], hp X G (fm_sA m54 249 (upd (m54.2.1 249) (0 : Int32).toNatClampNeg (0 &&& 1)))) _
        rw [e58]
        refine ab_U.run 4 (S' := (216, [some (.ref 232), some (.int l1), some (.int l2)], [.int 0, .int 1, .ref 249], hp X G m57)) rfl ?_
        obtain ⟨c59, hf⟩ := ab_ifs hf
        obtain ⟨m60, e61, hf⟩ := ab_bnd hf
        have e61 := Option.some.inj e61
        refine ab_U.bastZ (n := 2) rfl ⟨by decide, rfl⟩ c59 ?_
        show ab_U _ _ _ (217, [some (.ref 232), some (.int l1), some (.int l2)], [], hp X G (fm_sA m57 249 (upd (m57.2.1 249) (1 : Int32).toNatClampNeg (0 &&& 1)))) _
        rw [e61]
        refine ab_U.run 1 (S' := (218, [some (.ref 232), some (.int l1), some (.int l2)], [.int l1], hp X G m60)) rfl ?_
        obtain rfl := Option.some.inj hf
        exact ab_U.ret rfl rfl ⟨rfl, rfl⟩
      · rw [if_neg b49] at hf
        refine ab_U.run 6 (S' := (156, [some (.ref 232), some (.int l1), some (.int l2)], [.int l2, .ref 236, .int l2, .ref 233], hp X G μ)) rfl ?_
        obtain ⟨c62, hf⟩ := ab_ifs hf
        refine ab_U.iald (n := 38) rfl ⟨by decide, rfl⟩ c62 ?_
        show ab_U _ _ _ (157, [some (.ref 232), some (.int l1), some (.int l2)], [.int (μ.2.1 236 l2.toNatClampNeg), .int l2, .ref 233], hp X G μ) _
        obtain ⟨c63, hf⟩ := ab_ifs hf
        obtain ⟨m64, e65, hf⟩ := ab_bnd hf
        have e65 := Option.some.inj e65
        refine ab_U.iast (n := 228) rfl ⟨by decide, rfl⟩ c63 ?_
        show ab_U _ _ _ (158, [some (.ref 232), some (.int l1), some (.int l2)], [], hp X G (fm_sA μ 233 (upd (μ.2.1 233) l2.toNatClampNeg (μ.2.1 236 l2.toNatClampNeg)))) _
        rw [e65]
        refine ab_U.run 10 (S' := (174, [some (.ref 232), some (.int l1), some (.int l2)], [.int (l2 - l2 / 8 * 8), .ref 237, .int (l2 - l2 / 8 * 8), .ref 234], hp X G m64)) rfl ?_
        obtain ⟨c66, hf⟩ := ab_ifs hf
        refine ab_U.iald (n := 8) rfl ⟨by decide, rfl⟩ c66 ?_
        show ab_U _ _ _ (175, [some (.ref 232), some (.int l1), some (.int l2)], [.int (m64.2.1 237 (l2 - l2 / 8 * 8).toNatClampNeg), .int (l2 - l2 / 8 * 8), .ref 234], hp X G m64) _
        obtain ⟨c67, hf⟩ := ab_ifs hf
        obtain ⟨m68, e69, hf⟩ := ab_bnd hf
        have e69 := Option.some.inj e69
        refine ab_U.iast (n := 8) rfl ⟨by decide, rfl⟩ c67 ?_
        show ab_U _ _ _ (176, [some (.ref 232), some (.int l1), some (.int l2)], [], hp X G (fm_sA m64 234 (upd (m64.2.1 234) (l2 - l2 / 8 * 8).toNatClampNeg (m64.2.1 237 (l2 - l2 / 8 * 8).toNatClampNeg)))) _
        rw [e69]
        refine ab_U.run 2 (S' := (140, [some (.ref 232), some (.int l1), some (.int (l2 + 1))], [], hp X G m68)) rfl ?_
        exact ab_U.weak (ih.2.2 _ _ _ _ hf) (ab_leL.of ⟨rfl, ⟨rfl, ⟨rfl, trivial⟩⟩⟩)
set_option maxRecDepth 20000 in
def f_X9_text (F : Nat)   (μ : fm_M) : Option (Int32 × fm_M) := (Option.bind (some (fm_sI μ 232 15 0)) (fun m70 => (Option.bind (some (fm_sI m70 232 17 0)) (fun m72 => (Option.bind (some (fm_sI m72 232 7 0)) (fun m74 => (Option.bind (some (fm_sI m74 232 8 0)) (fun m76 => (Option.bind (some (fm_sI m76 232 9 0)) (fun m78 => (Option.bind (some (fm_sI m78 232 10 0)) (fun m80 => (Option.bind (some (fm_sI m80 232 11 (-1))) (fun m82 => g_X9_text F  F 39 0 0 m82))))))))))))))
set_option maxRecDepth 20000 in
theorem t_X9_text {X : Nat × (Nat → Int32)} {G : Nat → Nat → Option Nat} (hG : fm_Gok G) {F : Nat}    {μ : fm_M} {r : Int32 × fm_M} (hf : f_X9_text F  μ = some r) : ab_F 8 147 [.ref 232] (hp X G μ) (some (.int r.1)) (hp X G r.2) := by
  unfold f_X9_text at hf
  refine ab_T.of (d := 7) rfl (Nat.le_of_ble_eq_true rfl) ?_
  show ab_U _ _ kX9_text (0, [some (.ref 232), none, none], [], hp X G μ) _
  refine ab_U.run 2 (S' := (2, [some (.ref 232), none, none], [.int 0, .ref 232], hp X G μ)) rfl ?_
  obtain ⟨m70, e71, hf⟩ := ab_bnd hf
  have e71 := Option.some.inj e71
  refine ab_U.pfI (ci := 9) (k9 := 15) rfl ⟨by decide, rfl⟩ ⟨rfl, rfl, by decide, rfl⟩ rfl ?_
  show ab_U _ _ _ (5, [some (.ref 232), none, none], [], hp X G (fm_sI μ 232 15 0)) _
  rw [e71]
  refine ab_U.run 2 (S' := (7, [some (.ref 232), none, none], [.int 0, .ref 232], hp X G m70)) rfl ?_
  obtain ⟨m72, e73, hf⟩ := ab_bnd hf
  have e73 := Option.some.inj e73
  refine ab_U.pfI (ci := 9) (k9 := 17) rfl ⟨by decide, rfl⟩ ⟨rfl, rfl, by decide, rfl⟩ rfl ?_
  show ab_U _ _ _ (10, [some (.ref 232), none, none], [], hp X G (fm_sI m70 232 17 0)) _
  rw [e73]
  refine ab_U.run 2 (S' := (12, [some (.ref 232), none, none], [.int 0, .ref 232], hp X G m72)) rfl ?_
  obtain ⟨m74, e75, hf⟩ := ab_bnd hf
  have e75 := Option.some.inj e75
  refine ab_U.pfI (ci := 9) (k9 := 7) rfl ⟨by decide, rfl⟩ ⟨rfl, rfl, by decide, rfl⟩ rfl ?_
  show ab_U _ _ _ (15, [some (.ref 232), none, none], [], hp X G (fm_sI m72 232 7 0)) _
  rw [e75]
  refine ab_U.run 2 (S' := (17, [some (.ref 232), none, none], [.int 0, .ref 232], hp X G m74)) rfl ?_
  obtain ⟨m76, e77, hf⟩ := ab_bnd hf
  have e77 := Option.some.inj e77
  refine ab_U.pfI (ci := 9) (k9 := 8) rfl ⟨by decide, rfl⟩ ⟨rfl, rfl, by decide, rfl⟩ rfl ?_
  show ab_U _ _ _ (20, [some (.ref 232), none, none], [], hp X G (fm_sI m74 232 8 0)) _
  rw [e77]
  refine ab_U.run 2 (S' := (22, [some (.ref 232), none, none], [.int 0, .ref 232], hp X G m76)) rfl ?_
  obtain ⟨m78, e79, hf⟩ := ab_bnd hf
  have e79 := Option.some.inj e79
  refine ab_U.pfI (ci := 9) (k9 := 9) rfl ⟨by decide, rfl⟩ ⟨rfl, rfl, by decide, rfl⟩ rfl ?_
  show ab_U _ _ _ (25, [some (.ref 232), none, none], [], hp X G (fm_sI m76 232 9 0)) _
  rw [e79]
  refine ab_U.run 2 (S' := (27, [some (.ref 232), none, none], [.int 0, .ref 232], hp X G m78)) rfl ?_
  obtain ⟨m80, e81, hf⟩ := ab_bnd hf
  have e81 := Option.some.inj e81
  refine ab_U.pfI (ci := 9) (k9 := 10) rfl ⟨by decide, rfl⟩ ⟨rfl, rfl, by decide, rfl⟩ rfl ?_
  show ab_U _ _ _ (30, [some (.ref 232), none, none], [], hp X G (fm_sI m78 232 10 0)) _
  rw [e81]
  refine ab_U.run 2 (S' := (32, [some (.ref 232), none, none], [.int (-1), .ref 232], hp X G m80)) rfl ?_
  obtain ⟨m82, e83, hf⟩ := ab_bnd hf
  have e83 := Option.some.inj e83
  refine ab_U.pfI (ci := 9) (k9 := 11) rfl ⟨by decide, rfl⟩ ⟨rfl, rfl, by decide, rfl⟩ rfl ?_
  show ab_U _ _ _ (35, [some (.ref 232), none, none], [], hp X G (fm_sI m80 232 11 (-1))) _
  rw [e83]
  refine ab_U.run 4 (S' := (39, [some (.ref 232), some (.int 0), some (.int 0)], [], hp X G m82)) rfl ?_
  exact ab_U.weak ((t_X9_text_g (X := X) hG   F).1 _ _ _ _ hf) (ab_leL.of ⟨rfl, ⟨rfl, ⟨rfl, trivial⟩⟩⟩)
set_option maxRecDepth 20000 in
def f_X9_fault (F : Nat)   (μ : fm_M) : Option (Int32 × fm_M) := some ((μ.1 232 14), μ)
set_option maxRecDepth 20000 in
theorem t_X9_fault {X : Nat × (Nat → Int32)} {G : Nat → Nat → Option Nat} (hG : fm_Gok G) {F : Nat}    {μ : fm_M} {r : Int32 × fm_M} (hf : f_X9_fault F  μ = some r) : ab_F 1 148 [.ref 232] (hp X G μ) (some (.int r.1)) (hp X G r.2) := by
  unfold f_X9_fault at hf
  refine ab_T.of (d := 0) rfl (Nat.le_of_ble_eq_true rfl) ?_
  show ab_U _ _ kX9_fault (0, [some (.ref 232)], [], hp X G μ) _
  refine ab_U.run 2 (S' := (4, [some (.ref 232)], [.int (μ.1 232 14)], hp X G μ)) rfl ?_
  obtain rfl := Option.some.inj hf
  exact ab_U.ret rfl rfl ⟨rfl, rfl⟩
set_option maxRecDepth 20000 in
def f_X9_isOne (F : Nat)  (x0 : Int32) (μ : fm_M) : Option (Int32 × fm_M) := (Option.bind (f_X9_in F ((x0).toInt64) (Int64.ofNat 0) ((((μ.1 232 1) - 1)).toInt64) μ) (fun q1 => (if q1.1 = 0 ∨ q1.1 = 1 then some (q1.1, q1.2) else none)))
set_option maxRecDepth 20000 in
theorem t_X9_isOne {X : Nat × (Nat → Int32)} {G : Nat → Nat → Option Nat} (hG : fm_Gok G) {F : Nat}   {x0 : Int32} {μ : fm_M} {r : Int32 × fm_M} (hf : f_X9_isOne F x0 μ = some r) : ab_F 2 149 [.ref 232, .int x0] (hp X G μ) (some (.int r.1)) (hp X G r.2) := by
  unfold f_X9_isOne at hf
  refine ab_T.of (d := 1) rfl (Nat.le_of_ble_eq_true rfl) ?_
  show ab_U _ _ kX9_isOne (0, [some (.ref 232), some (.int x0)], [], hp X G μ) _
  refine ab_U.run 8 (S' := (10, [some (.ref 232), some (.int x0)], [.long (((μ.1 232 1) - 1)).toInt64, .long (Int64.ofNat 0), .long (x0).toInt64], hp X G μ)) rfl ?_
  obtain ⟨q1, h2, hf⟩ := ab_bnd hf
  refine ab_U.fn rfl rfl (t_X9_in (X := X) hG h2) (by omega) ?_
  show ab_U _ _ _ (13, [some (.ref 232), some (.int x0)], [.int q1.1], hp X G q1.2) _
  obtain ⟨c3, hf⟩ := ab_ifs hf
  obtain rfl := Option.some.inj hf
  exact ab_U.retZ rfl c3 ⟨rfl, rfl⟩
set_option maxRecDepth 20000 in
def f_X9_isStone (F : Nat)  (x0 : Int32) (μ : fm_M) : Option (Int32 × fm_M) := (if ab_in 23 228 = true then (Option.bind (f_X9_in F ((x0).toInt64) (Int64.ofNat 0) ((((μ.2.1 233 (23 : Int32).toNatClampNeg) - 1)).toInt64) μ) (fun q2 => (if q2.1 = 0 ∨ q2.1 = 1 then some (q2.1, q2.2) else none))) else none)
set_option maxRecDepth 20000 in
theorem t_X9_isStone {X : Nat × (Nat → Int32)} {G : Nat → Nat → Option Nat} (hG : fm_Gok G) {F : Nat}   {x0 : Int32} {μ : fm_M} {r : Int32 × fm_M} (hf : f_X9_isStone F x0 μ = some r) : ab_F 2 150 [.ref 232, .int x0] (hp X G μ) (some (.int r.1)) (hp X G r.2) := by
  unfold f_X9_isStone at hf
  refine ab_T.of (d := 1) rfl (Nat.le_of_ble_eq_true rfl) ?_
  show ab_U _ _ kX9_isStone (0, [some (.ref 232), some (.int x0)], [], hp X G μ) _
  refine ab_U.run 6 (S' := (9, [some (.ref 232), some (.int x0)], [.int 23, .ref 233, .long (Int64.ofNat 0), .long (x0).toInt64], hp X G μ)) rfl ?_
  obtain ⟨c1, hf⟩ := ab_ifs hf
  refine ab_U.iald (n := 228) rfl ⟨by decide, rfl⟩ c1 ?_
  show ab_U _ _ _ (10, [some (.ref 232), some (.int x0)], [.int (μ.2.1 233 (23 : Int32).toNatClampNeg), .long (Int64.ofNat 0), .long (x0).toInt64], hp X G μ) _
  refine ab_U.run 3 (S' := (13, [some (.ref 232), some (.int x0)], [.long (((μ.2.1 233 (23 : Int32).toNatClampNeg) - 1)).toInt64, .long (Int64.ofNat 0), .long (x0).toInt64], hp X G μ)) rfl ?_
  obtain ⟨q2, h3, hf⟩ := ab_bnd hf
  refine ab_U.fn rfl rfl (t_X9_in (X := X) hG h3) (by omega) ?_
  show ab_U _ _ _ (16, [some (.ref 232), some (.int x0)], [.int q2.1], hp X G q2.2) _
  obtain ⟨c4, hf⟩ := ab_ifs hf
  obtain rfl := Option.some.inj hf
  exact ab_U.retZ rfl c4 ⟨rfl, rfl⟩
set_option maxRecDepth 20000 in
def f_X9_isDebt (F : Nat)  (x0 : Int32) (μ : fm_M) : Option (Int32 × fm_M) := (Option.bind (f_X9_in F ((x0).toInt64) (Int64.ofNat 0) ((((μ.1 232 3) - 1)).toInt64) μ) (fun q1 => (if q1.1 = 0 ∨ q1.1 = 1 then some (q1.1, q1.2) else none)))
set_option maxRecDepth 20000 in
theorem t_X9_isDebt {X : Nat × (Nat → Int32)} {G : Nat → Nat → Option Nat} (hG : fm_Gok G) {F : Nat}   {x0 : Int32} {μ : fm_M} {r : Int32 × fm_M} (hf : f_X9_isDebt F x0 μ = some r) : ab_F 2 151 [.ref 232, .int x0] (hp X G μ) (some (.int r.1)) (hp X G r.2) := by
  unfold f_X9_isDebt at hf
  refine ab_T.of (d := 1) rfl (Nat.le_of_ble_eq_true rfl) ?_
  show ab_U _ _ kX9_isDebt (0, [some (.ref 232), some (.int x0)], [], hp X G μ) _
  refine ab_U.run 8 (S' := (10, [some (.ref 232), some (.int x0)], [.long (((μ.1 232 3) - 1)).toInt64, .long (Int64.ofNat 0), .long (x0).toInt64], hp X G μ)) rfl ?_
  obtain ⟨q1, h2, hf⟩ := ab_bnd hf
  refine ab_U.fn rfl rfl (t_X9_in (X := X) hG h2) (by omega) ?_
  show ab_U _ _ _ (13, [some (.ref 232), some (.int x0)], [.int q1.1], hp X G q1.2) _
  obtain ⟨c3, hf⟩ := ab_ifs hf
  obtain rfl := Option.some.inj hf
  exact ab_U.retZ rfl c3 ⟨rfl, rfl⟩
set_option maxRecDepth 20000 in
def f_X9_rule (F : Nat)  (x0 : Int32) (μ : fm_M) : Option (Int32 × fm_M) := (if x0.toInt < 0 ∨ 6 < x0.toInt then some ((-1), μ) else (if x0.toInt = 0 then some ((μ.1 232 1), μ) else (if x0.toInt = 1 then (if ab_in 23 228 = true then some ((μ.2.1 233 (23 : Int32).toNatClampNeg), μ) else none) else (if x0.toInt = 2 then some ((μ.1 232 3), μ) else (if x0.toInt = 3 then (if ab_in 24 228 = true then some ((μ.2.1 233 (24 : Int32).toNatClampNeg), μ) else none) else (if x0.toInt = 4 then (if ab_in 25 228 = true then some (((μ.2.1 233 (25 : Int32).toNatClampNeg) + 50), μ) else none) else (if x0.toInt = 5 then (if ab_in 26 228 = true then some (((μ.2.1 233 (26 : Int32).toNatClampNeg) + 2), μ) else none) else (if ab_in 37 228 = true then some ((μ.2.1 233 (37 : Int32).toNatClampNeg), μ) else none))))))))
set_option maxRecDepth 20000 in
theorem t_X9_rule {X : Nat × (Nat → Int32)} {G : Nat → Nat → Option Nat} (hG : fm_Gok G) {F : Nat}   {x0 : Int32} {μ : fm_M} {r : Int32 × fm_M} (hf : f_X9_rule F x0 μ = some r) : ab_F 1 152 [.ref 232, .int x0] (hp X G μ) (some (.int r.1)) (hp X G r.2) := by
  unfold f_X9_rule at hf
  refine ab_T.of (d := 0) rfl (Nat.le_of_ble_eq_true rfl) ?_
  show ab_U _ _ kX9_rule (0, [some (.ref 232), some (.int x0)], [], hp X G μ) _
  refine ab_U.run 1 (S' := (1, [some (.ref 232), some (.int x0)], [.int x0], hp X G μ)) rfl ?_
  by_cases b1 : x0.toInt < 0 ∨ 6 < x0.toInt
  · rw [if_pos b1] at hf
    refine ab_U.tswD rfl b1 ?_
    refine ab_U.run 1 (S' := (100, [some (.ref 232), some (.int x0)], [.int (-1)], hp X G μ)) rfl ?_
    obtain rfl := Option.some.inj hf
    exact ab_U.ret rfl rfl ⟨rfl, rfl⟩
  · rw [if_neg b1] at hf
    by_cases b2 : x0.toInt = 0
    · rw [if_pos b2] at hf
      refine ab_U.tswT (t := 44) rfl b1 (by rw [b2]; rfl) ?_
      refine ab_U.run 2 (S' := (48, [some (.ref 232), some (.int x0)], [.int (μ.1 232 1)], hp X G μ)) rfl ?_
      obtain rfl := Option.some.inj hf
      exact ab_U.ret rfl rfl ⟨rfl, rfl⟩
    · rw [if_neg b2] at hf
      by_cases b3 : x0.toInt = 1
      · rw [if_pos b3] at hf
        refine ab_U.tswT (t := 49) rfl b1 (by rw [b3]; rfl) ?_
        refine ab_U.run 3 (S' := (55, [some (.ref 232), some (.int x0)], [.int 23, .ref 233], hp X G μ)) rfl ?_
        obtain ⟨c4, hf⟩ := ab_ifs hf
        refine ab_U.iald (n := 228) rfl ⟨by decide, rfl⟩ c4 ?_
        show ab_U _ _ _ (56, [some (.ref 232), some (.int x0)], [.int (μ.2.1 233 (23 : Int32).toNatClampNeg)], hp X G μ) _
        obtain rfl := Option.some.inj hf
        exact ab_U.ret rfl rfl ⟨rfl, rfl⟩
      · rw [if_neg b3] at hf
        by_cases b5 : x0.toInt = 2
        · rw [if_pos b5] at hf
          refine ab_U.tswT (t := 57) rfl b1 (by rw [b5]; rfl) ?_
          refine ab_U.run 2 (S' := (61, [some (.ref 232), some (.int x0)], [.int (μ.1 232 3)], hp X G μ)) rfl ?_
          obtain rfl := Option.some.inj hf
          exact ab_U.ret rfl rfl ⟨rfl, rfl⟩
        · rw [if_neg b5] at hf
          by_cases b6 : x0.toInt = 3
          · rw [if_pos b6] at hf
            refine ab_U.tswT (t := 62) rfl b1 (by rw [b6]; rfl) ?_
            refine ab_U.run 3 (S' := (68, [some (.ref 232), some (.int x0)], [.int 24, .ref 233], hp X G μ)) rfl ?_
            obtain ⟨c7, hf⟩ := ab_ifs hf
            refine ab_U.iald (n := 228) rfl ⟨by decide, rfl⟩ c7 ?_
            show ab_U _ _ _ (69, [some (.ref 232), some (.int x0)], [.int (μ.2.1 233 (24 : Int32).toNatClampNeg)], hp X G μ) _
            obtain rfl := Option.some.inj hf
            exact ab_U.ret rfl rfl ⟨rfl, rfl⟩
          · rw [if_neg b6] at hf
            by_cases b8 : x0.toInt = 4
            · rw [if_pos b8] at hf
              refine ab_U.tswT (t := 70) rfl b1 (by rw [b8]; rfl) ?_
              refine ab_U.run 3 (S' := (76, [some (.ref 232), some (.int x0)], [.int 25, .ref 233], hp X G μ)) rfl ?_
              obtain ⟨c9, hf⟩ := ab_ifs hf
              refine ab_U.iald (n := 228) rfl ⟨by decide, rfl⟩ c9 ?_
              show ab_U _ _ _ (77, [some (.ref 232), some (.int x0)], [.int (μ.2.1 233 (25 : Int32).toNatClampNeg)], hp X G μ) _
              refine ab_U.run 2 (S' := (80, [some (.ref 232), some (.int x0)], [.int ((μ.2.1 233 (25 : Int32).toNatClampNeg) + 50)], hp X G μ)) rfl ?_
              obtain rfl := Option.some.inj hf
              exact ab_U.ret rfl rfl ⟨rfl, rfl⟩
            · rw [if_neg b8] at hf
              by_cases b10 : x0.toInt = 5
              · rw [if_pos b10] at hf
                refine ab_U.tswT (t := 81) rfl b1 (by rw [b10]; rfl) ?_
                refine ab_U.run 3 (S' := (87, [some (.ref 232), some (.int x0)], [.int 26, .ref 233], hp X G μ)) rfl ?_
                obtain ⟨c11, hf⟩ := ab_ifs hf
                refine ab_U.iald (n := 228) rfl ⟨by decide, rfl⟩ c11 ?_
                show ab_U _ _ _ (88, [some (.ref 232), some (.int x0)], [.int (μ.2.1 233 (26 : Int32).toNatClampNeg)], hp X G μ) _
                refine ab_U.run 2 (S' := (90, [some (.ref 232), some (.int x0)], [.int ((μ.2.1 233 (26 : Int32).toNatClampNeg) + 2)], hp X G μ)) rfl ?_
                obtain rfl := Option.some.inj hf
                exact ab_U.ret rfl rfl ⟨rfl, rfl⟩
              · rw [if_neg b10] at hf
                have b12 : x0.toInt = 6 := by omega
                refine ab_U.tswT (t := 91) rfl b1 (by rw [b12]; rfl) ?_
                refine ab_U.run 3 (S' := (97, [some (.ref 232), some (.int x0)], [.int 37, .ref 233], hp X G μ)) rfl ?_
                obtain ⟨c13, hf⟩ := ab_ifs hf
                refine ab_U.iald (n := 228) rfl ⟨by decide, rfl⟩ c13 ?_
                show ab_U _ _ _ (98, [some (.ref 232), some (.int x0)], [.int (μ.2.1 233 (37 : Int32).toNatClampNeg)], hp X G μ) _
                obtain rfl := Option.some.inj hf
                exact ab_U.ret rfl rfl ⟨rfl, rfl⟩
set_option maxRecDepth 20000 in
def f_X9_rateOf (F : Nat)  (x0 : Int32) (x1 : Int32) (μ : fm_M) : Option (Int32 × fm_M) := (if 1 ≤ (x0 - x1) then some ((x0 - x1), μ) else some (1, μ))
set_option maxRecDepth 20000 in
theorem t_X9_rateOf {X : Nat × (Nat → Int32)} {G : Nat → Nat → Option Nat} (hG : fm_Gok G) {F : Nat}   {x0 : Int32} {x1 : Int32} {μ : fm_M} {r : Int32 × fm_M} (hf : f_X9_rateOf F x0 x1 μ = some r) : ab_F 1 153 [.int x0, .int x1] (hp X G μ) (some (.int r.1)) (hp X G r.2) := by
  unfold f_X9_rateOf at hf
  refine ab_T.of (d := 0) rfl (Nat.le_of_ble_eq_true rfl) ?_
  show ab_U _ _ kX9_rateOf (0, [some (.int x0), some (.int x1)], [], hp X G μ) _
  refine ab_U.run 4 (S' := (4, [some (.int x0), some (.int x1)], [.int 1, .int (x0 - x1)], hp X G μ)) rfl ?_
  refine ab_U.ic_ge rfl (fun b1 => ?_) (fun b1 => ?_)
  · rw [if_pos b1] at hf
    refine ab_U.run 3 (S' := (14, [some (.int x0), some (.int x1)], [.int (x0 - x1)], hp X G μ)) rfl ?_
    obtain rfl := Option.some.inj hf
    exact ab_U.ret rfl rfl ⟨rfl, rfl⟩
  · rw [if_neg b1] at hf
    refine ab_U.run 2 (S' := (14, [some (.int x0), some (.int x1)], [.int 1], hp X G μ)) rfl ?_
    obtain rfl := Option.some.inj hf
    exact ab_U.ret rfl rfl ⟨rfl, rfl⟩
set_option maxRecDepth 20000 in
def f_X9_rateOn (F : Nat)  (x0 : Int32) (x1 : Int32) (μ : fm_M) : Option (Int32 × fm_M) := (if ab_in ((x0 + 8) + x1) 228 = true then (if ab_in (μ.2.1 233 ((x0 + 8) + x1).toNatClampNeg) 4 = true then (if ab_in ((x0 + 18) + x1) 228 = true then (if ab_in (x0 + (μ.2.1 233 ((x0 + 18) + x1).toNatClampNeg)) 228 = true then (Option.bind (f_X9_rateOf F (μ.2.1 235 (μ.2.1 233 ((x0 + 8) + x1).toNatClampNeg).toNatClampNeg) (μ.2.1 233 (x0 + (μ.2.1 233 ((x0 + 18) + x1).toNatClampNeg)).toNatClampNeg) μ) (fun q5 => some (q5.1, q5.2))) else none) else none) else none) else none)
set_option maxRecDepth 20000 in
theorem t_X9_rateOn {X : Nat × (Nat → Int32)} {G : Nat → Nat → Option Nat} (hG : fm_Gok G) {F : Nat}   {x0 : Int32} {x1 : Int32} {μ : fm_M} {r : Int32 × fm_M} (hf : f_X9_rateOn F x0 x1 μ = some r) : ab_F 2 154 [.ref 232, .int x0, .int x1] (hp X G μ) (some (.int r.1)) (hp X G r.2) := by
  unfold f_X9_rateOn at hf
  refine ab_T.of (d := 1) rfl (Nat.le_of_ble_eq_true rfl) ?_
  show ab_U _ _ kX9_rateOn (0, [some (.ref 232), some (.int x0), some (.int x1)], [], hp X G μ) _
  refine ab_U.run 9 (S' := (14, [some (.ref 232), some (.int x0), some (.int x1)], [.int ((x0 + 8) + x1), .ref 233, .ref 235], hp X G μ)) rfl ?_
  obtain ⟨c1, hf⟩ := ab_ifs hf
  refine ab_U.iald (n := 228) rfl ⟨by decide, rfl⟩ c1 ?_
  show ab_U _ _ _ (15, [some (.ref 232), some (.int x0), some (.int x1)], [.int (μ.2.1 233 ((x0 + 8) + x1).toNatClampNeg), .ref 235], hp X G μ) _
  obtain ⟨c2, hf⟩ := ab_ifs hf
  refine ab_U.iald (n := 4) rfl ⟨by decide, rfl⟩ c2 ?_
  show ab_U _ _ _ (16, [some (.ref 232), some (.int x0), some (.int x1)], [.int (μ.2.1 235 (μ.2.1 233 ((x0 + 8) + x1).toNatClampNeg).toNatClampNeg)], hp X G μ) _
  refine ab_U.run 10 (S' := (31, [some (.ref 232), some (.int x0), some (.int x1)], [.int ((x0 + 18) + x1), .ref 233, .int x0, .ref 233, .int (μ.2.1 235 (μ.2.1 233 ((x0 + 8) + x1).toNatClampNeg).toNatClampNeg)], hp X G μ)) rfl ?_
  obtain ⟨c3, hf⟩ := ab_ifs hf
  refine ab_U.iald (n := 228) rfl ⟨by decide, rfl⟩ c3 ?_
  show ab_U _ _ _ (32, [some (.ref 232), some (.int x0), some (.int x1)], [.int (μ.2.1 233 ((x0 + 18) + x1).toNatClampNeg), .int x0, .ref 233, .int (μ.2.1 235 (μ.2.1 233 ((x0 + 8) + x1).toNatClampNeg).toNatClampNeg)], hp X G μ) _
  refine ab_U.run 1 (S' := (33, [some (.ref 232), some (.int x0), some (.int x1)], [.int (x0 + (μ.2.1 233 ((x0 + 18) + x1).toNatClampNeg)), .ref 233, .int (μ.2.1 235 (μ.2.1 233 ((x0 + 8) + x1).toNatClampNeg).toNatClampNeg)], hp X G μ)) rfl ?_
  obtain ⟨c4, hf⟩ := ab_ifs hf
  refine ab_U.iald (n := 228) rfl ⟨by decide, rfl⟩ c4 ?_
  show ab_U _ _ _ (34, [some (.ref 232), some (.int x0), some (.int x1)], [.int (μ.2.1 233 (x0 + (μ.2.1 233 ((x0 + 18) + x1).toNatClampNeg)).toNatClampNeg), .int (μ.2.1 235 (μ.2.1 233 ((x0 + 8) + x1).toNatClampNeg).toNatClampNeg)], hp X G μ) _
  obtain ⟨q5, h6, hf⟩ := ab_bnd hf
  refine ab_U.fn rfl rfl (t_X9_rateOf (X := X) hG h6) (by omega) ?_
  show ab_U _ _ _ (37, [some (.ref 232), some (.int x0), some (.int x1)], [.int q5.1], hp X G q5.2) _
  obtain rfl := Option.some.inj hf
  exact ab_U.ret rfl rfl ⟨rfl, rfl⟩
set_option maxRecDepth 20000 in
def f_X9_cooled (F : Nat)  (x0 : Int32) (x1 : Int32) (μ : fm_M) : Option (Int32 × fm_M) := (if 0 ≤ ((x0 - 1) - ((x0 * x1) / 20)) then some (((x0 - 1) - ((x0 * x1) / 20)), μ) else some (0, μ))
set_option maxRecDepth 20000 in
theorem t_X9_cooled {X : Nat × (Nat → Int32)} {G : Nat → Nat → Option Nat} (hG : fm_Gok G) {F : Nat}   {x0 : Int32} {x1 : Int32} {μ : fm_M} {r : Int32 × fm_M} (hf : f_X9_cooled F x0 x1 μ = some r) : ab_F 1 155 [.int x0, .int x1] (hp X G μ) (some (.int r.1)) (hp X G r.2) := by
  unfold f_X9_cooled at hf
  refine ab_T.of (d := 0) rfl (Nat.le_of_ble_eq_true rfl) ?_
  show ab_U _ _ kX9_cooled (0, [some (.int x0), some (.int x1), none], [], hp X G μ) _
  refine ab_U.run 11 (S' := (12, [some (.int x0), some (.int x1), some (.int ((x0 - 1) - ((x0 * x1) / 20)))], [.int ((x0 - 1) - ((x0 * x1) / 20))], hp X G μ)) rfl ?_
  refine ab_U.if_ge rfl (fun b1 => ?_) (fun b1 => ?_)
  · rw [if_pos b1] at hf
    refine ab_U.run 1 (S' := (20, [some (.int x0), some (.int x1), some (.int ((x0 - 1) - ((x0 * x1) / 20)))], [.int ((x0 - 1) - ((x0 * x1) / 20))], hp X G μ)) rfl ?_
    obtain rfl := Option.some.inj hf
    exact ab_U.ret rfl rfl ⟨rfl, rfl⟩
  · rw [if_neg b1] at hf
    refine ab_U.run 2 (S' := (20, [some (.int x0), some (.int x1), some (.int ((x0 - 1) - ((x0 * x1) / 20)))], [.int 0], hp X G μ)) rfl ?_
    obtain rfl := Option.some.inj hf
    exact ab_U.ret rfl rfl ⟨rfl, rfl⟩
set_option maxRecDepth 20000 in
def b_X9_one_18 (F : Nat)  (gg : Nat → Int32 → Int32 → Int32 → Int32 → Int32 → fm_M → Option (Int32 × fm_M)) (l1 : Int32) (l2 : Int32) (l3 : Int32) (l4 : Int32) (l5 : Int32) (μ : fm_M) : Option (Int32 × fm_M) := (if ab_in 23 228 = true then (if (μ.2.1 233 (23 : Int32).toNatClampNeg) ≤ l5 then (if l2.toInt < 0 ∨ 3 < l2.toInt then some ((-1), μ) else (if l2.toInt = 0 then (if ab_in l1 228 = true then some ((μ.2.1 233 l1.toNatClampNeg), μ) else none) else (if l2.toInt = 1 then (if ab_in (4 + l1) 228 = true then some ((μ.2.1 233 (4 + l1).toNatClampNeg), μ) else none) else (if l2.toInt = 2 then some (l3, μ) else some (l4, μ))))) else (if ab_in (18 + l5) 228 = true then (if ¬ (μ.2.1 233 (18 + l5).toNatClampNeg) = l1 then (if ab_in (18 + l5) 228 = true then (if ¬ (μ.2.1 233 (18 + l5).toNatClampNeg) = l1 then gg 18 l1 l2 (l3 ||| 0) (l4 + 0) (l5 + 1) μ else (if ab_in (13 + l5) 228 = true then gg 18 l1 l2 (l3 ||| 0) (l4 + (μ.2.1 233 (13 + l5).toNatClampNeg)) (l5 + 1) μ else none)) else none) else (if ab_in (18 + l5) 228 = true then (if ¬ (μ.2.1 233 (18 + l5).toNatClampNeg) = l1 then gg 18 l1 l2 (l3 ||| (1 <<< (l5 &&& 31))) (l4 + 0) (l5 + 1) μ else (if ab_in (13 + l5) 228 = true then gg 18 l1 l2 (l3 ||| (1 <<< (l5 &&& 31))) (l4 + (μ.2.1 233 (13 + l5).toNatClampNeg)) (l5 + 1) μ else none)) else none)) else none)) else none)
def g_X9_one (F : Nat)  : Nat → Nat → Int32 → Int32 → Int32 → Int32 → Int32 → fm_M → Option (Int32 × fm_M)
  | 0, _, _, _, _, _, _, _ => none
  | n + 1, pc, l1, l2, l3, l4, l5, μ => if pc = 18 then b_X9_one_18 F  (g_X9_one F  n) l1 l2 l3 l4 l5 μ else none
set_option maxRecDepth 20000 in
theorem t_X9_one_g {X : Nat × (Nat → Int32)} {G : Nat → Nat → Option Nat} (hG : fm_Gok G) {F : Nat}    : ∀ n : Nat, (∀ (l1 : Int32) (l2 : Int32) (l3 : Int32) (l4 : Int32) (l5 : Int32) (μ : fm_M) (r : Int32 × fm_M), g_X9_one F  n 18 l1 l2 l3 l4 l5 μ = some r → ab_U 2 (some .int) kX9_one (18, [some (.ref 232), some (.int l1), some (.int l2), some (.int l3), some (.int l4), some (.int l5)], [], hp X G μ) (fun r9 h9 => r9 = some (.int r.1) ∧ h9 = hp X G r.2))
  | 0 => by
    intros
    rename_i h
    cases h
  | n + 1 => by
    have ih := t_X9_one_g (X := X) hG (F := F)   n
    · intro l1 l2 l3 l4 l5 μ r hf
      have hf : b_X9_one_18 F  (g_X9_one F  n) l1 l2 l3 l4 l5 μ = some r := hf
      unfold b_X9_one_18 at hf
      refine ab_U.run 4 (S' := (26, [some (.ref 232), some (.int l1), some (.int l2), some (.int l3), some (.int l4), some (.int l5)], [.int 23, .ref 233, .int l5], hp X G μ)) rfl ?_
      obtain ⟨c1, hf⟩ := ab_ifs hf
      refine ab_U.iald (n := 228) rfl ⟨by decide, rfl⟩ c1 ?_
      show ab_U _ _ _ (27, [some (.ref 232), some (.int l1), some (.int l2), some (.int l3), some (.int l4), some (.int l5)], [.int (μ.2.1 233 (23 : Int32).toNatClampNeg), .int l5], hp X G μ) _
      refine ab_U.ic_ge rfl (fun b2 => ?_) (fun b2 => ?_)
      · rw [if_pos b2] at hf
        refine ab_U.run 1 (S' := (95, [some (.ref 232), some (.int l1), some (.int l2), some (.int l3), some (.int l4), some (.int l5)], [.int l2], hp X G μ)) rfl ?_
        by_cases b3 : l2.toInt < 0 ∨ 3 < l2.toInt
        · rw [if_pos b3] at hf
          refine ab_U.tswD rfl b3 ?_
          refine ab_U.run 1 (S' := (146, [some (.ref 232), some (.int l1), some (.int l2), some (.int l3), some (.int l4), some (.int l5)], [.int (-1)], hp X G μ)) rfl ?_
          obtain rfl := Option.some.inj hf
          exact ab_U.ret rfl rfl ⟨rfl, rfl⟩
        · rw [if_neg b3] at hf
          by_cases b4 : l2.toInt = 0
          · rw [if_pos b4] at hf
            refine ab_U.tswT (t := 124) rfl b3 (by rw [b4]; rfl) ?_
            refine ab_U.run 3 (S' := (129, [some (.ref 232), some (.int l1), some (.int l2), some (.int l3), some (.int l4), some (.int l5)], [.int l1, .ref 233], hp X G μ)) rfl ?_
            obtain ⟨c5, hf⟩ := ab_ifs hf
            refine ab_U.iald (n := 228) rfl ⟨by decide, rfl⟩ c5 ?_
            show ab_U _ _ _ (130, [some (.ref 232), some (.int l1), some (.int l2), some (.int l3), some (.int l4), some (.int l5)], [.int (μ.2.1 233 l1.toNatClampNeg)], hp X G μ) _
            obtain rfl := Option.some.inj hf
            exact ab_U.ret rfl rfl ⟨rfl, rfl⟩
          · rw [if_neg b4] at hf
            by_cases b6 : l2.toInt = 1
            · rw [if_pos b6] at hf
              refine ab_U.tswT (t := 131) rfl b3 (by rw [b6]; rfl) ?_
              refine ab_U.run 5 (S' := (138, [some (.ref 232), some (.int l1), some (.int l2), some (.int l3), some (.int l4), some (.int l5)], [.int (4 + l1), .ref 233], hp X G μ)) rfl ?_
              obtain ⟨c7, hf⟩ := ab_ifs hf
              refine ab_U.iald (n := 228) rfl ⟨by decide, rfl⟩ c7 ?_
              show ab_U _ _ _ (139, [some (.ref 232), some (.int l1), some (.int l2), some (.int l3), some (.int l4), some (.int l5)], [.int (μ.2.1 233 (4 + l1).toNatClampNeg)], hp X G μ) _
              obtain rfl := Option.some.inj hf
              exact ab_U.ret rfl rfl ⟨rfl, rfl⟩
            · rw [if_neg b6] at hf
              by_cases b8 : l2.toInt = 2
              · rw [if_pos b8] at hf
                refine ab_U.tswT (t := 140) rfl b3 (by rw [b8]; rfl) ?_
                refine ab_U.run 1 (S' := (141, [some (.ref 232), some (.int l1), some (.int l2), some (.int l3), some (.int l4), some (.int l5)], [.int l3], hp X G μ)) rfl ?_
                obtain rfl := Option.some.inj hf
                exact ab_U.ret rfl rfl ⟨rfl, rfl⟩
              · rw [if_neg b8] at hf
                have b9 : l2.toInt = 3 := by omega
                refine ab_U.tswT (t := 142) rfl b3 (by rw [b9]; rfl) ?_
                refine ab_U.run 1 (S' := (144, [some (.ref 232), some (.int l1), some (.int l2), some (.int l3), some (.int l4), some (.int l5)], [.int l4], hp X G μ)) rfl ?_
                obtain rfl := Option.some.inj hf
                exact ab_U.ret rfl rfl ⟨rfl, rfl⟩
      · rw [if_neg b2] at hf
        refine ab_U.run 6 (S' := (40, [some (.ref 232), some (.int l1), some (.int l2), some (.int l3), some (.int l4), some (.int l5)], [.int (18 + l5), .ref 233, .int l3], hp X G μ)) rfl ?_
        obtain ⟨c10, hf⟩ := ab_ifs hf
        refine ab_U.iald (n := 228) rfl ⟨by decide, rfl⟩ c10 ?_
        show ab_U _ _ _ (41, [some (.ref 232), some (.int l1), some (.int l2), some (.int l3), some (.int l4), some (.int l5)], [.int (μ.2.1 233 (18 + l5).toNatClampNeg), .int l3], hp X G μ) _
        refine ab_U.run 1 (S' := (42, [some (.ref 232), some (.int l1), some (.int l2), some (.int l3), some (.int l4), some (.int l5)], [.int l1, .int (μ.2.1 233 (18 + l5).toNatClampNeg), .int l3], hp X G μ)) rfl ?_
        refine ab_U.ic_ne rfl (fun b11 => ?_) (fun b11 => ?_)
        · rw [if_pos b11] at hf
          refine ab_U.run 9 (S' := (66, [some (.ref 232), some (.int l1), some (.int l2), some (.int (l3 ||| 0)), some (.int l4), some (.int l5)], [.int (18 + l5), .ref 233, .int l4], hp X G μ)) rfl ?_
          obtain ⟨c12, hf⟩ := ab_ifs hf
          refine ab_U.iald (n := 228) rfl ⟨by decide, rfl⟩ c12 ?_
          show ab_U _ _ _ (67, [some (.ref 232), some (.int l1), some (.int l2), some (.int (l3 ||| 0)), some (.int l4), some (.int l5)], [.int (μ.2.1 233 (18 + l5).toNatClampNeg), .int l4], hp X G μ) _
          refine ab_U.run 1 (S' := (68, [some (.ref 232), some (.int l1), some (.int l2), some (.int (l3 ||| 0)), some (.int l4), some (.int l5)], [.int l1, .int (μ.2.1 233 (18 + l5).toNatClampNeg), .int l4], hp X G μ)) rfl ?_
          refine ab_U.ic_ne rfl (fun b13 => ?_) (fun b13 => ?_)
          · rw [if_pos b13] at hf
            refine ab_U.run 5 (S' := (18, [some (.ref 232), some (.int l1), some (.int l2), some (.int (l3 ||| 0)), some (.int (l4 + 0)), some (.int (l5 + 1))], [], hp X G μ)) rfl ?_
            exact ab_U.weak (ih _ _ _ _ _ _ _ hf) (ab_leL.of ⟨rfl, ⟨rfl, ⟨rfl, ⟨rfl, ⟨rfl, ⟨rfl, trivial⟩⟩⟩⟩⟩⟩)
          · rw [if_neg b13] at hf
            refine ab_U.run 5 (S' := (80, [some (.ref 232), some (.int l1), some (.int l2), some (.int (l3 ||| 0)), some (.int l4), some (.int l5)], [.int (13 + l5), .ref 233, .int l4], hp X G μ)) rfl ?_
            obtain ⟨c14, hf⟩ := ab_ifs hf
            refine ab_U.iald (n := 228) rfl ⟨by decide, rfl⟩ c14 ?_
            show ab_U _ _ _ (81, [some (.ref 232), some (.int l1), some (.int l2), some (.int (l3 ||| 0)), some (.int l4), some (.int l5)], [.int (μ.2.1 233 (13 + l5).toNatClampNeg), .int l4], hp X G μ) _
            refine ab_U.run 5 (S' := (18, [some (.ref 232), some (.int l1), some (.int l2), some (.int (l3 ||| 0)), some (.int (l4 + (μ.2.1 233 (13 + l5).toNatClampNeg))), some (.int (l5 + 1))], [], hp X G μ)) rfl ?_
            exact ab_U.weak (ih _ _ _ _ _ _ _ hf) (ab_leL.of ⟨rfl, ⟨rfl, ⟨rfl, ⟨rfl, ⟨rfl, ⟨rfl, trivial⟩⟩⟩⟩⟩⟩)
        · rw [if_neg b11] at hf
          refine ab_U.run 12 (S' := (66, [some (.ref 232), some (.int l1), some (.int l2), some (.int (l3 ||| (1 <<< (l5 &&& 31)))), some (.int l4), some (.int l5)], [.int (18 + l5), .ref 233, .int l4], hp X G μ)) rfl ?_
          obtain ⟨c15, hf⟩ := ab_ifs hf
          refine ab_U.iald (n := 228) rfl ⟨by decide, rfl⟩ c15 ?_
          show ab_U _ _ _ (67, [some (.ref 232), some (.int l1), some (.int l2), some (.int (l3 ||| (1 <<< (l5 &&& 31)))), some (.int l4), some (.int l5)], [.int (μ.2.1 233 (18 + l5).toNatClampNeg), .int l4], hp X G μ) _
          refine ab_U.run 1 (S' := (68, [some (.ref 232), some (.int l1), some (.int l2), some (.int (l3 ||| (1 <<< (l5 &&& 31)))), some (.int l4), some (.int l5)], [.int l1, .int (μ.2.1 233 (18 + l5).toNatClampNeg), .int l4], hp X G μ)) rfl ?_
          refine ab_U.ic_ne rfl (fun b16 => ?_) (fun b16 => ?_)
          · rw [if_pos b16] at hf
            refine ab_U.run 5 (S' := (18, [some (.ref 232), some (.int l1), some (.int l2), some (.int (l3 ||| (1 <<< (l5 &&& 31)))), some (.int (l4 + 0)), some (.int (l5 + 1))], [], hp X G μ)) rfl ?_
            exact ab_U.weak (ih _ _ _ _ _ _ _ hf) (ab_leL.of ⟨rfl, ⟨rfl, ⟨rfl, ⟨rfl, ⟨rfl, ⟨rfl, trivial⟩⟩⟩⟩⟩⟩)
          · rw [if_neg b16] at hf
            refine ab_U.run 5 (S' := (80, [some (.ref 232), some (.int l1), some (.int l2), some (.int (l3 ||| (1 <<< (l5 &&& 31)))), some (.int l4), some (.int l5)], [.int (13 + l5), .ref 233, .int l4], hp X G μ)) rfl ?_
            obtain ⟨c17, hf⟩ := ab_ifs hf
            refine ab_U.iald (n := 228) rfl ⟨by decide, rfl⟩ c17 ?_
            show ab_U _ _ _ (81, [some (.ref 232), some (.int l1), some (.int l2), some (.int (l3 ||| (1 <<< (l5 &&& 31)))), some (.int l4), some (.int l5)], [.int (μ.2.1 233 (13 + l5).toNatClampNeg), .int l4], hp X G μ) _
            refine ab_U.run 5 (S' := (18, [some (.ref 232), some (.int l1), some (.int l2), some (.int (l3 ||| (1 <<< (l5 &&& 31)))), some (.int (l4 + (μ.2.1 233 (13 + l5).toNatClampNeg))), some (.int (l5 + 1))], [], hp X G μ)) rfl ?_
            exact ab_U.weak (ih _ _ _ _ _ _ _ hf) (ab_leL.of ⟨rfl, ⟨rfl, ⟨rfl, ⟨rfl, ⟨rfl, ⟨rfl, trivial⟩⟩⟩⟩⟩⟩)
set_option maxRecDepth 20000 in
def f_X9_one (F : Nat)  (x0 : Int32) (x1 : Int32) (μ : fm_M) : Option (Int32 × fm_M) := (Option.bind (f_X9_isOne F x0 μ) (fun q18 => (if ¬ q18.1 = 0 then g_X9_one F  F 18 x0 x1 0 0 0 q18.2 else some ((-1), q18.2))))
set_option maxRecDepth 20000 in
theorem t_X9_one {X : Nat × (Nat → Int32)} {G : Nat → Nat → Option Nat} (hG : fm_Gok G) {F : Nat}   {x0 : Int32} {x1 : Int32} {μ : fm_M} {r : Int32 × fm_M} (hf : f_X9_one F x0 x1 μ = some r) : ab_F 3 156 [.ref 232, .int x0, .int x1] (hp X G μ) (some (.int r.1)) (hp X G r.2) := by
  unfold f_X9_one at hf
  refine ab_T.of (d := 2) rfl (Nat.le_of_ble_eq_true rfl) ?_
  show ab_U _ _ kX9_one (0, [some (.ref 232), some (.int x0), some (.int x1), none, none, none], [], hp X G μ) _
  refine ab_U.run 2 (S' := (2, [some (.ref 232), some (.int x0), some (.int x1), none, none, none], [.int x0, .ref 232], hp X G μ)) rfl ?_
  obtain ⟨q18, h19, hf⟩ := ab_bnd hf
  refine ab_U.fn rfl rfl (t_X9_isOne (X := X) hG h19) (by omega) ?_
  show ab_U _ _ _ (5, [some (.ref 232), some (.int x0), some (.int x1), none, none, none], [.int q18.1], hp X G q18.2) _
  refine ab_U.if_ne rfl (fun b20 => ?_) (fun b20 => ?_)
  · rw [if_pos b20] at hf
    refine ab_U.run 6 (S' := (18, [some (.ref 232), some (.int x0), some (.int x1), some (.int 0), some (.int 0), some (.int 0)], [], hp X G q18.2)) rfl ?_
    exact ab_U.weak ((t_X9_one_g (X := X) hG   F) _ _ _ _ _ _ _ hf) (ab_leL.of ⟨rfl, ⟨rfl, ⟨rfl, ⟨rfl, ⟨rfl, ⟨rfl, trivial⟩⟩⟩⟩⟩⟩)
  · rw [if_neg b20] at hf
    refine ab_U.run 1 (S' := (9, [some (.ref 232), some (.int x0), some (.int x1), none, none, none], [.int (-1)], hp X G q18.2)) rfl ?_
    obtain rfl := Option.some.inj hf
    exact ab_U.ret rfl rfl ⟨rfl, rfl⟩
set_option maxRecDepth 20000 in
def f_X9_stone (F : Nat)  (x0 : Int32) (x1 : Int32) (μ : fm_M) : Option (Int32 × fm_M) := (Option.bind (f_X9_isStone F x0 μ) (fun q1 => (if ¬ q1.1 = 0 then (if x1.toInt < 0 ∨ 4 < x1.toInt then some ((-1), q1.2) else (if x1.toInt = 0 then (if ab_in (8 + x0) 228 = true then some ((q1.2.2.1 233 (8 + x0).toNatClampNeg), q1.2) else none) else (if x1.toInt = 1 then (if ab_in (13 + x0) 228 = true then some ((q1.2.2.1 233 (13 + x0).toNatClampNeg), q1.2) else none) else (if x1.toInt = 2 then (if ab_in (18 + x0) 228 = true then some ((q1.2.2.1 233 (18 + x0).toNatClampNeg), q1.2) else none) else (if x1.toInt = 3 then (Option.bind (f_X9_rateOn F 0 x0 q1.2) (fun q12 => some (q12.1, q12.2))) else (if ab_in (13 + x0) 228 = true then (if (q1.2.2.1 233 (13 + x0).toNatClampNeg) < 5 then some (0, q1.2) else some (1, q1.2)) else none)))))) else some ((-1), q1.2))))
set_option maxRecDepth 20000 in
theorem t_X9_stone {X : Nat × (Nat → Int32)} {G : Nat → Nat → Option Nat} (hG : fm_Gok G) {F : Nat}   {x0 : Int32} {x1 : Int32} {μ : fm_M} {r : Int32 × fm_M} (hf : f_X9_stone F x0 x1 μ = some r) : ab_F 3 157 [.ref 232, .int x0, .int x1] (hp X G μ) (some (.int r.1)) (hp X G r.2) := by
  unfold f_X9_stone at hf
  refine ab_T.of (d := 2) rfl (Nat.le_of_ble_eq_true rfl) ?_
  show ab_U _ _ kX9_stone (0, [some (.ref 232), some (.int x0), some (.int x1)], [], hp X G μ) _
  refine ab_U.run 2 (S' := (2, [some (.ref 232), some (.int x0), some (.int x1)], [.int x0, .ref 232], hp X G μ)) rfl ?_
  obtain ⟨q1, h2, hf⟩ := ab_bnd hf
  refine ab_U.fn rfl rfl (t_X9_isStone (X := X) hG h2) (by omega) ?_
  show ab_U _ _ _ (5, [some (.ref 232), some (.int x0), some (.int x1)], [.int q1.1], hp X G q1.2) _
  refine ab_U.if_ne rfl (fun b3 => ?_) (fun b3 => ?_)
  · rw [if_pos b3] at hf
    refine ab_U.run 1 (S' := (11, [some (.ref 232), some (.int x0), some (.int x1)], [.int x1], hp X G q1.2)) rfl ?_
    by_cases b4 : x1.toInt < 0 ∨ 4 < x1.toInt
    · rw [if_pos b4] at hf
      refine ab_U.tswD rfl b4 ?_
      refine ab_U.run 1 (S' := (101, [some (.ref 232), some (.int x0), some (.int x1)], [.int (-1)], hp X G q1.2)) rfl ?_
      obtain rfl := Option.some.inj hf
      exact ab_U.ret rfl rfl ⟨rfl, rfl⟩
    · rw [if_neg b4] at hf
      by_cases b5 : x1.toInt = 0
      · rw [if_pos b5] at hf
        refine ab_U.tswT (t := 44) rfl b4 (by rw [b5]; rfl) ?_
        refine ab_U.run 5 (S' := (52, [some (.ref 232), some (.int x0), some (.int x1)], [.int (8 + x0), .ref 233], hp X G q1.2)) rfl ?_
        obtain ⟨c6, hf⟩ := ab_ifs hf
        refine ab_U.iald (n := 228) rfl ⟨by decide, rfl⟩ c6 ?_
        show ab_U _ _ _ (53, [some (.ref 232), some (.int x0), some (.int x1)], [.int (q1.2.2.1 233 (8 + x0).toNatClampNeg)], hp X G q1.2) _
        obtain rfl := Option.some.inj hf
        exact ab_U.ret rfl rfl ⟨rfl, rfl⟩
      · rw [if_neg b5] at hf
        by_cases b7 : x1.toInt = 1
        · rw [if_pos b7] at hf
          refine ab_U.tswT (t := 54) rfl b4 (by rw [b7]; rfl) ?_
          refine ab_U.run 5 (S' := (62, [some (.ref 232), some (.int x0), some (.int x1)], [.int (13 + x0), .ref 233], hp X G q1.2)) rfl ?_
          obtain ⟨c8, hf⟩ := ab_ifs hf
          refine ab_U.iald (n := 228) rfl ⟨by decide, rfl⟩ c8 ?_
          show ab_U _ _ _ (63, [some (.ref 232), some (.int x0), some (.int x1)], [.int (q1.2.2.1 233 (13 + x0).toNatClampNeg)], hp X G q1.2) _
          obtain rfl := Option.some.inj hf
          exact ab_U.ret rfl rfl ⟨rfl, rfl⟩
        · rw [if_neg b7] at hf
          by_cases b9 : x1.toInt = 2
          · rw [if_pos b9] at hf
            refine ab_U.tswT (t := 64) rfl b4 (by rw [b9]; rfl) ?_
            refine ab_U.run 5 (S' := (72, [some (.ref 232), some (.int x0), some (.int x1)], [.int (18 + x0), .ref 233], hp X G q1.2)) rfl ?_
            obtain ⟨c10, hf⟩ := ab_ifs hf
            refine ab_U.iald (n := 228) rfl ⟨by decide, rfl⟩ c10 ?_
            show ab_U _ _ _ (73, [some (.ref 232), some (.int x0), some (.int x1)], [.int (q1.2.2.1 233 (18 + x0).toNatClampNeg)], hp X G q1.2) _
            obtain rfl := Option.some.inj hf
            exact ab_U.ret rfl rfl ⟨rfl, rfl⟩
          · rw [if_neg b9] at hf
            by_cases b11 : x1.toInt = 3
            · rw [if_pos b11] at hf
              refine ab_U.tswT (t := 74) rfl b4 (by rw [b11]; rfl) ?_
              refine ab_U.run 3 (S' := (77, [some (.ref 232), some (.int x0), some (.int x1)], [.int x0, .int 0, .ref 232], hp X G q1.2)) rfl ?_
              obtain ⟨q12, h13, hf⟩ := ab_bnd hf
              refine ab_U.fn rfl rfl (t_X9_rateOn (X := X) hG h13) (by omega) ?_
              show ab_U _ _ _ (80, [some (.ref 232), some (.int x0), some (.int x1)], [.int q12.1], hp X G q12.2) _
              obtain rfl := Option.some.inj hf
              exact ab_U.ret rfl rfl ⟨rfl, rfl⟩
            · rw [if_neg b11] at hf
              have b14 : x1.toInt = 4 := by omega
              refine ab_U.tswT (t := 81) rfl b4 (by rw [b14]; rfl) ?_
              refine ab_U.run 5 (S' := (89, [some (.ref 232), some (.int x0), some (.int x1)], [.int (13 + x0), .ref 233], hp X G q1.2)) rfl ?_
              obtain ⟨c15, hf⟩ := ab_ifs hf
              refine ab_U.iald (n := 228) rfl ⟨by decide, rfl⟩ c15 ?_
              show ab_U _ _ _ (90, [some (.ref 232), some (.int x0), some (.int x1)], [.int (q1.2.2.1 233 (13 + x0).toNatClampNeg)], hp X G q1.2) _
              refine ab_U.run 1 (S' := (91, [some (.ref 232), some (.int x0), some (.int x1)], [.int 5, .int (q1.2.2.1 233 (13 + x0).toNatClampNeg)], hp X G q1.2)) rfl ?_
              refine ab_U.ic_lt rfl (fun b16 => ?_) (fun b16 => ?_)
              · rw [if_pos b16] at hf
                refine ab_U.run 1 (S' := (99, [some (.ref 232), some (.int x0), some (.int x1)], [.int 0], hp X G q1.2)) rfl ?_
                obtain rfl := Option.some.inj hf
                exact ab_U.ret rfl rfl ⟨rfl, rfl⟩
              · rw [if_neg b16] at hf
                refine ab_U.run 2 (S' := (99, [some (.ref 232), some (.int x0), some (.int x1)], [.int 1], hp X G q1.2)) rfl ?_
                obtain rfl := Option.some.inj hf
                exact ab_U.ret rfl rfl ⟨rfl, rfl⟩
  · rw [if_neg b3] at hf
    refine ab_U.run 1 (S' := (9, [some (.ref 232), some (.int x0), some (.int x1)], [.int (-1)], hp X G q1.2)) rfl ?_
    obtain rfl := Option.some.inj hf
    exact ab_U.ret rfl rfl ⟨rfl, rfl⟩
set_option maxRecDepth 20000 in
def f_X9_debt (F : Nat)  (x0 : Int32) (x1 : Int32) (μ : fm_M) : Option (Int32 × fm_M) := (Option.bind (f_X9_isDebt F x0 μ) (fun q1 => (if q1.1 = 0 then some ((-1), q1.2) else (Option.bind (f_X9_in F ((x1).toInt64) (Int64.ofNat 0) (Int64.ofNat 2) q1.2) (fun q4 => (if ¬ q4.1 = 0 then (if ¬ x1 = 2 then (if ab_in ((2 * x0) + x1) 8 = true then some ((q4.2.2.1 234 ((2 * x0) + x1).toNatClampNeg), q4.2) else none) else (if ab_in (33 + x0) 228 = true then some ((q4.2.2.1 233 (33 + x0).toNatClampNeg), q4.2) else none)) else some ((-1), q4.2)))))))
set_option maxRecDepth 20000 in
theorem t_X9_debt {X : Nat × (Nat → Int32)} {G : Nat → Nat → Option Nat} (hG : fm_Gok G) {F : Nat}   {x0 : Int32} {x1 : Int32} {μ : fm_M} {r : Int32 × fm_M} (hf : f_X9_debt F x0 x1 μ = some r) : ab_F 3 158 [.ref 232, .int x0, .int x1] (hp X G μ) (some (.int r.1)) (hp X G r.2) := by
  unfold f_X9_debt at hf
  refine ab_T.of (d := 2) rfl (Nat.le_of_ble_eq_true rfl) ?_
  show ab_U _ _ kX9_debt (0, [some (.ref 232), some (.int x0), some (.int x1)], [], hp X G μ) _
  refine ab_U.run 2 (S' := (2, [some (.ref 232), some (.int x0), some (.int x1)], [.int x0, .ref 232], hp X G μ)) rfl ?_
  obtain ⟨q1, h2, hf⟩ := ab_bnd hf
  refine ab_U.fn rfl rfl (t_X9_isDebt (X := X) hG h2) (by omega) ?_
  show ab_U _ _ _ (5, [some (.ref 232), some (.int x0), some (.int x1)], [.int q1.1], hp X G q1.2) _
  refine ab_U.if_eq rfl (fun b3 => ?_) (fun b3 => ?_)
  · rw [if_pos b3] at hf
    refine ab_U.run 2 (S' := (51, [some (.ref 232), some (.int x0), some (.int x1)], [.int (-1)], hp X G q1.2)) rfl ?_
    obtain rfl := Option.some.inj hf
    exact ab_U.ret rfl rfl ⟨rfl, rfl⟩
  · rw [if_neg b3] at hf
    refine ab_U.run 4 (S' := (14, [some (.ref 232), some (.int x0), some (.int x1)], [.long (Int64.ofNat 2), .long (Int64.ofNat 0), .long (x1).toInt64], hp X G q1.2)) rfl ?_
    obtain ⟨q4, h5, hf⟩ := ab_bnd hf
    refine ab_U.fn rfl rfl (t_X9_in (X := X) hG h5) (by omega) ?_
    show ab_U _ _ _ (17, [some (.ref 232), some (.int x0), some (.int x1)], [.int q4.1], hp X G q4.2) _
    refine ab_U.if_ne rfl (fun b6 => ?_) (fun b6 => ?_)
    · rw [if_pos b6] at hf
      refine ab_U.run 2 (S' := (26, [some (.ref 232), some (.int x0), some (.int x1)], [.int 2, .int x1], hp X G q4.2)) rfl ?_
      refine ab_U.ic_ne rfl (fun b7 => ?_) (fun b7 => ?_)
      · rw [if_pos b7] at hf
        refine ab_U.run 7 (S' := (50, [some (.ref 232), some (.int x0), some (.int x1)], [.int ((2 * x0) + x1), .ref 234], hp X G q4.2)) rfl ?_
        obtain ⟨c8, hf⟩ := ab_ifs hf
        refine ab_U.iald (n := 8) rfl ⟨by decide, rfl⟩ c8 ?_
        show ab_U _ _ _ (51, [some (.ref 232), some (.int x0), some (.int x1)], [.int (q4.2.2.1 234 ((2 * x0) + x1).toNatClampNeg)], hp X G q4.2) _
        obtain rfl := Option.some.inj hf
        exact ab_U.ret rfl rfl ⟨rfl, rfl⟩
      · rw [if_neg b7] at hf
        refine ab_U.run 5 (S' := (37, [some (.ref 232), some (.int x0), some (.int x1)], [.int (33 + x0), .ref 233], hp X G q4.2)) rfl ?_
        obtain ⟨c9, hf⟩ := ab_ifs hf
        refine ab_U.iald (n := 228) rfl ⟨by decide, rfl⟩ c9 ?_
        show ab_U _ _ _ (38, [some (.ref 232), some (.int x0), some (.int x1)], [.int (q4.2.2.1 233 (33 + x0).toNatClampNeg)], hp X G q4.2) _
        refine ab_U.run 1 (S' := (51, [some (.ref 232), some (.int x0), some (.int x1)], [.int (q4.2.2.1 233 (33 + x0).toNatClampNeg)], hp X G q4.2)) rfl ?_
        obtain rfl := Option.some.inj hf
        exact ab_U.ret rfl rfl ⟨rfl, rfl⟩
    · rw [if_neg b6] at hf
      refine ab_U.run 2 (S' := (51, [some (.ref 232), some (.int x0), some (.int x1)], [.int (-1)], hp X G q4.2)) rfl ?_
      obtain rfl := Option.some.inj hf
      exact ab_U.ret rfl rfl ⟨rfl, rfl⟩
set_option maxRecDepth 20000 in
def f_X9_price (F : Nat)  (x0 : Int32) (μ : fm_M) : Option (Int32 × fm_M) := (Option.bind (f_X9_in F ((x0).toInt64) (Int64.ofNat 0) (Int64.ofNat 5) μ) (fun q1 => (if q1.1 = 0 then some ((-1), q1.2) else (if ab_in (27 + x0) 228 = true then some (((q1.2.2.1 233 (27 + x0).toNatClampNeg) + 1), q1.2) else none))))
set_option maxRecDepth 20000 in
theorem t_X9_price {X : Nat × (Nat → Int32)} {G : Nat → Nat → Option Nat} (hG : fm_Gok G) {F : Nat}   {x0 : Int32} {μ : fm_M} {r : Int32 × fm_M} (hf : f_X9_price F x0 μ = some r) : ab_F 2 159 [.ref 232, .int x0] (hp X G μ) (some (.int r.1)) (hp X G r.2) := by
  unfold f_X9_price at hf
  refine ab_T.of (d := 1) rfl (Nat.le_of_ble_eq_true rfl) ?_
  show ab_U _ _ kX9_price (0, [some (.ref 232), some (.int x0)], [], hp X G μ) _
  refine ab_U.run 4 (S' := (6, [some (.ref 232), some (.int x0)], [.long (Int64.ofNat 5), .long (Int64.ofNat 0), .long (x0).toInt64], hp X G μ)) rfl ?_
  obtain ⟨q1, h2, hf⟩ := ab_bnd hf
  refine ab_U.fn rfl rfl (t_X9_in (X := X) hG h2) (by omega) ?_
  show ab_U _ _ _ (9, [some (.ref 232), some (.int x0)], [.int q1.1], hp X G q1.2) _
  refine ab_U.if_eq rfl (fun b3 => ?_) (fun b3 => ?_)
  · rw [if_pos b3] at hf
    refine ab_U.run 1 (S' := (27, [some (.ref 232), some (.int x0)], [.int (-1)], hp X G q1.2)) rfl ?_
    obtain rfl := Option.some.inj hf
    exact ab_U.ret rfl rfl ⟨rfl, rfl⟩
  · rw [if_neg b3] at hf
    refine ab_U.run 5 (S' := (20, [some (.ref 232), some (.int x0)], [.int (27 + x0), .ref 233], hp X G q1.2)) rfl ?_
    obtain ⟨c4, hf⟩ := ab_ifs hf
    refine ab_U.iald (n := 228) rfl ⟨by decide, rfl⟩ c4 ?_
    show ab_U _ _ _ (21, [some (.ref 232), some (.int x0)], [.int (q1.2.2.1 233 (27 + x0).toNatClampNeg)], hp X G q1.2) _
    refine ab_U.run 3 (S' := (27, [some (.ref 232), some (.int x0)], [.int ((q1.2.2.1 233 (27 + x0).toNatClampNeg) + 1)], hp X G q1.2)) rfl ?_
    obtain rfl := Option.some.inj hf
    exact ab_U.ret rfl rfl ⟨rfl, rfl⟩
set_option maxRecDepth 20000 in
def f_X9_puts (F : Nat)  (x0 : Int32) (x1 : Int32) (x2 : Int32) (x3 : Int32) (μ : fm_M) : Option (Int32 × fm_M) := (if ¬ x0 = 0 then (if ab_in x1 228 = true then (if ab_in x1 228 = true then (Option.bind (some (fm_sA μ 233 (upd (μ.2.1 233) x1.toNatClampNeg (x2 - x3)))) (fun m4 => some (((μ.2.1 233 x1.toNatClampNeg) + x3), m4))) else none) else none) else some ((-1), μ))
set_option maxRecDepth 20000 in
theorem t_X9_puts {X : Nat × (Nat → Int32)} {G : Nat → Nat → Option Nat} (hG : fm_Gok G) {F : Nat}   {x0 : Int32} {x1 : Int32} {x2 : Int32} {x3 : Int32} {μ : fm_M} {r : Int32 × fm_M} (hf : f_X9_puts F x0 x1 x2 x3 μ = some r) : ab_F 1 160 [.ref 232, .int x0, .int x1, .int x2, .int x3] (hp X G μ) (some (.int r.1)) (hp X G r.2) := by
  unfold f_X9_puts at hf
  refine ab_T.of (d := 0) rfl (Nat.le_of_ble_eq_true rfl) ?_
  show ab_U _ _ kX9_puts (0, [some (.ref 232), some (.int x0), some (.int x1), some (.int x2), some (.int x3), none], [], hp X G μ) _
  refine ab_U.run 1 (S' := (1, [some (.ref 232), some (.int x0), some (.int x1), some (.int x2), some (.int x3), none], [.int x0], hp X G μ)) rfl ?_
  refine ab_U.if_ne rfl (fun b1 => ?_) (fun b1 => ?_)
  · rw [if_pos b1] at hf
    refine ab_U.run 3 (S' := (11, [some (.ref 232), some (.int x0), some (.int x1), some (.int x2), some (.int x3), none], [.int x1, .ref 233], hp X G μ)) rfl ?_
    obtain ⟨c2, hf⟩ := ab_ifs hf
    refine ab_U.iald (n := 228) rfl ⟨by decide, rfl⟩ c2 ?_
    show ab_U _ _ _ (12, [some (.ref 232), some (.int x0), some (.int x1), some (.int x2), some (.int x3), none], [.int (μ.2.1 233 x1.toNatClampNeg)], hp X G μ) _
    refine ab_U.run 9 (S' := (26, [some (.ref 232), some (.int x0), some (.int x1), some (.int x2), some (.int x3), some (.int ((μ.2.1 233 x1.toNatClampNeg) + x3))], [.int (x2 - x3), .int x1, .ref 233], hp X G μ)) rfl ?_
    obtain ⟨c3, hf⟩ := ab_ifs hf
    obtain ⟨m4, e5, hf⟩ := ab_bnd hf
    have e5 := Option.some.inj e5
    refine ab_U.iast (n := 228) rfl ⟨by decide, rfl⟩ c3 ?_
    show ab_U _ _ _ (27, [some (.ref 232), some (.int x0), some (.int x1), some (.int x2), some (.int x3), some (.int ((μ.2.1 233 x1.toNatClampNeg) + x3))], [], hp X G (fm_sA μ 233 (upd (μ.2.1 233) x1.toNatClampNeg (x2 - x3)))) _
    rw [e5]
    refine ab_U.run 1 (S' := (29, [some (.ref 232), some (.int x0), some (.int x1), some (.int x2), some (.int x3), some (.int ((μ.2.1 233 x1.toNatClampNeg) + x3))], [.int ((μ.2.1 233 x1.toNatClampNeg) + x3)], hp X G m4)) rfl ?_
    obtain rfl := Option.some.inj hf
    exact ab_U.ret rfl rfl ⟨rfl, rfl⟩
  · rw [if_neg b1] at hf
    refine ab_U.run 1 (S' := (5, [some (.ref 232), some (.int x0), some (.int x1), some (.int x2), some (.int x3), none], [.int (-1)], hp X G μ)) rfl ?_
    obtain rfl := Option.some.inj hf
    exact ab_U.ret rfl rfl ⟨rfl, rfl⟩
set_option maxRecDepth 20000 in
def f_X9_dress (F : Nat)  (x0 : Int32) (x1 : Int32) (x2 : Int32) (μ : fm_M) : Option (Int32 × fm_M) := (if ¬ x1 = 0 then (if ¬ x1 = 1 then (Option.bind (f_X9_puts F 0 (4 + x0) x2 0 μ) (fun q3 => some (q3.1, q3.2))) else (Option.bind (f_X9_isOne F x0 μ) (fun q5 => (if q5.1 = 0 then (Option.bind (f_X9_puts F 0 (4 + x0) x2 0 q5.2) (fun q8 => some (q8.1, q8.2))) else (Option.bind (f_X9_in F ((x2).toInt64) (Int64.ofNat 0) (Int64.ofNat 9) q5.2) (fun q10 => (if q10.1 = 0 then (Option.bind (f_X9_puts F 0 (4 + x0) x2 0 q10.2) (fun q13 => some (q13.1, q13.2))) else (Option.bind (f_X9_puts F 1 (4 + x0) x2 0 q10.2) (fun q15 => some (q15.1, q15.2)))))))))) else (Option.bind (f_X9_isOne F x0 μ) (fun q17 => (if q17.1 = 0 then (Option.bind (f_X9_puts F 0 x0 x2 0 q17.2) (fun q20 => some (q20.1, q20.2))) else (Option.bind (f_X9_in F ((x2).toInt64) (Int64.ofNat 0) (Int64.ofNat 5) q17.2) (fun q22 => (if q22.1 = 0 then (Option.bind (f_X9_puts F 0 x0 x2 0 q22.2) (fun q25 => some (q25.1, q25.2))) else (Option.bind (f_X9_puts F 1 x0 x2 0 q22.2) (fun q27 => some (q27.1, q27.2))))))))))
set_option maxRecDepth 20000 in
theorem t_X9_dress {X : Nat × (Nat → Int32)} {G : Nat → Nat → Option Nat} (hG : fm_Gok G) {F : Nat}   {x0 : Int32} {x1 : Int32} {x2 : Int32} {μ : fm_M} {r : Int32 × fm_M} (hf : f_X9_dress F x0 x1 x2 μ = some r) : ab_F 3 161 [.ref 232, .int x0, .int x1, .int x2] (hp X G μ) (some (.int r.1)) (hp X G r.2) := by
  unfold f_X9_dress at hf
  refine ab_T.of (d := 2) rfl (Nat.le_of_ble_eq_true rfl) ?_
  show ab_U _ _ kX9_dress (0, [some (.ref 232), some (.int x0), some (.int x1), some (.int x2)], [], hp X G μ) _
  refine ab_U.run 1 (S' := (1, [some (.ref 232), some (.int x0), some (.int x1), some (.int x2)], [.int x1], hp X G μ)) rfl ?_
  refine ab_U.if_ne rfl (fun b1 => ?_) (fun b1 => ?_)
  · rw [if_pos b1] at hf
    refine ab_U.run 3 (S' := (42, [some (.ref 232), some (.int x0), some (.int x1), some (.int x2)], [.int 1, .int x1, .ref 232], hp X G μ)) rfl ?_
    refine ab_U.ic_ne rfl (fun b2 => ?_) (fun b2 => ?_)
    · rw [if_pos b2] at hf
      refine ab_U.run 6 (S' := (75, [some (.ref 232), some (.int x0), some (.int x1), some (.int x2)], [.int 0, .int x2, .int (4 + x0), .int 0, .ref 232], hp X G μ)) rfl ?_
      obtain ⟨q3, h4, hf⟩ := ab_bnd hf
      refine ab_U.fn rfl rfl (t_X9_puts (X := X) hG h4) (by omega) ?_
      show ab_U _ _ _ (78, [some (.ref 232), some (.int x0), some (.int x1), some (.int x2)], [.int q3.1], hp X G q3.2) _
      obtain rfl := Option.some.inj hf
      exact ab_U.ret rfl rfl ⟨rfl, rfl⟩
    · rw [if_neg b2] at hf
      refine ab_U.run 2 (S' := (47, [some (.ref 232), some (.int x0), some (.int x1), some (.int x2)], [.int x0, .ref 232, .ref 232], hp X G μ)) rfl ?_
      obtain ⟨q5, h6, hf⟩ := ab_bnd hf
      refine ab_U.fn rfl rfl (t_X9_isOne (X := X) hG h6) (by omega) ?_
      show ab_U _ _ _ (50, [some (.ref 232), some (.int x0), some (.int x1), some (.int x2)], [.int q5.1, .ref 232], hp X G q5.2) _
      refine ab_U.if_eq rfl (fun b7 => ?_) (fun b7 => ?_)
      · rw [if_pos b7] at hf
        refine ab_U.run 6 (S' := (75, [some (.ref 232), some (.int x0), some (.int x1), some (.int x2)], [.int 0, .int x2, .int (4 + x0), .int 0, .ref 232], hp X G q5.2)) rfl ?_
        obtain ⟨q8, h9, hf⟩ := ab_bnd hf
        refine ab_U.fn rfl rfl (t_X9_puts (X := X) hG h9) (by omega) ?_
        show ab_U _ _ _ (78, [some (.ref 232), some (.int x0), some (.int x1), some (.int x2)], [.int q8.1], hp X G q8.2) _
        obtain rfl := Option.some.inj hf
        exact ab_U.ret rfl rfl ⟨rfl, rfl⟩
      · rw [if_neg b7] at hf
        refine ab_U.run 4 (S' := (59, [some (.ref 232), some (.int x0), some (.int x1), some (.int x2)], [.long (Int64.ofNat 9), .long (Int64.ofNat 0), .long (x2).toInt64, .ref 232], hp X G q5.2)) rfl ?_
        obtain ⟨q10, h11, hf⟩ := ab_bnd hf
        refine ab_U.fn rfl rfl (t_X9_in (X := X) hG h11) (by omega) ?_
        show ab_U _ _ _ (62, [some (.ref 232), some (.int x0), some (.int x1), some (.int x2)], [.int q10.1, .ref 232], hp X G q10.2) _
        refine ab_U.if_eq rfl (fun b12 => ?_) (fun b12 => ?_)
        · rw [if_pos b12] at hf
          refine ab_U.run 6 (S' := (75, [some (.ref 232), some (.int x0), some (.int x1), some (.int x2)], [.int 0, .int x2, .int (4 + x0), .int 0, .ref 232], hp X G q10.2)) rfl ?_
          obtain ⟨q13, h14, hf⟩ := ab_bnd hf
          refine ab_U.fn rfl rfl (t_X9_puts (X := X) hG h14) (by omega) ?_
          show ab_U _ _ _ (78, [some (.ref 232), some (.int x0), some (.int x1), some (.int x2)], [.int q13.1], hp X G q13.2) _
          obtain rfl := Option.some.inj hf
          exact ab_U.ret rfl rfl ⟨rfl, rfl⟩
        · rw [if_neg b12] at hf
          refine ab_U.run 7 (S' := (75, [some (.ref 232), some (.int x0), some (.int x1), some (.int x2)], [.int 0, .int x2, .int (4 + x0), .int 1, .ref 232], hp X G q10.2)) rfl ?_
          obtain ⟨q15, h16, hf⟩ := ab_bnd hf
          refine ab_U.fn rfl rfl (t_X9_puts (X := X) hG h16) (by omega) ?_
          show ab_U _ _ _ (78, [some (.ref 232), some (.int x0), some (.int x1), some (.int x2)], [.int q15.1], hp X G q15.2) _
          obtain rfl := Option.some.inj hf
          exact ab_U.ret rfl rfl ⟨rfl, rfl⟩
  · rw [if_neg b1] at hf
    refine ab_U.run 3 (S' := (7, [some (.ref 232), some (.int x0), some (.int x1), some (.int x2)], [.int x0, .ref 232, .ref 232], hp X G μ)) rfl ?_
    obtain ⟨q17, h18, hf⟩ := ab_bnd hf
    refine ab_U.fn rfl rfl (t_X9_isOne (X := X) hG h18) (by omega) ?_
    show ab_U _ _ _ (10, [some (.ref 232), some (.int x0), some (.int x1), some (.int x2)], [.int q17.1, .ref 232], hp X G q17.2) _
    refine ab_U.if_eq rfl (fun b19 => ?_) (fun b19 => ?_)
    · rw [if_pos b19] at hf
      refine ab_U.run 4 (S' := (33, [some (.ref 232), some (.int x0), some (.int x1), some (.int x2)], [.int 0, .int x2, .int x0, .int 0, .ref 232], hp X G q17.2)) rfl ?_
      obtain ⟨q20, h21, hf⟩ := ab_bnd hf
      refine ab_U.fn rfl rfl (t_X9_puts (X := X) hG h21) (by omega) ?_
      show ab_U _ _ _ (36, [some (.ref 232), some (.int x0), some (.int x1), some (.int x2)], [.int q20.1], hp X G q20.2) _
      refine ab_U.run 1 (S' := (78, [some (.ref 232), some (.int x0), some (.int x1), some (.int x2)], [.int q20.1], hp X G q20.2)) rfl ?_
      obtain rfl := Option.some.inj hf
      exact ab_U.ret rfl rfl ⟨rfl, rfl⟩
    · rw [if_neg b19] at hf
      refine ab_U.run 4 (S' := (19, [some (.ref 232), some (.int x0), some (.int x1), some (.int x2)], [.long (Int64.ofNat 5), .long (Int64.ofNat 0), .long (x2).toInt64, .ref 232], hp X G q17.2)) rfl ?_
      obtain ⟨q22, h23, hf⟩ := ab_bnd hf
      refine ab_U.fn rfl rfl (t_X9_in (X := X) hG h23) (by omega) ?_
      show ab_U _ _ _ (22, [some (.ref 232), some (.int x0), some (.int x1), some (.int x2)], [.int q22.1, .ref 232], hp X G q22.2) _
      refine ab_U.if_eq rfl (fun b24 => ?_) (fun b24 => ?_)
      · rw [if_pos b24] at hf
        refine ab_U.run 4 (S' := (33, [some (.ref 232), some (.int x0), some (.int x1), some (.int x2)], [.int 0, .int x2, .int x0, .int 0, .ref 232], hp X G q22.2)) rfl ?_
        obtain ⟨q25, h26, hf⟩ := ab_bnd hf
        refine ab_U.fn rfl rfl (t_X9_puts (X := X) hG h26) (by omega) ?_
        show ab_U _ _ _ (36, [some (.ref 232), some (.int x0), some (.int x1), some (.int x2)], [.int q25.1], hp X G q25.2) _
        refine ab_U.run 1 (S' := (78, [some (.ref 232), some (.int x0), some (.int x1), some (.int x2)], [.int q25.1], hp X G q25.2)) rfl ?_
        obtain rfl := Option.some.inj hf
        exact ab_U.ret rfl rfl ⟨rfl, rfl⟩
      · rw [if_neg b24] at hf
        refine ab_U.run 5 (S' := (33, [some (.ref 232), some (.int x0), some (.int x1), some (.int x2)], [.int 0, .int x2, .int x0, .int 1, .ref 232], hp X G q22.2)) rfl ?_
        obtain ⟨q27, h28, hf⟩ := ab_bnd hf
        refine ab_U.fn rfl rfl (t_X9_puts (X := X) hG h28) (by omega) ?_
        show ab_U _ _ _ (36, [some (.ref 232), some (.int x0), some (.int x1), some (.int x2)], [.int q27.1], hp X G q27.2) _
        refine ab_U.run 1 (S' := (78, [some (.ref 232), some (.int x0), some (.int x1), some (.int x2)], [.int q27.1], hp X G q27.2)) rfl ?_
        obtain rfl := Option.some.inj hf
        exact ab_U.ret rfl rfl ⟨rfl, rfl⟩
set_option maxRecDepth 20000 in
def f_X9_warm (F : Nat)  (x0 : Int32) (x1 : Int32) (x2 : Int32) (μ : fm_M) : Option (Int32 × fm_M) := (if ¬ x1 = 0 then (if ¬ x1 = 1 then (Option.bind (f_X9_puts F 0 (13 + x0) x2 0 μ) (fun q3 => some (q3.1, q3.2))) else (Option.bind (f_X9_isStone F x0 μ) (fun q5 => (if q5.1 = 0 then (Option.bind (f_X9_puts F 0 (13 + x0) x2 0 q5.2) (fun q8 => some (q8.1, q8.2))) else (Option.bind (f_X9_in F ((x2).toInt64) (Int64.ofNat 0) (Int64.ofNat 99) q5.2) (fun q10 => (if q10.1 = 0 then (Option.bind (f_X9_puts F 0 (13 + x0) x2 0 q10.2) (fun q13 => some (q13.1, q13.2))) else (Option.bind (f_X9_puts F 1 (13 + x0) x2 0 q10.2) (fun q15 => some (q15.1, q15.2)))))))))) else (Option.bind (f_X9_isStone F x0 μ) (fun q17 => (if q17.1 = 0 then (Option.bind (f_X9_puts F 0 (8 + x0) x2 0 q17.2) (fun q20 => some (q20.1, q20.2))) else (Option.bind (f_X9_in F ((x2).toInt64) (Int64.ofNat 0) (Int64.ofNat 3) q17.2) (fun q22 => (if q22.1 = 0 then (Option.bind (f_X9_puts F 0 (8 + x0) x2 0 q22.2) (fun q25 => some (q25.1, q25.2))) else (Option.bind (f_X9_puts F 1 (8 + x0) x2 0 q22.2) (fun q27 => some (q27.1, q27.2))))))))))
set_option maxRecDepth 20000 in
theorem t_X9_warm {X : Nat × (Nat → Int32)} {G : Nat → Nat → Option Nat} (hG : fm_Gok G) {F : Nat}   {x0 : Int32} {x1 : Int32} {x2 : Int32} {μ : fm_M} {r : Int32 × fm_M} (hf : f_X9_warm F x0 x1 x2 μ = some r) : ab_F 3 162 [.ref 232, .int x0, .int x1, .int x2] (hp X G μ) (some (.int r.1)) (hp X G r.2) := by
  unfold f_X9_warm at hf
  refine ab_T.of (d := 2) rfl (Nat.le_of_ble_eq_true rfl) ?_
  show ab_U _ _ kX9_warm (0, [some (.ref 232), some (.int x0), some (.int x1), some (.int x2)], [], hp X G μ) _
  refine ab_U.run 1 (S' := (1, [some (.ref 232), some (.int x0), some (.int x1), some (.int x2)], [.int x1], hp X G μ)) rfl ?_
  refine ab_U.if_ne rfl (fun b1 => ?_) (fun b1 => ?_)
  · rw [if_pos b1] at hf
    refine ab_U.run 3 (S' := (45, [some (.ref 232), some (.int x0), some (.int x1), some (.int x2)], [.int 1, .int x1, .ref 232], hp X G μ)) rfl ?_
    refine ab_U.ic_ne rfl (fun b2 => ?_) (fun b2 => ?_)
    · rw [if_pos b2] at hf
      refine ab_U.run 6 (S' := (79, [some (.ref 232), some (.int x0), some (.int x1), some (.int x2)], [.int 0, .int x2, .int (13 + x0), .int 0, .ref 232], hp X G μ)) rfl ?_
      obtain ⟨q3, h4, hf⟩ := ab_bnd hf
      refine ab_U.fn rfl rfl (t_X9_puts (X := X) hG h4) (by omega) ?_
      show ab_U _ _ _ (82, [some (.ref 232), some (.int x0), some (.int x1), some (.int x2)], [.int q3.1], hp X G q3.2) _
      obtain rfl := Option.some.inj hf
      exact ab_U.ret rfl rfl ⟨rfl, rfl⟩
    · rw [if_neg b2] at hf
      refine ab_U.run 2 (S' := (50, [some (.ref 232), some (.int x0), some (.int x1), some (.int x2)], [.int x0, .ref 232, .ref 232], hp X G μ)) rfl ?_
      obtain ⟨q5, h6, hf⟩ := ab_bnd hf
      refine ab_U.fn rfl rfl (t_X9_isStone (X := X) hG h6) (by omega) ?_
      show ab_U _ _ _ (53, [some (.ref 232), some (.int x0), some (.int x1), some (.int x2)], [.int q5.1, .ref 232], hp X G q5.2) _
      refine ab_U.if_eq rfl (fun b7 => ?_) (fun b7 => ?_)
      · rw [if_pos b7] at hf
        refine ab_U.run 6 (S' := (79, [some (.ref 232), some (.int x0), some (.int x1), some (.int x2)], [.int 0, .int x2, .int (13 + x0), .int 0, .ref 232], hp X G q5.2)) rfl ?_
        obtain ⟨q8, h9, hf⟩ := ab_bnd hf
        refine ab_U.fn rfl rfl (t_X9_puts (X := X) hG h9) (by omega) ?_
        show ab_U _ _ _ (82, [some (.ref 232), some (.int x0), some (.int x1), some (.int x2)], [.int q8.1], hp X G q8.2) _
        obtain rfl := Option.some.inj hf
        exact ab_U.ret rfl rfl ⟨rfl, rfl⟩
      · rw [if_neg b7] at hf
        refine ab_U.run 4 (S' := (62, [some (.ref 232), some (.int x0), some (.int x1), some (.int x2)], [.long (Int64.ofNat 99), .long (Int64.ofNat 0), .long (x2).toInt64, .ref 232], hp X G q5.2)) rfl ?_
        obtain ⟨q10, h11, hf⟩ := ab_bnd hf
        refine ab_U.fn rfl rfl (t_X9_in (X := X) hG h11) (by omega) ?_
        show ab_U _ _ _ (65, [some (.ref 232), some (.int x0), some (.int x1), some (.int x2)], [.int q10.1, .ref 232], hp X G q10.2) _
        refine ab_U.if_eq rfl (fun b12 => ?_) (fun b12 => ?_)
        · rw [if_pos b12] at hf
          refine ab_U.run 6 (S' := (79, [some (.ref 232), some (.int x0), some (.int x1), some (.int x2)], [.int 0, .int x2, .int (13 + x0), .int 0, .ref 232], hp X G q10.2)) rfl ?_
          obtain ⟨q13, h14, hf⟩ := ab_bnd hf
          refine ab_U.fn rfl rfl (t_X9_puts (X := X) hG h14) (by omega) ?_
          show ab_U _ _ _ (82, [some (.ref 232), some (.int x0), some (.int x1), some (.int x2)], [.int q13.1], hp X G q13.2) _
          obtain rfl := Option.some.inj hf
          exact ab_U.ret rfl rfl ⟨rfl, rfl⟩
        · rw [if_neg b12] at hf
          refine ab_U.run 7 (S' := (79, [some (.ref 232), some (.int x0), some (.int x1), some (.int x2)], [.int 0, .int x2, .int (13 + x0), .int 1, .ref 232], hp X G q10.2)) rfl ?_
          obtain ⟨q15, h16, hf⟩ := ab_bnd hf
          refine ab_U.fn rfl rfl (t_X9_puts (X := X) hG h16) (by omega) ?_
          show ab_U _ _ _ (82, [some (.ref 232), some (.int x0), some (.int x1), some (.int x2)], [.int q15.1], hp X G q15.2) _
          obtain rfl := Option.some.inj hf
          exact ab_U.ret rfl rfl ⟨rfl, rfl⟩
  · rw [if_neg b1] at hf
    refine ab_U.run 3 (S' := (7, [some (.ref 232), some (.int x0), some (.int x1), some (.int x2)], [.int x0, .ref 232, .ref 232], hp X G μ)) rfl ?_
    obtain ⟨q17, h18, hf⟩ := ab_bnd hf
    refine ab_U.fn rfl rfl (t_X9_isStone (X := X) hG h18) (by omega) ?_
    show ab_U _ _ _ (10, [some (.ref 232), some (.int x0), some (.int x1), some (.int x2)], [.int q17.1, .ref 232], hp X G q17.2) _
    refine ab_U.if_eq rfl (fun b19 => ?_) (fun b19 => ?_)
    · rw [if_pos b19] at hf
      refine ab_U.run 6 (S' := (36, [some (.ref 232), some (.int x0), some (.int x1), some (.int x2)], [.int 0, .int x2, .int (8 + x0), .int 0, .ref 232], hp X G q17.2)) rfl ?_
      obtain ⟨q20, h21, hf⟩ := ab_bnd hf
      refine ab_U.fn rfl rfl (t_X9_puts (X := X) hG h21) (by omega) ?_
      show ab_U _ _ _ (39, [some (.ref 232), some (.int x0), some (.int x1), some (.int x2)], [.int q20.1], hp X G q20.2) _
      refine ab_U.run 1 (S' := (82, [some (.ref 232), some (.int x0), some (.int x1), some (.int x2)], [.int q20.1], hp X G q20.2)) rfl ?_
      obtain rfl := Option.some.inj hf
      exact ab_U.ret rfl rfl ⟨rfl, rfl⟩
    · rw [if_neg b19] at hf
      refine ab_U.run 4 (S' := (19, [some (.ref 232), some (.int x0), some (.int x1), some (.int x2)], [.long (Int64.ofNat 3), .long (Int64.ofNat 0), .long (x2).toInt64, .ref 232], hp X G q17.2)) rfl ?_
      obtain ⟨q22, h23, hf⟩ := ab_bnd hf
      refine ab_U.fn rfl rfl (t_X9_in (X := X) hG h23) (by omega) ?_
      show ab_U _ _ _ (22, [some (.ref 232), some (.int x0), some (.int x1), some (.int x2)], [.int q22.1, .ref 232], hp X G q22.2) _
      refine ab_U.if_eq rfl (fun b24 => ?_) (fun b24 => ?_)
      · rw [if_pos b24] at hf
        refine ab_U.run 6 (S' := (36, [some (.ref 232), some (.int x0), some (.int x1), some (.int x2)], [.int 0, .int x2, .int (8 + x0), .int 0, .ref 232], hp X G q22.2)) rfl ?_
        obtain ⟨q25, h26, hf⟩ := ab_bnd hf
        refine ab_U.fn rfl rfl (t_X9_puts (X := X) hG h26) (by omega) ?_
        show ab_U _ _ _ (39, [some (.ref 232), some (.int x0), some (.int x1), some (.int x2)], [.int q25.1], hp X G q25.2) _
        refine ab_U.run 1 (S' := (82, [some (.ref 232), some (.int x0), some (.int x1), some (.int x2)], [.int q25.1], hp X G q25.2)) rfl ?_
        obtain rfl := Option.some.inj hf
        exact ab_U.ret rfl rfl ⟨rfl, rfl⟩
      · rw [if_neg b24] at hf
        refine ab_U.run 7 (S' := (36, [some (.ref 232), some (.int x0), some (.int x1), some (.int x2)], [.int 0, .int x2, .int (8 + x0), .int 1, .ref 232], hp X G q22.2)) rfl ?_
        obtain ⟨q27, h28, hf⟩ := ab_bnd hf
        refine ab_U.fn rfl rfl (t_X9_puts (X := X) hG h28) (by omega) ?_
        show ab_U _ _ _ (39, [some (.ref 232), some (.int x0), some (.int x1), some (.int x2)], [.int q27.1], hp X G q27.2) _
        refine ab_U.run 1 (S' := (82, [some (.ref 232), some (.int x0), some (.int x1), some (.int x2)], [.int q27.1], hp X G q27.2)) rfl ?_
        obtain rfl := Option.some.inj hf
        exact ab_U.ret rfl rfl ⟨rfl, rfl⟩
set_option maxRecDepth 20000 in
def f_X9_set (F : Nat)  (x0 : Int32) (x1 : Int32) (μ : fm_M) : Option (Int32 × fm_M) := (if x0.toInt < 0 ∨ 2 < x0.toInt then some ((-1), μ) else (if x0.toInt = 0 then (Option.bind (f_X9_in F ((x1).toInt64) (Int64.ofNat 0) (Int64.ofNat 10) μ) (fun q3 => (Option.bind (f_X9_puts F q3.1 26 x1 2 q3.2) (fun q5 => some (q5.1, q5.2))))) else (if x0.toInt = 1 then (Option.bind (f_X9_in F ((x1).toInt64) (Int64.ofNat 5) (Int64.ofNat 99) μ) (fun q8 => (Option.bind (f_X9_puts F q8.1 25 x1 50 q8.2) (fun q10 => some (q10.1, q10.2))))) else (Option.bind (f_X9_in F ((x1).toInt64) (Int64.ofNat 0) (Int64.ofNat 9) μ) (fun q13 => (Option.bind (f_X9_puts F q13.1 24 x1 0 q13.2) (fun q15 => some (q15.1, q15.2))))))))
set_option maxRecDepth 20000 in
theorem t_X9_set {X : Nat × (Nat → Int32)} {G : Nat → Nat → Option Nat} (hG : fm_Gok G) {F : Nat}   {x0 : Int32} {x1 : Int32} {μ : fm_M} {r : Int32 × fm_M} (hf : f_X9_set F x0 x1 μ = some r) : ab_F 2 163 [.ref 232, .int x0, .int x1] (hp X G μ) (some (.int r.1)) (hp X G r.2) := by
  unfold f_X9_set at hf
  refine ab_T.of (d := 1) rfl (Nat.le_of_ble_eq_true rfl) ?_
  show ab_U _ _ kX9_set (0, [some (.ref 232), some (.int x0), some (.int x1)], [], hp X G μ) _
  refine ab_U.run 1 (S' := (1, [some (.ref 232), some (.int x0), some (.int x1)], [.int x0], hp X G μ)) rfl ?_
  by_cases b1 : x0.toInt < 0 ∨ 2 < x0.toInt
  · rw [if_pos b1] at hf
    refine ab_U.tswD rfl b1 ?_
    refine ab_U.run 1 (S' := (86, [some (.ref 232), some (.int x0), some (.int x1)], [.int (-1)], hp X G μ)) rfl ?_
    obtain rfl := Option.some.inj hf
    exact ab_U.ret rfl rfl ⟨rfl, rfl⟩
  · rw [if_neg b1] at hf
    by_cases b2 : x0.toInt = 0
    · rw [if_pos b2] at hf
      refine ab_U.tswT (t := 28) rfl b1 (by rw [b2]; rfl) ?_
      refine ab_U.run 5 (S' := (35, [some (.ref 232), some (.int x0), some (.int x1)], [.long (Int64.ofNat 10), .long (Int64.ofNat 0), .long (x1).toInt64, .ref 232], hp X G μ)) rfl ?_
      obtain ⟨q3, h4, hf⟩ := ab_bnd hf
      refine ab_U.fn rfl rfl (t_X9_in (X := X) hG h4) (by omega) ?_
      show ab_U _ _ _ (38, [some (.ref 232), some (.int x0), some (.int x1)], [.int q3.1, .ref 232], hp X G q3.2) _
      refine ab_U.run 3 (S' := (42, [some (.ref 232), some (.int x0), some (.int x1)], [.int 2, .int x1, .int 26, .int q3.1, .ref 232], hp X G q3.2)) rfl ?_
      obtain ⟨q5, h6, hf⟩ := ab_bnd hf
      refine ab_U.fn rfl rfl (t_X9_puts (X := X) hG h6) (by omega) ?_
      show ab_U _ _ _ (45, [some (.ref 232), some (.int x0), some (.int x1)], [.int q5.1], hp X G q5.2) _
      obtain rfl := Option.some.inj hf
      exact ab_U.ret rfl rfl ⟨rfl, rfl⟩
    · rw [if_neg b2] at hf
      by_cases b7 : x0.toInt = 1
      · rw [if_pos b7] at hf
        refine ab_U.tswT (t := 46) rfl b1 (by rw [b7]; rfl) ?_
        refine ab_U.run 5 (S' := (55, [some (.ref 232), some (.int x0), some (.int x1)], [.long (Int64.ofNat 99), .long (Int64.ofNat 5), .long (x1).toInt64, .ref 232], hp X G μ)) rfl ?_
        obtain ⟨q8, h9, hf⟩ := ab_bnd hf
        refine ab_U.fn rfl rfl (t_X9_in (X := X) hG h9) (by omega) ?_
        show ab_U _ _ _ (58, [some (.ref 232), some (.int x0), some (.int x1)], [.int q8.1, .ref 232], hp X G q8.2) _
        refine ab_U.run 3 (S' := (63, [some (.ref 232), some (.int x0), some (.int x1)], [.int 50, .int x1, .int 25, .int q8.1, .ref 232], hp X G q8.2)) rfl ?_
        obtain ⟨q10, h11, hf⟩ := ab_bnd hf
        refine ab_U.fn rfl rfl (t_X9_puts (X := X) hG h11) (by omega) ?_
        show ab_U _ _ _ (66, [some (.ref 232), some (.int x0), some (.int x1)], [.int q10.1], hp X G q10.2) _
        obtain rfl := Option.some.inj hf
        exact ab_U.ret rfl rfl ⟨rfl, rfl⟩
      · rw [if_neg b7] at hf
        have b12 : x0.toInt = 2 := by omega
        refine ab_U.tswT (t := 67) rfl b1 (by rw [b12]; rfl) ?_
        refine ab_U.run 5 (S' := (74, [some (.ref 232), some (.int x0), some (.int x1)], [.long (Int64.ofNat 9), .long (Int64.ofNat 0), .long (x1).toInt64, .ref 232], hp X G μ)) rfl ?_
        obtain ⟨q13, h14, hf⟩ := ab_bnd hf
        refine ab_U.fn rfl rfl (t_X9_in (X := X) hG h14) (by omega) ?_
        show ab_U _ _ _ (77, [some (.ref 232), some (.int x0), some (.int x1)], [.int q13.1, .ref 232], hp X G q13.2) _
        refine ab_U.run 3 (S' := (81, [some (.ref 232), some (.int x0), some (.int x1)], [.int 0, .int x1, .int 24, .int q13.1, .ref 232], hp X G q13.2)) rfl ?_
        obtain ⟨q15, h16, hf⟩ := ab_bnd hf
        refine ab_U.fn rfl rfl (t_X9_puts (X := X) hG h16) (by omega) ?_
        show ab_U _ _ _ (84, [some (.ref 232), some (.int x0), some (.int x1)], [.int q15.1], hp X G q15.2) _
        obtain rfl := Option.some.inj hf
        exact ab_U.ret rfl rfl ⟨rfl, rfl⟩
set_option maxRecDepth 20000 in
def f_X9_ask (F : Nat)  (x0 : Int32) (x1 : Int32) (μ : fm_M) : Option (Int32 × fm_M) := (Option.bind (f_X9_in F ((x0).toInt64) (Int64.ofNat 0) (Int64.ofNat 5) μ) (fun q1 => (if q1.1 = 0 then (Option.bind (f_X9_puts F 0 (27 + x0) x1 1 q1.2) (fun q4 => some (q4.1, q4.2))) else (Option.bind (f_X9_in F ((x1).toInt64) (Int64.ofNat 1) (Int64.ofNat 9) q1.2) (fun q6 => (if q6.1 = 0 then (Option.bind (f_X9_puts F 0 (27 + x0) x1 1 q6.2) (fun q9 => some (q9.1, q9.2))) else (Option.bind (f_X9_puts F 1 (27 + x0) x1 1 q6.2) (fun q11 => some (q11.1, q11.2)))))))))
set_option maxRecDepth 20000 in
theorem t_X9_ask {X : Nat × (Nat → Int32)} {G : Nat → Nat → Option Nat} (hG : fm_Gok G) {F : Nat}   {x0 : Int32} {x1 : Int32} {μ : fm_M} {r : Int32 × fm_M} (hf : f_X9_ask F x0 x1 μ = some r) : ab_F 2 164 [.ref 232, .int x0, .int x1] (hp X G μ) (some (.int r.1)) (hp X G r.2) := by
  unfold f_X9_ask at hf
  refine ab_T.of (d := 1) rfl (Nat.le_of_ble_eq_true rfl) ?_
  show ab_U _ _ kX9_ask (0, [some (.ref 232), some (.int x0), some (.int x1)], [], hp X G μ) _
  refine ab_U.run 5 (S' := (7, [some (.ref 232), some (.int x0), some (.int x1)], [.long (Int64.ofNat 5), .long (Int64.ofNat 0), .long (x0).toInt64, .ref 232], hp X G μ)) rfl ?_
  obtain ⟨q1, h2, hf⟩ := ab_bnd hf
  refine ab_U.fn rfl rfl (t_X9_in (X := X) hG h2) (by omega) ?_
  show ab_U _ _ _ (10, [some (.ref 232), some (.int x0), some (.int x1)], [.int q1.1, .ref 232], hp X G q1.2) _
  refine ab_U.if_eq rfl (fun b3 => ?_) (fun b3 => ?_)
  · rw [if_pos b3] at hf
    refine ab_U.run 6 (S' := (36, [some (.ref 232), some (.int x0), some (.int x1)], [.int 1, .int x1, .int (27 + x0), .int 0, .ref 232], hp X G q1.2)) rfl ?_
    obtain ⟨q4, h5, hf⟩ := ab_bnd hf
    refine ab_U.fn rfl rfl (t_X9_puts (X := X) hG h5) (by omega) ?_
    show ab_U _ _ _ (39, [some (.ref 232), some (.int x0), some (.int x1)], [.int q4.1], hp X G q4.2) _
    obtain rfl := Option.some.inj hf
    exact ab_U.ret rfl rfl ⟨rfl, rfl⟩
  · rw [if_neg b3] at hf
    refine ab_U.run 4 (S' := (19, [some (.ref 232), some (.int x0), some (.int x1)], [.long (Int64.ofNat 9), .long (Int64.ofNat 1), .long (x1).toInt64, .ref 232], hp X G q1.2)) rfl ?_
    obtain ⟨q6, h7, hf⟩ := ab_bnd hf
    refine ab_U.fn rfl rfl (t_X9_in (X := X) hG h7) (by omega) ?_
    show ab_U _ _ _ (22, [some (.ref 232), some (.int x0), some (.int x1)], [.int q6.1, .ref 232], hp X G q6.2) _
    refine ab_U.if_eq rfl (fun b8 => ?_) (fun b8 => ?_)
    · rw [if_pos b8] at hf
      refine ab_U.run 6 (S' := (36, [some (.ref 232), some (.int x0), some (.int x1)], [.int 1, .int x1, .int (27 + x0), .int 0, .ref 232], hp X G q6.2)) rfl ?_
      obtain ⟨q9, h10, hf⟩ := ab_bnd hf
      refine ab_U.fn rfl rfl (t_X9_puts (X := X) hG h10) (by omega) ?_
      show ab_U _ _ _ (39, [some (.ref 232), some (.int x0), some (.int x1)], [.int q9.1], hp X G q9.2) _
      obtain rfl := Option.some.inj hf
      exact ab_U.ret rfl rfl ⟨rfl, rfl⟩
    · rw [if_neg b8] at hf
      refine ab_U.run 7 (S' := (36, [some (.ref 232), some (.int x0), some (.int x1)], [.int 1, .int x1, .int (27 + x0), .int 1, .ref 232], hp X G q6.2)) rfl ?_
      obtain ⟨q11, h12, hf⟩ := ab_bnd hf
      refine ab_U.fn rfl rfl (t_X9_puts (X := X) hG h12) (by omega) ?_
      show ab_U _ _ _ (39, [some (.ref 232), some (.int x0), some (.int x1)], [.int q11.1], hp X G q11.2) _
      obtain rfl := Option.some.inj hf
      exact ab_U.ret rfl rfl ⟨rfl, rfl⟩
set_option maxRecDepth 20000 in
def f_X9_owe (F : Nat)  (x0 : Int32) (x1 : Int32) (μ : fm_M) : Option (Int32 × fm_M) := (Option.bind (f_X9_isDebt F x0 μ) (fun q1 => (if q1.1 = 0 then (Option.bind (f_X9_puts F 0 (33 + x0) x1 0 q1.2) (fun q4 => some (q4.1, q4.2))) else (Option.bind (f_X9_in F ((x1).toInt64) (Int64.ofNat 0) (Int64.ofNat 99) q1.2) (fun q6 => (if q6.1 = 0 then (Option.bind (f_X9_puts F 0 (33 + x0) x1 0 q6.2) (fun q9 => some (q9.1, q9.2))) else (Option.bind (f_X9_puts F 1 (33 + x0) x1 0 q6.2) (fun q11 => some (q11.1, q11.2)))))))))
set_option maxRecDepth 20000 in
theorem t_X9_owe {X : Nat × (Nat → Int32)} {G : Nat → Nat → Option Nat} (hG : fm_Gok G) {F : Nat}   {x0 : Int32} {x1 : Int32} {μ : fm_M} {r : Int32 × fm_M} (hf : f_X9_owe F x0 x1 μ = some r) : ab_F 3 165 [.ref 232, .int x0, .int x1] (hp X G μ) (some (.int r.1)) (hp X G r.2) := by
  unfold f_X9_owe at hf
  refine ab_T.of (d := 2) rfl (Nat.le_of_ble_eq_true rfl) ?_
  show ab_U _ _ kX9_owe (0, [some (.ref 232), some (.int x0), some (.int x1)], [], hp X G μ) _
  refine ab_U.run 3 (S' := (3, [some (.ref 232), some (.int x0), some (.int x1)], [.int x0, .ref 232, .ref 232], hp X G μ)) rfl ?_
  obtain ⟨q1, h2, hf⟩ := ab_bnd hf
  refine ab_U.fn rfl rfl (t_X9_isDebt (X := X) hG h2) (by omega) ?_
  show ab_U _ _ _ (6, [some (.ref 232), some (.int x0), some (.int x1)], [.int q1.1, .ref 232], hp X G q1.2) _
  refine ab_U.if_eq rfl (fun b3 => ?_) (fun b3 => ?_)
  · rw [if_pos b3] at hf
    refine ab_U.run 6 (S' := (32, [some (.ref 232), some (.int x0), some (.int x1)], [.int 0, .int x1, .int (33 + x0), .int 0, .ref 232], hp X G q1.2)) rfl ?_
    obtain ⟨q4, h5, hf⟩ := ab_bnd hf
    refine ab_U.fn rfl rfl (t_X9_puts (X := X) hG h5) (by omega) ?_
    show ab_U _ _ _ (35, [some (.ref 232), some (.int x0), some (.int x1)], [.int q4.1], hp X G q4.2) _
    obtain rfl := Option.some.inj hf
    exact ab_U.ret rfl rfl ⟨rfl, rfl⟩
  · rw [if_neg b3] at hf
    refine ab_U.run 4 (S' := (15, [some (.ref 232), some (.int x0), some (.int x1)], [.long (Int64.ofNat 99), .long (Int64.ofNat 0), .long (x1).toInt64, .ref 232], hp X G q1.2)) rfl ?_
    obtain ⟨q6, h7, hf⟩ := ab_bnd hf
    refine ab_U.fn rfl rfl (t_X9_in (X := X) hG h7) (by omega) ?_
    show ab_U _ _ _ (18, [some (.ref 232), some (.int x0), some (.int x1)], [.int q6.1, .ref 232], hp X G q6.2) _
    refine ab_U.if_eq rfl (fun b8 => ?_) (fun b8 => ?_)
    · rw [if_pos b8] at hf
      refine ab_U.run 6 (S' := (32, [some (.ref 232), some (.int x0), some (.int x1)], [.int 0, .int x1, .int (33 + x0), .int 0, .ref 232], hp X G q6.2)) rfl ?_
      obtain ⟨q9, h10, hf⟩ := ab_bnd hf
      refine ab_U.fn rfl rfl (t_X9_puts (X := X) hG h10) (by omega) ?_
      show ab_U _ _ _ (35, [some (.ref 232), some (.int x0), some (.int x1)], [.int q9.1], hp X G q9.2) _
      obtain rfl := Option.some.inj hf
      exact ab_U.ret rfl rfl ⟨rfl, rfl⟩
    · rw [if_neg b8] at hf
      refine ab_U.run 7 (S' := (32, [some (.ref 232), some (.int x0), some (.int x1)], [.int 0, .int x1, .int (33 + x0), .int 1, .ref 232], hp X G q6.2)) rfl ?_
      obtain ⟨q11, h12, hf⟩ := ab_bnd hf
      refine ab_U.fn rfl rfl (t_X9_puts (X := X) hG h12) (by omega) ?_
      show ab_U _ _ _ (35, [some (.ref 232), some (.int x0), some (.int x1)], [.int q11.1], hp X G q11.2) _
      obtain rfl := Option.some.inj hf
      exact ab_U.ret rfl rfl ⟨rfl, rfl⟩
set_option maxRecDepth 20000 in
def f_X9_halve (F : Nat)  (x0 : Int32) (μ : fm_M) : Option (Int32 × fm_M) := (Option.bind (f_X9_isStone F x0 μ) (fun q1 => (if ¬ q1.1 = 0 then (if ab_in (13 + x0) 228 = true then (if 5 ≤ (q1.2.2.1 233 (13 + x0).toNatClampNeg) then (if ab_in 23 228 = true then (if ¬ (q1.2.2.1 233 (23 : Int32).toNatClampNeg) = 5 then (if ab_in (13 + x0) 228 = true then (if ab_in (13 + x0) 228 = true then (Option.bind (some (fm_sA q1.2 233 (upd (q1.2.2.1 233) (13 + x0).toNatClampNeg (((q1.2.2.1 233 (13 + x0).toNatClampNeg) / 2) - 1)))) (fun m10 => (if ab_in (8 + x0) 228 = true then (if ab_in (8 + (q1.2.2.1 233 (23 : Int32).toNatClampNeg)) 228 = true then (Option.bind (some (fm_sA m10 233 (upd (m10.2.1 233) (8 + (q1.2.2.1 233 (23 : Int32).toNatClampNeg)).toNatClampNeg (m10.2.1 233 (8 + x0).toNatClampNeg)))) (fun m14 => (if ab_in (13 + x0) 228 = true then (if ab_in (13 + (q1.2.2.1 233 (23 : Int32).toNatClampNeg)) 228 = true then (Option.bind (some (fm_sA m14 233 (upd (m14.2.1 233) (13 + (q1.2.2.1 233 (23 : Int32).toNatClampNeg)).toNatClampNeg (m14.2.1 233 (13 + x0).toNatClampNeg)))) (fun m18 => (if ab_in (18 + x0) 228 = true then (if ab_in (18 + (q1.2.2.1 233 (23 : Int32).toNatClampNeg)) 228 = true then (Option.bind (some (fm_sA m18 233 (upd (m18.2.1 233) (18 + (q1.2.2.1 233 (23 : Int32).toNatClampNeg)).toNatClampNeg (m18.2.1 233 (18 + x0).toNatClampNeg)))) (fun m22 => (if ab_in 23 228 = true then (if ab_in 23 228 = true then (Option.bind (some (fm_sA m22 233 (upd (m22.2.1 233) (23 : Int32).toNatClampNeg ((m22.2.1 233 (23 : Int32).toNatClampNeg) + 1)))) (fun m26 => some (((q1.2.2.1 233 (23 : Int32).toNatClampNeg) + 1), m26))) else none) else none))) else none) else none))) else none) else none))) else none) else none))) else none) else none) else some ((-3), q1.2)) else none) else some ((-2), q1.2)) else none) else some ((-1), q1.2))))
set_option maxRecDepth 20000 in
theorem t_X9_halve {X : Nat × (Nat → Int32)} {G : Nat → Nat → Option Nat} (hG : fm_Gok G) {F : Nat}   {x0 : Int32} {μ : fm_M} {r : Int32 × fm_M} (hf : f_X9_halve F x0 μ = some r) : ab_F 3 166 [.ref 232, .int x0] (hp X G μ) (some (.int r.1)) (hp X G r.2) := by
  unfold f_X9_halve at hf
  refine ab_T.of (d := 2) rfl (Nat.le_of_ble_eq_true rfl) ?_
  show ab_U _ _ kX9_halve (0, [some (.ref 232), some (.int x0), none], [], hp X G μ) _
  refine ab_U.run 2 (S' := (2, [some (.ref 232), some (.int x0), none], [.int x0, .ref 232], hp X G μ)) rfl ?_
  obtain ⟨q1, h2, hf⟩ := ab_bnd hf
  refine ab_U.fn rfl rfl (t_X9_isStone (X := X) hG h2) (by omega) ?_
  show ab_U _ _ _ (5, [some (.ref 232), some (.int x0), none], [.int q1.1], hp X G q1.2) _
  refine ab_U.if_ne rfl (fun b3 => ?_) (fun b3 => ?_)
  · rw [if_pos b3] at hf
    refine ab_U.run 5 (S' := (18, [some (.ref 232), some (.int x0), none], [.int (13 + x0), .ref 233], hp X G q1.2)) rfl ?_
    obtain ⟨c4, hf⟩ := ab_ifs hf
    refine ab_U.iald (n := 228) rfl ⟨by decide, rfl⟩ c4 ?_
    show ab_U _ _ _ (19, [some (.ref 232), some (.int x0), none], [.int (q1.2.2.1 233 (13 + x0).toNatClampNeg)], hp X G q1.2) _
    refine ab_U.run 1 (S' := (20, [some (.ref 232), some (.int x0), none], [.int 5, .int (q1.2.2.1 233 (13 + x0).toNatClampNeg)], hp X G q1.2)) rfl ?_
    refine ab_U.ic_ge rfl (fun b5 => ?_) (fun b5 => ?_)
    · rw [if_pos b5] at hf
      refine ab_U.run 3 (S' := (32, [some (.ref 232), some (.int x0), none], [.int 23, .ref 233], hp X G q1.2)) rfl ?_
      obtain ⟨c6, hf⟩ := ab_ifs hf
      refine ab_U.iald (n := 228) rfl ⟨by decide, rfl⟩ c6 ?_
      show ab_U _ _ _ (33, [some (.ref 232), some (.int x0), none], [.int (q1.2.2.1 233 (23 : Int32).toNatClampNeg)], hp X G q1.2) _
      refine ab_U.run 3 (S' := (36, [some (.ref 232), some (.int x0), some (.int (q1.2.2.1 233 (23 : Int32).toNatClampNeg))], [.int 5, .int (q1.2.2.1 233 (23 : Int32).toNatClampNeg)], hp X G q1.2)) rfl ?_
      refine ab_U.ic_ne rfl (fun b7 => ?_) (fun b7 => ?_)
      · rw [if_pos b7] at hf
        refine ab_U.run 10 (S' := (58, [some (.ref 232), some (.int x0), some (.int (q1.2.2.1 233 (23 : Int32).toNatClampNeg))], [.int (13 + x0), .ref 233, .int (13 + x0), .ref 233], hp X G q1.2)) rfl ?_
        obtain ⟨c8, hf⟩ := ab_ifs hf
        refine ab_U.iald (n := 228) rfl ⟨by decide, rfl⟩ c8 ?_
        show ab_U _ _ _ (59, [some (.ref 232), some (.int x0), some (.int (q1.2.2.1 233 (23 : Int32).toNatClampNeg))], [.int (q1.2.2.1 233 (13 + x0).toNatClampNeg), .int (13 + x0), .ref 233], hp X G q1.2) _
        refine ab_U.run 4 (S' := (63, [some (.ref 232), some (.int x0), some (.int (q1.2.2.1 233 (23 : Int32).toNatClampNeg))], [.int (((q1.2.2.1 233 (13 + x0).toNatClampNeg) / 2) - 1), .int (13 + x0), .ref 233], hp X G q1.2)) rfl ?_
        obtain ⟨c9, hf⟩ := ab_ifs hf
        obtain ⟨m10, e11, hf⟩ := ab_bnd hf
        have e11 := Option.some.inj e11
        refine ab_U.iast (n := 228) rfl ⟨by decide, rfl⟩ c9 ?_
        show ab_U _ _ _ (64, [some (.ref 232), some (.int x0), some (.int (q1.2.2.1 233 (23 : Int32).toNatClampNeg))], [], hp X G (fm_sA q1.2 233 (upd (q1.2.2.1 233) (13 + x0).toNatClampNeg (((q1.2.2.1 233 (13 + x0).toNatClampNeg) / 2) - 1)))) _
        rw [e11]
        refine ab_U.run 10 (S' := (80, [some (.ref 232), some (.int x0), some (.int (q1.2.2.1 233 (23 : Int32).toNatClampNeg))], [.int (8 + x0), .ref 233, .int (8 + (q1.2.2.1 233 (23 : Int32).toNatClampNeg)), .ref 233], hp X G m10)) rfl ?_
        obtain ⟨c12, hf⟩ := ab_ifs hf
        refine ab_U.iald (n := 228) rfl ⟨by decide, rfl⟩ c12 ?_
        show ab_U _ _ _ (81, [some (.ref 232), some (.int x0), some (.int (q1.2.2.1 233 (23 : Int32).toNatClampNeg))], [.int (m10.2.1 233 (8 + x0).toNatClampNeg), .int (8 + (q1.2.2.1 233 (23 : Int32).toNatClampNeg)), .ref 233], hp X G m10) _
        obtain ⟨c13, hf⟩ := ab_ifs hf
        obtain ⟨m14, e15, hf⟩ := ab_bnd hf
        have e15 := Option.some.inj e15
        refine ab_U.iast (n := 228) rfl ⟨by decide, rfl⟩ c13 ?_
        show ab_U _ _ _ (82, [some (.ref 232), some (.int x0), some (.int (q1.2.2.1 233 (23 : Int32).toNatClampNeg))], [], hp X G (fm_sA m10 233 (upd (m10.2.1 233) (8 + (q1.2.2.1 233 (23 : Int32).toNatClampNeg)).toNatClampNeg (m10.2.1 233 (8 + x0).toNatClampNeg)))) _
        rw [e15]
        refine ab_U.run 10 (S' := (98, [some (.ref 232), some (.int x0), some (.int (q1.2.2.1 233 (23 : Int32).toNatClampNeg))], [.int (13 + x0), .ref 233, .int (13 + (q1.2.2.1 233 (23 : Int32).toNatClampNeg)), .ref 233], hp X G m14)) rfl ?_
        obtain ⟨c16, hf⟩ := ab_ifs hf
        refine ab_U.iald (n := 228) rfl ⟨by decide, rfl⟩ c16 ?_
        show ab_U _ _ _ (99, [some (.ref 232), some (.int x0), some (.int (q1.2.2.1 233 (23 : Int32).toNatClampNeg))], [.int (m14.2.1 233 (13 + x0).toNatClampNeg), .int (13 + (q1.2.2.1 233 (23 : Int32).toNatClampNeg)), .ref 233], hp X G m14) _
        obtain ⟨c17, hf⟩ := ab_ifs hf
        obtain ⟨m18, e19, hf⟩ := ab_bnd hf
        have e19 := Option.some.inj e19
        refine ab_U.iast (n := 228) rfl ⟨by decide, rfl⟩ c17 ?_
        show ab_U _ _ _ (100, [some (.ref 232), some (.int x0), some (.int (q1.2.2.1 233 (23 : Int32).toNatClampNeg))], [], hp X G (fm_sA m14 233 (upd (m14.2.1 233) (13 + (q1.2.2.1 233 (23 : Int32).toNatClampNeg)).toNatClampNeg (m14.2.1 233 (13 + x0).toNatClampNeg)))) _
        rw [e19]
        refine ab_U.run 10 (S' := (116, [some (.ref 232), some (.int x0), some (.int (q1.2.2.1 233 (23 : Int32).toNatClampNeg))], [.int (18 + x0), .ref 233, .int (18 + (q1.2.2.1 233 (23 : Int32).toNatClampNeg)), .ref 233], hp X G m18)) rfl ?_
        obtain ⟨c20, hf⟩ := ab_ifs hf
        refine ab_U.iald (n := 228) rfl ⟨by decide, rfl⟩ c20 ?_
        show ab_U _ _ _ (117, [some (.ref 232), some (.int x0), some (.int (q1.2.2.1 233 (23 : Int32).toNatClampNeg))], [.int (m18.2.1 233 (18 + x0).toNatClampNeg), .int (18 + (q1.2.2.1 233 (23 : Int32).toNatClampNeg)), .ref 233], hp X G m18) _
        obtain ⟨c21, hf⟩ := ab_ifs hf
        obtain ⟨m22, e23, hf⟩ := ab_bnd hf
        have e23 := Option.some.inj e23
        refine ab_U.iast (n := 228) rfl ⟨by decide, rfl⟩ c21 ?_
        show ab_U _ _ _ (118, [some (.ref 232), some (.int x0), some (.int (q1.2.2.1 233 (23 : Int32).toNatClampNeg))], [], hp X G (fm_sA m18 233 (upd (m18.2.1 233) (18 + (q1.2.2.1 233 (23 : Int32).toNatClampNeg)).toNatClampNeg (m18.2.1 233 (18 + x0).toNatClampNeg)))) _
        rw [e23]
        refine ab_U.run 4 (S' := (125, [some (.ref 232), some (.int x0), some (.int (q1.2.2.1 233 (23 : Int32).toNatClampNeg))], [.int 23, .ref 233, .int 23, .ref 233], hp X G m22)) rfl ?_
        obtain ⟨c24, hf⟩ := ab_ifs hf
        refine ab_U.iald (n := 228) rfl ⟨by decide, rfl⟩ c24 ?_
        show ab_U _ _ _ (126, [some (.ref 232), some (.int x0), some (.int (q1.2.2.1 233 (23 : Int32).toNatClampNeg))], [.int (m22.2.1 233 (23 : Int32).toNatClampNeg), .int 23, .ref 233], hp X G m22) _
        refine ab_U.run 2 (S' := (128, [some (.ref 232), some (.int x0), some (.int (q1.2.2.1 233 (23 : Int32).toNatClampNeg))], [.int ((m22.2.1 233 (23 : Int32).toNatClampNeg) + 1), .int 23, .ref 233], hp X G m22)) rfl ?_
        obtain ⟨c25, hf⟩ := ab_ifs hf
        obtain ⟨m26, e27, hf⟩ := ab_bnd hf
        have e27 := Option.some.inj e27
        refine ab_U.iast (n := 228) rfl ⟨by decide, rfl⟩ c25 ?_
        show ab_U _ _ _ (129, [some (.ref 232), some (.int x0), some (.int (q1.2.2.1 233 (23 : Int32).toNatClampNeg))], [], hp X G (fm_sA m22 233 (upd (m22.2.1 233) (23 : Int32).toNatClampNeg ((m22.2.1 233 (23 : Int32).toNatClampNeg) + 1)))) _
        rw [e27]
        refine ab_U.run 3 (S' := (132, [some (.ref 232), some (.int x0), some (.int (q1.2.2.1 233 (23 : Int32).toNatClampNeg))], [.int ((q1.2.2.1 233 (23 : Int32).toNatClampNeg) + 1)], hp X G m26)) rfl ?_
        obtain rfl := Option.some.inj hf
        exact ab_U.ret rfl rfl ⟨rfl, rfl⟩
      · rw [if_neg b7] at hf
        refine ab_U.run 1 (S' := (41, [some (.ref 232), some (.int x0), some (.int (q1.2.2.1 233 (23 : Int32).toNatClampNeg))], [.int (-3)], hp X G q1.2)) rfl ?_
        obtain rfl := Option.some.inj hf
        exact ab_U.ret rfl rfl ⟨rfl, rfl⟩
    · rw [if_neg b5] at hf
      refine ab_U.run 1 (S' := (25, [some (.ref 232), some (.int x0), none], [.int (-2)], hp X G q1.2)) rfl ?_
      obtain rfl := Option.some.inj hf
      exact ab_U.ret rfl rfl ⟨rfl, rfl⟩
  · rw [if_neg b3] at hf
    refine ab_U.run 1 (S' := (9, [some (.ref 232), some (.int x0), none], [.int (-1)], hp X G q1.2)) rfl ?_
    obtain rfl := Option.some.inj hf
    exact ab_U.ret rfl rfl ⟨rfl, rfl⟩
set_option maxRecDepth 20000 in
def b_X9_minuteOn_2 (F : Nat)  (gg : Nat → Int32 → Int32 → Int32 → fm_M → Option (Unit × fm_M)) (l1 : Int32) (l2 : Int32) (l3 : Int32) (μ : fm_M) : Option (Unit × fm_M) := (if ab_in (l1 + 23) 228 = true then (if (μ.2.1 233 (l1 + 23).toNatClampNeg) ≤ l3 then (if ab_in (l1 + 37) 228 = true then (if ab_in (l1 + 37) 228 = true then (Option.bind (some (fm_sA μ 233 (upd (μ.2.1 233) (l1 + 37).toNatClampNeg ((μ.2.1 233 (l1 + 37).toNatClampNeg) + 1)))) (fun m5 => some ((), m5))) else none) else none) else (if ¬ l3 = l2 then (if ab_in ((l1 + 13) + l3) 228 = true then (Option.bind (f_X9_rateOn F l1 l3 μ) (fun q9 => (Option.bind (f_X9_cooled F (μ.2.1 233 ((l1 + 13) + l3).toNatClampNeg) q9.1 q9.2) (fun q11 => (if ab_in ((l1 + 13) + l3) 228 = true then (Option.bind (some (fm_sA q11.2 233 (upd (q11.2.2.1 233) ((l1 + 13) + l3).toNatClampNeg q11.1))) (fun m14 => gg 2 l1 l2 (l3 + 1) m14)) else none))))) else none) else (if ab_in ((l1 + 13) + l3) 228 = true then (if ab_in ((l1 + 13) + l3) 228 = true then (Option.bind (some (fm_sA μ 233 (upd (μ.2.1 233) ((l1 + 13) + l3).toNatClampNeg (μ.2.1 233 ((l1 + 13) + l3).toNatClampNeg)))) (fun m18 => gg 2 l1 l2 (l3 + 1) m18)) else none) else none))) else none)
def g_X9_minuteOn (F : Nat)  : Nat → Nat → Int32 → Int32 → Int32 → fm_M → Option (Unit × fm_M)
  | 0, _, _, _, _, _ => none
  | n + 1, pc, l1, l2, l3, μ => if pc = 2 then b_X9_minuteOn_2 F  (g_X9_minuteOn F  n) l1 l2 l3 μ else none
set_option maxRecDepth 20000 in
theorem t_X9_minuteOn_g {X : Nat × (Nat → Int32)} {G : Nat → Nat → Option Nat} (hG : fm_Gok G) {F : Nat}    : ∀ n : Nat, (∀ (l1 : Int32) (l2 : Int32) (l3 : Int32) (μ : fm_M) (r : Unit × fm_M), g_X9_minuteOn F  n 2 l1 l2 l3 μ = some r → ab_U 2 (none) kX9_minuteOn (2, [some (.ref 232), some (.int l1), some (.int l2), some (.int l3), none], [], hp X G μ) (fun r9 h9 => r9 = none ∧ h9 = hp X G r.2))
  | 0 => by
    intros
    rename_i h
    cases h
  | n + 1 => by
    have ih := t_X9_minuteOn_g (X := X) hG (F := F)   n
    · intro l1 l2 l3 μ r hf
      have hf : b_X9_minuteOn_2 F  (g_X9_minuteOn F  n) l1 l2 l3 μ = some r := hf
      unfold b_X9_minuteOn_2 at hf
      refine ab_U.run 6 (S' := (11, [some (.ref 232), some (.int l1), some (.int l2), some (.int l3), none], [.int (l1 + 23), .ref 233, .int l3], hp X G μ)) rfl ?_
      obtain ⟨c1, hf⟩ := ab_ifs hf
      refine ab_U.iald (n := 228) rfl ⟨by decide, rfl⟩ c1 ?_
      show ab_U _ _ _ (12, [some (.ref 232), some (.int l1), some (.int l2), some (.int l3), none], [.int (μ.2.1 233 (l1 + 23).toNatClampNeg), .int l3], hp X G μ) _
      refine ab_U.ic_ge rfl (fun b2 => ?_) (fun b2 => ?_)
      · rw [if_pos b2] at hf
        refine ab_U.run 6 (S' := (76, [some (.ref 232), some (.int l1), some (.int l2), some (.int l3), none], [.int (l1 + 37), .ref 233, .int (l1 + 37), .ref 233], hp X G μ)) rfl ?_
        obtain ⟨c3, hf⟩ := ab_ifs hf
        refine ab_U.iald (n := 228) rfl ⟨by decide, rfl⟩ c3 ?_
        show ab_U _ _ _ (77, [some (.ref 232), some (.int l1), some (.int l2), some (.int l3), none], [.int (μ.2.1 233 (l1 + 37).toNatClampNeg), .int (l1 + 37), .ref 233], hp X G μ) _
        refine ab_U.run 2 (S' := (79, [some (.ref 232), some (.int l1), some (.int l2), some (.int l3), none], [.int ((μ.2.1 233 (l1 + 37).toNatClampNeg) + 1), .int (l1 + 37), .ref 233], hp X G μ)) rfl ?_
        obtain ⟨c4, hf⟩ := ab_ifs hf
        obtain ⟨m5, e6, hf⟩ := ab_bnd hf
        have e6 := Option.some.inj e6
        refine ab_U.iast (n := 228) rfl ⟨by decide, rfl⟩ c4 ?_
        show ab_U _ _ _ (80, [some (.ref 232), some (.int l1), some (.int l2), some (.int l3), none], [], hp X G (fm_sA μ 233 (upd (μ.2.1 233) (l1 + 37).toNatClampNeg ((μ.2.1 233 (l1 + 37).toNatClampNeg) + 1)))) _
        rw [e6]
        obtain rfl := Option.some.inj hf
        exact ab_U.ret rfl rfl ⟨rfl, rfl⟩
      · rw [if_neg b2] at hf
        refine ab_U.run 11 (S' := (31, [some (.ref 232), some (.int l1), some (.int l2), some (.int l3), some (.int ((l1 + 13) + l3))], [.int l2, .int l3, .int ((l1 + 13) + l3), .ref 233], hp X G μ)) rfl ?_
        refine ab_U.ic_ne rfl (fun b7 => ?_) (fun b7 => ?_)
        · rw [if_pos b7] at hf
          refine ab_U.run 3 (S' := (50, [some (.ref 232), some (.int l1), some (.int l2), some (.int l3), some (.int ((l1 + 13) + l3))], [.int ((l1 + 13) + l3), .ref 233, .int ((l1 + 13) + l3), .ref 233], hp X G μ)) rfl ?_
          obtain ⟨c8, hf⟩ := ab_ifs hf
          refine ab_U.iald (n := 228) rfl ⟨by decide, rfl⟩ c8 ?_
          show ab_U _ _ _ (51, [some (.ref 232), some (.int l1), some (.int l2), some (.int l3), some (.int ((l1 + 13) + l3))], [.int (μ.2.1 233 ((l1 + 13) + l3).toNatClampNeg), .int ((l1 + 13) + l3), .ref 233], hp X G μ) _
          refine ab_U.run 3 (S' := (54, [some (.ref 232), some (.int l1), some (.int l2), some (.int l3), some (.int ((l1 + 13) + l3))], [.int l3, .int l1, .ref 232, .int (μ.2.1 233 ((l1 + 13) + l3).toNatClampNeg), .int ((l1 + 13) + l3), .ref 233], hp X G μ)) rfl ?_
          obtain ⟨q9, h10, hf⟩ := ab_bnd hf
          refine ab_U.fn rfl rfl (t_X9_rateOn (X := X) hG h10) (by omega) ?_
          show ab_U _ _ _ (57, [some (.ref 232), some (.int l1), some (.int l2), some (.int l3), some (.int ((l1 + 13) + l3))], [.int q9.1, .int (μ.2.1 233 ((l1 + 13) + l3).toNatClampNeg), .int ((l1 + 13) + l3), .ref 233], hp X G q9.2) _
          obtain ⟨q11, h12, hf⟩ := ab_bnd hf
          refine ab_U.fn rfl rfl (t_X9_cooled (X := X) hG h12) (by omega) ?_
          show ab_U _ _ _ (60, [some (.ref 232), some (.int l1), some (.int l2), some (.int l3), some (.int ((l1 + 13) + l3))], [.int q11.1, .int ((l1 + 13) + l3), .ref 233], hp X G q11.2) _
          obtain ⟨c13, hf⟩ := ab_ifs hf
          obtain ⟨m14, e15, hf⟩ := ab_bnd hf
          have e15 := Option.some.inj e15
          refine ab_U.iast (n := 228) rfl ⟨by decide, rfl⟩ c13 ?_
          show ab_U _ _ _ (61, [some (.ref 232), some (.int l1), some (.int l2), some (.int l3), some (.int ((l1 + 13) + l3))], [], hp X G (fm_sA q11.2 233 (upd (q11.2.2.1 233) ((l1 + 13) + l3).toNatClampNeg q11.1))) _
          rw [e15]
          refine ab_U.run 2 (S' := (2, [some (.ref 232), some (.int l1), some (.int l2), some (.int (l3 + 1)), some (.int ((l1 + 13) + l3))], [], hp X G m14)) rfl ?_
          exact ab_U.weak (ih _ _ _ _ _ hf) (ab_leL.of ⟨rfl, ⟨rfl, ⟨rfl, ⟨rfl, trivial⟩⟩⟩⟩)
        · rw [if_neg b7] at hf
          refine ab_U.run 3 (S' := (40, [some (.ref 232), some (.int l1), some (.int l2), some (.int l3), some (.int ((l1 + 13) + l3))], [.int ((l1 + 13) + l3), .ref 233, .int ((l1 + 13) + l3), .ref 233], hp X G μ)) rfl ?_
          obtain ⟨c16, hf⟩ := ab_ifs hf
          refine ab_U.iald (n := 228) rfl ⟨by decide, rfl⟩ c16 ?_
          show ab_U _ _ _ (41, [some (.ref 232), some (.int l1), some (.int l2), some (.int l3), some (.int ((l1 + 13) + l3))], [.int (μ.2.1 233 ((l1 + 13) + l3).toNatClampNeg), .int ((l1 + 13) + l3), .ref 233], hp X G μ) _
          refine ab_U.run 1 (S' := (60, [some (.ref 232), some (.int l1), some (.int l2), some (.int l3), some (.int ((l1 + 13) + l3))], [.int (μ.2.1 233 ((l1 + 13) + l3).toNatClampNeg), .int ((l1 + 13) + l3), .ref 233], hp X G μ)) rfl ?_
          obtain ⟨c17, hf⟩ := ab_ifs hf
          obtain ⟨m18, e19, hf⟩ := ab_bnd hf
          have e19 := Option.some.inj e19
          refine ab_U.iast (n := 228) rfl ⟨by decide, rfl⟩ c17 ?_
          show ab_U _ _ _ (61, [some (.ref 232), some (.int l1), some (.int l2), some (.int l3), some (.int ((l1 + 13) + l3))], [], hp X G (fm_sA μ 233 (upd (μ.2.1 233) ((l1 + 13) + l3).toNatClampNeg (μ.2.1 233 ((l1 + 13) + l3).toNatClampNeg)))) _
          rw [e19]
          refine ab_U.run 2 (S' := (2, [some (.ref 232), some (.int l1), some (.int l2), some (.int (l3 + 1)), some (.int ((l1 + 13) + l3))], [], hp X G m18)) rfl ?_
          exact ab_U.weak (ih _ _ _ _ _ hf) (ab_leL.of ⟨rfl, ⟨rfl, ⟨rfl, ⟨rfl, trivial⟩⟩⟩⟩)
set_option maxRecDepth 20000 in
def f_X9_minuteOn (F : Nat)  (x0 : Int32) (x1 : Int32) (μ : fm_M) : Option (Unit × fm_M) := g_X9_minuteOn F  F 2 x0 x1 0 μ
set_option maxRecDepth 20000 in
theorem t_X9_minuteOn {X : Nat × (Nat → Int32)} {G : Nat → Nat → Option Nat} (hG : fm_Gok G) {F : Nat}   {x0 : Int32} {x1 : Int32} {μ : fm_M} {r : Unit × fm_M} (hf : f_X9_minuteOn F x0 x1 μ = some r) : ab_F 3 167 [.ref 232, .int x0, .int x1] (hp X G μ) none (hp X G r.2) := by
  unfold f_X9_minuteOn at hf
  refine ab_T.of (d := 2) rfl (Nat.le_of_ble_eq_true rfl) ?_
  show ab_U _ _ kX9_minuteOn (0, [some (.ref 232), some (.int x0), some (.int x1), none, none], [], hp X G μ) _
  refine ab_U.run 2 (S' := (2, [some (.ref 232), some (.int x0), some (.int x1), some (.int 0), none], [], hp X G μ)) rfl ?_
  exact ab_U.weak ((t_X9_minuteOn_g (X := X) hG   F) _ _ _ _ _ hf) (ab_leL.of ⟨rfl, ⟨rfl, ⟨rfl, ⟨rfl, trivial⟩⟩⟩⟩)
set_option maxRecDepth 20000 in
def b_X9_goesOn_2 (F : Nat)  (gg : Nat → Int32 → Int32 → Int32 → fm_M → Option (Unit × fm_M)) (l1 : Int32) (l2 : Int32) (l3 : Int32) (μ : fm_M) : Option (Unit × fm_M) := (if l2 ≤ l3 then some ((), μ) else (Option.bind (f_X9_minuteOn F l1 (-1) μ) (fun q2 => gg 2 l1 l2 (l3 + 1) q2.2)))
def g_X9_goesOn (F : Nat)  : Nat → Nat → Int32 → Int32 → Int32 → fm_M → Option (Unit × fm_M)
  | 0, _, _, _, _, _ => none
  | n + 1, pc, l1, l2, l3, μ => if pc = 2 then b_X9_goesOn_2 F  (g_X9_goesOn F  n) l1 l2 l3 μ else none
set_option maxRecDepth 20000 in
theorem t_X9_goesOn_g {X : Nat × (Nat → Int32)} {G : Nat → Nat → Option Nat} (hG : fm_Gok G) {F : Nat}    : ∀ n : Nat, (∀ (l1 : Int32) (l2 : Int32) (l3 : Int32) (μ : fm_M) (r : Unit × fm_M), g_X9_goesOn F  n 2 l1 l2 l3 μ = some r → ab_U 3 (none) kX9_goesOn (2, [some (.ref 232), some (.int l1), some (.int l2), some (.int l3)], [], hp X G μ) (fun r9 h9 => r9 = none ∧ h9 = hp X G r.2))
  | 0 => by
    intros
    rename_i h
    cases h
  | n + 1 => by
    have ih := t_X9_goesOn_g (X := X) hG (F := F)   n
    · intro l1 l2 l3 μ r hf
      have hf : b_X9_goesOn_2 F  (g_X9_goesOn F  n) l1 l2 l3 μ = some r := hf
      unfold b_X9_goesOn_2 at hf
      refine ab_U.run 2 (S' := (4, [some (.ref 232), some (.int l1), some (.int l2), some (.int l3)], [.int l2, .int l3], hp X G μ)) rfl ?_
      refine ab_U.ic_ge rfl (fun b1 => ?_) (fun b1 => ?_)
      · rw [if_pos b1] at hf
        obtain rfl := Option.some.inj hf
        exact ab_U.ret rfl rfl ⟨rfl, rfl⟩
      · rw [if_neg b1] at hf
        refine ab_U.run 3 (S' := (10, [some (.ref 232), some (.int l1), some (.int l2), some (.int l3)], [.int (-1), .int l1, .ref 232], hp X G μ)) rfl ?_
        obtain ⟨q2, h3, hf⟩ := ab_bnd hf
        refine ab_U.fn rfl rfl (t_X9_minuteOn (X := X) hG h3) (by omega) ?_
        show ab_U _ _ _ (13, [some (.ref 232), some (.int l1), some (.int l2), some (.int l3)], [], hp X G q2.2) _
        refine ab_U.run 2 (S' := (2, [some (.ref 232), some (.int l1), some (.int l2), some (.int (l3 + 1))], [], hp X G q2.2)) rfl ?_
        exact ab_U.weak (ih _ _ _ _ _ hf) (ab_leL.of ⟨rfl, ⟨rfl, ⟨rfl, ⟨rfl, trivial⟩⟩⟩⟩)
set_option maxRecDepth 20000 in
def f_X9_goesOn (F : Nat)  (x0 : Int32) (x1 : Int32) (μ : fm_M) : Option (Unit × fm_M) := g_X9_goesOn F  F 2 x0 x1 0 μ
set_option maxRecDepth 20000 in
theorem t_X9_goesOn {X : Nat × (Nat → Int32)} {G : Nat → Nat → Option Nat} (hG : fm_Gok G) {F : Nat}   {x0 : Int32} {x1 : Int32} {μ : fm_M} {r : Unit × fm_M} (hf : f_X9_goesOn F x0 x1 μ = some r) : ab_F 4 168 [.ref 232, .int x0, .int x1] (hp X G μ) none (hp X G r.2) := by
  unfold f_X9_goesOn at hf
  refine ab_T.of (d := 3) rfl (Nat.le_of_ble_eq_true rfl) ?_
  show ab_U _ _ kX9_goesOn (0, [some (.ref 232), some (.int x0), some (.int x1), none], [], hp X G μ) _
  refine ab_U.run 2 (S' := (2, [some (.ref 232), some (.int x0), some (.int x1), some (.int 0)], [], hp X G μ)) rfl ?_
  exact ab_U.weak ((t_X9_goesOn_g (X := X) hG   F) _ _ _ _ _ hf) (ab_leL.of ⟨rfl, ⟨rfl, ⟨rfl, ⟨rfl, trivial⟩⟩⟩⟩)
set_option maxRecDepth 20000 in
def f_X9_apart (F : Nat)  (x0 : Int32) (x1 : Int32) (μ : fm_M) : Option (Int32 × fm_M) := (if x1 ≤ x0 then some ((x0 - x1), μ) else some ((x1 - x0), μ))
set_option maxRecDepth 20000 in
theorem t_X9_apart {X : Nat × (Nat → Int32)} {G : Nat → Nat → Option Nat} (hG : fm_Gok G) {F : Nat}   {x0 : Int32} {x1 : Int32} {μ : fm_M} {r : Int32 × fm_M} (hf : f_X9_apart F x0 x1 μ = some r) : ab_F 1 169 [.ref 232, .int x0, .int x1] (hp X G μ) (some (.int r.1)) (hp X G r.2) := by
  unfold f_X9_apart at hf
  refine ab_T.of (d := 0) rfl (Nat.le_of_ble_eq_true rfl) ?_
  show ab_U _ _ kX9_apart (0, [some (.ref 232), some (.int x0), some (.int x1)], [], hp X G μ) _
  refine ab_U.run 2 (S' := (2, [some (.ref 232), some (.int x0), some (.int x1)], [.int x1, .int x0], hp X G μ)) rfl ?_
  refine ab_U.ic_ge rfl (fun b1 => ?_) (fun b1 => ?_)
  · rw [if_pos b1] at hf
    refine ab_U.run 3 (S' := (14, [some (.ref 232), some (.int x0), some (.int x1)], [.int (x0 - x1)], hp X G μ)) rfl ?_
    obtain rfl := Option.some.inj hf
    exact ab_U.ret rfl rfl ⟨rfl, rfl⟩
  · rw [if_neg b1] at hf
    refine ab_U.run 4 (S' := (14, [some (.ref 232), some (.int x0), some (.int x1)], [.int (x1 - x0)], hp X G μ)) rfl ?_
    obtain rfl := Option.some.inj hf
    exact ab_U.ret rfl rfl ⟨rfl, rfl⟩
set_option maxRecDepth 20000 in
def f_X9_wayOn (F : Nat)  (x0 : Int32) (x1 : Int32) (x2 : Int32) (μ : fm_M) : Option (Int32 × fm_M) := (if ab_in ((x0 + 4) + x1) 228 = true then (if ab_in ((x0 + 4) + x2) 228 = true then (Option.bind (f_X9_apart F (μ.2.1 233 ((x0 + 4) + x1).toNatClampNeg) (μ.2.1 233 ((x0 + 4) + x2).toNatClampNeg) μ) (fun q3 => some ((q3.1 + 1), q3.2))) else none) else none)
set_option maxRecDepth 20000 in
theorem t_X9_wayOn {X : Nat × (Nat → Int32)} {G : Nat → Nat → Option Nat} (hG : fm_Gok G) {F : Nat}   {x0 : Int32} {x1 : Int32} {x2 : Int32} {μ : fm_M} {r : Int32 × fm_M} (hf : f_X9_wayOn F x0 x1 x2 μ = some r) : ab_F 2 170 [.ref 232, .int x0, .int x1, .int x2] (hp X G μ) (some (.int r.1)) (hp X G r.2) := by
  unfold f_X9_wayOn at hf
  refine ab_T.of (d := 1) rfl (Nat.le_of_ble_eq_true rfl) ?_
  show ab_U _ _ kX9_wayOn (0, [some (.ref 232), some (.int x0), some (.int x1), some (.int x2)], [], hp X G μ) _
  refine ab_U.run 8 (S' := (10, [some (.ref 232), some (.int x0), some (.int x1), some (.int x2)], [.int ((x0 + 4) + x1), .ref 233, .ref 232], hp X G μ)) rfl ?_
  obtain ⟨c1, hf⟩ := ab_ifs hf
  refine ab_U.iald (n := 228) rfl ⟨by decide, rfl⟩ c1 ?_
  show ab_U _ _ _ (11, [some (.ref 232), some (.int x0), some (.int x1), some (.int x2)], [.int (μ.2.1 233 ((x0 + 4) + x1).toNatClampNeg), .ref 232], hp X G μ) _
  refine ab_U.run 7 (S' := (20, [some (.ref 232), some (.int x0), some (.int x1), some (.int x2)], [.int ((x0 + 4) + x2), .ref 233, .int (μ.2.1 233 ((x0 + 4) + x1).toNatClampNeg), .ref 232], hp X G μ)) rfl ?_
  obtain ⟨c2, hf⟩ := ab_ifs hf
  refine ab_U.iald (n := 228) rfl ⟨by decide, rfl⟩ c2 ?_
  show ab_U _ _ _ (21, [some (.ref 232), some (.int x0), some (.int x1), some (.int x2)], [.int (μ.2.1 233 ((x0 + 4) + x2).toNatClampNeg), .int (μ.2.1 233 ((x0 + 4) + x1).toNatClampNeg), .ref 232], hp X G μ) _
  obtain ⟨q3, h4, hf⟩ := ab_bnd hf
  refine ab_U.fn rfl rfl (t_X9_apart (X := X) hG h4) (by omega) ?_
  show ab_U _ _ _ (24, [some (.ref 232), some (.int x0), some (.int x1), some (.int x2)], [.int q3.1], hp X G q3.2) _
  refine ab_U.run 2 (S' := (26, [some (.ref 232), some (.int x0), some (.int x1), some (.int x2)], [.int (q3.1 + 1)], hp X G q3.2)) rfl ?_
  obtain rfl := Option.some.inj hf
  exact ab_U.ret rfl rfl ⟨rfl, rfl⟩
set_option maxRecDepth 20000 in
def b_X9_paysOn_68 (F : Nat)  (gg : Nat → Int32 → Int32 → Int32 → Int32 → Int32 → Int32 → fm_M → Option (Int32 × fm_M)) (l1 : Int32) (l3 : Int32) (l4 : Int32) (l5 : Int32) (l6 : Int32) (l7 : Int32) (μ : fm_M) : Option (Int32 × fm_M) := (if (μ.1 232 3) ≤ l7 then some (l5, μ) else (if l6 ≤ 0 then some (l5, μ) else (if ab_in (2 * l7) 8 = true then (if ¬ (μ.2.1 234 (2 * l7).toNatClampNeg) = l4 then gg 68 l1 l3 l4 l5 l6 (l7 + 1) μ else (if ab_in ((2 * l7) + 1) 8 = true then (if ¬ (μ.2.1 234 ((2 * l7) + 1).toNatClampNeg) = l3 then gg 68 l1 l3 l4 l5 l6 (l7 + 1) μ else (if ab_in ((l1 + 33) + l7) 228 = true then (if (μ.2.1 233 ((l1 + 33) + l7).toNatClampNeg) ≤ 0 then gg 68 l1 l3 l4 l5 l6 (l7 + 1) μ else (if ab_in ((l1 + 33) + l7) 228 = true then (if (μ.2.1 233 ((l1 + 33) + l7).toNatClampNeg) ≤ l6 then (if ab_in ((l1 + 33) + l7) 228 = true then (Option.bind (some (fm_sA μ 233 (upd (μ.2.1 233) ((l1 + 33) + l7).toNatClampNeg 0))) (fun m12 => gg 68 l1 l3 l4 l5 0 (l7 + 1) m12)) else none) else (if ab_in ((l1 + 33) + l7) 228 = true then (if ab_in ((l1 + 33) + l7) 228 = true then (Option.bind (some (fm_sA μ 233 (upd (μ.2.1 233) ((l1 + 33) + l7).toNatClampNeg ((μ.2.1 233 ((l1 + 33) + l7).toNatClampNeg) - l6)))) (fun m16 => gg 68 l1 l3 l4 l5 0 (l7 + 1) m16)) else none) else none)) else none)) else none)) else none)) else none)))
def g_X9_paysOn (F : Nat)  : Nat → Nat → Int32 → Int32 → Int32 → Int32 → Int32 → Int32 → fm_M → Option (Int32 × fm_M)
  | 0, _, _, _, _, _, _, _, _ => none
  | n + 1, pc, l1, l3, l4, l5, l6, l7, μ => if pc = 68 then b_X9_paysOn_68 F  (g_X9_paysOn F  n) l1 l3 l4 l5 l6 l7 μ else none
set_option maxRecDepth 20000 in
theorem t_X9_paysOn_g {X : Nat × (Nat → Int32)} {G : Nat → Nat → Option Nat} (hG : fm_Gok G) {F : Nat}    : ∀ n : Nat, (∀ (l1 : Int32) (l3 : Int32) (l4 : Int32) (l5 : Int32) (l6 : Int32) (l7 : Int32) (μ : fm_M) (r : Int32 × fm_M), g_X9_paysOn F  n 68 l1 l3 l4 l5 l6 l7 μ = some r → ab_U 4 (some .int) kX9_paysOn (68, [some (.ref 232), some (.int l1), none, some (.int l3), some (.int l4), some (.int l5), some (.int l6), some (.int l7)], [], hp X G μ) (fun r9 h9 => r9 = some (.int r.1) ∧ h9 = hp X G r.2))
  | 0 => by
    intros
    rename_i h
    cases h
  | n + 1 => by
    have ih := t_X9_paysOn_g (X := X) hG (F := F)   n
    · intro l1 l3 l4 l5 l6 l7 μ r hf
      have hf : b_X9_paysOn_68 F  (g_X9_paysOn F  n) l1 l3 l4 l5 l6 l7 μ = some r := hf
      unfold b_X9_paysOn_68 at hf
      refine ab_U.run 3 (S' := (74, [some (.ref 232), some (.int l1), none, some (.int l3), some (.int l4), some (.int l5), some (.int l6), some (.int l7)], [.int (μ.1 232 3), .int l7], hp X G μ)) rfl ?_
      refine ab_U.ic_ge rfl (fun b1 => ?_) (fun b1 => ?_)
      · rw [if_pos b1] at hf
        refine ab_U.run 1 (S' := (185, [some (.ref 232), some (.int l1), none, some (.int l3), some (.int l4), some (.int l5), some (.int l6), some (.int l7)], [.int l5], hp X G μ)) rfl ?_
        obtain rfl := Option.some.inj hf
        exact ab_U.ret rfl rfl ⟨rfl, rfl⟩
      · rw [if_neg b1] at hf
        refine ab_U.run 1 (S' := (79, [some (.ref 232), some (.int l1), none, some (.int l3), some (.int l4), some (.int l5), some (.int l6), some (.int l7)], [.int l6], hp X G μ)) rfl ?_
        refine ab_U.if_le rfl (fun b2 => ?_) (fun b2 => ?_)
        · rw [if_pos b2] at hf
          refine ab_U.run 1 (S' := (185, [some (.ref 232), some (.int l1), none, some (.int l3), some (.int l4), some (.int l5), some (.int l6), some (.int l7)], [.int l5], hp X G μ)) rfl ?_
          obtain rfl := Option.some.inj hf
          exact ab_U.ret rfl rfl ⟨rfl, rfl⟩
        · rw [if_neg b2] at hf
          refine ab_U.run 5 (S' := (90, [some (.ref 232), some (.int l1), none, some (.int l3), some (.int l4), some (.int l5), some (.int l6), some (.int l7)], [.int (2 * l7), .ref 234], hp X G μ)) rfl ?_
          obtain ⟨c3, hf⟩ := ab_ifs hf
          refine ab_U.iald (n := 8) rfl ⟨by decide, rfl⟩ c3 ?_
          show ab_U _ _ _ (91, [some (.ref 232), some (.int l1), none, some (.int l3), some (.int l4), some (.int l5), some (.int l6), some (.int l7)], [.int (μ.2.1 234 (2 * l7).toNatClampNeg)], hp X G μ) _
          refine ab_U.run 1 (S' := (93, [some (.ref 232), some (.int l1), none, some (.int l3), some (.int l4), some (.int l5), some (.int l6), some (.int l7)], [.int l4, .int (μ.2.1 234 (2 * l7).toNatClampNeg)], hp X G μ)) rfl ?_
          refine ab_U.ic_ne rfl (fun b4 => ?_) (fun b4 => ?_)
          · rw [if_pos b4] at hf
            refine ab_U.run 2 (S' := (68, [some (.ref 232), some (.int l1), none, some (.int l3), some (.int l4), some (.int l5), some (.int l6), some (.int (l7 + 1))], [], hp X G μ)) rfl ?_
            exact ab_U.weak (ih _ _ _ _ _ _ _ _ hf) (ab_leL.of ⟨rfl, ⟨rfl, ⟨rfl, ⟨rfl, ⟨rfl, ⟨rfl, ⟨rfl, trivial⟩⟩⟩⟩⟩⟩⟩)
          · rw [if_neg b4] at hf
            refine ab_U.run 7 (S' := (106, [some (.ref 232), some (.int l1), none, some (.int l3), some (.int l4), some (.int l5), some (.int l6), some (.int l7)], [.int ((2 * l7) + 1), .ref 234], hp X G μ)) rfl ?_
            obtain ⟨c5, hf⟩ := ab_ifs hf
            refine ab_U.iald (n := 8) rfl ⟨by decide, rfl⟩ c5 ?_
            show ab_U _ _ _ (107, [some (.ref 232), some (.int l1), none, some (.int l3), some (.int l4), some (.int l5), some (.int l6), some (.int l7)], [.int (μ.2.1 234 ((2 * l7) + 1).toNatClampNeg)], hp X G μ) _
            refine ab_U.run 1 (S' := (108, [some (.ref 232), some (.int l1), none, some (.int l3), some (.int l4), some (.int l5), some (.int l6), some (.int l7)], [.int l3, .int (μ.2.1 234 ((2 * l7) + 1).toNatClampNeg)], hp X G μ)) rfl ?_
            refine ab_U.ic_ne rfl (fun b6 => ?_) (fun b6 => ?_)
            · rw [if_pos b6] at hf
              refine ab_U.run 2 (S' := (68, [some (.ref 232), some (.int l1), none, some (.int l3), some (.int l4), some (.int l5), some (.int l6), some (.int (l7 + 1))], [], hp X G μ)) rfl ?_
              exact ab_U.weak (ih _ _ _ _ _ _ _ _ hf) (ab_leL.of ⟨rfl, ⟨rfl, ⟨rfl, ⟨rfl, ⟨rfl, ⟨rfl, ⟨rfl, trivial⟩⟩⟩⟩⟩⟩⟩)
            · rw [if_neg b6] at hf
              refine ab_U.run 7 (S' := (122, [some (.ref 232), some (.int l1), none, some (.int l3), some (.int l4), some (.int l5), some (.int l6), some (.int l7)], [.int ((l1 + 33) + l7), .ref 233], hp X G μ)) rfl ?_
              obtain ⟨c7, hf⟩ := ab_ifs hf
              refine ab_U.iald (n := 228) rfl ⟨by decide, rfl⟩ c7 ?_
              show ab_U _ _ _ (123, [some (.ref 232), some (.int l1), none, some (.int l3), some (.int l4), some (.int l5), some (.int l6), some (.int l7)], [.int (μ.2.1 233 ((l1 + 33) + l7).toNatClampNeg)], hp X G μ) _
              refine ab_U.if_le rfl (fun b8 => ?_) (fun b8 => ?_)
              · rw [if_pos b8] at hf
                refine ab_U.run 2 (S' := (68, [some (.ref 232), some (.int l1), none, some (.int l3), some (.int l4), some (.int l5), some (.int l6), some (.int (l7 + 1))], [], hp X G μ)) rfl ?_
                exact ab_U.weak (ih _ _ _ _ _ _ _ _ hf) (ab_leL.of ⟨rfl, ⟨rfl, ⟨rfl, ⟨rfl, ⟨rfl, ⟨rfl, ⟨rfl, trivial⟩⟩⟩⟩⟩⟩⟩)
              · rw [if_neg b8] at hf
                refine ab_U.run 12 (S' := (145, [some (.ref 232), some (.int l1), none, some (.int l3), some (.int l4), some (.int l5), some (.int l6), some (.int l7)], [.int (l1 + 33), .ref 233, .int ((l1 + 33) + l7), .ref 233], hp X G μ)) rfl ?_
                refine ab_U.run 2 (S' := (148, [some (.ref 232), some (.int l1), none, some (.int l3), some (.int l4), some (.int l5), some (.int l6), some (.int l7)], [.int ((l1 + 33) + l7), .ref 233, .int ((l1 + 33) + l7), .ref 233], hp X G μ)) rfl ?_
                obtain ⟨c9, hf⟩ := ab_ifs hf
                refine ab_U.iald (n := 228) rfl ⟨by decide, rfl⟩ c9 ?_
                show ab_U _ _ _ (149, [some (.ref 232), some (.int l1), none, some (.int l3), some (.int l4), some (.int l5), some (.int l6), some (.int l7)], [.int (μ.2.1 233 ((l1 + 33) + l7).toNatClampNeg), .int ((l1 + 33) + l7), .ref 233], hp X G μ) _
                refine ab_U.run 1 (S' := (151, [some (.ref 232), some (.int l1), none, some (.int l3), some (.int l4), some (.int l5), some (.int l6), some (.int l7)], [.int l6, .int (μ.2.1 233 ((l1 + 33) + l7).toNatClampNeg), .int ((l1 + 33) + l7), .ref 233], hp X G μ)) rfl ?_
                refine ab_U.ic_le rfl (fun b10 => ?_) (fun b10 => ?_)
                · rw [if_pos b10] at hf
                  refine ab_U.run 1 (S' := (173, [some (.ref 232), some (.int l1), none, some (.int l3), some (.int l4), some (.int l5), some (.int l6), some (.int l7)], [.int 0, .int ((l1 + 33) + l7), .ref 233], hp X G μ)) rfl ?_
                  obtain ⟨c11, hf⟩ := ab_ifs hf
                  obtain ⟨m12, e13, hf⟩ := ab_bnd hf
                  have e13 := Option.some.inj e13
                  refine ab_U.iast (n := 228) rfl ⟨by decide, rfl⟩ c11 ?_
                  show ab_U _ _ _ (174, [some (.ref 232), some (.int l1), none, some (.int l3), some (.int l4), some (.int l5), some (.int l6), some (.int l7)], [], hp X G (fm_sA μ 233 (upd (μ.2.1 233) ((l1 + 33) + l7).toNatClampNeg 0))) _
                  rw [e13]
                  refine ab_U.run 4 (S' := (68, [some (.ref 232), some (.int l1), none, some (.int l3), some (.int l4), some (.int l5), some (.int 0), some (.int (l7 + 1))], [], hp X G m12)) rfl ?_
                  exact ab_U.weak (ih _ _ _ _ _ _ _ _ hf) (ab_leL.of ⟨rfl, ⟨rfl, ⟨rfl, ⟨rfl, ⟨rfl, ⟨rfl, ⟨rfl, trivial⟩⟩⟩⟩⟩⟩⟩)
                · rw [if_neg b10] at hf
                  refine ab_U.run 7 (S' := (165, [some (.ref 232), some (.int l1), none, some (.int l3), some (.int l4), some (.int l5), some (.int l6), some (.int l7)], [.int ((l1 + 33) + l7), .ref 233, .int ((l1 + 33) + l7), .ref 233], hp X G μ)) rfl ?_
                  obtain ⟨c14, hf⟩ := ab_ifs hf
                  refine ab_U.iald (n := 228) rfl ⟨by decide, rfl⟩ c14 ?_
                  show ab_U _ _ _ (166, [some (.ref 232), some (.int l1), none, some (.int l3), some (.int l4), some (.int l5), some (.int l6), some (.int l7)], [.int (μ.2.1 233 ((l1 + 33) + l7).toNatClampNeg), .int ((l1 + 33) + l7), .ref 233], hp X G μ) _
                  refine ab_U.run 3 (S' := (173, [some (.ref 232), some (.int l1), none, some (.int l3), some (.int l4), some (.int l5), some (.int l6), some (.int l7)], [.int ((μ.2.1 233 ((l1 + 33) + l7).toNatClampNeg) - l6), .int ((l1 + 33) + l7), .ref 233], hp X G μ)) rfl ?_
                  obtain ⟨c15, hf⟩ := ab_ifs hf
                  obtain ⟨m16, e17, hf⟩ := ab_bnd hf
                  have e17 := Option.some.inj e17
                  refine ab_U.iast (n := 228) rfl ⟨by decide, rfl⟩ c15 ?_
                  show ab_U _ _ _ (174, [some (.ref 232), some (.int l1), none, some (.int l3), some (.int l4), some (.int l5), some (.int l6), some (.int l7)], [], hp X G (fm_sA μ 233 (upd (μ.2.1 233) ((l1 + 33) + l7).toNatClampNeg ((μ.2.1 233 ((l1 + 33) + l7).toNatClampNeg) - l6)))) _
                  rw [e17]
                  refine ab_U.run 4 (S' := (68, [some (.ref 232), some (.int l1), none, some (.int l3), some (.int l4), some (.int l5), some (.int 0), some (.int (l7 + 1))], [], hp X G m16)) rfl ?_
                  exact ab_U.weak (ih _ _ _ _ _ _ _ _ hf) (ab_leL.of ⟨rfl, ⟨rfl, ⟨rfl, ⟨rfl, ⟨rfl, ⟨rfl, ⟨rfl, trivial⟩⟩⟩⟩⟩⟩⟩)
set_option maxRecDepth 20000 in
def f_X9_paysOn (F : Nat)  (x0 : Int32) (x1 : Int32) (x2 : Int32) (μ : fm_M) : Option (Int32 × fm_M) := (if ab_in ((x0 + 18) + x1) 228 = true then (Option.bind (f_X9_wayOn F x0 (μ.2.1 233 ((x0 + 18) + x1).toNatClampNeg) x2 μ) (fun q19 => (Option.bind (f_X9_goesOn F x0 q19.1 q19.2) (fun q21 => (if ab_in ((x0 + 18) + x1) 228 = true then (Option.bind (some (fm_sA q21.2 233 (upd (q21.2.2.1 233) ((x0 + 18) + x1).toNatClampNeg x2))) (fun m24 => (if ab_in ((x0 + 13) + x1) 228 = true then (if (m24.2.1 233 ((x0 + 13) + x1).toNatClampNeg) < 5 then g_X9_paysOn F  F 68 x0 x2 (μ.2.1 233 ((x0 + 18) + x1).toNatClampNeg) (m24.2.1 233 ((x0 + 13) + x1).toNatClampNeg) 0 0 m24 else g_X9_paysOn F  F 68 x0 x2 (μ.2.1 233 ((x0 + 18) + x1).toNatClampNeg) (m24.2.1 233 ((x0 + 13) + x1).toNatClampNeg) (m24.2.1 233 ((x0 + 13) + x1).toNatClampNeg) 0 m24) else none))) else none))))) else none)
set_option maxRecDepth 20000 in
theorem t_X9_paysOn {X : Nat × (Nat → Int32)} {G : Nat → Nat → Option Nat} (hG : fm_Gok G) {F : Nat}   {x0 : Int32} {x1 : Int32} {x2 : Int32} {μ : fm_M} {r : Int32 × fm_M} (hf : f_X9_paysOn F x0 x1 x2 μ = some r) : ab_F 5 171 [.ref 232, .int x0, .int x1, .int x2] (hp X G μ) (some (.int r.1)) (hp X G r.2) := by
  unfold f_X9_paysOn at hf
  refine ab_T.of (d := 4) rfl (Nat.le_of_ble_eq_true rfl) ?_
  show ab_U _ _ kX9_paysOn (0, [some (.ref 232), some (.int x0), some (.int x1), some (.int x2), none, none, none, none], [], hp X G μ) _
  refine ab_U.run 7 (S' := (10, [some (.ref 232), some (.int x0), some (.int x1), some (.int x2), none, none, none, none], [.int ((x0 + 18) + x1), .ref 233], hp X G μ)) rfl ?_
  obtain ⟨c18, hf⟩ := ab_ifs hf
  refine ab_U.iald (n := 228) rfl ⟨by decide, rfl⟩ c18 ?_
  show ab_U _ _ _ (11, [some (.ref 232), some (.int x0), some (.int x1), some (.int x2), none, none, none, none], [.int (μ.2.1 233 ((x0 + 18) + x1).toNatClampNeg)], hp X G μ) _
  refine ab_U.run 7 (S' := (20, [some (.ref 232), some (.int x0), some (.int x1), some (.int x2), some (.int (μ.2.1 233 ((x0 + 18) + x1).toNatClampNeg)), none, none, none], [.int x2, .int (μ.2.1 233 ((x0 + 18) + x1).toNatClampNeg), .int x0, .ref 232, .int x0, .ref 232], hp X G μ)) rfl ?_
  obtain ⟨q19, h20, hf⟩ := ab_bnd hf
  refine ab_U.fn rfl rfl (t_X9_wayOn (X := X) hG h20) (by omega) ?_
  show ab_U _ _ _ (23, [some (.ref 232), some (.int x0), some (.int x1), some (.int x2), some (.int (μ.2.1 233 ((x0 + 18) + x1).toNatClampNeg)), none, none, none], [.int q19.1, .int x0, .ref 232], hp X G q19.2) _
  obtain ⟨q21, h22, hf⟩ := ab_bnd hf
  refine ab_U.fn rfl rfl (t_X9_goesOn (X := X) hG h22) (by omega) ?_
  show ab_U _ _ _ (26, [some (.ref 232), some (.int x0), some (.int x1), some (.int x2), some (.int (μ.2.1 233 ((x0 + 18) + x1).toNatClampNeg)), none, none, none], [], hp X G q21.2) _
  refine ab_U.run 8 (S' := (37, [some (.ref 232), some (.int x0), some (.int x1), some (.int x2), some (.int (μ.2.1 233 ((x0 + 18) + x1).toNatClampNeg)), none, none, none], [.int x2, .int ((x0 + 18) + x1), .ref 233], hp X G q21.2)) rfl ?_
  obtain ⟨c23, hf⟩ := ab_ifs hf
  obtain ⟨m24, e25, hf⟩ := ab_bnd hf
  have e25 := Option.some.inj e25
  refine ab_U.iast (n := 228) rfl ⟨by decide, rfl⟩ c23 ?_
  show ab_U _ _ _ (38, [some (.ref 232), some (.int x0), some (.int x1), some (.int x2), some (.int (μ.2.1 233 ((x0 + 18) + x1).toNatClampNeg)), none, none, none], [], hp X G (fm_sA q21.2 233 (upd (q21.2.2.1 233) ((x0 + 18) + x1).toNatClampNeg x2))) _
  rw [e25]
  refine ab_U.run 7 (S' := (48, [some (.ref 232), some (.int x0), some (.int x1), some (.int x2), some (.int (μ.2.1 233 ((x0 + 18) + x1).toNatClampNeg)), none, none, none], [.int ((x0 + 13) + x1), .ref 233], hp X G m24)) rfl ?_
  obtain ⟨c26, hf⟩ := ab_ifs hf
  refine ab_U.iald (n := 228) rfl ⟨by decide, rfl⟩ c26 ?_
  show ab_U _ _ _ (49, [some (.ref 232), some (.int x0), some (.int x1), some (.int x2), some (.int (μ.2.1 233 ((x0 + 18) + x1).toNatClampNeg)), none, none, none], [.int (m24.2.1 233 ((x0 + 13) + x1).toNatClampNeg)], hp X G m24) _
  refine ab_U.run 3 (S' := (54, [some (.ref 232), some (.int x0), some (.int x1), some (.int x2), some (.int (μ.2.1 233 ((x0 + 18) + x1).toNatClampNeg)), some (.int (m24.2.1 233 ((x0 + 13) + x1).toNatClampNeg)), none, none], [.int 5, .int (m24.2.1 233 ((x0 + 13) + x1).toNatClampNeg)], hp X G m24)) rfl ?_
  refine ab_U.ic_lt rfl (fun b27 => ?_) (fun b27 => ?_)
  · rw [if_pos b27] at hf
    refine ab_U.run 4 (S' := (68, [some (.ref 232), some (.int x0), some (.int x1), some (.int x2), some (.int (μ.2.1 233 ((x0 + 18) + x1).toNatClampNeg)), some (.int (m24.2.1 233 ((x0 + 13) + x1).toNatClampNeg)), some (.int 0), some (.int 0)], [], hp X G m24)) rfl ?_
    exact ab_U.weak ((t_X9_paysOn_g (X := X) hG   F) _ _ _ _ _ _ _ _ hf) (ab_leL.of ⟨rfl, ⟨rfl, ⟨rfl, ⟨rfl, ⟨rfl, ⟨rfl, ⟨rfl, trivial⟩⟩⟩⟩⟩⟩⟩)
  · rw [if_neg b27] at hf
    refine ab_U.run 5 (S' := (68, [some (.ref 232), some (.int x0), some (.int x1), some (.int x2), some (.int (μ.2.1 233 ((x0 + 18) + x1).toNatClampNeg)), some (.int (m24.2.1 233 ((x0 + 13) + x1).toNatClampNeg)), some (.int (m24.2.1 233 ((x0 + 13) + x1).toNatClampNeg)), some (.int 0)], [], hp X G m24)) rfl ?_
    exact ab_U.weak ((t_X9_paysOn_g (X := X) hG   F) _ _ _ _ _ _ _ _ hf) (ab_leL.of ⟨rfl, ⟨rfl, ⟨rfl, ⟨rfl, ⟨rfl, ⟨rfl, ⟨rfl, trivial⟩⟩⟩⟩⟩⟩⟩)
set_option maxRecDepth 20000 in
def b_X9_warmOnes_4 (F : Nat)  (gg : Nat → Int32 → Int32 → fm_M → Option (Int32 × fm_M)) (l1 : Int32) (l2 : Int32) (μ : fm_M) : Option (Int32 × fm_M) := (if ab_in 23 228 = true then (if (μ.2.1 233 (23 : Int32).toNatClampNeg) ≤ l2 then some (l1, μ) else (if ab_in (13 + l2) 228 = true then (if (μ.2.1 233 (13 + l2).toNatClampNeg) < 5 then gg 4 (l1 + 0) (l2 + 1) μ else gg 4 (l1 + 1) (l2 + 1) μ) else none)) else none)
def g_X9_warmOnes (F : Nat)  : Nat → Nat → Int32 → Int32 → fm_M → Option (Int32 × fm_M)
  | 0, _, _, _, _ => none
  | n + 1, pc, l1, l2, μ => if pc = 4 then b_X9_warmOnes_4 F  (g_X9_warmOnes F  n) l1 l2 μ else none
set_option maxRecDepth 20000 in
theorem t_X9_warmOnes_g {X : Nat × (Nat → Int32)} {G : Nat → Nat → Option Nat} (hG : fm_Gok G) {F : Nat}    : ∀ n : Nat, (∀ (l1 : Int32) (l2 : Int32) (μ : fm_M) (r : Int32 × fm_M), g_X9_warmOnes F  n 4 l1 l2 μ = some r → ab_U 0 (some .int) kX9_warmOnes (4, [some (.ref 232), some (.int l1), some (.int l2)], [], hp X G μ) (fun r9 h9 => r9 = some (.int r.1) ∧ h9 = hp X G r.2))
  | 0 => by
    intros
    rename_i h
    cases h
  | n + 1 => by
    have ih := t_X9_warmOnes_g (X := X) hG (F := F)   n
    · intro l1 l2 μ r hf
      have hf : b_X9_warmOnes_4 F  (g_X9_warmOnes F  n) l1 l2 μ = some r := hf
      unfold b_X9_warmOnes_4 at hf
      refine ab_U.run 4 (S' := (11, [some (.ref 232), some (.int l1), some (.int l2)], [.int 23, .ref 233, .int l2], hp X G μ)) rfl ?_
      obtain ⟨c1, hf⟩ := ab_ifs hf
      refine ab_U.iald (n := 228) rfl ⟨by decide, rfl⟩ c1 ?_
      show ab_U _ _ _ (12, [some (.ref 232), some (.int l1), some (.int l2)], [.int (μ.2.1 233 (23 : Int32).toNatClampNeg), .int l2], hp X G μ) _
      refine ab_U.ic_ge rfl (fun b2 => ?_) (fun b2 => ?_)
      · rw [if_pos b2] at hf
        refine ab_U.run 1 (S' := (43, [some (.ref 232), some (.int l1), some (.int l2)], [.int l1], hp X G μ)) rfl ?_
        obtain rfl := Option.some.inj hf
        exact ab_U.ret rfl rfl ⟨rfl, rfl⟩
      · rw [if_neg b2] at hf
        refine ab_U.run 6 (S' := (24, [some (.ref 232), some (.int l1), some (.int l2)], [.int (13 + l2), .ref 233, .int l1], hp X G μ)) rfl ?_
        obtain ⟨c3, hf⟩ := ab_ifs hf
        refine ab_U.iald (n := 228) rfl ⟨by decide, rfl⟩ c3 ?_
        show ab_U _ _ _ (25, [some (.ref 232), some (.int l1), some (.int l2)], [.int (μ.2.1 233 (13 + l2).toNatClampNeg), .int l1], hp X G μ) _
        refine ab_U.run 1 (S' := (26, [some (.ref 232), some (.int l1), some (.int l2)], [.int 5, .int (μ.2.1 233 (13 + l2).toNatClampNeg), .int l1], hp X G μ)) rfl ?_
        refine ab_U.ic_lt rfl (fun b4 => ?_) (fun b4 => ?_)
        · rw [if_pos b4] at hf
          refine ab_U.run 5 (S' := (4, [some (.ref 232), some (.int (l1 + 0)), some (.int (l2 + 1))], [], hp X G μ)) rfl ?_
          exact ab_U.weak (ih _ _ _ _ hf) (ab_leL.of ⟨rfl, ⟨rfl, ⟨rfl, trivial⟩⟩⟩)
        · rw [if_neg b4] at hf
          refine ab_U.run 6 (S' := (4, [some (.ref 232), some (.int (l1 + 1)), some (.int (l2 + 1))], [], hp X G μ)) rfl ?_
          exact ab_U.weak (ih _ _ _ _ hf) (ab_leL.of ⟨rfl, ⟨rfl, ⟨rfl, trivial⟩⟩⟩)
set_option maxRecDepth 20000 in
def f_X9_warmOnes (F : Nat)   (μ : fm_M) : Option (Int32 × fm_M) := g_X9_warmOnes F  F 4 0 0 μ
set_option maxRecDepth 20000 in
theorem t_X9_warmOnes {X : Nat × (Nat → Int32)} {G : Nat → Nat → Option Nat} (hG : fm_Gok G) {F : Nat}    {μ : fm_M} {r : Int32 × fm_M} (hf : f_X9_warmOnes F  μ = some r) : ab_F 1 173 [.ref 232] (hp X G μ) (some (.int r.1)) (hp X G r.2) := by
  unfold f_X9_warmOnes at hf
  refine ab_T.of (d := 0) rfl (Nat.le_of_ble_eq_true rfl) ?_
  show ab_U _ _ kX9_warmOnes (0, [some (.ref 232), none, none], [], hp X G μ) _
  refine ab_U.run 4 (S' := (4, [some (.ref 232), some (.int 0), some (.int 0)], [], hp X G μ)) rfl ?_
  exact ab_U.weak ((t_X9_warmOnes_g (X := X) hG   F) _ _ _ _ hf) (ab_leL.of ⟨rfl, ⟨rfl, ⟨rfl, trivial⟩⟩⟩)
set_option maxRecDepth 20000 in
def f_X9_go (F : Nat)  (x0 : Int32) (μ : fm_M) : Option (Int32 × fm_M) := (Option.bind (f_X9_in F ((x0).toInt64) (Int64.ofNat 0) (Int64.ofNat 60) μ) (fun q1 => (if ¬ q1.1 = 0 then (if ab_in 37 228 = true then (if ((q1.2.2.1 233 (37 : Int32).toNatClampNeg) + x0) ≤ 999 then (Option.bind (f_X9_goesOn F 0 x0 q1.2) (fun q6 => (Option.bind (f_X9_warmOnes F q6.2) (fun q8 => some (q8.1, q8.2))))) else some ((-3), q1.2)) else none) else some ((-1), q1.2))))
set_option maxRecDepth 20000 in
theorem t_X9_go {X : Nat × (Nat → Int32)} {G : Nat → Nat → Option Nat} (hG : fm_Gok G) {F : Nat}   {x0 : Int32} {μ : fm_M} {r : Int32 × fm_M} (hf : f_X9_go F x0 μ = some r) : ab_F 5 172 [.ref 232, .int x0] (hp X G μ) (some (.int r.1)) (hp X G r.2) := by
  unfold f_X9_go at hf
  refine ab_T.of (d := 4) rfl (Nat.le_of_ble_eq_true rfl) ?_
  show ab_U _ _ kX9_go (0, [some (.ref 232), some (.int x0)], [], hp X G μ) _
  refine ab_U.run 4 (S' := (6, [some (.ref 232), some (.int x0)], [.long (Int64.ofNat 60), .long (Int64.ofNat 0), .long (x0).toInt64], hp X G μ)) rfl ?_
  obtain ⟨q1, h2, hf⟩ := ab_bnd hf
  refine ab_U.fn rfl rfl (t_X9_in (X := X) hG h2) (by omega) ?_
  show ab_U _ _ _ (9, [some (.ref 232), some (.int x0)], [.int q1.1], hp X G q1.2) _
  refine ab_U.if_ne rfl (fun b3 => ?_) (fun b3 => ?_)
  · rw [if_pos b3] at hf
    refine ab_U.run 3 (S' := (20, [some (.ref 232), some (.int x0)], [.int 37, .ref 233], hp X G q1.2)) rfl ?_
    obtain ⟨c4, hf⟩ := ab_ifs hf
    refine ab_U.iald (n := 228) rfl ⟨by decide, rfl⟩ c4 ?_
    show ab_U _ _ _ (21, [some (.ref 232), some (.int x0)], [.int (q1.2.2.1 233 (37 : Int32).toNatClampNeg)], hp X G q1.2) _
    refine ab_U.run 3 (S' := (26, [some (.ref 232), some (.int x0)], [.int 999, .int ((q1.2.2.1 233 (37 : Int32).toNatClampNeg) + x0)], hp X G q1.2)) rfl ?_
    refine ab_U.ic_le rfl (fun b5 => ?_) (fun b5 => ?_)
    · rw [if_pos b5] at hf
      refine ab_U.run 3 (S' := (35, [some (.ref 232), some (.int x0)], [.int x0, .int 0, .ref 232], hp X G q1.2)) rfl ?_
      obtain ⟨q6, h7, hf⟩ := ab_bnd hf
      refine ab_U.fn rfl rfl (t_X9_goesOn (X := X) hG h7) (by omega) ?_
      show ab_U _ _ _ (38, [some (.ref 232), some (.int x0)], [], hp X G q6.2) _
      refine ab_U.run 1 (S' := (39, [some (.ref 232), some (.int x0)], [.ref 232], hp X G q6.2)) rfl ?_
      obtain ⟨q8, h9, hf⟩ := ab_bnd hf
      refine ab_U.fn rfl rfl (t_X9_warmOnes (X := X) hG h9) (by omega) ?_
      show ab_U _ _ _ (42, [some (.ref 232), some (.int x0)], [.int q8.1], hp X G q8.2) _
      obtain rfl := Option.some.inj hf
      exact ab_U.ret rfl rfl ⟨rfl, rfl⟩
    · rw [if_neg b5] at hf
      refine ab_U.run 1 (S' := (31, [some (.ref 232), some (.int x0)], [.int (-3)], hp X G q1.2)) rfl ?_
      obtain rfl := Option.some.inj hf
      exact ab_U.ret rfl rfl ⟨rfl, rfl⟩
  · rw [if_neg b3] at hf
    refine ab_U.run 1 (S' := (13, [some (.ref 232), some (.int x0)], [.int (-1)], hp X G q1.2)) rfl ?_
    obtain rfl := Option.some.inj hf
    exact ab_U.ret rfl rfl ⟨rfl, rfl⟩
