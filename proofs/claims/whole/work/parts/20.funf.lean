/-! by program: each method as a function over the memory, and that our machine does it -/
set_option maxRecDepth 20000 in
def f_X9_readMore (F : Nat)  (x0 : Int32) (μ : fm_M) : Option (Unit × fm_M) := (if 3 < x0 then (if ¬ x0 = 4 then (if ¬ x0 = 5 then (if ¬ x0 = 6 then (if ¬ x0 = 7 then (if ¬ (μ.1 232 15) = 0 then (Option.bind (f_X9_number F 0 5 μ) (fun q7 => (Option.bind (some (fm_sI q7.2 232 10 ((q7.2.1 232 10) ||| (1 <<< (q7.1 &&& 31))))) (fun m9 => (Option.bind (f_X9_number F 1 9 m9) (fun q11 => (if ab_in (27 + q7.1) 38 = true then (Option.bind (some (fm_sA q11.2 236 (upd (q11.2.2.1 236) (27 + q7.1).toNatClampNeg (q11.1 - 1)))) (fun m14 => some ((), m14))) else none))))))) else (if ¬ (μ.1 232 19) = 2 then (Option.bind (f_X9_number F 0 5 μ) (fun q17 => (Option.bind (some (fm_sI q17.2 232 10 ((q17.2.1 232 10) ||| (1 <<< (q17.1 &&& 31))))) (fun m19 => (Option.bind (f_X9_number F 1 9 m19) (fun q21 => (if ab_in (27 + q17.1) 38 = true then (Option.bind (some (fm_sA q21.2 236 (upd (q21.2.2.1 236) (27 + q17.1).toNatClampNeg (q21.1 - 1)))) (fun m24 => some ((), m24))) else none))))))) else (Option.bind (f_X9_in F (((μ.1 232 20)).toInt64) (Int64.ofNat 0) (Int64.ofNat 5) μ) (fun q26 => (if q26.1 = 0 then (Option.bind (f_X9_number F 0 5 q26.2) (fun q29 => (Option.bind (some (fm_sI q29.2 232 10 ((q29.2.1 232 10) ||| (1 <<< (q29.1 &&& 31))))) (fun m31 => (Option.bind (f_X9_number F 1 9 m31) (fun q33 => (if ab_in (27 + q29.1) 38 = true then (Option.bind (some (fm_sA q33.2 236 (upd (q33.2.2.1 236) (27 + q29.1).toNatClampNeg (q33.1 - 1)))) (fun m36 => some ((), m36))) else none))))))) else (if ¬ (((q26.2.1 232 10) >>> ((q26.2.1 232 20) &&& 31)) &&& 1) = 1 then (Option.bind (f_X9_number F 0 5 q26.2) (fun q39 => (Option.bind (some (fm_sI q39.2 232 10 ((q39.2.1 232 10) ||| (1 <<< (q39.1 &&& 31))))) (fun m41 => (Option.bind (f_X9_number F 1 9 m41) (fun q43 => (if ab_in (27 + q39.1) 38 = true then (Option.bind (some (fm_sA q43.2 236 (upd (q43.2.2.1 236) (27 + q39.1).toNatClampNeg (q43.1 - 1)))) (fun m46 => some ((), m46))) else none))))))) else (Option.bind (f_X9_fails F 4 q26.2) (fun q48 => (Option.bind (f_X9_number F 0 5 q48.2) (fun q50 => (Option.bind (some (fm_sI q50.2 232 10 ((q50.2.1 232 10) ||| (1 <<< (q50.1 &&& 31))))) (fun m52 => (Option.bind (f_X9_number F 1 9 m52) (fun q54 => (if ab_in (27 + q50.1) 38 = true then (Option.bind (some (fm_sA q54.2 236 (upd (q54.2.2.1 236) (27 + q50.1).toNatClampNeg (q54.1 - 1)))) (fun m57 => some ((), m57))) else none))))))))))))))) else (Option.bind (f_X9_number F 0 10 μ) (fun q59 => (if ab_in 26 38 = true then (Option.bind (some (fm_sA q59.2 236 (upd (q59.2.2.1 236) (26 : Int32).toNatClampNeg (q59.1 - 2)))) (fun m62 => some ((), m62))) else none)))) else (Option.bind (f_X9_number F 0 9 μ) (fun q64 => (if ab_in 24 38 = true then (Option.bind (some (fm_sA q64.2 236 (upd (q64.2.2.1 236) (24 : Int32).toNatClampNeg q64.1))) (fun m67 => (Option.bind (f_X9_number F 5 99 m67) (fun q69 => (if ab_in 25 38 = true then (Option.bind (some (fm_sA q69.2 236 (upd (q69.2.2.1 236) (25 : Int32).toNatClampNeg (q69.1 - 50)))) (fun m72 => some ((), m72))) else none))))) else none)))) else (Option.bind (f_X9_readDebt F μ) (fun q74 => some ((), q74.2)))) else (Option.bind (f_X9_number F 0 5 μ) (fun q76 => (if ab_in (μ.1 232 7) 38 = true then (Option.bind (some (fm_sA q76.2 236 (upd (q76.2.2.1 236) (μ.1 232 7).toNatClampNeg q76.1))) (fun m79 => (Option.bind (f_X9_number F 0 9 m79) (fun q81 => (if ab_in (4 + (m79.1 232 7)) 38 = true then (Option.bind (some (fm_sA q81.2 236 (upd (q81.2.2.1 236) (4 + (m79.1 232 7)).toNatClampNeg q81.1))) (fun m84 => (Option.bind (some (fm_sI m84 232 7 ((m84.1 232 7) + 1))) (fun m86 => some ((), m86))))) else none))))) else none)))) else (if ab_in 23 38 = true then (if ab_in (8 + (μ.2.1 236 (23 : Int32).toNatClampNeg)) 38 = true then (Option.bind (some (fm_sA μ 236 (upd (μ.2.1 236) (8 + (μ.2.1 236 (23 : Int32).toNatClampNeg)).toNatClampNeg x0))) (fun m90 => (Option.bind (f_X9_number F 0 99 m90) (fun q92 => (if ab_in (13 + (μ.2.1 236 (23 : Int32).toNatClampNeg)) 38 = true then (Option.bind (some (fm_sA q92.2 236 (upd (q92.2.2.1 236) (13 + (μ.2.1 236 (23 : Int32).toNatClampNeg)).toNatClampNeg q92.1))) (fun m95 => (Option.bind (f_X9_oneHere F m95) (fun q97 => (if ab_in (18 + (μ.2.1 236 (23 : Int32).toNatClampNeg)) 38 = true then (Option.bind (some (fm_sA q97.2 236 (upd (q97.2.2.1 236) (18 + (μ.2.1 236 (23 : Int32).toNatClampNeg)).toNatClampNeg q97.1))) (fun m100 => (if ab_in 23 38 = true then (if ab_in 23 38 = true then (Option.bind (some (fm_sA m100 236 (upd (m100.2.1 236) (23 : Int32).toNatClampNeg ((m100.2.1 236 (23 : Int32).toNatClampNeg) + 1)))) (fun m104 => some ((), m104))) else none) else none))) else none))))) else none))))) else none) else none))
set_option maxRecDepth 20000 in
theorem t_X9_readMore {X : Nat × (Nat → Int32)} {G : Nat → Nat → Option Nat} (hG : fm_Gok G) {F : Nat}   {x0 : Int32} {μ : fm_M} {r : Unit × fm_M} (hf : f_X9_readMore F x0 μ = some r) : ab_F 6 145 [.ref 232, .int x0] (hp X G μ) none (hp X G r.2) := by
  unfold f_X9_readMore at hf
  refine ab_T.of (d := 5) rfl (Nat.le_of_ble_eq_true rfl) ?_
  show ab_U _ _ kX9_readMore (0, [some (.ref 232), some (.int x0), none], [], hp X G μ) _
  refine ab_U.run 2 (S' := (2, [some (.ref 232), some (.int x0), none], [.int 3, .int x0], hp X G μ)) rfl ?_
  refine ab_U.ic_gt rfl (fun b1 => ?_) (fun b1 => ?_)
  · rw [if_pos b1] at hf
    refine ab_U.run 2 (S' := (68, [some (.ref 232), some (.int x0), none], [.int 4, .int x0], hp X G μ)) rfl ?_
    refine ab_U.ic_ne rfl (fun b2 => ?_) (fun b2 => ?_)
    · rw [if_pos b2] at hf
      refine ab_U.run 2 (S' := (119, [some (.ref 232), some (.int x0), none], [.int 5, .int x0], hp X G μ)) rfl ?_
      refine ab_U.ic_ne rfl (fun b3 => ?_) (fun b3 => ?_)
      · rw [if_pos b3] at hf
        refine ab_U.run 2 (S' := (132, [some (.ref 232), some (.int x0), none], [.int 6, .int x0], hp X G μ)) rfl ?_
        refine ab_U.ic_ne rfl (fun b4 => ?_) (fun b4 => ?_)
        · rw [if_pos b4] at hf
          refine ab_U.run 2 (S' := (172, [some (.ref 232), some (.int x0), none], [.int 7, .int x0], hp X G μ)) rfl ?_
          refine ab_U.ic_ne rfl (fun b5 => ?_) (fun b5 => ?_)
          · rw [if_pos b5] at hf
            refine ab_U.run 2 (S' := (198, [some (.ref 232), some (.int x0), none], [.int (μ.1 232 15)], hp X G μ)) rfl ?_
            refine ab_U.if_ne rfl (fun b6 => ?_) (fun b6 => ?_)
            · rw [if_pos b6] at hf
              refine ab_U.run 3 (S' := (247, [some (.ref 232), some (.int x0), none], [.int 5, .int 0, .ref 232], hp X G μ)) rfl ?_
              obtain ⟨q7, h8, hf⟩ := ab_bnd hf
              refine ab_U.fn rfl rfl (t_X9_number (X := X) hG h8) (by omega) ?_
              show ab_U _ _ _ (250, [some (.ref 232), some (.int x0), none], [.int q7.1], hp X G q7.2) _
              refine ab_U.run 8 (S' := (260, [some (.ref 232), some (.int x0), some (.int q7.1)], [.int ((q7.2.1 232 10) ||| (1 <<< (q7.1 &&& 31))), .ref 232], hp X G q7.2)) rfl ?_
              obtain ⟨m9, e10, hf⟩ := ab_bnd hf
              have e10 := Option.some.inj e10
              refine ab_U.pfI (ci := 9) (k9 := 10) rfl ⟨by decide, rfl⟩ ⟨rfl, rfl, by decide, rfl⟩ rfl ?_
              show ab_U _ _ _ (263, [some (.ref 232), some (.int x0), some (.int q7.1)], [], hp X G (fm_sI q7.2 232 10 ((q7.2.1 232 10) ||| (1 <<< (q7.1 &&& 31))))) _
              rw [e10]
              refine ab_U.run 8 (S' := (275, [some (.ref 232), some (.int x0), some (.int q7.1)], [.int 9, .int 1, .ref 232, .int (27 + q7.1), .ref 236], hp X G m9)) rfl ?_
              obtain ⟨q11, h12, hf⟩ := ab_bnd hf
              refine ab_U.fn rfl rfl (t_X9_number (X := X) hG h12) (by omega) ?_
              show ab_U _ _ _ (278, [some (.ref 232), some (.int x0), some (.int q7.1)], [.int q11.1, .int (27 + q7.1), .ref 236], hp X G q11.2) _
              refine ab_U.run 2 (S' := (280, [some (.ref 232), some (.int x0), some (.int q7.1)], [.int (q11.1 - 1), .int (27 + q7.1), .ref 236], hp X G q11.2)) rfl ?_
              obtain ⟨c13, hf⟩ := ab_ifs hf
              obtain ⟨m14, e15, hf⟩ := ab_bnd hf
              have e15 := Option.some.inj e15
              refine ab_U.iast (n := 38) rfl ⟨by decide, rfl⟩ c13 ?_
              show ab_U _ _ _ (281, [some (.ref 232), some (.int x0), some (.int q7.1)], [], hp X G (fm_sA q11.2 236 (upd (q11.2.2.1 236) (27 + q7.1).toNatClampNeg (q11.1 - 1)))) _
              rw [e15]
              obtain rfl := Option.some.inj hf
              exact ab_U.ret rfl rfl ⟨rfl, rfl⟩
            · rw [if_neg b6] at hf
              refine ab_U.run 3 (S' := (206, [some (.ref 232), some (.int x0), none], [.int 2, .int (μ.1 232 19)], hp X G μ)) rfl ?_
              refine ab_U.ic_ne rfl (fun b16 => ?_) (fun b16 => ?_)
              · rw [if_pos b16] at hf
                refine ab_U.run 3 (S' := (247, [some (.ref 232), some (.int x0), none], [.int 5, .int 0, .ref 232], hp X G μ)) rfl ?_
                obtain ⟨q17, h18, hf⟩ := ab_bnd hf
                refine ab_U.fn rfl rfl (t_X9_number (X := X) hG h18) (by omega) ?_
                show ab_U _ _ _ (250, [some (.ref 232), some (.int x0), none], [.int q17.1], hp X G q17.2) _
                refine ab_U.run 8 (S' := (260, [some (.ref 232), some (.int x0), some (.int q17.1)], [.int ((q17.2.1 232 10) ||| (1 <<< (q17.1 &&& 31))), .ref 232], hp X G q17.2)) rfl ?_
                obtain ⟨m19, e20, hf⟩ := ab_bnd hf
                have e20 := Option.some.inj e20
                refine ab_U.pfI (ci := 9) (k9 := 10) rfl ⟨by decide, rfl⟩ ⟨rfl, rfl, by decide, rfl⟩ rfl ?_
                show ab_U _ _ _ (263, [some (.ref 232), some (.int x0), some (.int q17.1)], [], hp X G (fm_sI q17.2 232 10 ((q17.2.1 232 10) ||| (1 <<< (q17.1 &&& 31))))) _
                rw [e20]
                refine ab_U.run 8 (S' := (275, [some (.ref 232), some (.int x0), some (.int q17.1)], [.int 9, .int 1, .ref 232, .int (27 + q17.1), .ref 236], hp X G m19)) rfl ?_
                obtain ⟨q21, h22, hf⟩ := ab_bnd hf
                refine ab_U.fn rfl rfl (t_X9_number (X := X) hG h22) (by omega) ?_
                show ab_U _ _ _ (278, [some (.ref 232), some (.int x0), some (.int q17.1)], [.int q21.1, .int (27 + q17.1), .ref 236], hp X G q21.2) _
                refine ab_U.run 2 (S' := (280, [some (.ref 232), some (.int x0), some (.int q17.1)], [.int (q21.1 - 1), .int (27 + q17.1), .ref 236], hp X G q21.2)) rfl ?_
                obtain ⟨c23, hf⟩ := ab_ifs hf
                obtain ⟨m24, e25, hf⟩ := ab_bnd hf
                have e25 := Option.some.inj e25
                refine ab_U.iast (n := 38) rfl ⟨by decide, rfl⟩ c23 ?_
                show ab_U _ _ _ (281, [some (.ref 232), some (.int x0), some (.int q17.1)], [], hp X G (fm_sA q21.2 236 (upd (q21.2.2.1 236) (27 + q17.1).toNatClampNeg (q21.1 - 1)))) _
                rw [e25]
                obtain rfl := Option.some.inj hf
                exact ab_U.ret rfl rfl ⟨rfl, rfl⟩
              · rw [if_neg b16] at hf
                refine ab_U.run 5 (S' := (218, [some (.ref 232), some (.int x0), none], [.long (Int64.ofNat 5), .long (Int64.ofNat 0), .long ((μ.1 232 20)).toInt64], hp X G μ)) rfl ?_
                obtain ⟨q26, h27, hf⟩ := ab_bnd hf
                refine ab_U.fn rfl rfl (t_X9_in (X := X) hG h27) (by omega) ?_
                show ab_U _ _ _ (221, [some (.ref 232), some (.int x0), none], [.int q26.1], hp X G q26.2) _
                refine ab_U.if_eq rfl (fun b28 => ?_) (fun b28 => ?_)
                · rw [if_pos b28] at hf
                  refine ab_U.run 3 (S' := (247, [some (.ref 232), some (.int x0), none], [.int 5, .int 0, .ref 232], hp X G q26.2)) rfl ?_
                  obtain ⟨q29, h30, hf⟩ := ab_bnd hf
                  refine ab_U.fn rfl rfl (t_X9_number (X := X) hG h30) (by omega) ?_
                  show ab_U _ _ _ (250, [some (.ref 232), some (.int x0), none], [.int q29.1], hp X G q29.2) _
                  refine ab_U.run 8 (S' := (260, [some (.ref 232), some (.int x0), some (.int q29.1)], [.int ((q29.2.1 232 10) ||| (1 <<< (q29.1 &&& 31))), .ref 232], hp X G q29.2)) rfl ?_
                  obtain ⟨m31, e32, hf⟩ := ab_bnd hf
                  have e32 := Option.some.inj e32
                  refine ab_U.pfI (ci := 9) (k9 := 10) rfl ⟨by decide, rfl⟩ ⟨rfl, rfl, by decide, rfl⟩ rfl ?_
                  show ab_U _ _ _ (263, [some (.ref 232), some (.int x0), some (.int q29.1)], [], hp X G (fm_sI q29.2 232 10 ((q29.2.1 232 10) ||| (1 <<< (q29.1 &&& 31))))) _
                  rw [e32]
                  refine ab_U.run 8 (S' := (275, [some (.ref 232), some (.int x0), some (.int q29.1)], [.int 9, .int 1, .ref 232, .int (27 + q29.1), .ref 236], hp X G m31)) rfl ?_
                  obtain ⟨q33, h34, hf⟩ := ab_bnd hf
                  refine ab_U.fn rfl rfl (t_X9_number (X := X) hG h34) (by omega) ?_
                  show ab_U _ _ _ (278, [some (.ref 232), some (.int x0), some (.int q29.1)], [.int q33.1, .int (27 + q29.1), .ref 236], hp X G q33.2) _
                  refine ab_U.run 2 (S' := (280, [some (.ref 232), some (.int x0), some (.int q29.1)], [.int (q33.1 - 1), .int (27 + q29.1), .ref 236], hp X G q33.2)) rfl ?_
                  obtain ⟨c35, hf⟩ := ab_ifs hf
                  obtain ⟨m36, e37, hf⟩ := ab_bnd hf
                  have e37 := Option.some.inj e37
                  refine ab_U.iast (n := 38) rfl ⟨by decide, rfl⟩ c35 ?_
                  show ab_U _ _ _ (281, [some (.ref 232), some (.int x0), some (.int q29.1)], [], hp X G (fm_sA q33.2 236 (upd (q33.2.2.1 236) (27 + q29.1).toNatClampNeg (q33.1 - 1)))) _
                  rw [e37]
                  obtain rfl := Option.some.inj hf
                  exact ab_U.ret rfl rfl ⟨rfl, rfl⟩
                · rw [if_neg b28] at hf
                  refine ab_U.run 8 (S' := (236, [some (.ref 232), some (.int x0), none], [.int 1, .int (((q26.2.1 232 10) >>> ((q26.2.1 232 20) &&& 31)) &&& 1)], hp X G q26.2)) rfl ?_
                  refine ab_U.ic_ne rfl (fun b38 => ?_) (fun b38 => ?_)
                  · rw [if_pos b38] at hf
                    refine ab_U.run 3 (S' := (247, [some (.ref 232), some (.int x0), none], [.int 5, .int 0, .ref 232], hp X G q26.2)) rfl ?_
                    obtain ⟨q39, h40, hf⟩ := ab_bnd hf
                    refine ab_U.fn rfl rfl (t_X9_number (X := X) hG h40) (by omega) ?_
                    show ab_U _ _ _ (250, [some (.ref 232), some (.int x0), none], [.int q39.1], hp X G q39.2) _
                    refine ab_U.run 8 (S' := (260, [some (.ref 232), some (.int x0), some (.int q39.1)], [.int ((q39.2.1 232 10) ||| (1 <<< (q39.1 &&& 31))), .ref 232], hp X G q39.2)) rfl ?_
                    obtain ⟨m41, e42, hf⟩ := ab_bnd hf
                    have e42 := Option.some.inj e42
                    refine ab_U.pfI (ci := 9) (k9 := 10) rfl ⟨by decide, rfl⟩ ⟨rfl, rfl, by decide, rfl⟩ rfl ?_
                    show ab_U _ _ _ (263, [some (.ref 232), some (.int x0), some (.int q39.1)], [], hp X G (fm_sI q39.2 232 10 ((q39.2.1 232 10) ||| (1 <<< (q39.1 &&& 31))))) _
                    rw [e42]
                    refine ab_U.run 8 (S' := (275, [some (.ref 232), some (.int x0), some (.int q39.1)], [.int 9, .int 1, .ref 232, .int (27 + q39.1), .ref 236], hp X G m41)) rfl ?_
                    obtain ⟨q43, h44, hf⟩ := ab_bnd hf
                    refine ab_U.fn rfl rfl (t_X9_number (X := X) hG h44) (by omega) ?_
                    show ab_U _ _ _ (278, [some (.ref 232), some (.int x0), some (.int q39.1)], [.int q43.1, .int (27 + q39.1), .ref 236], hp X G q43.2) _
                    refine ab_U.run 2 (S' := (280, [some (.ref 232), some (.int x0), some (.int q39.1)], [.int (q43.1 - 1), .int (27 + q39.1), .ref 236], hp X G q43.2)) rfl ?_
                    obtain ⟨c45, hf⟩ := ab_ifs hf
                    obtain ⟨m46, e47, hf⟩ := ab_bnd hf
                    have e47 := Option.some.inj e47
                    refine ab_U.iast (n := 38) rfl ⟨by decide, rfl⟩ c45 ?_
                    show ab_U _ _ _ (281, [some (.ref 232), some (.int x0), some (.int q39.1)], [], hp X G (fm_sA q43.2 236 (upd (q43.2.2.1 236) (27 + q39.1).toNatClampNeg (q43.1 - 1)))) _
                    rw [e47]
                    obtain rfl := Option.some.inj hf
                    exact ab_U.ret rfl rfl ⟨rfl, rfl⟩
                  · rw [if_neg b38] at hf
                    refine ab_U.run 2 (S' := (241, [some (.ref 232), some (.int x0), none], [.int 4, .ref 232], hp X G q26.2)) rfl ?_
                    obtain ⟨q48, h49, hf⟩ := ab_bnd hf
                    refine ab_U.fn rfl rfl (t_X9_fails (X := X) hG h49) (by omega) ?_
                    show ab_U _ _ _ (244, [some (.ref 232), some (.int x0), none], [], hp X G q48.2) _
                    refine ab_U.run 3 (S' := (247, [some (.ref 232), some (.int x0), none], [.int 5, .int 0, .ref 232], hp X G q48.2)) rfl ?_
                    obtain ⟨q50, h51, hf⟩ := ab_bnd hf
                    refine ab_U.fn rfl rfl (t_X9_number (X := X) hG h51) (by omega) ?_
                    show ab_U _ _ _ (250, [some (.ref 232), some (.int x0), none], [.int q50.1], hp X G q50.2) _
                    refine ab_U.run 8 (S' := (260, [some (.ref 232), some (.int x0), some (.int q50.1)], [.int ((q50.2.1 232 10) ||| (1 <<< (q50.1 &&& 31))), .ref 232], hp X G q50.2)) rfl ?_
                    obtain ⟨m52, e53, hf⟩ := ab_bnd hf
                    have e53 := Option.some.inj e53
                    refine ab_U.pfI (ci := 9) (k9 := 10) rfl ⟨by decide, rfl⟩ ⟨rfl, rfl, by decide, rfl⟩ rfl ?_
                    show ab_U _ _ _ (263, [some (.ref 232), some (.int x0), some (.int q50.1)], [], hp X G (fm_sI q50.2 232 10 ((q50.2.1 232 10) ||| (1 <<< (q50.1 &&& 31))))) _
                    rw [e53]
                    refine ab_U.run 8 (S' := (275, [some (.ref 232), some (.int x0), some (.int q50.1)], [.int 9, .int 1, .ref 232, .int (27 + q50.1), .ref 236], hp X G m52)) rfl ?_
                    obtain ⟨q54, h55, hf⟩ := ab_bnd hf
                    refine ab_U.fn rfl rfl (t_X9_number (X := X) hG h55) (by omega) ?_
                    show ab_U _ _ _ (278, [some (.ref 232), some (.int x0), some (.int q50.1)], [.int q54.1, .int (27 + q50.1), .ref 236], hp X G q54.2) _
                    refine ab_U.run 2 (S' := (280, [some (.ref 232), some (.int x0), some (.int q50.1)], [.int (q54.1 - 1), .int (27 + q50.1), .ref 236], hp X G q54.2)) rfl ?_
                    obtain ⟨c56, hf⟩ := ab_ifs hf
                    obtain ⟨m57, e58, hf⟩ := ab_bnd hf
                    have e58 := Option.some.inj e58
                    refine ab_U.iast (n := 38) rfl ⟨by decide, rfl⟩ c56 ?_
                    show ab_U _ _ _ (281, [some (.ref 232), some (.int x0), some (.int q50.1)], [], hp X G (fm_sA q54.2 236 (upd (q54.2.2.1 236) (27 + q50.1).toNatClampNeg (q54.1 - 1)))) _
                    rw [e58]
                    obtain rfl := Option.some.inj hf
                    exact ab_U.ret rfl rfl ⟨rfl, rfl⟩
          · rw [if_neg b5] at hf
            refine ab_U.run 6 (S' := (185, [some (.ref 232), some (.int x0), none], [.int 10, .int 0, .ref 232, .int 26, .ref 236], hp X G μ)) rfl ?_
            obtain ⟨q59, h60, hf⟩ := ab_bnd hf
            refine ab_U.fn rfl rfl (t_X9_number (X := X) hG h60) (by omega) ?_
            show ab_U _ _ _ (188, [some (.ref 232), some (.int x0), none], [.int q59.1, .int 26, .ref 236], hp X G q59.2) _
            refine ab_U.run 2 (S' := (190, [some (.ref 232), some (.int x0), none], [.int (q59.1 - 2), .int 26, .ref 236], hp X G q59.2)) rfl ?_
            obtain ⟨c61, hf⟩ := ab_ifs hf
            obtain ⟨m62, e63, hf⟩ := ab_bnd hf
            have e63 := Option.some.inj e63
            refine ab_U.iast (n := 38) rfl ⟨by decide, rfl⟩ c61 ?_
            show ab_U _ _ _ (191, [some (.ref 232), some (.int x0), none], [], hp X G (fm_sA q59.2 236 (upd (q59.2.2.1 236) (26 : Int32).toNatClampNeg (q59.1 - 2)))) _
            rw [e63]
            refine ab_U.run 1 (S' := (281, [some (.ref 232), some (.int x0), none], [], hp X G m62)) rfl ?_
            obtain rfl := Option.some.inj hf
            exact ab_U.ret rfl rfl ⟨rfl, rfl⟩
        · rw [if_neg b4] at hf
          refine ab_U.run 6 (S' := (145, [some (.ref 232), some (.int x0), none], [.int 9, .int 0, .ref 232, .int 24, .ref 236], hp X G μ)) rfl ?_
          obtain ⟨q64, h65, hf⟩ := ab_bnd hf
          refine ab_U.fn rfl rfl (t_X9_number (X := X) hG h65) (by omega) ?_
          show ab_U _ _ _ (148, [some (.ref 232), some (.int x0), none], [.int q64.1, .int 24, .ref 236], hp X G q64.2) _
          obtain ⟨c66, hf⟩ := ab_ifs hf
          obtain ⟨m67, e68, hf⟩ := ab_bnd hf
          have e68 := Option.some.inj e68
          refine ab_U.iast (n := 38) rfl ⟨by decide, rfl⟩ c66 ?_
          show ab_U _ _ _ (149, [some (.ref 232), some (.int x0), none], [], hp X G (fm_sA q64.2 236 (upd (q64.2.2.1 236) (24 : Int32).toNatClampNeg q64.1))) _
          rw [e68]
          refine ab_U.run 6 (S' := (159, [some (.ref 232), some (.int x0), none], [.int 99, .int 5, .ref 232, .int 25, .ref 236], hp X G m67)) rfl ?_
          obtain ⟨q69, h70, hf⟩ := ab_bnd hf
          refine ab_U.fn rfl rfl (t_X9_number (X := X) hG h70) (by omega) ?_
          show ab_U _ _ _ (162, [some (.ref 232), some (.int x0), none], [.int q69.1, .int 25, .ref 236], hp X G q69.2) _
          refine ab_U.run 2 (S' := (165, [some (.ref 232), some (.int x0), none], [.int (q69.1 - 50), .int 25, .ref 236], hp X G q69.2)) rfl ?_
          obtain ⟨c71, hf⟩ := ab_ifs hf
          obtain ⟨m72, e73, hf⟩ := ab_bnd hf
          have e73 := Option.some.inj e73
          refine ab_U.iast (n := 38) rfl ⟨by decide, rfl⟩ c71 ?_
          show ab_U _ _ _ (166, [some (.ref 232), some (.int x0), none], [], hp X G (fm_sA q69.2 236 (upd (q69.2.2.1 236) (25 : Int32).toNatClampNeg (q69.1 - 50)))) _
          rw [e73]
          refine ab_U.run 1 (S' := (281, [some (.ref 232), some (.int x0), none], [], hp X G m72)) rfl ?_
          obtain rfl := Option.some.inj hf
          exact ab_U.ret rfl rfl ⟨rfl, rfl⟩
      · rw [if_neg b3] at hf
        refine ab_U.run 1 (S' := (123, [some (.ref 232), some (.int x0), none], [.ref 232], hp X G μ)) rfl ?_
        obtain ⟨q74, h75, hf⟩ := ab_bnd hf
        refine ab_U.fn rfl rfl (t_X9_readDebt (X := X) hG h75) (by omega) ?_
        show ab_U _ _ _ (126, [some (.ref 232), some (.int x0), none], [], hp X G q74.2) _
        refine ab_U.run 1 (S' := (281, [some (.ref 232), some (.int x0), none], [], hp X G q74.2)) rfl ?_
        obtain rfl := Option.some.inj hf
        exact ab_U.ret rfl rfl ⟨rfl, rfl⟩
    · rw [if_neg b2] at hf
      refine ab_U.run 7 (S' := (82, [some (.ref 232), some (.int x0), none], [.int 5, .int 0, .ref 232, .int (μ.1 232 7), .ref 236], hp X G μ)) rfl ?_
      obtain ⟨q76, h77, hf⟩ := ab_bnd hf
      refine ab_U.fn rfl rfl (t_X9_number (X := X) hG h77) (by omega) ?_
      show ab_U _ _ _ (85, [some (.ref 232), some (.int x0), none], [.int q76.1, .int (μ.1 232 7), .ref 236], hp X G q76.2) _
      obtain ⟨c78, hf⟩ := ab_ifs hf
      obtain ⟨m79, e80, hf⟩ := ab_bnd hf
      have e80 := Option.some.inj e80
      refine ab_U.iast (n := 38) rfl ⟨by decide, rfl⟩ c78 ?_
      show ab_U _ _ _ (86, [some (.ref 232), some (.int x0), none], [], hp X G (fm_sA q76.2 236 (upd (q76.2.2.1 236) (μ.1 232 7).toNatClampNeg q76.1))) _
      rw [e80]
      refine ab_U.run 9 (S' := (100, [some (.ref 232), some (.int x0), none], [.int 9, .int 0, .ref 232, .int (4 + (m79.1 232 7)), .ref 236], hp X G m79)) rfl ?_
      obtain ⟨q81, h82, hf⟩ := ab_bnd hf
      refine ab_U.fn rfl rfl (t_X9_number (X := X) hG h82) (by omega) ?_
      show ab_U _ _ _ (103, [some (.ref 232), some (.int x0), none], [.int q81.1, .int (4 + (m79.1 232 7)), .ref 236], hp X G q81.2) _
      obtain ⟨c83, hf⟩ := ab_ifs hf
      obtain ⟨m84, e85, hf⟩ := ab_bnd hf
      have e85 := Option.some.inj e85
      refine ab_U.iast (n := 38) rfl ⟨by decide, rfl⟩ c83 ?_
      show ab_U _ _ _ (104, [some (.ref 232), some (.int x0), none], [], hp X G (fm_sA q81.2 236 (upd (q81.2.2.1 236) (4 + (m79.1 232 7)).toNatClampNeg q81.1))) _
      rw [e85]
      refine ab_U.run 5 (S' := (111, [some (.ref 232), some (.int x0), none], [.int ((m84.1 232 7) + 1), .ref 232], hp X G m84)) rfl ?_
      obtain ⟨m86, e87, hf⟩ := ab_bnd hf
      have e87 := Option.some.inj e87
      refine ab_U.pfI (ci := 9) (k9 := 7) rfl ⟨by decide, rfl⟩ ⟨rfl, rfl, by decide, rfl⟩ rfl ?_
      show ab_U _ _ _ (114, [some (.ref 232), some (.int x0), none], [], hp X G (fm_sI m84 232 7 ((m84.1 232 7) + 1))) _
      rw [e87]
      refine ab_U.run 1 (S' := (281, [some (.ref 232), some (.int x0), none], [], hp X G m86)) rfl ?_
      obtain rfl := Option.some.inj hf
      exact ab_U.ret rfl rfl ⟨rfl, rfl⟩
  · rw [if_neg b1] at hf
    refine ab_U.run 3 (S' := (11, [some (.ref 232), some (.int x0), none], [.int 23, .ref 236], hp X G μ)) rfl ?_
    obtain ⟨c88, hf⟩ := ab_ifs hf
    refine ab_U.iald (n := 38) rfl ⟨by decide, rfl⟩ c88 ?_
    show ab_U _ _ _ (12, [some (.ref 232), some (.int x0), none], [.int (μ.2.1 236 (23 : Int32).toNatClampNeg)], hp X G μ) _
    refine ab_U.run 7 (S' := (22, [some (.ref 232), some (.int x0), some (.int (μ.2.1 236 (23 : Int32).toNatClampNeg))], [.int x0, .int (8 + (μ.2.1 236 (23 : Int32).toNatClampNeg)), .ref 236], hp X G μ)) rfl ?_
    obtain ⟨c89, hf⟩ := ab_ifs hf
    obtain ⟨m90, e91, hf⟩ := ab_bnd hf
    have e91 := Option.some.inj e91
    refine ab_U.iast (n := 38) rfl ⟨by decide, rfl⟩ c89 ?_
    show ab_U _ _ _ (23, [some (.ref 232), some (.int x0), some (.int (μ.2.1 236 (23 : Int32).toNatClampNeg))], [], hp X G (fm_sA μ 236 (upd (μ.2.1 236) (8 + (μ.2.1 236 (23 : Int32).toNatClampNeg)).toNatClampNeg x0))) _
    rw [e91]
    refine ab_U.run 8 (S' := (35, [some (.ref 232), some (.int x0), some (.int (μ.2.1 236 (23 : Int32).toNatClampNeg))], [.int 99, .int 0, .ref 232, .int (13 + (μ.2.1 236 (23 : Int32).toNatClampNeg)), .ref 236], hp X G m90)) rfl ?_
    obtain ⟨q92, h93, hf⟩ := ab_bnd hf
    refine ab_U.fn rfl rfl (t_X9_number (X := X) hG h93) (by omega) ?_
    show ab_U _ _ _ (38, [some (.ref 232), some (.int x0), some (.int (μ.2.1 236 (23 : Int32).toNatClampNeg))], [.int q92.1, .int (13 + (μ.2.1 236 (23 : Int32).toNatClampNeg)), .ref 236], hp X G q92.2) _
    obtain ⟨c94, hf⟩ := ab_ifs hf
    obtain ⟨m95, e96, hf⟩ := ab_bnd hf
    have e96 := Option.some.inj e96
    refine ab_U.iast (n := 38) rfl ⟨by decide, rfl⟩ c94 ?_
    show ab_U _ _ _ (39, [some (.ref 232), some (.int x0), some (.int (μ.2.1 236 (23 : Int32).toNatClampNeg))], [], hp X G (fm_sA q92.2 236 (upd (q92.2.2.1 236) (13 + (μ.2.1 236 (23 : Int32).toNatClampNeg)).toNatClampNeg q92.1))) _
    rw [e96]
    refine ab_U.run 6 (S' := (48, [some (.ref 232), some (.int x0), some (.int (μ.2.1 236 (23 : Int32).toNatClampNeg))], [.ref 232, .int (18 + (μ.2.1 236 (23 : Int32).toNatClampNeg)), .ref 236], hp X G m95)) rfl ?_
    obtain ⟨q97, h98, hf⟩ := ab_bnd hf
    refine ab_U.fn rfl rfl (t_X9_oneHere (X := X) hG h98) (by omega) ?_
    show ab_U _ _ _ (51, [some (.ref 232), some (.int x0), some (.int (μ.2.1 236 (23 : Int32).toNatClampNeg))], [.int q97.1, .int (18 + (μ.2.1 236 (23 : Int32).toNatClampNeg)), .ref 236], hp X G q97.2) _
    obtain ⟨c99, hf⟩ := ab_ifs hf
    obtain ⟨m100, e101, hf⟩ := ab_bnd hf
    have e101 := Option.some.inj e101
    refine ab_U.iast (n := 38) rfl ⟨by decide, rfl⟩ c99 ?_
    show ab_U _ _ _ (52, [some (.ref 232), some (.int x0), some (.int (μ.2.1 236 (23 : Int32).toNatClampNeg))], [], hp X G (fm_sA q97.2 236 (upd (q97.2.2.1 236) (18 + (μ.2.1 236 (23 : Int32).toNatClampNeg)).toNatClampNeg q97.1))) _
    rw [e101]
    refine ab_U.run 4 (S' := (59, [some (.ref 232), some (.int x0), some (.int (μ.2.1 236 (23 : Int32).toNatClampNeg))], [.int 23, .ref 236, .int 23, .ref 236], hp X G m100)) rfl ?_
    obtain ⟨c102, hf⟩ := ab_ifs hf
    refine ab_U.iald (n := 38) rfl ⟨by decide, rfl⟩ c102 ?_
    show ab_U _ _ _ (60, [some (.ref 232), some (.int x0), some (.int (μ.2.1 236 (23 : Int32).toNatClampNeg))], [.int (m100.2.1 236 (23 : Int32).toNatClampNeg), .int 23, .ref 236], hp X G m100) _
    refine ab_U.run 2 (S' := (62, [some (.ref 232), some (.int x0), some (.int (μ.2.1 236 (23 : Int32).toNatClampNeg))], [.int ((m100.2.1 236 (23 : Int32).toNatClampNeg) + 1), .int 23, .ref 236], hp X G m100)) rfl ?_
    obtain ⟨c103, hf⟩ := ab_ifs hf
    obtain ⟨m104, e105, hf⟩ := ab_bnd hf
    have e105 := Option.some.inj e105
    refine ab_U.iast (n := 38) rfl ⟨by decide, rfl⟩ c103 ?_
    show ab_U _ _ _ (63, [some (.ref 232), some (.int x0), some (.int (μ.2.1 236 (23 : Int32).toNatClampNeg))], [], hp X G (fm_sA m100 236 (upd (m100.2.1 236) (23 : Int32).toNatClampNeg ((m100.2.1 236 (23 : Int32).toNatClampNeg) + 1)))) _
    rw [e105]
    refine ab_U.run 1 (S' := (281, [some (.ref 232), some (.int x0), some (.int (μ.2.1 236 (23 : Int32).toNatClampNeg))], [], hp X G m104)) rfl ?_
    obtain rfl := Option.some.inj hf
    exact ab_U.ret rfl rfl ⟨rfl, rfl⟩
