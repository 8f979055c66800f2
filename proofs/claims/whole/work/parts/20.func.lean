/-! by program: each method as a function over the memory, and that our machine does it -/
set_option maxRecDepth 20000 in
def f_X7_addDebt (F : Nat) (w : Nat) (x0 : Int32) (x1 : Int32) (x2 : Int32) (μ : fm_M) : Option (Unit × fm_M) := (if 4 ≤ (μ.1 w 11) then some ((), μ) else (if ab_in (μ.1 w 11) 4 = true then (Option.bind (some (fm_sA μ ((w + 7)) (upd (μ.2.1 ((w + 7))) (μ.1 w 11).toNatClampNeg x0))) (fun m3 => (if ab_in (m3.1 w 11) 4 = true then (Option.bind (some (fm_sA m3 ((w + 8)) (upd (m3.2.1 ((w + 8))) (m3.1 w 11).toNatClampNeg x1))) (fun m6 => (if ab_in (m6.1 w 11) 4 = true then (Option.bind (some (fm_sA m6 ((w + 9)) (upd (m6.2.1 ((w + 9))) (m6.1 w 11).toNatClampNeg x2))) (fun m9 => (Option.bind (some (fm_sI m9 w 11 ((m9.1 w 11) + 1))) (fun m11 => some ((), m11))))) else none))) else none))) else none))
set_option maxRecDepth 20000 in
theorem t_X7_addDebt {X : Nat × (Nat → Int32)} {G : Nat → Nat → Option Nat} (hG : fm_Gok G) {F : Nat} {w : Nat} (hw : fm_isW w = true) {x0 : Int32} {x1 : Int32} {x2 : Int32} {μ : fm_M} {r : Unit × fm_M} (hf : f_X7_addDebt F w x0 x1 x2 μ = some r) : ab_F 1 60 [.ref w, .int x0, .int x1, .int x2] (hp X G μ) none (hp X G r.2) := by
  unfold f_X7_addDebt at hf
  refine ab_T.of (d := 0) rfl (Nat.le_of_ble_eq_true rfl) ?_
  show ab_U _ _ kX7_addDebt (0, [some (.ref w), some (.int x0), some (.int x1), some (.int x2)], [], hp X G μ) _
  refine ab_U.run 1 (S' := (1, [some (.ref w), some (.int x0), some (.int x1), some (.int x2)], [.ref w], hp X G μ)) rfl ?_
  refine ab_U.gfI (ci := 7) (k9 := 11) rfl (fm_WO hw) ⟨rfl, rfl, by decide, rfl⟩ ?_
  show ab_U _ _ _ (4, [some (.ref w), some (.int x0), some (.int x1), some (.int x2)], [.int (μ.1 w 11)], hp X G μ) _
  refine ab_U.run 1 (S' := (5, [some (.ref w), some (.int x0), some (.int x1), some (.int x2)], [.int 4, .int (μ.1 w 11)], hp X G μ)) rfl ?_
  refine ab_U.ic_ge rfl (fun b1 => ?_) (fun b1 => ?_)
  · rw [if_pos b1] at hf
    obtain rfl := Option.some.inj hf
    exact ab_U.ret rfl rfl ⟨rfl, rfl⟩
  · rw [if_neg b1] at hf
    refine ab_U.run 1 (S' := (9, [some (.ref w), some (.int x0), some (.int x1), some (.int x2)], [.ref w], hp X G μ)) rfl ?_
    refine ab_U.gfW (k9 := 12) rfl hw ⟨rfl, rfl, by decide, rfl⟩ ?_
    show ab_U _ _ _ (12, [some (.ref w), some (.int x0), some (.int x1), some (.int x2)], [.ref (w + 7)], hp X G μ) _
    refine ab_U.run 1 (S' := (13, [some (.ref w), some (.int x0), some (.int x1), some (.int x2)], [.ref w, .ref (w + 7)], hp X G μ)) rfl ?_
    refine ab_U.gfI (ci := 7) (k9 := 11) rfl (fm_WO hw) ⟨rfl, rfl, by decide, rfl⟩ ?_
    show ab_U _ _ _ (16, [some (.ref w), some (.int x0), some (.int x1), some (.int x2)], [.int (μ.1 w 11), .ref (w + 7)], hp X G μ) _
    refine ab_U.run 1 (S' := (17, [some (.ref w), some (.int x0), some (.int x1), some (.int x2)], [.int x0, .int (μ.1 w 11), .ref (w + 7)], hp X G μ)) rfl ?_
    obtain ⟨c2, hf⟩ := ab_ifs hf
    obtain ⟨m3, e4, hf⟩ := ab_bnd hf
    have e4 := Option.some.inj e4
    refine ab_U.iast (n := 4) rfl (fm_WA hw).2.2.2.2.2.2.1 c2 ?_
    show ab_U _ _ _ (18, [some (.ref w), some (.int x0), some (.int x1), some (.int x2)], [], hp X G (fm_sA μ ((w + 7)) (upd (μ.2.1 ((w + 7))) (μ.1 w 11).toNatClampNeg x0))) _
    rw [e4]
    refine ab_U.run 1 (S' := (19, [some (.ref w), some (.int x0), some (.int x1), some (.int x2)], [.ref w], hp X G m3)) rfl ?_
    refine ab_U.gfW (k9 := 13) rfl hw ⟨rfl, rfl, by decide, rfl⟩ ?_
    show ab_U _ _ _ (22, [some (.ref w), some (.int x0), some (.int x1), some (.int x2)], [.ref (w + 8)], hp X G m3) _
    refine ab_U.run 1 (S' := (23, [some (.ref w), some (.int x0), some (.int x1), some (.int x2)], [.ref w, .ref (w + 8)], hp X G m3)) rfl ?_
    refine ab_U.gfI (ci := 7) (k9 := 11) rfl (fm_WO hw) ⟨rfl, rfl, by decide, rfl⟩ ?_
    show ab_U _ _ _ (26, [some (.ref w), some (.int x0), some (.int x1), some (.int x2)], [.int (m3.1 w 11), .ref (w + 8)], hp X G m3) _
    refine ab_U.run 1 (S' := (27, [some (.ref w), some (.int x0), some (.int x1), some (.int x2)], [.int x1, .int (m3.1 w 11), .ref (w + 8)], hp X G m3)) rfl ?_
    obtain ⟨c5, hf⟩ := ab_ifs hf
    obtain ⟨m6, e7, hf⟩ := ab_bnd hf
    have e7 := Option.some.inj e7
    refine ab_U.iast (n := 4) rfl (fm_WA hw).2.2.2.2.2.2.2.1 c5 ?_
    show ab_U _ _ _ (28, [some (.ref w), some (.int x0), some (.int x1), some (.int x2)], [], hp X G (fm_sA m3 ((w + 8)) (upd (m3.2.1 ((w + 8))) (m3.1 w 11).toNatClampNeg x1))) _
    rw [e7]
    refine ab_U.run 1 (S' := (29, [some (.ref w), some (.int x0), some (.int x1), some (.int x2)], [.ref w], hp X G m6)) rfl ?_
    refine ab_U.gfW (k9 := 14) rfl hw ⟨rfl, rfl, by decide, rfl⟩ ?_
    show ab_U _ _ _ (32, [some (.ref w), some (.int x0), some (.int x1), some (.int x2)], [.ref (w + 9)], hp X G m6) _
    refine ab_U.run 1 (S' := (33, [some (.ref w), some (.int x0), some (.int x1), some (.int x2)], [.ref w, .ref (w + 9)], hp X G m6)) rfl ?_
    refine ab_U.gfI (ci := 7) (k9 := 11) rfl (fm_WO hw) ⟨rfl, rfl, by decide, rfl⟩ ?_
    show ab_U _ _ _ (36, [some (.ref w), some (.int x0), some (.int x1), some (.int x2)], [.int (m6.1 w 11), .ref (w + 9)], hp X G m6) _
    refine ab_U.run 1 (S' := (37, [some (.ref w), some (.int x0), some (.int x1), some (.int x2)], [.int x2, .int (m6.1 w 11), .ref (w + 9)], hp X G m6)) rfl ?_
    obtain ⟨c8, hf⟩ := ab_ifs hf
    obtain ⟨m9, e10, hf⟩ := ab_bnd hf
    have e10 := Option.some.inj e10
    refine ab_U.iast (n := 4) rfl (fm_WA hw).2.2.2.2.2.2.2.2 c8 ?_
    show ab_U _ _ _ (38, [some (.ref w), some (.int x0), some (.int x1), some (.int x2)], [], hp X G (fm_sA m6 ((w + 9)) (upd (m6.2.1 ((w + 9))) (m6.1 w 11).toNatClampNeg x2))) _
    rw [e10]
    refine ab_U.run 2 (S' := (40, [some (.ref w), some (.int x0), some (.int x1), some (.int x2)], [.ref w, .ref w], hp X G m9)) rfl ?_
    refine ab_U.gfI (ci := 7) (k9 := 11) rfl (fm_WO hw) ⟨rfl, rfl, by decide, rfl⟩ ?_
    show ab_U _ _ _ (43, [some (.ref w), some (.int x0), some (.int x1), some (.int x2)], [.int (m9.1 w 11), .ref w], hp X G m9) _
    refine ab_U.run 2 (S' := (45, [some (.ref w), some (.int x0), some (.int x1), some (.int x2)], [.int ((m9.1 w 11) + 1), .ref w], hp X G m9)) rfl ?_
    obtain ⟨m11, e12, hf⟩ := ab_bnd hf
    have e12 := Option.some.inj e12
    refine ab_U.pfI (ci := 7) (k9 := 11) rfl (fm_WO hw) ⟨rfl, rfl, by decide, rfl⟩ rfl ?_
    show ab_U _ _ _ (48, [some (.ref w), some (.int x0), some (.int x1), some (.int x2)], [], hp X G (fm_sI m9 w 11 ((m9.1 w 11) + 1))) _
    rw [e12]
    obtain rfl := Option.some.inj hf
    exact ab_U.ret rfl rfl ⟨rfl, rfl⟩
set_option maxRecDepth 20000 in
def f_X5_readDebt (F : Nat)   (μ : fm_M) : Option (Unit × fm_M) := (if (μ.1 111 11) < 4 then (Option.bind (f_X5_refuse F 0 5 μ) (fun q2 => (Option.bind (f_X5_readNumber F 0 3 q2.2) (fun q4 => (Option.bind (f_X5_readNumber F 0 3 q4.2) (fun q6 => (if ¬ q4.1 = q6.1 then (Option.bind (f_X5_refuse F 0 3 q6.2) (fun q9 => (Option.bind (f_X5_readNumber F 0 99 q9.2) (fun q11 => (Option.bind (f_X5_readSemicolon F q11.2) (fun q13 => (if q13.1 = 0 then some ((), q13.2) else (Option.bind (f_X7_addDebt F 111 q4.1 q6.1 q11.1 q13.2) (fun q16 => some ((), q16.2)))))))))) else (Option.bind (f_X5_refuse F 1 3 q6.2) (fun q18 => (Option.bind (f_X5_readNumber F 0 99 q18.2) (fun q20 => (Option.bind (f_X5_readSemicolon F q20.2) (fun q22 => (if q22.1 = 0 then some ((), q22.2) else (Option.bind (f_X7_addDebt F 111 q4.1 q6.1 q20.1 q22.2) (fun q25 => some ((), q25.2))))))))))))))))) else (Option.bind (f_X5_refuse F 1 5 μ) (fun q27 => (Option.bind (f_X5_readNumber F 0 3 q27.2) (fun q29 => (Option.bind (f_X5_readNumber F 0 3 q29.2) (fun q31 => (if ¬ q29.1 = q31.1 then (Option.bind (f_X5_refuse F 0 3 q31.2) (fun q34 => (Option.bind (f_X5_readNumber F 0 99 q34.2) (fun q36 => (Option.bind (f_X5_readSemicolon F q36.2) (fun q38 => (if q38.1 = 0 then some ((), q38.2) else (Option.bind (f_X7_addDebt F 111 q29.1 q31.1 q36.1 q38.2) (fun q41 => some ((), q41.2)))))))))) else (Option.bind (f_X5_refuse F 1 3 q31.2) (fun q43 => (Option.bind (f_X5_readNumber F 0 99 q43.2) (fun q45 => (Option.bind (f_X5_readSemicolon F q45.2) (fun q47 => (if q47.1 = 0 then some ((), q47.2) else (Option.bind (f_X7_addDebt F 111 q29.1 q31.1 q45.1 q47.2) (fun q50 => some ((), q50.2))))))))))))))))))
set_option maxRecDepth 20000 in
theorem t_X5_readDebt {X : Nat × (Nat → Int32)} {G : Nat → Nat → Option Nat} (hG : fm_Gok G) {F : Nat}    {μ : fm_M} {r : Unit × fm_M} (hf : f_X5_readDebt F  μ = some r) : ab_F 5 44 [.ref 123, .ref 111] (hp X G μ) none (hp X G r.2) := by
  unfold f_X5_readDebt at hf
  refine ab_T.of (d := 4) rfl (Nat.le_of_ble_eq_true rfl) ?_
  show ab_U _ _ kX5_readDebt (0, [some (.ref 123), some (.ref 111), none, none, none], [], hp X G μ) _
  refine ab_U.run 4 (S' := (6, [some (.ref 123), some (.ref 111), none, none, none], [.int 4, .int (μ.1 111 11), .ref 123], hp X G μ)) rfl ?_
  refine ab_U.ic_lt rfl (fun b1 => ?_) (fun b1 => ?_)
  · rw [if_pos b1] at hf
    refine ab_U.run 2 (S' := (15, [some (.ref 123), some (.ref 111), none, none, none], [.int 5, .int 0, .ref 123], hp X G μ)) rfl ?_
    obtain ⟨q2, h3, hf⟩ := ab_bnd hf
    refine ab_U.fn rfl rfl (t_X5_refuse (X := X) hG h3) (by omega) ?_
    show ab_U _ _ _ (18, [some (.ref 123), some (.ref 111), none, none, none], [], hp X G q2.2) _
    refine ab_U.run 3 (S' := (21, [some (.ref 123), some (.ref 111), none, none, none], [.int 3, .int 0, .ref 123], hp X G q2.2)) rfl ?_
    obtain ⟨q4, h5, hf⟩ := ab_bnd hf
    refine ab_U.fn rfl rfl (t_X5_readNumber (X := X) hG h5) (by omega) ?_
    show ab_U _ _ _ (24, [some (.ref 123), some (.ref 111), none, none, none], [.int q4.1], hp X G q4.2) _
    refine ab_U.run 4 (S' := (28, [some (.ref 123), some (.ref 111), some (.int q4.1), none, none], [.int 3, .int 0, .ref 123], hp X G q4.2)) rfl ?_
    obtain ⟨q6, h7, hf⟩ := ab_bnd hf
    refine ab_U.fn rfl rfl (t_X5_readNumber (X := X) hG h7) (by omega) ?_
    show ab_U _ _ _ (31, [some (.ref 123), some (.ref 111), some (.int q4.1), none, none], [.int q6.1], hp X G q6.2) _
    refine ab_U.run 4 (S' := (35, [some (.ref 123), some (.ref 111), some (.int q4.1), some (.int q6.1), none], [.int q6.1, .int q4.1, .ref 123], hp X G q6.2)) rfl ?_
    refine ab_U.ic_ne rfl (fun b8 => ?_) (fun b8 => ?_)
    · rw [if_pos b8] at hf
      refine ab_U.run 2 (S' := (44, [some (.ref 123), some (.ref 111), some (.int q4.1), some (.int q6.1), none], [.int 3, .int 0, .ref 123], hp X G q6.2)) rfl ?_
      obtain ⟨q9, h10, hf⟩ := ab_bnd hf
      refine ab_U.fn rfl rfl (t_X5_refuse (X := X) hG h10) (by omega) ?_
      show ab_U _ _ _ (47, [some (.ref 123), some (.ref 111), some (.int q4.1), some (.int q6.1), none], [], hp X G q9.2) _
      refine ab_U.run 3 (S' := (51, [some (.ref 123), some (.ref 111), some (.int q4.1), some (.int q6.1), none], [.int 99, .int 0, .ref 123], hp X G q9.2)) rfl ?_
      obtain ⟨q11, h12, hf⟩ := ab_bnd hf
      refine ab_U.fn rfl rfl (t_X5_readNumber (X := X) hG h12) (by omega) ?_
      show ab_U _ _ _ (54, [some (.ref 123), some (.ref 111), some (.int q4.1), some (.int q6.1), none], [.int q11.1], hp X G q11.2) _
      refine ab_U.run 2 (S' := (57, [some (.ref 123), some (.ref 111), some (.int q4.1), some (.int q6.1), some (.int q11.1)], [.ref 123], hp X G q11.2)) rfl ?_
      obtain ⟨q13, h14, hf⟩ := ab_bnd hf
      refine ab_U.fn rfl rfl (t_X5_readSemicolon (X := X) hG h14) (by omega) ?_
      show ab_U _ _ _ (60, [some (.ref 123), some (.ref 111), some (.int q4.1), some (.int q6.1), some (.int q11.1)], [.int q13.1], hp X G q13.2) _
      refine ab_U.if_eq rfl (fun b15 => ?_) (fun b15 => ?_)
      · rw [if_pos b15] at hf
        obtain rfl := Option.some.inj hf
        exact ab_U.ret rfl rfl ⟨rfl, rfl⟩
      · rw [if_neg b15] at hf
        refine ab_U.run 4 (S' := (68, [some (.ref 123), some (.ref 111), some (.int q4.1), some (.int q6.1), some (.int q11.1)], [.int q11.1, .int q6.1, .int q4.1, .ref 111], hp X G q13.2)) rfl ?_
        obtain ⟨q16, h17, hf⟩ := ab_bnd hf
        refine ab_U.fn rfl rfl (t_X7_addDebt (X := X) hG (by decide) h17) (by omega) ?_
        show ab_U _ _ _ (71, [some (.ref 123), some (.ref 111), some (.int q4.1), some (.int q6.1), some (.int q11.1)], [], hp X G q16.2) _
        obtain rfl := Option.some.inj hf
        exact ab_U.ret rfl rfl ⟨rfl, rfl⟩
    · rw [if_neg b8] at hf
      refine ab_U.run 3 (S' := (44, [some (.ref 123), some (.ref 111), some (.int q4.1), some (.int q6.1), none], [.int 3, .int 1, .ref 123], hp X G q6.2)) rfl ?_
      obtain ⟨q18, h19, hf⟩ := ab_bnd hf
      refine ab_U.fn rfl rfl (t_X5_refuse (X := X) hG h19) (by omega) ?_
      show ab_U _ _ _ (47, [some (.ref 123), some (.ref 111), some (.int q4.1), some (.int q6.1), none], [], hp X G q18.2) _
      refine ab_U.run 3 (S' := (51, [some (.ref 123), some (.ref 111), some (.int q4.1), some (.int q6.1), none], [.int 99, .int 0, .ref 123], hp X G q18.2)) rfl ?_
      obtain ⟨q20, h21, hf⟩ := ab_bnd hf
      refine ab_U.fn rfl rfl (t_X5_readNumber (X := X) hG h21) (by omega) ?_
      show ab_U _ _ _ (54, [some (.ref 123), some (.ref 111), some (.int q4.1), some (.int q6.1), none], [.int q20.1], hp X G q20.2) _
      refine ab_U.run 2 (S' := (57, [some (.ref 123), some (.ref 111), some (.int q4.1), some (.int q6.1), some (.int q20.1)], [.ref 123], hp X G q20.2)) rfl ?_
      obtain ⟨q22, h23, hf⟩ := ab_bnd hf
      refine ab_U.fn rfl rfl (t_X5_readSemicolon (X := X) hG h23) (by omega) ?_
      show ab_U _ _ _ (60, [some (.ref 123), some (.ref 111), some (.int q4.1), some (.int q6.1), some (.int q20.1)], [.int q22.1], hp X G q22.2) _
      refine ab_U.if_eq rfl (fun b24 => ?_) (fun b24 => ?_)
      · rw [if_pos b24] at hf
        obtain rfl := Option.some.inj hf
        exact ab_U.ret rfl rfl ⟨rfl, rfl⟩
      · rw [if_neg b24] at hf
        refine ab_U.run 4 (S' := (68, [some (.ref 123), some (.ref 111), some (.int q4.1), some (.int q6.1), some (.int q20.1)], [.int q20.1, .int q6.1, .int q4.1, .ref 111], hp X G q22.2)) rfl ?_
        obtain ⟨q25, h26, hf⟩ := ab_bnd hf
        refine ab_U.fn rfl rfl (t_X7_addDebt (X := X) hG (by decide) h26) (by omega) ?_
        show ab_U _ _ _ (71, [some (.ref 123), some (.ref 111), some (.int q4.1), some (.int q6.1), some (.int q20.1)], [], hp X G q25.2) _
        obtain rfl := Option.some.inj hf
        exact ab_U.ret rfl rfl ⟨rfl, rfl⟩
  · rw [if_neg b1] at hf
    refine ab_U.run 3 (S' := (15, [some (.ref 123), some (.ref 111), none, none, none], [.int 5, .int 1, .ref 123], hp X G μ)) rfl ?_
    obtain ⟨q27, h28, hf⟩ := ab_bnd hf
    refine ab_U.fn rfl rfl (t_X5_refuse (X := X) hG h28) (by omega) ?_
    show ab_U _ _ _ (18, [some (.ref 123), some (.ref 111), none, none, none], [], hp X G q27.2) _
    refine ab_U.run 3 (S' := (21, [some (.ref 123), some (.ref 111), none, none, none], [.int 3, .int 0, .ref 123], hp X G q27.2)) rfl ?_
    obtain ⟨q29, h30, hf⟩ := ab_bnd hf
    refine ab_U.fn rfl rfl (t_X5_readNumber (X := X) hG h30) (by omega) ?_
    show ab_U _ _ _ (24, [some (.ref 123), some (.ref 111), none, none, none], [.int q29.1], hp X G q29.2) _
    refine ab_U.run 4 (S' := (28, [some (.ref 123), some (.ref 111), some (.int q29.1), none, none], [.int 3, .int 0, .ref 123], hp X G q29.2)) rfl ?_
    obtain ⟨q31, h32, hf⟩ := ab_bnd hf
    refine ab_U.fn rfl rfl (t_X5_readNumber (X := X) hG h32) (by omega) ?_
    show ab_U _ _ _ (31, [some (.ref 123), some (.ref 111), some (.int q29.1), none, none], [.int q31.1], hp X G q31.2) _
    refine ab_U.run 4 (S' := (35, [some (.ref 123), some (.ref 111), some (.int q29.1), some (.int q31.1), none], [.int q31.1, .int q29.1, .ref 123], hp X G q31.2)) rfl ?_
    refine ab_U.ic_ne rfl (fun b33 => ?_) (fun b33 => ?_)
    · rw [if_pos b33] at hf
      refine ab_U.run 2 (S' := (44, [some (.ref 123), some (.ref 111), some (.int q29.1), some (.int q31.1), none], [.int 3, .int 0, .ref 123], hp X G q31.2)) rfl ?_
      obtain ⟨q34, h35, hf⟩ := ab_bnd hf
      refine ab_U.fn rfl rfl (t_X5_refuse (X := X) hG h35) (by omega) ?_
      show ab_U _ _ _ (47, [some (.ref 123), some (.ref 111), some (.int q29.1), some (.int q31.1), none], [], hp X G q34.2) _
      refine ab_U.run 3 (S' := (51, [some (.ref 123), some (.ref 111), some (.int q29.1), some (.int q31.1), none], [.int 99, .int 0, .ref 123], hp X G q34.2)) rfl ?_
      obtain ⟨q36, h37, hf⟩ := ab_bnd hf
      refine ab_U.fn rfl rfl (t_X5_readNumber (X := X) hG h37) (by omega) ?_
      show ab_U _ _ _ (54, [some (.ref 123), some (.ref 111), some (.int q29.1), some (.int q31.1), none], [.int q36.1], hp X G q36.2) _
      refine ab_U.run 2 (S' := (57, [some (.ref 123), some (.ref 111), some (.int q29.1), some (.int q31.1), some (.int q36.1)], [.ref 123], hp X G q36.2)) rfl ?_
      obtain ⟨q38, h39, hf⟩ := ab_bnd hf
      refine ab_U.fn rfl rfl (t_X5_readSemicolon (X := X) hG h39) (by omega) ?_
      show ab_U _ _ _ (60, [some (.ref 123), some (.ref 111), some (.int q29.1), some (.int q31.1), some (.int q36.1)], [.int q38.1], hp X G q38.2) _
      refine ab_U.if_eq rfl (fun b40 => ?_) (fun b40 => ?_)
      · rw [if_pos b40] at hf
        obtain rfl := Option.some.inj hf
        exact ab_U.ret rfl rfl ⟨rfl, rfl⟩
      · rw [if_neg b40] at hf
        refine ab_U.run 4 (S' := (68, [some (.ref 123), some (.ref 111), some (.int q29.1), some (.int q31.1), some (.int q36.1)], [.int q36.1, .int q31.1, .int q29.1, .ref 111], hp X G q38.2)) rfl ?_
        obtain ⟨q41, h42, hf⟩ := ab_bnd hf
        refine ab_U.fn rfl rfl (t_X7_addDebt (X := X) hG (by decide) h42) (by omega) ?_
        show ab_U _ _ _ (71, [some (.ref 123), some (.ref 111), some (.int q29.1), some (.int q31.1), some (.int q36.1)], [], hp X G q41.2) _
        obtain rfl := Option.some.inj hf
        exact ab_U.ret rfl rfl ⟨rfl, rfl⟩
    · rw [if_neg b33] at hf
      refine ab_U.run 3 (S' := (44, [some (.ref 123), some (.ref 111), some (.int q29.1), some (.int q31.1), none], [.int 3, .int 1, .ref 123], hp X G q31.2)) rfl ?_
      obtain ⟨q43, h44, hf⟩ := ab_bnd hf
      refine ab_U.fn rfl rfl (t_X5_refuse (X := X) hG h44) (by omega) ?_
      show ab_U _ _ _ (47, [some (.ref 123), some (.ref 111), some (.int q29.1), some (.int q31.1), none], [], hp X G q43.2) _
      refine ab_U.run 3 (S' := (51, [some (.ref 123), some (.ref 111), some (.int q29.1), some (.int q31.1), none], [.int 99, .int 0, .ref 123], hp X G q43.2)) rfl ?_
      obtain ⟨q45, h46, hf⟩ := ab_bnd hf
      refine ab_U.fn rfl rfl (t_X5_readNumber (X := X) hG h46) (by omega) ?_
      show ab_U _ _ _ (54, [some (.ref 123), some (.ref 111), some (.int q29.1), some (.int q31.1), none], [.int q45.1], hp X G q45.2) _
      refine ab_U.run 2 (S' := (57, [some (.ref 123), some (.ref 111), some (.int q29.1), some (.int q31.1), some (.int q45.1)], [.ref 123], hp X G q45.2)) rfl ?_
      obtain ⟨q47, h48, hf⟩ := ab_bnd hf
      refine ab_U.fn rfl rfl (t_X5_readSemicolon (X := X) hG h48) (by omega) ?_
      show ab_U _ _ _ (60, [some (.ref 123), some (.ref 111), some (.int q29.1), some (.int q31.1), some (.int q45.1)], [.int q47.1], hp X G q47.2) _
      refine ab_U.if_eq rfl (fun b49 => ?_) (fun b49 => ?_)
      · rw [if_pos b49] at hf
        obtain rfl := Option.some.inj hf
        exact ab_U.ret rfl rfl ⟨rfl, rfl⟩
      · rw [if_neg b49] at hf
        refine ab_U.run 4 (S' := (68, [some (.ref 123), some (.ref 111), some (.int q29.1), some (.int q31.1), some (.int q45.1)], [.int q45.1, .int q31.1, .int q29.1, .ref 111], hp X G q47.2)) rfl ?_
        obtain ⟨q50, h51, hf⟩ := ab_bnd hf
        refine ab_U.fn rfl rfl (t_X7_addDebt (X := X) hG (by decide) h51) (by omega) ?_
        show ab_U _ _ _ (71, [some (.ref 123), some (.ref 111), some (.int q29.1), some (.int q31.1), some (.int q45.1)], [], hp X G q50.2) _
        obtain rfl := Option.some.inj hf
        exact ab_U.ret rfl rfl ⟨rfl, rfl⟩
set_option maxRecDepth 20000 in
def f_X7_hasOne (F : Nat) (w : Nat) (x0 : Int32) (μ : fm_M) : Option (Int32 × fm_M) := (if x0 < 0 then some (0, μ) else (if (μ.1 w 0) ≤ x0 then some (0, μ) else some (1, μ)))
set_option maxRecDepth 20000 in
theorem t_X7_hasOne {X : Nat × (Nat → Int32)} {G : Nat → Nat → Option Nat} (hG : fm_Gok G) {F : Nat} {w : Nat} (hw : fm_isW w = true) {x0 : Int32} {μ : fm_M} {r : Int32 × fm_M} (hf : f_X7_hasOne F w x0 μ = some r) : ab_F 1 55 [.ref w, .int x0] (hp X G μ) (some (.int r.1)) (hp X G r.2) := by
  unfold f_X7_hasOne at hf
  refine ab_T.of (d := 0) rfl (Nat.le_of_ble_eq_true rfl) ?_
  show ab_U _ _ kX7_hasOne (0, [some (.ref w), some (.int x0)], [], hp X G μ) _
  refine ab_U.run 1 (S' := (1, [some (.ref w), some (.int x0)], [.int x0], hp X G μ)) rfl ?_
  refine ab_U.if_lt rfl (fun b1 => ?_) (fun b1 => ?_)
  · rw [if_pos b1] at hf
    refine ab_U.run 1 (S' := (17, [some (.ref w), some (.int x0)], [.int 0], hp X G μ)) rfl ?_
    obtain rfl := Option.some.inj hf
    exact ab_U.ret rfl rfl ⟨rfl, rfl⟩
  · rw [if_neg b1] at hf
    refine ab_U.run 2 (S' := (6, [some (.ref w), some (.int x0)], [.ref w, .int x0], hp X G μ)) rfl ?_
    refine ab_U.gfI (ci := 7) (k9 := 0) rfl (fm_WO hw) ⟨rfl, rfl, by decide, rfl⟩ ?_
    show ab_U _ _ _ (9, [some (.ref w), some (.int x0)], [.int (μ.1 w 0), .int x0], hp X G μ) _
    refine ab_U.ic_ge rfl (fun b2 => ?_) (fun b2 => ?_)
    · rw [if_pos b2] at hf
      refine ab_U.run 1 (S' := (17, [some (.ref w), some (.int x0)], [.int 0], hp X G μ)) rfl ?_
      obtain rfl := Option.some.inj hf
      exact ab_U.ret rfl rfl ⟨rfl, rfl⟩
    · rw [if_neg b2] at hf
      refine ab_U.run 2 (S' := (17, [some (.ref w), some (.int x0)], [.int 1], hp X G μ)) rfl ?_
      obtain rfl := Option.some.inj hf
      exact ab_U.ret rfl rfl ⟨rfl, rfl⟩
set_option maxRecDepth 20000 in
def b_X7_namesOnlyItsPeople_2 (F : Nat) (w : Nat) (gg : Nat → Int32 → fm_M → Option (Int32 × fm_M)) (l1 : Int32) (μ : fm_M) : Option (Int32 × fm_M) := (if (μ.1 w 3) ≤ l1 then gg 33 0 μ else (if ab_in l1 5 = true then (Option.bind (f_X7_hasOne F w (μ.2.1 ((w + 5)) l1.toNatClampNeg) μ) (fun q3 => (if ¬ q3.1 = 0 then gg 2 (l1 + 1) q3.2 else some (0, q3.2)))) else none))
set_option maxRecDepth 20000 in
def b_X7_namesOnlyItsPeople_33 (F : Nat) (w : Nat) (gg : Nat → Int32 → fm_M → Option (Int32 × fm_M)) (l1 : Int32) (μ : fm_M) : Option (Int32 × fm_M) := (if (μ.1 w 11) ≤ l1 then some (1, μ) else (if ab_in l1 4 = true then (Option.bind (f_X7_hasOne F w (μ.2.1 ((w + 7)) l1.toNatClampNeg) μ) (fun q8 => (if q8.1 = 0 then some (0, q8.2) else (if ab_in l1 4 = true then (Option.bind (f_X7_hasOne F w (q8.2.2.1 ((w + 8)) l1.toNatClampNeg) q8.2) (fun q12 => (if ¬ q12.1 = 0 then gg 33 (l1 + 1) q12.2 else some (0, q12.2)))) else none)))) else none))
def g_X7_namesOnlyItsPeople (F : Nat) (w : Nat) : Nat → Nat → Int32 → fm_M → Option (Int32 × fm_M)
  | 0, _, _, _ => none
  | n + 1, pc, l1, μ => if pc = 2 then b_X7_namesOnlyItsPeople_2 F w (g_X7_namesOnlyItsPeople F w n) l1 μ else if pc = 33 then b_X7_namesOnlyItsPeople_33 F w (g_X7_namesOnlyItsPeople F w n) l1 μ else none
set_option maxRecDepth 20000 in
theorem t_X7_namesOnlyItsPeople_g {X : Nat × (Nat → Int32)} {G : Nat → Nat → Option Nat} (hG : fm_Gok G) {F : Nat}  {w : Nat} (hw : fm_isW w = true) : ∀ n : Nat, (∀ (l1 : Int32) (μ : fm_M) (r : Int32 × fm_M), g_X7_namesOnlyItsPeople F w n 2 l1 μ = some r → ab_U 1 (some .boolean) kX7_namesOnlyItsPeople (2, [some (.ref w), some (.int l1)], [], hp X G μ) (fun r9 h9 => r9 = some (.int r.1) ∧ h9 = hp X G r.2)) ∧ (∀ (l1 : Int32) (μ : fm_M) (r : Int32 × fm_M), g_X7_namesOnlyItsPeople F w n 33 l1 μ = some r → ab_U 1 (some .boolean) kX7_namesOnlyItsPeople (33, [some (.ref w), some (.int l1)], [], hp X G μ) (fun r9 h9 => r9 = some (.int r.1) ∧ h9 = hp X G r.2))
  | 0 => by
    refine ⟨?_, ?_⟩
    all_goals (intros; rename_i h; cases h)
  | n + 1 => by
    have ih := t_X7_namesOnlyItsPeople_g (X := X) hG (F := F)  hw n
    refine ⟨?_, ?_⟩
    · intro l1 μ r hf
      have hf : b_X7_namesOnlyItsPeople_2 F w (g_X7_namesOnlyItsPeople F w n) l1 μ = some r := hf
      unfold b_X7_namesOnlyItsPeople_2 at hf
      refine ab_U.run 2 (S' := (4, [some (.ref w), some (.int l1)], [.ref w, .int l1], hp X G μ)) rfl ?_
      refine ab_U.gfI (ci := 7) (k9 := 3) rfl (fm_WO hw) ⟨rfl, rfl, by decide, rfl⟩ ?_
      show ab_U _ _ _ (7, [some (.ref w), some (.int l1)], [.int (μ.1 w 3), .int l1], hp X G μ) _
      refine ab_U.ic_ge rfl (fun b1 => ?_) (fun b1 => ?_)
      · rw [if_pos b1] at hf
        refine ab_U.run 2 (S' := (33, [some (.ref w), some (.int 0)], [], hp X G μ)) rfl ?_
        exact ab_U.weak (ih.2 _ _ _ hf) (ab_leL.of ⟨rfl, ⟨rfl, trivial⟩⟩)
      · rw [if_neg b1] at hf
        refine ab_U.run 2 (S' := (12, [some (.ref w), some (.int l1)], [.ref w, .ref w], hp X G μ)) rfl ?_
        refine ab_U.gfW (k9 := 6) rfl hw ⟨rfl, rfl, by decide, rfl⟩ ?_
        show ab_U _ _ _ (15, [some (.ref w), some (.int l1)], [.ref (w + 5), .ref w], hp X G μ) _
        refine ab_U.run 1 (S' := (16, [some (.ref w), some (.int l1)], [.int l1, .ref (w + 5), .ref w], hp X G μ)) rfl ?_
        obtain ⟨c2, hf⟩ := ab_ifs hf
        refine ab_U.iald (n := 5) rfl (fm_WA hw).2.2.2.2.1 c2 ?_
        show ab_U _ _ _ (17, [some (.ref w), some (.int l1)], [.int (μ.2.1 ((w + 5)) l1.toNatClampNeg), .ref w], hp X G μ) _
        obtain ⟨q3, h4, hf⟩ := ab_bnd hf
        refine ab_U.fnV rfl rfl (fm_WO hw) rfl (t_X7_hasOne (X := X) hG hw h4) (by omega) ?_
        show ab_U _ _ _ (20, [some (.ref w), some (.int l1)], [.int q3.1], hp X G q3.2) _
        refine ab_U.if_ne rfl (fun b5 => ?_) (fun b5 => ?_)
        · rw [if_pos b5] at hf
          refine ab_U.run 2 (S' := (2, [some (.ref w), some (.int (l1 + 1))], [], hp X G q3.2)) rfl ?_
          exact ab_U.weak (ih.1 _ _ _ hf) (ab_leL.of ⟨rfl, ⟨rfl, trivial⟩⟩)
        · rw [if_neg b5] at hf
          refine ab_U.run 1 (S' := (24, [some (.ref w), some (.int l1)], [.int 0], hp X G q3.2)) rfl ?_
          obtain rfl := Option.some.inj hf
          exact ab_U.ret rfl rfl ⟨rfl, rfl⟩
    · intro l1 μ r hf
      have hf : b_X7_namesOnlyItsPeople_33 F w (g_X7_namesOnlyItsPeople F w n) l1 μ = some r := hf
      unfold b_X7_namesOnlyItsPeople_33 at hf
      refine ab_U.run 2 (S' := (35, [some (.ref w), some (.int l1)], [.ref w, .int l1], hp X G μ)) rfl ?_
      refine ab_U.gfI (ci := 7) (k9 := 11) rfl (fm_WO hw) ⟨rfl, rfl, by decide, rfl⟩ ?_
      show ab_U _ _ _ (38, [some (.ref w), some (.int l1)], [.int (μ.1 w 11), .int l1], hp X G μ) _
      refine ab_U.ic_ge rfl (fun b6 => ?_) (fun b6 => ?_)
      · rw [if_pos b6] at hf
        refine ab_U.run 1 (S' := (76, [some (.ref w), some (.int l1)], [.int 1], hp X G μ)) rfl ?_
        obtain rfl := Option.some.inj hf
        exact ab_U.ret rfl rfl ⟨rfl, rfl⟩
      · rw [if_neg b6] at hf
        refine ab_U.run 2 (S' := (43, [some (.ref w), some (.int l1)], [.ref w, .ref w], hp X G μ)) rfl ?_
        refine ab_U.gfW (k9 := 12) rfl hw ⟨rfl, rfl, by decide, rfl⟩ ?_
        show ab_U _ _ _ (46, [some (.ref w), some (.int l1)], [.ref (w + 7), .ref w], hp X G μ) _
        refine ab_U.run 1 (S' := (47, [some (.ref w), some (.int l1)], [.int l1, .ref (w + 7), .ref w], hp X G μ)) rfl ?_
        obtain ⟨c7, hf⟩ := ab_ifs hf
        refine ab_U.iald (n := 4) rfl (fm_WA hw).2.2.2.2.2.2.1 c7 ?_
        show ab_U _ _ _ (48, [some (.ref w), some (.int l1)], [.int (μ.2.1 ((w + 7)) l1.toNatClampNeg), .ref w], hp X G μ) _
        obtain ⟨q8, h9, hf⟩ := ab_bnd hf
        refine ab_U.fnV rfl rfl (fm_WO hw) rfl (t_X7_hasOne (X := X) hG hw h9) (by omega) ?_
        show ab_U _ _ _ (51, [some (.ref w), some (.int l1)], [.int q8.1], hp X G q8.2) _
        refine ab_U.if_eq rfl (fun b10 => ?_) (fun b10 => ?_)
        · rw [if_pos b10] at hf
          refine ab_U.run 1 (S' := (68, [some (.ref w), some (.int l1)], [.int 0], hp X G q8.2)) rfl ?_
          obtain rfl := Option.some.inj hf
          exact ab_U.ret rfl rfl ⟨rfl, rfl⟩
        · rw [if_neg b10] at hf
          refine ab_U.run 2 (S' := (56, [some (.ref w), some (.int l1)], [.ref w, .ref w], hp X G q8.2)) rfl ?_
          refine ab_U.gfW (k9 := 13) rfl hw ⟨rfl, rfl, by decide, rfl⟩ ?_
          show ab_U _ _ _ (59, [some (.ref w), some (.int l1)], [.ref (w + 8), .ref w], hp X G q8.2) _
          refine ab_U.run 1 (S' := (60, [some (.ref w), some (.int l1)], [.int l1, .ref (w + 8), .ref w], hp X G q8.2)) rfl ?_
          obtain ⟨c11, hf⟩ := ab_ifs hf
          refine ab_U.iald (n := 4) rfl (fm_WA hw).2.2.2.2.2.2.2.1 c11 ?_
          show ab_U _ _ _ (61, [some (.ref w), some (.int l1)], [.int (q8.2.2.1 ((w + 8)) l1.toNatClampNeg), .ref w], hp X G q8.2) _
          obtain ⟨q12, h13, hf⟩ := ab_bnd hf
          refine ab_U.fnV rfl rfl (fm_WO hw) rfl (t_X7_hasOne (X := X) hG hw h13) (by omega) ?_
          show ab_U _ _ _ (64, [some (.ref w), some (.int l1)], [.int q12.1], hp X G q12.2) _
          refine ab_U.if_ne rfl (fun b14 => ?_) (fun b14 => ?_)
          · rw [if_pos b14] at hf
            refine ab_U.run 2 (S' := (33, [some (.ref w), some (.int (l1 + 1))], [], hp X G q12.2)) rfl ?_
            exact ab_U.weak (ih.2 _ _ _ hf) (ab_leL.of ⟨rfl, ⟨rfl, trivial⟩⟩)
          · rw [if_neg b14] at hf
            refine ab_U.run 1 (S' := (68, [some (.ref w), some (.int l1)], [.int 0], hp X G q12.2)) rfl ?_
            obtain rfl := Option.some.inj hf
            exact ab_U.ret rfl rfl ⟨rfl, rfl⟩
set_option maxRecDepth 20000 in
def f_X7_namesOnlyItsPeople (F : Nat) (w : Nat)  (μ : fm_M) : Option (Int32 × fm_M) := g_X7_namesOnlyItsPeople F w F 2 0 μ
set_option maxRecDepth 20000 in
theorem t_X7_namesOnlyItsPeople {X : Nat × (Nat → Int32)} {G : Nat → Nat → Option Nat} (hG : fm_Gok G) {F : Nat} {w : Nat} (hw : fm_isW w = true)  {μ : fm_M} {r : Int32 × fm_M} (hf : f_X7_namesOnlyItsPeople F w μ = some r) : ab_F 2 61 [.ref w] (hp X G μ) (some (.int r.1)) (hp X G r.2) := by
  unfold f_X7_namesOnlyItsPeople at hf
  refine ab_T.of (d := 1) rfl (Nat.le_of_ble_eq_true rfl) ?_
  show ab_U _ _ kX7_namesOnlyItsPeople (0, [some (.ref w), none], [], hp X G μ) _
  refine ab_U.run 2 (S' := (2, [some (.ref w), some (.int 0)], [], hp X G μ)) rfl ?_
  exact ab_U.weak ((t_X7_namesOnlyItsPeople_g (X := X) hG  hw F).1 _ _ _ hf) (ab_leL.of ⟨rfl, ⟨rfl, trivial⟩⟩)
set_option maxRecDepth 20000 in
def f_J9_min_7cf53 (F : Nat)  (x0 : Int32) (x1 : Int32) (μ : fm_M) : Option (Int32 × fm_M) := (if x1 < x0 then some (x1, μ) else some (x0, μ))
set_option maxRecDepth 20000 in
theorem t_J9_min_7cf53 {X : Nat × (Nat → Int32)} {G : Nat → Nat → Option Nat} (hG : fm_Gok G) {F : Nat}   {x0 : Int32} {x1 : Int32} {μ : fm_M} {r : Int32 × fm_M} (hf : f_J9_min_7cf53 F x0 x1 μ = some r) : ab_F 1 222 [.int x0, .int x1] (hp X G μ) (some (.int r.1)) (hp X G r.2) := by
  unfold f_J9_min_7cf53 at hf
  refine ab_T.of (d := 0) rfl (Nat.le_of_ble_eq_true rfl) ?_
  show ab_U _ _ kJ9_min_7cf53 (0, [some (.int x0), some (.int x1)], [], hp X G μ) _
  refine ab_U.run 2 (S' := (2, [some (.int x0), some (.int x1)], [.int x1, .int x0], hp X G μ)) rfl ?_
  refine ab_U.ic_gt rfl (fun b1 => ?_) (fun b1 => ?_)
  · rw [if_pos b1] at hf
    refine ab_U.run 1 (S' := (10, [some (.int x0), some (.int x1)], [.int x1], hp X G μ)) rfl ?_
    obtain rfl := Option.some.inj hf
    exact ab_U.ret rfl rfl ⟨rfl, rfl⟩
  · rw [if_neg b1] at hf
    refine ab_U.run 2 (S' := (10, [some (.int x0), some (.int x1)], [.int x0], hp X G μ)) rfl ?_
    obtain rfl := Option.some.inj hf
    exact ab_U.ret rfl rfl ⟨rfl, rfl⟩
set_option maxRecDepth 20000 in
def f_X7_ovenDistance (F : Nat) (w : Nat) (x0 : Int32) (μ : fm_M) : Option (Int32 × fm_M) := (if ab_in x0 5 = true then (if ab_in (μ.2.1 ((w + 5)) x0.toNatClampNeg) 4 = true then (Option.bind (f_J9_abs_0f7a4 F ((μ.2.1 ((w + 2)) (μ.2.1 ((w + 5)) x0.toNatClampNeg).toNatClampNeg) - (μ.1 w 7)) μ) (fun q3 => some (q3.1, q3.2))) else none) else none)
set_option maxRecDepth 20000 in
theorem t_X7_ovenDistance {X : Nat × (Nat → Int32)} {G : Nat → Nat → Option Nat} (hG : fm_Gok G) {F : Nat} {w : Nat} (hw : fm_isW w = true) {x0 : Int32} {μ : fm_M} {r : Int32 × fm_M} (hf : f_X7_ovenDistance F w x0 μ = some r) : ab_F 2 69 [.ref w, .int x0] (hp X G μ) (some (.int r.1)) (hp X G r.2) := by
  unfold f_X7_ovenDistance at hf
  refine ab_T.of (d := 1) rfl (Nat.le_of_ble_eq_true rfl) ?_
  show ab_U _ _ kX7_ovenDistance (0, [some (.ref w), some (.int x0)], [], hp X G μ) _
  refine ab_U.run 1 (S' := (1, [some (.ref w), some (.int x0)], [.ref w], hp X G μ)) rfl ?_
  refine ab_U.gfW (k9 := 2) rfl hw ⟨rfl, rfl, by decide, rfl⟩ ?_
  show ab_U _ _ _ (4, [some (.ref w), some (.int x0)], [.ref (w + 2)], hp X G μ) _
  refine ab_U.run 1 (S' := (5, [some (.ref w), some (.int x0)], [.ref w, .ref (w + 2)], hp X G μ)) rfl ?_
  refine ab_U.gfW (k9 := 6) rfl hw ⟨rfl, rfl, by decide, rfl⟩ ?_
  show ab_U _ _ _ (8, [some (.ref w), some (.int x0)], [.ref (w + 5), .ref (w + 2)], hp X G μ) _
  refine ab_U.run 1 (S' := (9, [some (.ref w), some (.int x0)], [.int x0, .ref (w + 5), .ref (w + 2)], hp X G μ)) rfl ?_
  obtain ⟨c1, hf⟩ := ab_ifs hf
  refine ab_U.iald (n := 5) rfl (fm_WA hw).2.2.2.2.1 c1 ?_
  show ab_U _ _ _ (10, [some (.ref w), some (.int x0)], [.int (μ.2.1 ((w + 5)) x0.toNatClampNeg), .ref (w + 2)], hp X G μ) _
  obtain ⟨c2, hf⟩ := ab_ifs hf
  refine ab_U.iald (n := 4) rfl (fm_WA hw).2.1 c2 ?_
  show ab_U _ _ _ (11, [some (.ref w), some (.int x0)], [.int (μ.2.1 ((w + 2)) (μ.2.1 ((w + 5)) x0.toNatClampNeg).toNatClampNeg)], hp X G μ) _
  refine ab_U.run 1 (S' := (12, [some (.ref w), some (.int x0)], [.ref w, .int (μ.2.1 ((w + 2)) (μ.2.1 ((w + 5)) x0.toNatClampNeg).toNatClampNeg)], hp X G μ)) rfl ?_
  refine ab_U.gfI (ci := 7) (k9 := 7) rfl (fm_WO hw) ⟨rfl, rfl, by decide, rfl⟩ ?_
  show ab_U _ _ _ (15, [some (.ref w), some (.int x0)], [.int (μ.1 w 7), .int (μ.2.1 ((w + 2)) (μ.2.1 ((w + 5)) x0.toNatClampNeg).toNatClampNeg)], hp X G μ) _
  refine ab_U.run 1 (S' := (16, [some (.ref w), some (.int x0)], [.int ((μ.2.1 ((w + 2)) (μ.2.1 ((w + 5)) x0.toNatClampNeg).toNatClampNeg) - (μ.1 w 7))], hp X G μ)) rfl ?_
  obtain ⟨q3, h4, hf⟩ := ab_bnd hf
  refine ab_U.fn rfl rfl (t_J9_abs_0f7a4 (X := X) hG h4) (by omega) ?_
  show ab_U _ _ _ (19, [some (.ref w), some (.int x0)], [.int q3.1], hp X G q3.2) _
  obtain rfl := Option.some.inj hf
  exact ab_U.ret rfl rfl ⟨rfl, rfl⟩
set_option maxRecDepth 20000 in
def b_X6_clearRow_2 (F : Nat)  (gg : Nat → Int32 → fm_M → Option (Unit × fm_M)) (l1 : Int32) (μ : fm_M) : Option (Unit × fm_M) := (if 60 < l1 then some ((), μ) else (if fm_inA μ.2.2.2.1 l1 = true then (Option.bind (some (fm_sA μ μ.2.2.2.1 (upd (μ.2.1 μ.2.2.2.1) l1.toNatClampNeg 0))) (fun m3 => gg 2 (l1 + 1) m3)) else none))
def g_X6_clearRow (F : Nat)  : Nat → Nat → Int32 → fm_M → Option (Unit × fm_M)
  | 0, _, _, _ => none
  | n + 1, pc, l1, μ => if pc = 2 then b_X6_clearRow_2 F  (g_X6_clearRow F  n) l1 μ else none
set_option maxRecDepth 20000 in
theorem t_X6_clearRow_g {X : Nat × (Nat → Int32)} {G : Nat → Nat → Option Nat} (hG : fm_Gok G) {F : Nat}    : ∀ n : Nat, (∀ (l1 : Int32) (μ : fm_M) (r : Unit × fm_M), g_X6_clearRow F  n 2 l1 μ = some r → ab_U 0 (none) kX6_clearRow (2, [some (.ref 201), some (.int l1)], [], hp X G μ) (fun r9 h9 => r9 = none ∧ h9 = hp X G r.2))
  | 0 => by
    intros
    rename_i h
    cases h
  | n + 1 => by
    have ih := t_X6_clearRow_g (X := X) hG (F := F)   n
    · intro l1 μ r hf
      have hf : b_X6_clearRow_2 F  (g_X6_clearRow F  n) l1 μ = some r := hf
      unfold b_X6_clearRow_2 at hf
      refine ab_U.run 2 (S' := (5, [some (.ref 201), some (.int l1)], [.int 60, .int l1], hp X G μ)) rfl ?_
      refine ab_U.ic_gt rfl (fun b1 => ?_) (fun b1 => ?_)
      · rw [if_pos b1] at hf
        obtain rfl := Option.some.inj hf
        exact ab_U.ret rfl rfl ⟨rfl, rfl⟩
      · rw [if_neg b1] at hf
        refine ab_U.run 4 (S' := (14, [some (.ref 201), some (.int l1)], [.int 0, .int l1, .ref μ.2.2.2.1], hp X G μ)) rfl ?_
        obtain ⟨c2, hf⟩ := ab_ifs hf
        obtain ⟨m3, e4, hf⟩ := ab_bnd hf
        have e4 := Option.some.inj e4
        refine ab_U.iastA rfl c2 ?_
        show ab_U _ _ _ (15, [some (.ref 201), some (.int l1)], [], hp X G (fm_sA μ μ.2.2.2.1 (upd (μ.2.1 μ.2.2.2.1) l1.toNatClampNeg 0))) _
        rw [e4]
        refine ab_U.run 2 (S' := (2, [some (.ref 201), some (.int (l1 + 1))], [], hp X G m3)) rfl ?_
        exact ab_U.weak (ih _ _ _ hf) (ab_leL.of ⟨rfl, ⟨rfl, trivial⟩⟩)
set_option maxRecDepth 20000 in
def f_X6_clearRow (F : Nat)   (μ : fm_M) : Option (Unit × fm_M) := g_X6_clearRow F  F 2 0 μ
set_option maxRecDepth 20000 in
theorem t_X6_clearRow {X : Nat × (Nat → Int32)} {G : Nat → Nat → Option Nat} (hG : fm_Gok G) {F : Nat}    {μ : fm_M} {r : Unit × fm_M} (hf : f_X6_clearRow F  μ = some r) : ab_F 1 48 [.ref 201] (hp X G μ) none (hp X G r.2) := by
  unfold f_X6_clearRow at hf
  refine ab_T.of (d := 0) rfl (Nat.le_of_ble_eq_true rfl) ?_
  show ab_U _ _ kX6_clearRow (0, [some (.ref 201), none], [], hp X G μ) _
  refine ab_U.run 2 (S' := (2, [some (.ref 201), some (.int 0)], [], hp X G μ)) rfl ?_
  exact ab_U.weak ((t_X6_clearRow_g (X := X) hG   F) _ _ _ hf) (ab_leL.of ⟨rfl, ⟨rfl, trivial⟩⟩)
set_option maxRecDepth 20000 in
def f_X6_orPebble (F : Nat)  (x0 : Int32) (μ : fm_M) : Option (Int32 × fm_M) := (Option.bind (f_X8_isWarm F x0 μ) (fun q1 => (if q1.1 = 0 then some (0, q1.2) else some (x0, q1.2))))
set_option maxRecDepth 20000 in
theorem t_X6_orPebble {X : Nat × (Nat → Int32)} {G : Nat → Nat → Option Nat} (hG : fm_Gok G) {F : Nat}   {x0 : Int32} {μ : fm_M} {r : Int32 × fm_M} (hf : f_X6_orPebble F x0 μ = some r) : ab_F 2 47 [.int x0] (hp X G μ) (some (.int r.1)) (hp X G r.2) := by
  unfold f_X6_orPebble at hf
  refine ab_T.of (d := 1) rfl (Nat.le_of_ble_eq_true rfl) ?_
  show ab_U _ _ kX6_orPebble (0, [some (.int x0)], [], hp X G μ) _
  refine ab_U.run 1 (S' := (1, [some (.int x0)], [.int x0], hp X G μ)) rfl ?_
  obtain ⟨q1, h2, hf⟩ := ab_bnd hf
  refine ab_U.fn rfl rfl (t_X8_isWarm (X := X) hG h2) (by omega) ?_
  show ab_U _ _ _ (4, [some (.int x0)], [.int q1.1], hp X G q1.2) _
  refine ab_U.if_eq rfl (fun b3 => ?_) (fun b3 => ?_)
  · rw [if_pos b3] at hf
    refine ab_U.run 1 (S' := (12, [some (.int x0)], [.int 0], hp X G q1.2)) rfl ?_
    obtain rfl := Option.some.inj hf
    exact ab_U.ret rfl rfl ⟨rfl, rfl⟩
  · rw [if_neg b3] at hf
    refine ab_U.run 2 (S' := (12, [some (.int x0)], [.int x0], hp X G q1.2)) rfl ?_
    obtain rfl := Option.some.inj hf
    exact ab_U.ret rfl rfl ⟨rfl, rfl⟩
set_option maxRecDepth 20000 in
def b_X6_stay_2 (F : Nat)  (gg : Nat → Int32 → fm_M → Option (Unit × fm_M)) (l1 : Int32) (μ : fm_M) : Option (Unit × fm_M) := (if (μ.1 201 2) < l1 then some ((), μ) else (if fm_inA μ.2.2.2.1 l1 = true then (if fm_inA μ.2.2.2.1 (l1 - 1) = true then (Option.bind (f_X8_cooled F (μ.2.1 μ.2.2.2.1 (l1 - 1).toNatClampNeg) (μ.1 201 3) μ) (fun q4 => (Option.bind (f_X6_orPebble F q4.1 q4.2) (fun q6 => (Option.bind (f_J9_max_7cf53 F (μ.2.1 μ.2.2.2.1 l1.toNatClampNeg) q6.1 q6.2) (fun q8 => (if fm_inA μ.2.2.2.1 l1 = true then (Option.bind (some (fm_sA q8.2 μ.2.2.2.1 (upd (q8.2.2.1 μ.2.2.2.1) l1.toNatClampNeg q8.1))) (fun m11 => gg 2 (l1 + 1) m11)) else none))))))) else none) else none))
def g_X6_stay (F : Nat)  : Nat → Nat → Int32 → fm_M → Option (Unit × fm_M)
  | 0, _, _, _ => none
  | n + 1, pc, l1, μ => if pc = 2 then b_X6_stay_2 F  (g_X6_stay F  n) l1 μ else none
set_option maxRecDepth 20000 in
theorem t_X6_stay_g {X : Nat × (Nat → Int32)} {G : Nat → Nat → Option Nat} (hG : fm_Gok G) {F : Nat}    : ∀ n : Nat, (∀ (l1 : Int32) (μ : fm_M) (r : Unit × fm_M), g_X6_stay F  n 2 l1 μ = some r → ab_U 2 (none) kX6_stay (2, [some (.ref 201), some (.int l1)], [], hp X G μ) (fun r9 h9 => r9 = none ∧ h9 = hp X G r.2))
  | 0 => by
    intros
    rename_i h
    cases h
  | n + 1 => by
    have ih := t_X6_stay_g (X := X) hG (F := F)   n
    · intro l1 μ r hf
      have hf : b_X6_stay_2 F  (g_X6_stay F  n) l1 μ = some r := hf
      unfold b_X6_stay_2 at hf
      refine ab_U.run 3 (S' := (7, [some (.ref 201), some (.int l1)], [.int (μ.1 201 2), .int l1], hp X G μ)) rfl ?_
      refine ab_U.ic_gt rfl (fun b1 => ?_) (fun b1 => ?_)
      · rw [if_pos b1] at hf
        obtain rfl := Option.some.inj hf
        exact ab_U.ret rfl rfl ⟨rfl, rfl⟩
      · rw [if_neg b1] at hf
        refine ab_U.run 6 (S' := (20, [some (.ref 201), some (.int l1)], [.int l1, .ref μ.2.2.2.1, .int l1, .ref μ.2.2.2.1], hp X G μ)) rfl ?_
        obtain ⟨c2, hf⟩ := ab_ifs hf
        refine ab_U.ialdA rfl c2 ?_
        show ab_U _ _ _ (21, [some (.ref 201), some (.int l1)], [.int (μ.2.1 μ.2.2.2.1 l1.toNatClampNeg), .int l1, .ref μ.2.2.2.1], hp X G μ) _
        refine ab_U.run 5 (S' := (28, [some (.ref 201), some (.int l1)], [.int (l1 - 1), .ref μ.2.2.2.1, .int (μ.2.1 μ.2.2.2.1 l1.toNatClampNeg), .int l1, .ref μ.2.2.2.1], hp X G μ)) rfl ?_
        obtain ⟨c3, hf⟩ := ab_ifs hf
        refine ab_U.ialdA rfl c3 ?_
        show ab_U _ _ _ (29, [some (.ref 201), some (.int l1)], [.int (μ.2.1 μ.2.2.2.1 (l1 - 1).toNatClampNeg), .int (μ.2.1 μ.2.2.2.1 l1.toNatClampNeg), .int l1, .ref μ.2.2.2.1], hp X G μ) _
        refine ab_U.run 2 (S' := (33, [some (.ref 201), some (.int l1)], [.int (μ.1 201 3), .int (μ.2.1 μ.2.2.2.1 (l1 - 1).toNatClampNeg), .int (μ.2.1 μ.2.2.2.1 l1.toNatClampNeg), .int l1, .ref μ.2.2.2.1], hp X G μ)) rfl ?_
        obtain ⟨q4, h5, hf⟩ := ab_bnd hf
        refine ab_U.fn rfl rfl (t_X8_cooled (X := X) hG h5) (by omega) ?_
        show ab_U _ _ _ (36, [some (.ref 201), some (.int l1)], [.int q4.1, .int (μ.2.1 μ.2.2.2.1 l1.toNatClampNeg), .int l1, .ref μ.2.2.2.1], hp X G q4.2) _
        obtain ⟨q6, h7, hf⟩ := ab_bnd hf
        refine ab_U.fn rfl rfl (t_X6_orPebble (X := X) hG h7) (by omega) ?_
        show ab_U _ _ _ (39, [some (.ref 201), some (.int l1)], [.int q6.1, .int (μ.2.1 μ.2.2.2.1 l1.toNatClampNeg), .int l1, .ref μ.2.2.2.1], hp X G q6.2) _
        obtain ⟨q8, h9, hf⟩ := ab_bnd hf
        refine ab_U.fn rfl rfl (t_J9_max_7cf53 (X := X) hG h9) (by omega) ?_
        show ab_U _ _ _ (42, [some (.ref 201), some (.int l1)], [.int q8.1, .int l1, .ref μ.2.2.2.1], hp X G q8.2) _
        obtain ⟨c10, hf⟩ := ab_ifs hf
        obtain ⟨m11, e12, hf⟩ := ab_bnd hf
        have e12 := Option.some.inj e12
        refine ab_U.iastA rfl c10 ?_
        show ab_U _ _ _ (43, [some (.ref 201), some (.int l1)], [], hp X G (fm_sA q8.2 μ.2.2.2.1 (upd (q8.2.2.1 μ.2.2.2.1) l1.toNatClampNeg q8.1))) _
        rw [e12]
        refine ab_U.run 2 (S' := (2, [some (.ref 201), some (.int (l1 + 1))], [], hp X G m11)) rfl ?_
        exact ab_U.weak (ih _ _ _ hf) (ab_leL.of ⟨rfl, ⟨rfl, trivial⟩⟩)
set_option maxRecDepth 20000 in
def f_X6_stay (F : Nat)   (μ : fm_M) : Option (Unit × fm_M) := g_X6_stay F  F 2 1 μ
set_option maxRecDepth 20000 in
theorem t_X6_stay {X : Nat × (Nat → Int32)} {G : Nat → Nat → Option Nat} (hG : fm_Gok G) {F : Nat}    {μ : fm_M} {r : Unit × fm_M} (hf : f_X6_stay F  μ = some r) : ab_F 3 49 [.ref 201] (hp X G μ) none (hp X G r.2) := by
  unfold f_X6_stay at hf
  refine ab_T.of (d := 2) rfl (Nat.le_of_ble_eq_true rfl) ?_
  show ab_U _ _ kX6_stay (0, [some (.ref 201), none], [], hp X G μ) _
  refine ab_U.run 2 (S' := (2, [some (.ref 201), some (.int 1)], [], hp X G μ)) rfl ?_
  exact ab_U.weak ((t_X6_stay_g (X := X) hG   F) _ _ _ hf) (ab_leL.of ⟨rfl, ⟨rfl, trivial⟩⟩)
set_option maxRecDepth 20000 in
def b_X6_walkedUntil_8 (F : Nat)  (gg : Nat → Int32 → Int32 → Int32 → Int32 → fm_M → Option (Int32 × fm_M)) (l1 : Int32) (l2 : Int32) (l4 : Int32) (l5 : Int32) (μ : fm_M) : Option (Int32 × fm_M) := (if l1 < l5 then some (l4, μ) else (if l4 ≤ 0 then some (l4, μ) else (if ¬ l5 = ((l2 + (μ.1 201 4)) + 1) then (Option.bind (f_X8_cooled F l4 (μ.1 201 3) μ) (fun q4 => (Option.bind (f_X6_orPebble F q4.1 q4.2) (fun q6 => gg 8 l1 l2 q6.1 (l5 + 1) q6.2)))) else (Option.bind (f_J9_max_7cf53 F l4 (μ.1 201 5) μ) (fun q8 => gg 8 l1 l2 q8.1 (l5 + 1) q8.2)))))
def g_X6_walkedUntil (F : Nat)  : Nat → Nat → Int32 → Int32 → Int32 → Int32 → fm_M → Option (Int32 × fm_M)
  | 0, _, _, _, _, _, _ => none
  | n + 1, pc, l1, l2, l4, l5, μ => if pc = 8 then b_X6_walkedUntil_8 F  (g_X6_walkedUntil F  n) l1 l2 l4 l5 μ else none
set_option maxRecDepth 20000 in
theorem t_X6_walkedUntil_g {X : Nat × (Nat → Int32)} {G : Nat → Nat → Option Nat} (hG : fm_Gok G) {F : Nat}    : ∀ n : Nat, (∀ (l1 : Int32) (l2 : Int32) (l4 : Int32) (l5 : Int32) (μ : fm_M) (r : Int32 × fm_M), g_X6_walkedUntil F  n 8 l1 l2 l4 l5 μ = some r → ab_U 2 (some .int) kX6_walkedUntil (8, [some (.ref 201), some (.int l1), some (.int l2), none, some (.int l4), some (.int l5), none], [], hp X G μ) (fun r9 h9 => r9 = some (.int r.1) ∧ h9 = hp X G r.2))
  | 0 => by
    intros
    rename_i h
    cases h
  | n + 1 => by
    have ih := t_X6_walkedUntil_g (X := X) hG (F := F)   n
    · intro l1 l2 l4 l5 μ r hf
      have hf : b_X6_walkedUntil_8 F  (g_X6_walkedUntil F  n) l1 l2 l4 l5 μ = some r := hf
      unfold b_X6_walkedUntil_8 at hf
      refine ab_U.run 2 (S' := (11, [some (.ref 201), some (.int l1), some (.int l2), none, some (.int l4), some (.int l5), none], [.int l1, .int l5], hp X G μ)) rfl ?_
      refine ab_U.ic_gt rfl (fun b1 => ?_) (fun b1 => ?_)
      · rw [if_pos b1] at hf
        refine ab_U.run 1 (S' := (78, [some (.ref 201), some (.int l1), some (.int l2), none, some (.int l4), some (.int l5), none], [.int l4], hp X G μ)) rfl ?_
        obtain rfl := Option.some.inj hf
        exact ab_U.ret rfl rfl ⟨rfl, rfl⟩
      · rw [if_neg b1] at hf
        refine ab_U.run 1 (S' := (16, [some (.ref 201), some (.int l1), some (.int l2), none, some (.int l4), some (.int l5), none], [.int l4], hp X G μ)) rfl ?_
        refine ab_U.if_le rfl (fun b2 => ?_) (fun b2 => ?_)
        · rw [if_pos b2] at hf
          refine ab_U.run 1 (S' := (78, [some (.ref 201), some (.int l1), some (.int l2), none, some (.int l4), some (.int l5), none], [.int l4], hp X G μ)) rfl ?_
          obtain rfl := Option.some.inj hf
          exact ab_U.ret rfl rfl ⟨rfl, rfl⟩
        · rw [if_neg b2] at hf
          refine ab_U.run 7 (S' := (29, [some (.ref 201), some (.int l1), some (.int l2), none, some (.int l4), some (.int l5), none], [.int ((l2 + (μ.1 201 4)) + 1), .int l5], hp X G μ)) rfl ?_
          refine ab_U.ic_ne rfl (fun b3 => ?_) (fun b3 => ?_)
          · rw [if_pos b3] at hf
            refine ab_U.run 7 (S' := (62, [some (.ref 201), some (.int l1), some (.int l2), none, some (.int l4), some (.int l5), some (.int 0)], [.int (μ.1 201 3), .int l4], hp X G μ)) rfl ?_
            obtain ⟨q4, h5, hf⟩ := ab_bnd hf
            refine ab_U.fn rfl rfl (t_X8_cooled (X := X) hG h5) (by omega) ?_
            show ab_U _ _ _ (65, [some (.ref 201), some (.int l1), some (.int l2), none, some (.int l4), some (.int l5), some (.int 0)], [.int q4.1], hp X G q4.2) _
            obtain ⟨q6, h7, hf⟩ := ab_bnd hf
            refine ab_U.fn rfl rfl (t_X6_orPebble (X := X) hG h7) (by omega) ?_
            show ab_U _ _ _ (68, [some (.ref 201), some (.int l1), some (.int l2), none, some (.int l4), some (.int l5), some (.int 0)], [.int q6.1], hp X G q6.2) _
            refine ab_U.run 3 (S' := (8, [some (.ref 201), some (.int l1), some (.int l2), none, some (.int q6.1), some (.int (l5 + 1)), some (.int 0)], [], hp X G q6.2)) rfl ?_
            exact ab_U.weak (ih _ _ _ _ _ _ hf) (ab_leL.of ⟨rfl, ⟨rfl, ⟨rfl, ⟨rfl, ⟨rfl, trivial⟩⟩⟩⟩⟩)
          · rw [if_neg b3] at hf
            refine ab_U.run 8 (S' := (50, [some (.ref 201), some (.int l1), some (.int l2), none, some (.int l4), some (.int l5), some (.int 1)], [.int (μ.1 201 5), .int l4], hp X G μ)) rfl ?_
            obtain ⟨q8, h9, hf⟩ := ab_bnd hf
            refine ab_U.fn rfl rfl (t_J9_max_7cf53 (X := X) hG h9) (by omega) ?_
            show ab_U _ _ _ (53, [some (.ref 201), some (.int l1), some (.int l2), none, some (.int l4), some (.int l5), some (.int 1)], [.int q8.1], hp X G q8.2) _
            refine ab_U.run 4 (S' := (8, [some (.ref 201), some (.int l1), some (.int l2), none, some (.int q8.1), some (.int (l5 + 1)), some (.int 1)], [], hp X G q8.2)) rfl ?_
            exact ab_U.weak (ih _ _ _ _ _ _ hf) (ab_leL.of ⟨rfl, ⟨rfl, ⟨rfl, ⟨rfl, ⟨rfl, trivial⟩⟩⟩⟩⟩)
set_option maxRecDepth 20000 in
def f_X6_walkedUntil (F : Nat)  (x0 : Int32) (x1 : Int32) (x2 : Int32) (μ : fm_M) : Option (Int32 × fm_M) := g_X6_walkedUntil F  F 8 x0 x1 x2 (x1 + 1) μ
set_option maxRecDepth 20000 in
theorem t_X6_walkedUntil {X : Nat × (Nat → Int32)} {G : Nat → Nat → Option Nat} (hG : fm_Gok G) {F : Nat}   {x0 : Int32} {x1 : Int32} {x2 : Int32} {μ : fm_M} {r : Int32 × fm_M} (hf : f_X6_walkedUntil F x0 x1 x2 μ = some r) : ab_F 3 51 [.ref 201, .int x0, .int x1, .int x2] (hp X G μ) (some (.int r.1)) (hp X G r.2) := by
  unfold f_X6_walkedUntil at hf
  refine ab_T.of (d := 2) rfl (Nat.le_of_ble_eq_true rfl) ?_
  show ab_U _ _ kX6_walkedUntil (0, [some (.ref 201), some (.int x0), some (.int x1), some (.int x2), none, none, none], [], hp X G μ) _
  refine ab_U.run 6 (S' := (8, [some (.ref 201), some (.int x0), some (.int x1), some (.int x2), some (.int x2), some (.int (x1 + 1)), none], [], hp X G μ)) rfl ?_
  exact ab_U.weak ((t_X6_walkedUntil_g (X := X) hG   F) _ _ _ _ _ _ hf) (ab_leL.of ⟨rfl, ⟨rfl, ⟨rfl, ⟨rfl, ⟨rfl, trivial⟩⟩⟩⟩⟩)
set_option maxRecDepth 20000 in
def b_X6_walkOnce_24 (F : Nat)  (gg : Nat → Int32 → fm_M → Option (Unit × fm_M)) (l2 : Int32) (μ : fm_M) : Option (Unit × fm_M) := (if (μ.1 201 2) ≤ l2 then some ((), μ) else (if fm_inA μ.2.2.2.2 l2 = true then (if (μ.2.1 μ.2.2.2.2 l2.toNatClampNeg) ≤ 0 then gg 24 (l2 + 1) μ else (Option.bind (f_J9_min_7cf53 F (μ.1 201 2) ((l2 + (2 * (μ.1 201 4))) + 1) μ) (fun q4 => (if fm_inA q4.2.2.2.2.1 q4.1 = true then (if fm_inA q4.2.2.2.2.2 l2 = true then (Option.bind (f_X6_walkedUntil F q4.1 l2 (q4.2.2.1 q4.2.2.2.2.2 l2.toNatClampNeg) q4.2) (fun q8 => (Option.bind (f_J9_max_7cf53 F (q4.2.2.1 q4.2.2.2.2.1 q4.1.toNatClampNeg) q8.1 q8.2) (fun q10 => (if fm_inA q4.2.2.2.2.1 q4.1 = true then (Option.bind (some (fm_sA q10.2 q4.2.2.2.2.1 (upd (q10.2.2.1 q4.2.2.2.2.1) q4.1.toNatClampNeg q10.1))) (fun m13 => gg 24 (l2 + 1) m13)) else none))))) else none) else none)))) else none))
def g_X6_walkOnce (F : Nat)  : Nat → Nat → Int32 → fm_M → Option (Unit × fm_M)
  | 0, _, _, _ => none
  | n + 1, pc, l2, μ => if pc = 24 then b_X6_walkOnce_24 F  (g_X6_walkOnce F  n) l2 μ else none
set_option maxRecDepth 20000 in
theorem t_X6_walkOnce_g {X : Nat × (Nat → Int32)} {G : Nat → Nat → Option Nat} (hG : fm_Gok G) {F : Nat}    : ∀ n : Nat, (∀ (l2 : Int32) (μ : fm_M) (r : Unit × fm_M), g_X6_walkOnce F  n 24 l2 μ = some r → ab_U 3 (none) kX6_walkOnce (24, [some (.ref 201), none, some (.int l2), none], [], hp X G μ) (fun r9 h9 => r9 = none ∧ h9 = hp X G r.2))
  | 0 => by
    intros
    rename_i h
    cases h
  | n + 1 => by
    have ih := t_X6_walkOnce_g (X := X) hG (F := F)   n
    · intro l2 μ r hf
      have hf : b_X6_walkOnce_24 F  (g_X6_walkOnce F  n) l2 μ = some r := hf
      unfold b_X6_walkOnce_24 at hf
      refine ab_U.run 3 (S' := (29, [some (.ref 201), none, some (.int l2), none], [.int (μ.1 201 2), .int l2], hp X G μ)) rfl ?_
      refine ab_U.ic_ge rfl (fun b1 => ?_) (fun b1 => ?_)
      · rw [if_pos b1] at hf
        obtain rfl := Option.some.inj hf
        exact ab_U.ret rfl rfl ⟨rfl, rfl⟩
      · rw [if_neg b1] at hf
        refine ab_U.run 3 (S' := (37, [some (.ref 201), none, some (.int l2), none], [.int l2, .ref μ.2.2.2.2], hp X G μ)) rfl ?_
        obtain ⟨c2, hf⟩ := ab_ifs hf
        refine ab_U.ialdA rfl c2 ?_
        show ab_U _ _ _ (38, [some (.ref 201), none, some (.int l2), none], [.int (μ.2.1 μ.2.2.2.2 l2.toNatClampNeg)], hp X G μ) _
        refine ab_U.if_le rfl (fun b3 => ?_) (fun b3 => ?_)
        · rw [if_pos b3] at hf
          refine ab_U.run 2 (S' := (24, [some (.ref 201), none, some (.int (l2 + 1)), none], [], hp X G μ)) rfl ?_
          exact ab_U.weak (ih _ _ _ hf) (ab_leL.of ⟨rfl, ⟨rfl, trivial⟩⟩)
        · rw [if_neg b3] at hf
          refine ab_U.run 10 (S' := (55, [some (.ref 201), none, some (.int l2), none], [.int ((l2 + (2 * (μ.1 201 4))) + 1), .int (μ.1 201 2)], hp X G μ)) rfl ?_
          obtain ⟨q4, h5, hf⟩ := ab_bnd hf
          refine ab_U.fn rfl rfl (t_J9_min_7cf53 (X := X) hG h5) (by omega) ?_
          show ab_U _ _ _ (58, [some (.ref 201), none, some (.int l2), none], [.int q4.1], hp X G q4.2) _
          refine ab_U.run 7 (S' := (69, [some (.ref 201), none, some (.int l2), some (.int q4.1)], [.int q4.1, .ref q4.2.2.2.2.1, .int q4.1, .ref q4.2.2.2.2.1], hp X G q4.2)) rfl ?_
          obtain ⟨c6, hf⟩ := ab_ifs hf
          refine ab_U.ialdA rfl c6 ?_
          show ab_U _ _ _ (70, [some (.ref 201), none, some (.int l2), some (.int q4.1)], [.int (q4.2.2.1 q4.2.2.2.2.1 q4.1.toNatClampNeg), .int q4.1, .ref q4.2.2.2.2.1], hp X G q4.2) _
          refine ab_U.run 6 (S' := (78, [some (.ref 201), none, some (.int l2), some (.int q4.1)], [.int l2, .ref q4.2.2.2.2.2, .int l2, .int q4.1, .ref 201, .int (q4.2.2.1 q4.2.2.2.2.1 q4.1.toNatClampNeg), .int q4.1, .ref q4.2.2.2.2.1], hp X G q4.2)) rfl ?_
          obtain ⟨c7, hf⟩ := ab_ifs hf
          refine ab_U.ialdA rfl c7 ?_
          show ab_U _ _ _ (79, [some (.ref 201), none, some (.int l2), some (.int q4.1)], [.int (q4.2.2.1 q4.2.2.2.2.2 l2.toNatClampNeg), .int l2, .int q4.1, .ref 201, .int (q4.2.2.1 q4.2.2.2.2.1 q4.1.toNatClampNeg), .int q4.1, .ref q4.2.2.2.2.1], hp X G q4.2) _
          obtain ⟨q8, h9, hf⟩ := ab_bnd hf
          refine ab_U.fn rfl rfl (t_X6_walkedUntil (X := X) hG h9) (by omega) ?_
          show ab_U _ _ _ (82, [some (.ref 201), none, some (.int l2), some (.int q4.1)], [.int q8.1, .int (q4.2.2.1 q4.2.2.2.2.1 q4.1.toNatClampNeg), .int q4.1, .ref q4.2.2.2.2.1], hp X G q8.2) _
          obtain ⟨q10, h11, hf⟩ := ab_bnd hf
          refine ab_U.fn rfl rfl (t_J9_max_7cf53 (X := X) hG h11) (by omega) ?_
          show ab_U _ _ _ (85, [some (.ref 201), none, some (.int l2), some (.int q4.1)], [.int q10.1, .int q4.1, .ref q4.2.2.2.2.1], hp X G q10.2) _
          obtain ⟨c12, hf⟩ := ab_ifs hf
          obtain ⟨m13, e14, hf⟩ := ab_bnd hf
          have e14 := Option.some.inj e14
          refine ab_U.iastA rfl c12 ?_
          show ab_U _ _ _ (86, [some (.ref 201), none, some (.int l2), some (.int q4.1)], [], hp X G (fm_sA q10.2 q4.2.2.2.2.1 (upd (q10.2.2.1 q4.2.2.2.2.1) q4.1.toNatClampNeg q10.1))) _
          rw [e14]
          refine ab_U.run 2 (S' := (24, [some (.ref 201), none, some (.int (l2 + 1)), some (.int q4.1)], [], hp X G m13)) rfl ?_
          exact ab_U.weak (ih _ _ _ hf) (ab_leL.of ⟨rfl, ⟨rfl, trivial⟩⟩)
set_option maxRecDepth 20000 in
def f_X6_walkOnce (F : Nat)   (μ : fm_M) : Option (Unit × fm_M) := (Option.bind (some (fm_sW μ μ.2.2.2.1 μ.2.2.2.1)) (fun m15 => (Option.bind (some (fm_sW m15 μ.2.2.2.2 m15.2.2.2.2)) (fun m17 => (Option.bind (f_X6_clearRow F m17) (fun q19 => g_X6_walkOnce F  F 24 0 q19.2))))))
set_option maxRecDepth 20000 in
theorem t_X6_walkOnce {X : Nat × (Nat → Int32)} {G : Nat → Nat → Option Nat} (hG : fm_Gok G) {F : Nat}    {μ : fm_M} {r : Unit × fm_M} (hf : f_X6_walkOnce F  μ = some r) : ab_F 4 50 [.ref 201] (hp X G μ) none (hp X G r.2) := by
  unfold f_X6_walkOnce at hf
  refine ab_T.of (d := 3) rfl (Nat.le_of_ble_eq_true rfl) ?_
  show ab_U _ _ kX6_walkOnce (0, [some (.ref 201), none, none, none], [], hp X G μ) _
  refine ab_U.run 6 (S' := (10, [some (.ref 201), some (.ref μ.2.2.2.2), none, none], [.ref μ.2.2.2.1, .ref 201], hp X G μ)) rfl ?_
  obtain ⟨m15, e16, hf⟩ := ab_bnd hf
  have e16 := Option.some.inj e16
  refine ab_U.pfW1 rfl ?_
  show ab_U _ _ _ (13, [some (.ref 201), some (.ref μ.2.2.2.2), none, none], [], hp X G (fm_sW μ μ.2.2.2.1 μ.2.2.2.1)) _
  rw [e16]
  refine ab_U.run 2 (S' := (15, [some (.ref 201), some (.ref μ.2.2.2.2), none, none], [.ref μ.2.2.2.2, .ref 201], hp X G m15)) rfl ?_
  obtain ⟨m17, e18, hf⟩ := ab_bnd hf
  have e18 := Option.some.inj e18
  refine ab_U.pfW0 rfl ?_
  show ab_U _ _ _ (18, [some (.ref 201), some (.ref μ.2.2.2.2), none, none], [], hp X G (fm_sW m15 μ.2.2.2.2 m15.2.2.2.2)) _
  rw [e18]
  refine ab_U.run 1 (S' := (19, [some (.ref 201), some (.ref μ.2.2.2.2), none, none], [.ref 201], hp X G m17)) rfl ?_
  obtain ⟨q19, h20, hf⟩ := ab_bnd hf
  refine ab_U.fn rfl rfl (t_X6_clearRow (X := X) hG h20) (by omega) ?_
  show ab_U _ _ _ (22, [some (.ref 201), some (.ref μ.2.2.2.2), none, none], [], hp X G q19.2) _
  refine ab_U.run 2 (S' := (24, [some (.ref 201), some (.ref μ.2.2.2.2), some (.int 0), none], [], hp X G q19.2)) rfl ?_
  exact ab_U.weak ((t_X6_walkOnce_g (X := X) hG   F) _ _ _ hf) (ab_leL.of ⟨rfl, ⟨rfl, trivial⟩⟩)
set_option maxRecDepth 20000 in
def b_X6_leastWalks_66 (F : Nat)  (gg : Nat → Int32 → fm_M → Option (Int32 × fm_M)) (l4 : Int32) (μ : fm_M) : Option (Int32 × fm_M) := (if (μ.1 201 2) < l4 then some ((-4), μ) else (if fm_inA μ.2.2.2.1 (μ.1 201 2) = true then (if (μ.2.1 μ.2.2.2.1 (μ.1 201 2).toNatClampNeg) ≤ 0 then (Option.bind (f_X6_walkOnce F μ) (fun q4 => (Option.bind (f_X6_stay F q4.2) (fun q6 => gg 66 (l4 + 1) q6.2)))) else some (l4, μ)) else none))
def g_X6_leastWalks (F : Nat)  : Nat → Nat → Int32 → fm_M → Option (Int32 × fm_M)
  | 0, _, _, _ => none
  | n + 1, pc, l4, μ => if pc = 66 then b_X6_leastWalks_66 F  (g_X6_leastWalks F  n) l4 μ else none
set_option maxRecDepth 20000 in
theorem t_X6_leastWalks_g {X : Nat × (Nat → Int32)} {G : Nat → Nat → Option Nat} (hG : fm_Gok G) {F : Nat}    : ∀ n : Nat, (∀ (l4 : Int32) (μ : fm_M) (r : Int32 × fm_M), g_X6_leastWalks F  n 66 l4 μ = some r → ab_U 4 (some .int) kX6_leastWalks (66, [some (.ref 201), none, none, none, some (.int l4)], [], hp X G μ) (fun r9 h9 => r9 = some (.int r.1) ∧ h9 = hp X G r.2))
  | 0 => by
    intros
    rename_i h
    cases h
  | n + 1 => by
    have ih := t_X6_leastWalks_g (X := X) hG (F := F)   n
    · intro l4 μ r hf
      have hf : b_X6_leastWalks_66 F  (g_X6_leastWalks F  n) l4 μ = some r := hf
      unfold b_X6_leastWalks_66 at hf
      refine ab_U.run 3 (S' := (72, [some (.ref 201), none, none, none, some (.int l4)], [.int (μ.1 201 2), .int l4], hp X G μ)) rfl ?_
      refine ab_U.ic_gt rfl (fun b1 => ?_) (fun b1 => ?_)
      · rw [if_pos b1] at hf
        refine ab_U.run 1 (S' := (106, [some (.ref 201), none, none, none, some (.int l4)], [.int (-4)], hp X G μ)) rfl ?_
        obtain rfl := Option.some.inj hf
        exact ab_U.ret rfl rfl ⟨rfl, rfl⟩
      · rw [if_neg b1] at hf
        refine ab_U.run 4 (S' := (83, [some (.ref 201), none, none, none, some (.int l4)], [.int (μ.1 201 2), .ref μ.2.2.2.1], hp X G μ)) rfl ?_
        obtain ⟨c2, hf⟩ := ab_ifs hf
        refine ab_U.ialdA rfl c2 ?_
        show ab_U _ _ _ (84, [some (.ref 201), none, none, none, some (.int l4)], [.int (μ.2.1 μ.2.2.2.1 (μ.1 201 2).toNatClampNeg)], hp X G μ) _
        refine ab_U.if_le rfl (fun b3 => ?_) (fun b3 => ?_)
        · rw [if_pos b3] at hf
          refine ab_U.run 1 (S' := (91, [some (.ref 201), none, none, none, some (.int l4)], [.ref 201], hp X G μ)) rfl ?_
          obtain ⟨q4, h5, hf⟩ := ab_bnd hf
          refine ab_U.fn rfl rfl (t_X6_walkOnce (X := X) hG h5) (by omega) ?_
          show ab_U _ _ _ (94, [some (.ref 201), none, none, none, some (.int l4)], [], hp X G q4.2) _
          refine ab_U.run 1 (S' := (95, [some (.ref 201), none, none, none, some (.int l4)], [.ref 201], hp X G q4.2)) rfl ?_
          obtain ⟨q6, h7, hf⟩ := ab_bnd hf
          refine ab_U.fn rfl rfl (t_X6_stay (X := X) hG h7) (by omega) ?_
          show ab_U _ _ _ (98, [some (.ref 201), none, none, none, some (.int l4)], [], hp X G q6.2) _
          refine ab_U.run 2 (S' := (66, [some (.ref 201), none, none, none, some (.int (l4 + 1))], [], hp X G q6.2)) rfl ?_
          exact ab_U.weak (ih _ _ _ hf) (ab_leL.of ⟨rfl, ⟨rfl, trivial⟩⟩)
        · rw [if_neg b3] at hf
          refine ab_U.run 1 (S' := (89, [some (.ref 201), none, none, none, some (.int l4)], [.int l4], hp X G μ)) rfl ?_
          obtain rfl := Option.some.inj hf
          exact ab_U.ret rfl rfl ⟨rfl, rfl⟩
set_option maxRecDepth 20000 in
def f_X6_leastWalks (F : Nat)  (x1 : Int32) (x2 : Int32) (μ : fm_M) : Option (Int32 × fm_M) := (Option.bind (f_J9_min_7cf53 F x2 60 μ) (fun q8 => (Option.bind (f_J9_max_7cf53 F 0 q8.1 q8.2) (fun q10 => (Option.bind (some (fm_sI q10.2 201 2 q10.1)) (fun m12 => (Option.bind (f_X7_rateOf F 101 x1 m12) (fun q14 => (Option.bind (some (fm_sI q14.2 201 3 q14.1)) (fun m16 => (Option.bind (f_X7_ovenDistance F 101 x1 m16) (fun q18 => (Option.bind (some (fm_sI q18.2 201 4 q18.1)) (fun m20 => (Option.bind (some (fm_sI m20 201 5 (m20.1 101 8))) (fun m22 => (Option.bind (f_X6_clearRow F m22) (fun q24 => (if ab_in x1 5 = true then (Option.bind (f_X6_orPebble F (q24.2.2.1 105 x1.toNatClampNeg) q24.2) (fun q27 => (if fm_inA q24.2.2.2.2.1 0 = true then (Option.bind (some (fm_sA q27.2 q24.2.2.2.2.1 (upd (q27.2.2.1 q24.2.2.2.2.1) (0 : Int32).toNatClampNeg q27.1))) (fun m30 => (Option.bind (f_X6_stay F m30) (fun q32 => g_X6_leastWalks F  F 66 0 q32.2)))) else none))) else none)))))))))))))))))))
set_option maxRecDepth 20000 in
theorem t_X6_leastWalks {X : Nat × (Nat → Int32)} {G : Nat → Nat → Option Nat} (hG : fm_Gok G) {F : Nat}   {x1 : Int32} {x2 : Int32} {μ : fm_M} {r : Int32 × fm_M} (hf : f_X6_leastWalks F x1 x2 μ = some r) : ab_F 5 46 [.ref 201, .ref 101, .int x1, .int x2] (hp X G μ) (some (.int r.1)) (hp X G r.2) := by
  unfold f_X6_leastWalks at hf
  refine ab_T.of (d := 4) rfl (Nat.le_of_ble_eq_true rfl) ?_
  show ab_U _ _ kX6_leastWalks (0, [some (.ref 201), some (.ref 101), some (.int x1), some (.int x2), none], [], hp X G μ) _
  refine ab_U.run 4 (S' := (5, [some (.ref 201), some (.ref 101), some (.int x1), some (.int x2), none], [.int 60, .int x2, .int 0, .ref 201], hp X G μ)) rfl ?_
  obtain ⟨q8, h9, hf⟩ := ab_bnd hf
  refine ab_U.fn rfl rfl (t_J9_min_7cf53 (X := X) hG h9) (by omega) ?_
  show ab_U _ _ _ (8, [some (.ref 201), some (.ref 101), some (.int x1), some (.int x2), none], [.int q8.1, .int 0, .ref 201], hp X G q8.2) _
  obtain ⟨q10, h11, hf⟩ := ab_bnd hf
  refine ab_U.fn rfl rfl (t_J9_max_7cf53 (X := X) hG h11) (by omega) ?_
  show ab_U _ _ _ (11, [some (.ref 201), some (.ref 101), some (.int x1), some (.int x2), none], [.int q10.1, .ref 201], hp X G q10.2) _
  obtain ⟨m12, e13, hf⟩ := ab_bnd hf
  have e13 := Option.some.inj e13
  refine ab_U.pfI (ci := 6) (k9 := 2) rfl ⟨by decide, rfl⟩ ⟨rfl, rfl, by decide, rfl⟩ rfl ?_
  show ab_U _ _ _ (14, [some (.ref 201), some (.ref 101), some (.int x1), some (.int x2), none], [], hp X G (fm_sI q10.2 201 2 q10.1)) _
  rw [e13]
  refine ab_U.run 3 (S' := (17, [some (.ref 201), some (.ref 101), some (.int x1), some (.int x2), none], [.int x1, .ref 101, .ref 201], hp X G m12)) rfl ?_
  obtain ⟨q14, h15, hf⟩ := ab_bnd hf
  refine ab_U.fn rfl rfl (t_X7_rateOf (X := X) hG (by decide) h15) (by omega) ?_
  show ab_U _ _ _ (20, [some (.ref 201), some (.ref 101), some (.int x1), some (.int x2), none], [.int q14.1, .ref 201], hp X G q14.2) _
  obtain ⟨m16, e17, hf⟩ := ab_bnd hf
  have e17 := Option.some.inj e17
  refine ab_U.pfI (ci := 6) (k9 := 3) rfl ⟨by decide, rfl⟩ ⟨rfl, rfl, by decide, rfl⟩ rfl ?_
  show ab_U _ _ _ (23, [some (.ref 201), some (.ref 101), some (.int x1), some (.int x2), none], [], hp X G (fm_sI q14.2 201 3 q14.1)) _
  rw [e17]
  refine ab_U.run 3 (S' := (26, [some (.ref 201), some (.ref 101), some (.int x1), some (.int x2), none], [.int x1, .ref 101, .ref 201], hp X G m16)) rfl ?_
  obtain ⟨q18, h19, hf⟩ := ab_bnd hf
  refine ab_U.fn rfl rfl (t_X7_ovenDistance (X := X) hG (by decide) h19) (by omega) ?_
  show ab_U _ _ _ (29, [some (.ref 201), some (.ref 101), some (.int x1), some (.int x2), none], [.int q18.1, .ref 201], hp X G q18.2) _
  obtain ⟨m20, e21, hf⟩ := ab_bnd hf
  have e21 := Option.some.inj e21
  refine ab_U.pfI (ci := 6) (k9 := 4) rfl ⟨by decide, rfl⟩ ⟨rfl, rfl, by decide, rfl⟩ rfl ?_
  show ab_U _ _ _ (32, [some (.ref 201), some (.ref 101), some (.int x1), some (.int x2), none], [], hp X G (fm_sI q18.2 201 4 q18.1)) _
  rw [e21]
  refine ab_U.run 3 (S' := (37, [some (.ref 201), some (.ref 101), some (.int x1), some (.int x2), none], [.int (m20.1 101 8), .ref 201], hp X G m20)) rfl ?_
  obtain ⟨m22, e23, hf⟩ := ab_bnd hf
  have e23 := Option.some.inj e23
  refine ab_U.pfI (ci := 6) (k9 := 5) rfl ⟨by decide, rfl⟩ ⟨rfl, rfl, by decide, rfl⟩ rfl ?_
  show ab_U _ _ _ (40, [some (.ref 201), some (.ref 101), some (.int x1), some (.int x2), none], [], hp X G (fm_sI m20 201 5 (m20.1 101 8))) _
  rw [e23]
  refine ab_U.run 1 (S' := (41, [some (.ref 201), some (.ref 101), some (.int x1), some (.int x2), none], [.ref 201], hp X G m22)) rfl ?_
  obtain ⟨q24, h25, hf⟩ := ab_bnd hf
  refine ab_U.fn rfl rfl (t_X6_clearRow (X := X) hG h25) (by omega) ?_
  show ab_U _ _ _ (44, [some (.ref 201), some (.ref 101), some (.int x1), some (.int x2), none], [], hp X G q24.2) _
  refine ab_U.run 6 (S' := (54, [some (.ref 201), some (.ref 101), some (.int x1), some (.int x2), none], [.int x1, .ref 105, .int 0, .ref q24.2.2.2.2.1], hp X G q24.2)) rfl ?_
  obtain ⟨c26, hf⟩ := ab_ifs hf
  refine ab_U.iald (n := 5) rfl ⟨by decide, rfl⟩ c26 ?_
  show ab_U _ _ _ (55, [some (.ref 201), some (.ref 101), some (.int x1), some (.int x2), none], [.int (q24.2.2.1 105 x1.toNatClampNeg), .int 0, .ref q24.2.2.2.2.1], hp X G q24.2) _
  obtain ⟨q27, h28, hf⟩ := ab_bnd hf
  refine ab_U.fn rfl rfl (t_X6_orPebble (X := X) hG h28) (by omega) ?_
  show ab_U _ _ _ (58, [some (.ref 201), some (.ref 101), some (.int x1), some (.int x2), none], [.int q27.1, .int 0, .ref q24.2.2.2.2.1], hp X G q27.2) _
  obtain ⟨c29, hf⟩ := ab_ifs hf
  obtain ⟨m30, e31, hf⟩ := ab_bnd hf
  have e31 := Option.some.inj e31
  refine ab_U.iastA rfl c29 ?_
  show ab_U _ _ _ (59, [some (.ref 201), some (.ref 101), some (.int x1), some (.int x2), none], [], hp X G (fm_sA q27.2 q24.2.2.2.2.1 (upd (q27.2.2.1 q24.2.2.2.2.1) (0 : Int32).toNatClampNeg q27.1))) _
  rw [e31]
  refine ab_U.run 1 (S' := (60, [some (.ref 201), some (.ref 101), some (.int x1), some (.int x2), none], [.ref 201], hp X G m30)) rfl ?_
  obtain ⟨q32, h33, hf⟩ := ab_bnd hf
  refine ab_U.fn rfl rfl (t_X6_stay (X := X) hG h33) (by omega) ?_
  show ab_U _ _ _ (63, [some (.ref 201), some (.ref 101), some (.int x1), some (.int x2), none], [], hp X G q32.2) _
  refine ab_U.run 2 (S' := (66, [some (.ref 201), some (.ref 101), some (.int x1), some (.int x2), some (.int 0)], [], hp X G q32.2)) rfl ?_
  exact ab_U.weak ((t_X6_leastWalks_g (X := X) hG   F) _ _ _ hf) (ab_leL.of ⟨rfl, ⟨rfl, trivial⟩⟩)
set_option maxRecDepth 20000 in
def f_X7_hasStone (F : Nat) (w : Nat) (x0 : Int32) (μ : fm_M) : Option (Int32 × fm_M) := (if x0 < 0 then some (0, μ) else (if (μ.1 w 3) ≤ x0 then some (0, μ) else some (1, μ)))
set_option maxRecDepth 20000 in
theorem t_X7_hasStone {X : Nat × (Nat → Int32)} {G : Nat → Nat → Option Nat} (hG : fm_Gok G) {F : Nat} {w : Nat} (hw : fm_isW w = true) {x0 : Int32} {μ : fm_M} {r : Int32 × fm_M} (hf : f_X7_hasStone F w x0 μ = some r) : ab_F 1 56 [.ref w, .int x0] (hp X G μ) (some (.int r.1)) (hp X G r.2) := by
  unfold f_X7_hasStone at hf
  refine ab_T.of (d := 0) rfl (Nat.le_of_ble_eq_true rfl) ?_
  show ab_U _ _ kX7_hasStone (0, [some (.ref w), some (.int x0)], [], hp X G μ) _
  refine ab_U.run 1 (S' := (1, [some (.ref w), some (.int x0)], [.int x0], hp X G μ)) rfl ?_
  refine ab_U.if_lt rfl (fun b1 => ?_) (fun b1 => ?_)
  · rw [if_pos b1] at hf
    refine ab_U.run 1 (S' := (17, [some (.ref w), some (.int x0)], [.int 0], hp X G μ)) rfl ?_
    obtain rfl := Option.some.inj hf
    exact ab_U.ret rfl rfl ⟨rfl, rfl⟩
  · rw [if_neg b1] at hf
    refine ab_U.run 2 (S' := (6, [some (.ref w), some (.int x0)], [.ref w, .int x0], hp X G μ)) rfl ?_
    refine ab_U.gfI (ci := 7) (k9 := 3) rfl (fm_WO hw) ⟨rfl, rfl, by decide, rfl⟩ ?_
    show ab_U _ _ _ (9, [some (.ref w), some (.int x0)], [.int (μ.1 w 3), .int x0], hp X G μ) _
    refine ab_U.ic_ge rfl (fun b2 => ?_) (fun b2 => ?_)
    · rw [if_pos b2] at hf
      refine ab_U.run 1 (S' := (17, [some (.ref w), some (.int x0)], [.int 0], hp X G μ)) rfl ?_
      obtain rfl := Option.some.inj hf
      exact ab_U.ret rfl rfl ⟨rfl, rfl⟩
    · rw [if_neg b2] at hf
      refine ab_U.run 2 (S' := (17, [some (.ref w), some (.int x0)], [.int 1], hp X G μ)) rfl ?_
      obtain rfl := Option.some.inj hf
      exact ab_U.ret rfl rfl ⟨rfl, rfl⟩
set_option maxRecDepth 20000 in
def f_X7_hasDebt (F : Nat) (w : Nat) (x0 : Int32) (μ : fm_M) : Option (Int32 × fm_M) := (if x0 < 0 then some (0, μ) else (if (μ.1 w 11) ≤ x0 then some (0, μ) else some (1, μ)))
set_option maxRecDepth 20000 in
theorem t_X7_hasDebt {X : Nat × (Nat → Int32)} {G : Nat → Nat → Option Nat} (hG : fm_Gok G) {F : Nat} {w : Nat} (hw : fm_isW w = true) {x0 : Int32} {μ : fm_M} {r : Int32 × fm_M} (hf : f_X7_hasDebt F w x0 μ = some r) : ab_F 1 57 [.ref w, .int x0] (hp X G μ) (some (.int r.1)) (hp X G r.2) := by
  unfold f_X7_hasDebt at hf
  refine ab_T.of (d := 0) rfl (Nat.le_of_ble_eq_true rfl) ?_
  show ab_U _ _ kX7_hasDebt (0, [some (.ref w), some (.int x0)], [], hp X G μ) _
  refine ab_U.run 1 (S' := (1, [some (.ref w), some (.int x0)], [.int x0], hp X G μ)) rfl ?_
  refine ab_U.if_lt rfl (fun b1 => ?_) (fun b1 => ?_)
  · rw [if_pos b1] at hf
    refine ab_U.run 1 (S' := (17, [some (.ref w), some (.int x0)], [.int 0], hp X G μ)) rfl ?_
    obtain rfl := Option.some.inj hf
    exact ab_U.ret rfl rfl ⟨rfl, rfl⟩
  · rw [if_neg b1] at hf
    refine ab_U.run 2 (S' := (6, [some (.ref w), some (.int x0)], [.ref w, .int x0], hp X G μ)) rfl ?_
    refine ab_U.gfI (ci := 7) (k9 := 11) rfl (fm_WO hw) ⟨rfl, rfl, by decide, rfl⟩ ?_
    show ab_U _ _ _ (9, [some (.ref w), some (.int x0)], [.int (μ.1 w 11), .int x0], hp X G μ) _
    refine ab_U.ic_ge rfl (fun b2 => ?_) (fun b2 => ?_)
    · rw [if_pos b2] at hf
      refine ab_U.run 1 (S' := (17, [some (.ref w), some (.int x0)], [.int 0], hp X G μ)) rfl ?_
      obtain rfl := Option.some.inj hf
      exact ab_U.ret rfl rfl ⟨rfl, rfl⟩
    · rw [if_neg b2] at hf
      refine ab_U.run 2 (S' := (17, [some (.ref w), some (.int x0)], [.int 1], hp X G μ)) rfl ?_
      obtain rfl := Option.some.inj hf
      exact ab_U.ret rfl rfl ⟨rfl, rfl⟩
set_option maxRecDepth 20000 in
def b_X7_warmthOf_4 (F : Nat) (w : Nat) (gg : Nat → Int32 → Int32 → Int32 → fm_M → Option (Int32 × fm_M)) (l1 : Int32) (l2 : Int32) (l3 : Int32) (μ : fm_M) : Option (Int32 × fm_M) := (if (μ.1 w 3) ≤ l3 then some (l2, μ) else (if ab_in l3 5 = true then (if ¬ (μ.2.1 ((w + 5)) l3.toNatClampNeg) = l1 then gg 4 l1 l2 (l3 + 1) μ else (if ab_in l3 5 = true then gg 4 l1 (l2 + (μ.2.1 ((w + 4)) l3.toNatClampNeg)) (l3 + 1) μ else none)) else none))
def g_X7_warmthOf (F : Nat) (w : Nat) : Nat → Nat → Int32 → Int32 → Int32 → fm_M → Option (Int32 × fm_M)
  | 0, _, _, _, _, _ => none
  | n + 1, pc, l1, l2, l3, μ => if pc = 4 then b_X7_warmthOf_4 F w (g_X7_warmthOf F w n) l1 l2 l3 μ else none
set_option maxRecDepth 20000 in
theorem t_X7_warmthOf_g {X : Nat × (Nat → Int32)} {G : Nat → Nat → Option Nat} (hG : fm_Gok G) {F : Nat}  {w : Nat} (hw : fm_isW w = true) : ∀ n : Nat, (∀ (l1 : Int32) (l2 : Int32) (l3 : Int32) (μ : fm_M) (r : Int32 × fm_M), g_X7_warmthOf F w n 4 l1 l2 l3 μ = some r → ab_U 0 (some .int) kX7_warmthOf (4, [some (.ref w), some (.int l1), some (.int l2), some (.int l3)], [], hp X G μ) (fun r9 h9 => r9 = some (.int r.1) ∧ h9 = hp X G r.2))
  | 0 => by
    intros
    rename_i h
    cases h
  | n + 1 => by
    have ih := t_X7_warmthOf_g (X := X) hG (F := F)  hw n
    · intro l1 l2 l3 μ r hf
      have hf : b_X7_warmthOf_4 F w (g_X7_warmthOf F w n) l1 l2 l3 μ = some r := hf
      unfold b_X7_warmthOf_4 at hf
      refine ab_U.run 2 (S' := (6, [some (.ref w), some (.int l1), some (.int l2), some (.int l3)], [.ref w, .int l3], hp X G μ)) rfl ?_
      refine ab_U.gfI (ci := 7) (k9 := 3) rfl (fm_WO hw) ⟨rfl, rfl, by decide, rfl⟩ ?_
      show ab_U _ _ _ (9, [some (.ref w), some (.int l1), some (.int l2), some (.int l3)], [.int (μ.1 w 3), .int l3], hp X G μ) _
      refine ab_U.ic_ge rfl (fun b1 => ?_) (fun b1 => ?_)
      · rw [if_pos b1] at hf
        refine ab_U.run 1 (S' := (38, [some (.ref w), some (.int l1), some (.int l2), some (.int l3)], [.int l2], hp X G μ)) rfl ?_
        obtain rfl := Option.some.inj hf
        exact ab_U.ret rfl rfl ⟨rfl, rfl⟩
      · rw [if_neg b1] at hf
        refine ab_U.run 1 (S' := (13, [some (.ref w), some (.int l1), some (.int l2), some (.int l3)], [.ref w], hp X G μ)) rfl ?_
        refine ab_U.gfW (k9 := 6) rfl hw ⟨rfl, rfl, by decide, rfl⟩ ?_
        show ab_U _ _ _ (16, [some (.ref w), some (.int l1), some (.int l2), some (.int l3)], [.ref (w + 5)], hp X G μ) _
        refine ab_U.run 1 (S' := (17, [some (.ref w), some (.int l1), some (.int l2), some (.int l3)], [.int l3, .ref (w + 5)], hp X G μ)) rfl ?_
        obtain ⟨c2, hf⟩ := ab_ifs hf
        refine ab_U.iald (n := 5) rfl (fm_WA hw).2.2.2.2.1 c2 ?_
        show ab_U _ _ _ (18, [some (.ref w), some (.int l1), some (.int l2), some (.int l3)], [.int (μ.2.1 ((w + 5)) l3.toNatClampNeg)], hp X G μ) _
        refine ab_U.run 1 (S' := (19, [some (.ref w), some (.int l1), some (.int l2), some (.int l3)], [.int l1, .int (μ.2.1 ((w + 5)) l3.toNatClampNeg)], hp X G μ)) rfl ?_
        refine ab_U.ic_ne rfl (fun b3 => ?_) (fun b3 => ?_)
        · rw [if_pos b3] at hf
          refine ab_U.run 2 (S' := (4, [some (.ref w), some (.int l1), some (.int l2), some (.int (l3 + 1))], [], hp X G μ)) rfl ?_
          exact ab_U.weak (ih _ _ _ _ _ hf) (ab_leL.of ⟨rfl, ⟨rfl, ⟨rfl, ⟨rfl, trivial⟩⟩⟩⟩)
        · rw [if_neg b3] at hf
          refine ab_U.run 2 (S' := (24, [some (.ref w), some (.int l1), some (.int l2), some (.int l3)], [.ref w, .int l2], hp X G μ)) rfl ?_
          refine ab_U.gfW (k9 := 5) rfl hw ⟨rfl, rfl, by decide, rfl⟩ ?_
          show ab_U _ _ _ (27, [some (.ref w), some (.int l1), some (.int l2), some (.int l3)], [.ref (w + 4), .int l2], hp X G μ) _
          refine ab_U.run 1 (S' := (28, [some (.ref w), some (.int l1), some (.int l2), some (.int l3)], [.int l3, .ref (w + 4), .int l2], hp X G μ)) rfl ?_
          obtain ⟨c4, hf⟩ := ab_ifs hf
          refine ab_U.iald (n := 5) rfl (fm_WA hw).2.2.2.1 c4 ?_
          show ab_U _ _ _ (29, [some (.ref w), some (.int l1), some (.int l2), some (.int l3)], [.int (μ.2.1 ((w + 4)) l3.toNatClampNeg), .int l2], hp X G μ) _
          refine ab_U.run 4 (S' := (4, [some (.ref w), some (.int l1), some (.int (l2 + (μ.2.1 ((w + 4)) l3.toNatClampNeg))), some (.int (l3 + 1))], [], hp X G μ)) rfl ?_
          exact ab_U.weak (ih _ _ _ _ _ hf) (ab_leL.of ⟨rfl, ⟨rfl, ⟨rfl, ⟨rfl, trivial⟩⟩⟩⟩)
set_option maxRecDepth 20000 in
def f_X7_warmthOf (F : Nat) (w : Nat) (x0 : Int32) (μ : fm_M) : Option (Int32 × fm_M) := g_X7_warmthOf F w F 4 x0 0 0 μ
set_option maxRecDepth 20000 in
theorem t_X7_warmthOf {X : Nat × (Nat → Int32)} {G : Nat → Nat → Option Nat} (hG : fm_Gok G) {F : Nat} {w : Nat} (hw : fm_isW w = true) {x0 : Int32} {μ : fm_M} {r : Int32 × fm_M} (hf : f_X7_warmthOf F w x0 μ = some r) : ab_F 1 63 [.ref w, .int x0] (hp X G μ) (some (.int r.1)) (hp X G r.2) := by
  unfold f_X7_warmthOf at hf
  refine ab_T.of (d := 0) rfl (Nat.le_of_ble_eq_true rfl) ?_
  show ab_U _ _ kX7_warmthOf (0, [some (.ref w), some (.int x0), none, none], [], hp X G μ) _
  refine ab_U.run 4 (S' := (4, [some (.ref w), some (.int x0), some (.int 0), some (.int 0)], [], hp X G μ)) rfl ?_
  exact ab_U.weak ((t_X7_warmthOf_g (X := X) hG  hw F) _ _ _ _ _ hf) (ab_leL.of ⟨rfl, ⟨rfl, ⟨rfl, ⟨rfl, trivial⟩⟩⟩⟩)
set_option maxRecDepth 20000 in
def b_X7_allWarmth_4 (F : Nat) (w : Nat) (gg : Nat → Int32 → Int32 → fm_M → Option (Int32 × fm_M)) (l1 : Int32) (l2 : Int32) (μ : fm_M) : Option (Int32 × fm_M) := (if (μ.1 w 3) ≤ l2 then some (l1, μ) else (if ab_in l2 5 = true then gg 4 (l1 + (μ.2.1 ((w + 4)) l2.toNatClampNeg)) (l2 + 1) μ else none))
def g_X7_allWarmth (F : Nat) (w : Nat) : Nat → Nat → Int32 → Int32 → fm_M → Option (Int32 × fm_M)
  | 0, _, _, _, _ => none
  | n + 1, pc, l1, l2, μ => if pc = 4 then b_X7_allWarmth_4 F w (g_X7_allWarmth F w n) l1 l2 μ else none
set_option maxRecDepth 20000 in
theorem t_X7_allWarmth_g {X : Nat × (Nat → Int32)} {G : Nat → Nat → Option Nat} (hG : fm_Gok G) {F : Nat}  {w : Nat} (hw : fm_isW w = true) : ∀ n : Nat, (∀ (l1 : Int32) (l2 : Int32) (μ : fm_M) (r : Int32 × fm_M), g_X7_allWarmth F w n 4 l1 l2 μ = some r → ab_U 0 (some .int) kX7_allWarmth (4, [some (.ref w), some (.int l1), some (.int l2)], [], hp X G μ) (fun r9 h9 => r9 = some (.int r.1) ∧ h9 = hp X G r.2))
  | 0 => by
    intros
    rename_i h
    cases h
  | n + 1 => by
    have ih := t_X7_allWarmth_g (X := X) hG (F := F)  hw n
    · intro l1 l2 μ r hf
      have hf : b_X7_allWarmth_4 F w (g_X7_allWarmth F w n) l1 l2 μ = some r := hf
      unfold b_X7_allWarmth_4 at hf
      refine ab_U.run 2 (S' := (6, [some (.ref w), some (.int l1), some (.int l2)], [.ref w, .int l2], hp X G μ)) rfl ?_
      refine ab_U.gfI (ci := 7) (k9 := 3) rfl (fm_WO hw) ⟨rfl, rfl, by decide, rfl⟩ ?_
      show ab_U _ _ _ (9, [some (.ref w), some (.int l1), some (.int l2)], [.int (μ.1 w 3), .int l2], hp X G μ) _
      refine ab_U.ic_ge rfl (fun b1 => ?_) (fun b1 => ?_)
      · rw [if_pos b1] at hf
        refine ab_U.run 1 (S' := (28, [some (.ref w), some (.int l1), some (.int l2)], [.int l1], hp X G μ)) rfl ?_
        obtain rfl := Option.some.inj hf
        exact ab_U.ret rfl rfl ⟨rfl, rfl⟩
      · rw [if_neg b1] at hf
        refine ab_U.run 2 (S' := (14, [some (.ref w), some (.int l1), some (.int l2)], [.ref w, .int l1], hp X G μ)) rfl ?_
        refine ab_U.gfW (k9 := 5) rfl hw ⟨rfl, rfl, by decide, rfl⟩ ?_
        show ab_U _ _ _ (17, [some (.ref w), some (.int l1), some (.int l2)], [.ref (w + 4), .int l1], hp X G μ) _
        refine ab_U.run 1 (S' := (18, [some (.ref w), some (.int l1), some (.int l2)], [.int l2, .ref (w + 4), .int l1], hp X G μ)) rfl ?_
        obtain ⟨c2, hf⟩ := ab_ifs hf
        refine ab_U.iald (n := 5) rfl (fm_WA hw).2.2.2.1 c2 ?_
        show ab_U _ _ _ (19, [some (.ref w), some (.int l1), some (.int l2)], [.int (μ.2.1 ((w + 4)) l2.toNatClampNeg), .int l1], hp X G μ) _
        refine ab_U.run 4 (S' := (4, [some (.ref w), some (.int (l1 + (μ.2.1 ((w + 4)) l2.toNatClampNeg))), some (.int (l2 + 1))], [], hp X G μ)) rfl ?_
        exact ab_U.weak (ih _ _ _ _ hf) (ab_leL.of ⟨rfl, ⟨rfl, ⟨rfl, trivial⟩⟩⟩)
set_option maxRecDepth 20000 in
def f_X7_allWarmth (F : Nat) (w : Nat)  (μ : fm_M) : Option (Int32 × fm_M) := g_X7_allWarmth F w F 4 0 0 μ
set_option maxRecDepth 20000 in
theorem t_X7_allWarmth {X : Nat × (Nat → Int32)} {G : Nat → Nat → Option Nat} (hG : fm_Gok G) {F : Nat} {w : Nat} (hw : fm_isW w = true)  {μ : fm_M} {r : Int32 × fm_M} (hf : f_X7_allWarmth F w μ = some r) : ab_F 1 64 [.ref w] (hp X G μ) (some (.int r.1)) (hp X G r.2) := by
  unfold f_X7_allWarmth at hf
  refine ab_T.of (d := 0) rfl (Nat.le_of_ble_eq_true rfl) ?_
  show ab_U _ _ kX7_allWarmth (0, [some (.ref w), none, none], [], hp X G μ) _
  refine ab_U.run 4 (S' := (4, [some (.ref w), some (.int 0), some (.int 0)], [], hp X G μ)) rfl ?_
  exact ab_U.weak ((t_X7_allWarmth_g (X := X) hG  hw F) _ _ _ _ hf) (ab_leL.of ⟨rfl, ⟨rfl, ⟨rfl, trivial⟩⟩⟩)
set_option maxRecDepth 20000 in
def b_X7_allDebts_4 (F : Nat) (w : Nat) (gg : Nat → Int32 → Int32 → fm_M → Option (Int32 × fm_M)) (l1 : Int32) (l2 : Int32) (μ : fm_M) : Option (Int32 × fm_M) := (if (μ.1 w 11) ≤ l2 then some (l1, μ) else (if ab_in l2 4 = true then gg 4 (l1 + (μ.2.1 ((w + 9)) l2.toNatClampNeg)) (l2 + 1) μ else none))
def g_X7_allDebts (F : Nat) (w : Nat) : Nat → Nat → Int32 → Int32 → fm_M → Option (Int32 × fm_M)
  | 0, _, _, _, _ => none
  | n + 1, pc, l1, l2, μ => if pc = 4 then b_X7_allDebts_4 F w (g_X7_allDebts F w n) l1 l2 μ else none
set_option maxRecDepth 20000 in
theorem t_X7_allDebts_g {X : Nat × (Nat → Int32)} {G : Nat → Nat → Option Nat} (hG : fm_Gok G) {F : Nat}  {w : Nat} (hw : fm_isW w = true) : ∀ n : Nat, (∀ (l1 : Int32) (l2 : Int32) (μ : fm_M) (r : Int32 × fm_M), g_X7_allDebts F w n 4 l1 l2 μ = some r → ab_U 0 (some .int) kX7_allDebts (4, [some (.ref w), some (.int l1), some (.int l2)], [], hp X G μ) (fun r9 h9 => r9 = some (.int r.1) ∧ h9 = hp X G r.2))
  | 0 => by
    intros
    rename_i h
    cases h
  | n + 1 => by
    have ih := t_X7_allDebts_g (X := X) hG (F := F)  hw n
    · intro l1 l2 μ r hf
      have hf : b_X7_allDebts_4 F w (g_X7_allDebts F w n) l1 l2 μ = some r := hf
      unfold b_X7_allDebts_4 at hf
      refine ab_U.run 2 (S' := (6, [some (.ref w), some (.int l1), some (.int l2)], [.ref w, .int l2], hp X G μ)) rfl ?_
      refine ab_U.gfI (ci := 7) (k9 := 11) rfl (fm_WO hw) ⟨rfl, rfl, by decide, rfl⟩ ?_
      show ab_U _ _ _ (9, [some (.ref w), some (.int l1), some (.int l2)], [.int (μ.1 w 11), .int l2], hp X G μ) _
      refine ab_U.ic_ge rfl (fun b1 => ?_) (fun b1 => ?_)
      · rw [if_pos b1] at hf
        refine ab_U.run 1 (S' := (28, [some (.ref w), some (.int l1), some (.int l2)], [.int l1], hp X G μ)) rfl ?_
        obtain rfl := Option.some.inj hf
        exact ab_U.ret rfl rfl ⟨rfl, rfl⟩
      · rw [if_neg b1] at hf
        refine ab_U.run 2 (S' := (14, [some (.ref w), some (.int l1), some (.int l2)], [.ref w, .int l1], hp X G μ)) rfl ?_
        refine ab_U.gfW (k9 := 14) rfl hw ⟨rfl, rfl, by decide, rfl⟩ ?_
        show ab_U _ _ _ (17, [some (.ref w), some (.int l1), some (.int l2)], [.ref (w + 9), .int l1], hp X G μ) _
        refine ab_U.run 1 (S' := (18, [some (.ref w), some (.int l1), some (.int l2)], [.int l2, .ref (w + 9), .int l1], hp X G μ)) rfl ?_
        obtain ⟨c2, hf⟩ := ab_ifs hf
        refine ab_U.iald (n := 4) rfl (fm_WA hw).2.2.2.2.2.2.2.2 c2 ?_
        show ab_U _ _ _ (19, [some (.ref w), some (.int l1), some (.int l2)], [.int (μ.2.1 ((w + 9)) l2.toNatClampNeg), .int l1], hp X G μ) _
        refine ab_U.run 4 (S' := (4, [some (.ref w), some (.int (l1 + (μ.2.1 ((w + 9)) l2.toNatClampNeg))), some (.int (l2 + 1))], [], hp X G μ)) rfl ?_
        exact ab_U.weak (ih _ _ _ _ hf) (ab_leL.of ⟨rfl, ⟨rfl, ⟨rfl, trivial⟩⟩⟩)
set_option maxRecDepth 20000 in
def f_X7_allDebts (F : Nat) (w : Nat)  (μ : fm_M) : Option (Int32 × fm_M) := g_X7_allDebts F w F 4 0 0 μ
set_option maxRecDepth 20000 in
theorem t_X7_allDebts {X : Nat × (Nat → Int32)} {G : Nat → Nat → Option Nat} (hG : fm_Gok G) {F : Nat} {w : Nat} (hw : fm_isW w = true)  {μ : fm_M} {r : Int32 × fm_M} (hf : f_X7_allDebts F w μ = some r) : ab_F 1 65 [.ref w] (hp X G μ) (some (.int r.1)) (hp X G r.2) := by
  unfold f_X7_allDebts at hf
  refine ab_T.of (d := 0) rfl (Nat.le_of_ble_eq_true rfl) ?_
  show ab_U _ _ kX7_allDebts (0, [some (.ref w), none, none], [], hp X G μ) _
  refine ab_U.run 4 (S' := (4, [some (.ref w), some (.int 0), some (.int 0)], [], hp X G μ)) rfl ?_
  exact ab_U.weak ((t_X7_allDebts_g (X := X) hG  hw F) _ _ _ _ hf) (ab_leL.of ⟨rfl, ⟨rfl, ⟨rfl, trivial⟩⟩⟩)
set_option maxRecDepth 20000 in
def b_X7_countWarm_4 (F : Nat) (w : Nat) (gg : Nat → Int32 → Int32 → fm_M → Option (Int32 × fm_M)) (l1 : Int32) (l2 : Int32) (μ : fm_M) : Option (Int32 × fm_M) := (if (μ.1 w 3) ≤ l2 then some (l1, μ) else (if ab_in l2 5 = true then (Option.bind (f_X8_isWarm F (μ.2.1 ((w + 4)) l2.toNatClampNeg) μ) (fun q3 => (if q3.1 = 0 then gg 4 l1 (l2 + 1) q3.2 else gg 4 (l1 + 1) (l2 + 1) q3.2))) else none))
def g_X7_countWarm (F : Nat) (w : Nat) : Nat → Nat → Int32 → Int32 → fm_M → Option (Int32 × fm_M)
  | 0, _, _, _, _ => none
  | n + 1, pc, l1, l2, μ => if pc = 4 then b_X7_countWarm_4 F w (g_X7_countWarm F w n) l1 l2 μ else none
set_option maxRecDepth 20000 in
theorem t_X7_countWarm_g {X : Nat × (Nat → Int32)} {G : Nat → Nat → Option Nat} (hG : fm_Gok G) {F : Nat}  {w : Nat} (hw : fm_isW w = true) : ∀ n : Nat, (∀ (l1 : Int32) (l2 : Int32) (μ : fm_M) (r : Int32 × fm_M), g_X7_countWarm F w n 4 l1 l2 μ = some r → ab_U 1 (some .int) kX7_countWarm (4, [some (.ref w), some (.int l1), some (.int l2)], [], hp X G μ) (fun r9 h9 => r9 = some (.int r.1) ∧ h9 = hp X G r.2))
  | 0 => by
    intros
    rename_i h
    cases h
  | n + 1 => by
    have ih := t_X7_countWarm_g (X := X) hG (F := F)  hw n
    · intro l1 l2 μ r hf
      have hf : b_X7_countWarm_4 F w (g_X7_countWarm F w n) l1 l2 μ = some r := hf
      unfold b_X7_countWarm_4 at hf
      refine ab_U.run 2 (S' := (6, [some (.ref w), some (.int l1), some (.int l2)], [.ref w, .int l2], hp X G μ)) rfl ?_
      refine ab_U.gfI (ci := 7) (k9 := 3) rfl (fm_WO hw) ⟨rfl, rfl, by decide, rfl⟩ ?_
      show ab_U _ _ _ (9, [some (.ref w), some (.int l1), some (.int l2)], [.int (μ.1 w 3), .int l2], hp X G μ) _
      refine ab_U.ic_ge rfl (fun b1 => ?_) (fun b1 => ?_)
      · rw [if_pos b1] at hf
        refine ab_U.run 1 (S' := (34, [some (.ref w), some (.int l1), some (.int l2)], [.int l1], hp X G μ)) rfl ?_
        obtain rfl := Option.some.inj hf
        exact ab_U.ret rfl rfl ⟨rfl, rfl⟩
      · rw [if_neg b1] at hf
        refine ab_U.run 1 (S' := (13, [some (.ref w), some (.int l1), some (.int l2)], [.ref w], hp X G μ)) rfl ?_
        refine ab_U.gfW (k9 := 5) rfl hw ⟨rfl, rfl, by decide, rfl⟩ ?_
        show ab_U _ _ _ (16, [some (.ref w), some (.int l1), some (.int l2)], [.ref (w + 4)], hp X G μ) _
        refine ab_U.run 1 (S' := (17, [some (.ref w), some (.int l1), some (.int l2)], [.int l2, .ref (w + 4)], hp X G μ)) rfl ?_
        obtain ⟨c2, hf⟩ := ab_ifs hf
        refine ab_U.iald (n := 5) rfl (fm_WA hw).2.2.2.1 c2 ?_
        show ab_U _ _ _ (18, [some (.ref w), some (.int l1), some (.int l2)], [.int (μ.2.1 ((w + 4)) l2.toNatClampNeg)], hp X G μ) _
        obtain ⟨q3, h4, hf⟩ := ab_bnd hf
        refine ab_U.fn rfl rfl (t_X8_isWarm (X := X) hG h4) (by omega) ?_
        show ab_U _ _ _ (21, [some (.ref w), some (.int l1), some (.int l2)], [.int q3.1], hp X G q3.2) _
        refine ab_U.if_eq rfl (fun b5 => ?_) (fun b5 => ?_)
        · rw [if_pos b5] at hf
          refine ab_U.run 2 (S' := (4, [some (.ref w), some (.int l1), some (.int (l2 + 1))], [], hp X G q3.2)) rfl ?_
          exact ab_U.weak (ih _ _ _ _ hf) (ab_leL.of ⟨rfl, ⟨rfl, ⟨rfl, trivial⟩⟩⟩)
        · rw [if_neg b5] at hf
          refine ab_U.run 3 (S' := (4, [some (.ref w), some (.int (l1 + 1)), some (.int (l2 + 1))], [], hp X G q3.2)) rfl ?_
          exact ab_U.weak (ih _ _ _ _ hf) (ab_leL.of ⟨rfl, ⟨rfl, ⟨rfl, trivial⟩⟩⟩)
set_option maxRecDepth 20000 in
def f_X7_countWarm (F : Nat) (w : Nat)  (μ : fm_M) : Option (Int32 × fm_M) := g_X7_countWarm F w F 4 0 0 μ
set_option maxRecDepth 20000 in
theorem t_X7_countWarm {X : Nat × (Nat → Int32)} {G : Nat → Nat → Option Nat} (hG : fm_Gok G) {F : Nat} {w : Nat} (hw : fm_isW w = true)  {μ : fm_M} {r : Int32 × fm_M} (hf : f_X7_countWarm F w μ = some r) : ab_F 2 66 [.ref w] (hp X G μ) (some (.int r.1)) (hp X G r.2) := by
  unfold f_X7_countWarm at hf
  refine ab_T.of (d := 1) rfl (Nat.le_of_ble_eq_true rfl) ?_
  show ab_U _ _ kX7_countWarm (0, [some (.ref w), none, none], [], hp X G μ) _
  refine ab_U.run 4 (S' := (4, [some (.ref w), some (.int 0), some (.int 0)], [], hp X G μ)) rfl ?_
  exact ab_U.weak ((t_X7_countWarm_g (X := X) hG  hw F) _ _ _ _ hf) (ab_leL.of ⟨rfl, ⟨rfl, ⟨rfl, trivial⟩⟩⟩)
set_option maxRecDepth 20000 in
def f_X7_boughtFor (F : Nat) (w : Nat) (x0 : Int32) (x1 : Int32) (μ : fm_M) : Option (Int32 × fm_M) := (if ab_in x1 6 = true then (Option.bind (f_J9_max_7cf53 F 1 (μ.2.1 ((w + 6)) x1.toNatClampNeg) μ) (fun q2 => (if ¬ q2.1 = 0 then some ((x0 / q2.1), q2.2) else none))) else none)
set_option maxRecDepth 20000 in
theorem t_X7_boughtFor {X : Nat × (Nat → Int32)} {G : Nat → Nat → Option Nat} (hG : fm_Gok G) {F : Nat} {w : Nat} (hw : fm_isW w = true) {x0 : Int32} {x1 : Int32} {μ : fm_M} {r : Int32 × fm_M} (hf : f_X7_boughtFor F w x0 x1 μ = some r) : ab_F 2 68 [.ref w, .int x0, .int x1] (hp X G μ) (some (.int r.1)) (hp X G r.2) := by
  unfold f_X7_boughtFor at hf
  refine ab_T.of (d := 1) rfl (Nat.le_of_ble_eq_true rfl) ?_
  show ab_U _ _ kX7_boughtFor (0, [some (.ref w), some (.int x0), some (.int x1)], [], hp X G μ) _
  refine ab_U.run 3 (S' := (3, [some (.ref w), some (.int x0), some (.int x1)], [.ref w, .int 1, .int x0], hp X G μ)) rfl ?_
  refine ab_U.gfW (k9 := 10) rfl hw ⟨rfl, rfl, by decide, rfl⟩ ?_
  show ab_U _ _ _ (6, [some (.ref w), some (.int x0), some (.int x1)], [.ref (w + 6), .int 1, .int x0], hp X G μ) _
  refine ab_U.run 1 (S' := (7, [some (.ref w), some (.int x0), some (.int x1)], [.int x1, .ref (w + 6), .int 1, .int x0], hp X G μ)) rfl ?_
  obtain ⟨c1, hf⟩ := ab_ifs hf
  refine ab_U.iald (n := 6) rfl (fm_WA hw).2.2.2.2.2.1 c1 ?_
  show ab_U _ _ _ (8, [some (.ref w), some (.int x0), some (.int x1)], [.int (μ.2.1 ((w + 6)) x1.toNatClampNeg), .int 1, .int x0], hp X G μ) _
  obtain ⟨q2, h3, hf⟩ := ab_bnd hf
  refine ab_U.fn rfl rfl (t_J9_max_7cf53 (X := X) hG h3) (by omega) ?_
  show ab_U _ _ _ (11, [some (.ref w), some (.int x0), some (.int x1)], [.int q2.1, .int x0], hp X G q2.2) _
  obtain ⟨c4, hf⟩ := ab_ifs hf
  refine ab_U.idv rfl c4 ?_
  obtain rfl := Option.some.inj hf
  exact ab_U.ret rfl rfl ⟨rfl, rfl⟩
set_option maxRecDepth 20000 in
def f_X7_bake (F : Nat) (w : Nat) (x0 : Int32) (μ : fm_M) : Option (Unit × fm_M) := (Option.bind (f_X7_ovenDistance F w x0 μ) (fun q1 => (Option.bind (f_X7_letPass F w q1.1 q1.2) (fun q3 => (if ab_in x0 5 = true then (Option.bind (f_J9_max_7cf53 F (q3.2.2.1 ((w + 4)) x0.toNatClampNeg) (q3.2.1 w 8) q3.2) (fun q6 => (Option.bind (f_X7_letPass F w 1 q6.2) (fun q8 => (if ab_in x0 5 = true then (Option.bind (some (fm_sA q8.2 ((w + 4)) (upd (q8.2.2.1 ((w + 4))) x0.toNatClampNeg q6.1))) (fun m11 => (Option.bind (f_X7_letPass F w q1.1 m11) (fun q13 => some ((), q13.2))))) else none))))) else none)))))
set_option maxRecDepth 20000 in
theorem t_X7_bake {X : Nat × (Nat → Int32)} {G : Nat → Nat → Option Nat} (hG : fm_Gok G) {F : Nat} {w : Nat} (hw : fm_isW w = true) {x0 : Int32} {μ : fm_M} {r : Unit × fm_M} (hf : f_X7_bake F w x0 μ = some r) : ab_F 5 72 [.ref w, .int x0] (hp X G μ) none (hp X G r.2) := by
  unfold f_X7_bake at hf
  refine ab_T.of (d := 4) rfl (Nat.le_of_ble_eq_true rfl) ?_
  show ab_U _ _ kX7_bake (0, [some (.ref w), some (.int x0), none, none], [], hp X G μ) _
  refine ab_U.run 2 (S' := (2, [some (.ref w), some (.int x0), none, none], [.int x0, .ref w], hp X G μ)) rfl ?_
  obtain ⟨q1, h2, hf⟩ := ab_bnd hf
  refine ab_U.fnV rfl rfl (fm_WO hw) rfl (t_X7_ovenDistance (X := X) hG hw h2) (by omega) ?_
  show ab_U _ _ _ (5, [some (.ref w), some (.int x0), none, none], [.int q1.1], hp X G q1.2) _
  refine ab_U.run 3 (S' := (8, [some (.ref w), some (.int x0), some (.int q1.1), none], [.int q1.1, .ref w], hp X G q1.2)) rfl ?_
  obtain ⟨q3, h4, hf⟩ := ab_bnd hf
  refine ab_U.fnV rfl rfl (fm_WO hw) rfl (t_X7_letPass (X := X) hG hw h4) (by omega) ?_
  show ab_U _ _ _ (11, [some (.ref w), some (.int x0), some (.int q1.1), none], [], hp X G q3.2) _
  refine ab_U.run 1 (S' := (12, [some (.ref w), some (.int x0), some (.int q1.1), none], [.ref w], hp X G q3.2)) rfl ?_
  refine ab_U.gfW (k9 := 5) rfl hw ⟨rfl, rfl, by decide, rfl⟩ ?_
  show ab_U _ _ _ (15, [some (.ref w), some (.int x0), some (.int q1.1), none], [.ref (w + 4)], hp X G q3.2) _
  refine ab_U.run 1 (S' := (16, [some (.ref w), some (.int x0), some (.int q1.1), none], [.int x0, .ref (w + 4)], hp X G q3.2)) rfl ?_
  obtain ⟨c5, hf⟩ := ab_ifs hf
  refine ab_U.iald (n := 5) rfl (fm_WA hw).2.2.2.1 c5 ?_
  show ab_U _ _ _ (17, [some (.ref w), some (.int x0), some (.int q1.1), none], [.int (q3.2.2.1 ((w + 4)) x0.toNatClampNeg)], hp X G q3.2) _
  refine ab_U.run 1 (S' := (18, [some (.ref w), some (.int x0), some (.int q1.1), none], [.ref w, .int (q3.2.2.1 ((w + 4)) x0.toNatClampNeg)], hp X G q3.2)) rfl ?_
  refine ab_U.gfI (ci := 7) (k9 := 8) rfl (fm_WO hw) ⟨rfl, rfl, by decide, rfl⟩ ?_
  show ab_U _ _ _ (21, [some (.ref w), some (.int x0), some (.int q1.1), none], [.int (q3.2.1 w 8), .int (q3.2.2.1 ((w + 4)) x0.toNatClampNeg)], hp X G q3.2) _
  obtain ⟨q6, h7, hf⟩ := ab_bnd hf
  refine ab_U.fn rfl rfl (t_J9_max_7cf53 (X := X) hG h7) (by omega) ?_
  show ab_U _ _ _ (24, [some (.ref w), some (.int x0), some (.int q1.1), none], [.int q6.1], hp X G q6.2) _
  refine ab_U.run 3 (S' := (27, [some (.ref w), some (.int x0), some (.int q1.1), some (.int q6.1)], [.int 1, .ref w], hp X G q6.2)) rfl ?_
  obtain ⟨q8, h9, hf⟩ := ab_bnd hf
  refine ab_U.fnV rfl rfl (fm_WO hw) rfl (t_X7_letPass (X := X) hG hw h9) (by omega) ?_
  show ab_U _ _ _ (30, [some (.ref w), some (.int x0), some (.int q1.1), some (.int q6.1)], [], hp X G q8.2) _
  refine ab_U.run 1 (S' := (31, [some (.ref w), some (.int x0), some (.int q1.1), some (.int q6.1)], [.ref w], hp X G q8.2)) rfl ?_
  refine ab_U.gfW (k9 := 5) rfl hw ⟨rfl, rfl, by decide, rfl⟩ ?_
  show ab_U _ _ _ (34, [some (.ref w), some (.int x0), some (.int q1.1), some (.int q6.1)], [.ref (w + 4)], hp X G q8.2) _
  refine ab_U.run 2 (S' := (36, [some (.ref w), some (.int x0), some (.int q1.1), some (.int q6.1)], [.int q6.1, .int x0, .ref (w + 4)], hp X G q8.2)) rfl ?_
  obtain ⟨c10, hf⟩ := ab_ifs hf
  obtain ⟨m11, e12, hf⟩ := ab_bnd hf
  have e12 := Option.some.inj e12
  refine ab_U.iast (n := 5) rfl (fm_WA hw).2.2.2.1 c10 ?_
  show ab_U _ _ _ (37, [some (.ref w), some (.int x0), some (.int q1.1), some (.int q6.1)], [], hp X G (fm_sA q8.2 ((w + 4)) (upd (q8.2.2.1 ((w + 4))) x0.toNatClampNeg q6.1))) _
  rw [e12]
  refine ab_U.run 2 (S' := (39, [some (.ref w), some (.int x0), some (.int q1.1), some (.int q6.1)], [.int q1.1, .ref w], hp X G m11)) rfl ?_
  obtain ⟨q13, h14, hf⟩ := ab_bnd hf
  refine ab_U.fnV rfl rfl (fm_WO hw) rfl (t_X7_letPass (X := X) hG hw h14) (by omega) ?_
  show ab_U _ _ _ (42, [some (.ref w), some (.int x0), some (.int q1.1), some (.int q6.1)], [], hp X G q13.2) _
  obtain rfl := Option.some.inj hf
  exact ab_U.ret rfl rfl ⟨rfl, rfl⟩
set_option maxRecDepth 20000 in
def f_X7_refusalToPay (F : Nat) (w : Nat) (x0 : Int32) (x1 : Int32) (μ : fm_M) : Option (Int32 × fm_M) := (Option.bind (f_X7_hasStone F w x0 μ) (fun q1 => (if q1.1 = 0 then some ((-1), q1.2) else (Option.bind (f_X7_hasOne F w x1 q1.2) (fun q4 => (if ¬ q4.1 = 0 then (if ab_in x0 5 = true then (if ¬ (q4.2.2.1 ((w + 5)) x0.toNatClampNeg) = x1 then (if ab_in x0 5 = true then (Option.bind (f_X7_minutesBetween F w (q4.2.2.1 ((w + 5)) x0.toNatClampNeg) x1 q4.2) (fun q10 => (if ((q4.2.1 w 15) + q10.1) < 1000 then some (0, q10.2) else some ((-3), q10.2)))) else none) else some ((-2), q4.2)) else none) else some ((-1), q4.2)))))))
set_option maxRecDepth 20000 in
theorem t_X7_refusalToPay {X : Nat × (Nat → Int32)} {G : Nat → Nat → Option Nat} (hG : fm_Gok G) {F : Nat} {w : Nat} (hw : fm_isW w = true) {x0 : Int32} {x1 : Int32} {μ : fm_M} {r : Int32 × fm_M} (hf : f_X7_refusalToPay F w x0 x1 μ = some r) : ab_F 3 73 [.ref w, .int x0, .int x1] (hp X G μ) (some (.int r.1)) (hp X G r.2) := by
  unfold f_X7_refusalToPay at hf
  refine ab_T.of (d := 2) rfl (Nat.le_of_ble_eq_true rfl) ?_
  show ab_U _ _ kX7_refusalToPay (0, [some (.ref w), some (.int x0), some (.int x1)], [], hp X G μ) _
  refine ab_U.run 2 (S' := (2, [some (.ref w), some (.int x0), some (.int x1)], [.int x0, .ref w], hp X G μ)) rfl ?_
  obtain ⟨q1, h2, hf⟩ := ab_bnd hf
  refine ab_U.fnV rfl rfl (fm_WO hw) rfl (t_X7_hasStone (X := X) hG hw h2) (by omega) ?_
  show ab_U _ _ _ (5, [some (.ref w), some (.int x0), some (.int x1)], [.int q1.1], hp X G q1.2) _
  refine ab_U.if_eq rfl (fun b3 => ?_) (fun b3 => ?_)
  · rw [if_pos b3] at hf
    refine ab_U.run 1 (S' := (17, [some (.ref w), some (.int x0), some (.int x1)], [.int (-1)], hp X G q1.2)) rfl ?_
    obtain rfl := Option.some.inj hf
    exact ab_U.ret rfl rfl ⟨rfl, rfl⟩
  · rw [if_neg b3] at hf
    refine ab_U.run 2 (S' := (10, [some (.ref w), some (.int x0), some (.int x1)], [.int x1, .ref w], hp X G q1.2)) rfl ?_
    obtain ⟨q4, h5, hf⟩ := ab_bnd hf
    refine ab_U.fnV rfl rfl (fm_WO hw) rfl (t_X7_hasOne (X := X) hG hw h5) (by omega) ?_
    show ab_U _ _ _ (13, [some (.ref w), some (.int x0), some (.int x1)], [.int q4.1], hp X G q4.2) _
    refine ab_U.if_ne rfl (fun b6 => ?_) (fun b6 => ?_)
    · rw [if_pos b6] at hf
      refine ab_U.run 1 (S' := (19, [some (.ref w), some (.int x0), some (.int x1)], [.ref w], hp X G q4.2)) rfl ?_
      refine ab_U.gfW (k9 := 6) rfl hw ⟨rfl, rfl, by decide, rfl⟩ ?_
      show ab_U _ _ _ (22, [some (.ref w), some (.int x0), some (.int x1)], [.ref (w + 5)], hp X G q4.2) _
      refine ab_U.run 1 (S' := (23, [some (.ref w), some (.int x0), some (.int x1)], [.int x0, .ref (w + 5)], hp X G q4.2)) rfl ?_
      obtain ⟨c7, hf⟩ := ab_ifs hf
      refine ab_U.iald (n := 5) rfl (fm_WA hw).2.2.2.2.1 c7 ?_
      show ab_U _ _ _ (24, [some (.ref w), some (.int x0), some (.int x1)], [.int (q4.2.2.1 ((w + 5)) x0.toNatClampNeg)], hp X G q4.2) _
      refine ab_U.run 1 (S' := (25, [some (.ref w), some (.int x0), some (.int x1)], [.int x1, .int (q4.2.2.1 ((w + 5)) x0.toNatClampNeg)], hp X G q4.2)) rfl ?_
      refine ab_U.ic_ne rfl (fun b8 => ?_) (fun b8 => ?_)
      · rw [if_pos b8] at hf
        refine ab_U.run 1 (S' := (32, [some (.ref w), some (.int x0), some (.int x1)], [.ref w], hp X G q4.2)) rfl ?_
        refine ab_U.gfI (ci := 7) (k9 := 15) rfl (fm_WO hw) ⟨rfl, rfl, by decide, rfl⟩ ?_
        show ab_U _ _ _ (35, [some (.ref w), some (.int x0), some (.int x1)], [.int (q4.2.1 w 15)], hp X G q4.2) _
        refine ab_U.run 2 (S' := (37, [some (.ref w), some (.int x0), some (.int x1)], [.ref w, .ref w, .int (q4.2.1 w 15)], hp X G q4.2)) rfl ?_
        refine ab_U.gfW (k9 := 6) rfl hw ⟨rfl, rfl, by decide, rfl⟩ ?_
        show ab_U _ _ _ (40, [some (.ref w), some (.int x0), some (.int x1)], [.ref (w + 5), .ref w, .int (q4.2.1 w 15)], hp X G q4.2) _
        refine ab_U.run 1 (S' := (41, [some (.ref w), some (.int x0), some (.int x1)], [.int x0, .ref (w + 5), .ref w, .int (q4.2.1 w 15)], hp X G q4.2)) rfl ?_
        obtain ⟨c9, hf⟩ := ab_ifs hf
        refine ab_U.iald (n := 5) rfl (fm_WA hw).2.2.2.2.1 c9 ?_
        show ab_U _ _ _ (42, [some (.ref w), some (.int x0), some (.int x1)], [.int (q4.2.2.1 ((w + 5)) x0.toNatClampNeg), .ref w, .int (q4.2.1 w 15)], hp X G q4.2) _
        refine ab_U.run 1 (S' := (43, [some (.ref w), some (.int x0), some (.int x1)], [.int x1, .int (q4.2.2.1 ((w + 5)) x0.toNatClampNeg), .ref w, .int (q4.2.1 w 15)], hp X G q4.2)) rfl ?_
        obtain ⟨q10, h11, hf⟩ := ab_bnd hf
        refine ab_U.fnV rfl rfl (fm_WO hw) rfl (t_X7_minutesBetween (X := X) hG hw h11) (by omega) ?_
        show ab_U _ _ _ (46, [some (.ref w), some (.int x0), some (.int x1)], [.int q10.1, .int (q4.2.1 w 15)], hp X G q10.2) _
        refine ab_U.run 2 (S' := (50, [some (.ref w), some (.int x0), some (.int x1)], [.int 1000, .int ((q4.2.1 w 15) + q10.1)], hp X G q10.2)) rfl ?_
        refine ab_U.ic_lt rfl (fun b12 => ?_) (fun b12 => ?_)
        · rw [if_pos b12] at hf
          refine ab_U.run 1 (S' := (59, [some (.ref w), some (.int x0), some (.int x1)], [.int 0], hp X G q10.2)) rfl ?_
          obtain rfl := Option.some.inj hf
          exact ab_U.ret rfl rfl ⟨rfl, rfl⟩
        · rw [if_neg b12] at hf
          refine ab_U.run 2 (S' := (59, [some (.ref w), some (.int x0), some (.int x1)], [.int (-3)], hp X G q10.2)) rfl ?_
          obtain rfl := Option.some.inj hf
          exact ab_U.ret rfl rfl ⟨rfl, rfl⟩
      · rw [if_neg b8] at hf
        refine ab_U.run 1 (S' := (30, [some (.ref w), some (.int x0), some (.int x1)], [.int (-2)], hp X G q4.2)) rfl ?_
        obtain rfl := Option.some.inj hf
        exact ab_U.ret rfl rfl ⟨rfl, rfl⟩
    · rw [if_neg b6] at hf
      refine ab_U.run 1 (S' := (17, [some (.ref w), some (.int x0), some (.int x1)], [.int (-1)], hp X G q4.2)) rfl ?_
      obtain rfl := Option.some.inj hf
      exact ab_U.ret rfl rfl ⟨rfl, rfl⟩
set_option maxRecDepth 20000 in
def f_X8_feed (F : Nat)  (x0 : Int32) (μ : fm_M) : Option (Int32 × fm_M) := (Option.bind (f_X8_isIn F x0 0 127 μ) (fun q1 => (if ¬ q1.1 = 0 then (Option.bind (f_X5_append F x0 q1.2) (fun q4 => (if q4.1 = 0 then some ((-3), q4.2) else some ((q4.2.1 123 1), q4.2)))) else some ((-1), q1.2))))
set_option maxRecDepth 20000 in
theorem t_X8_feed {X : Nat × (Nat → Int32)} {G : Nat → Nat → Option Nat} (hG : fm_Gok G) {F : Nat}   {x0 : Int32} {μ : fm_M} {r : Int32 × fm_M} (hf : f_X8_feed F x0 μ = some r) : ab_F 2 78 [.ref 100, .int x0] (hp X G μ) (some (.int r.1)) (hp X G r.2) := by
  unfold f_X8_feed at hf
  refine ab_T.of (d := 1) rfl (Nat.le_of_ble_eq_true rfl) ?_
  show ab_U _ _ kX8_feed (0, [some (.ref 100), some (.int x0)], [], hp X G μ) _
  refine ab_U.run 3 (S' := (4, [some (.ref 100), some (.int x0)], [.int 127, .int 0, .int x0], hp X G μ)) rfl ?_
  obtain ⟨q1, h2, hf⟩ := ab_bnd hf
  refine ab_U.fn rfl rfl (t_X8_isIn (X := X) hG h2) (by omega) ?_
  show ab_U _ _ _ (7, [some (.ref 100), some (.int x0)], [.int q1.1], hp X G q1.2) _
  refine ab_U.if_ne rfl (fun b3 => ?_) (fun b3 => ?_)
  · rw [if_pos b3] at hf
    refine ab_U.run 3 (S' := (17, [some (.ref 100), some (.int x0)], [.int x0, .ref 123], hp X G q1.2)) rfl ?_
    obtain ⟨q4, h5, hf⟩ := ab_bnd hf
    refine ab_U.fn rfl rfl (t_X5_append (X := X) hG h5) (by omega) ?_
    show ab_U _ _ _ (20, [some (.ref 100), some (.int x0)], [.int q4.1], hp X G q4.2) _
    refine ab_U.if_eq rfl (fun b6 => ?_) (fun b6 => ?_)
    · rw [if_pos b6] at hf
      refine ab_U.run 1 (S' := (35, [some (.ref 100), some (.int x0)], [.int (-3)], hp X G q4.2)) rfl ?_
      obtain rfl := Option.some.inj hf
      exact ab_U.ret rfl rfl ⟨rfl, rfl⟩
    · rw [if_neg b6] at hf
      refine ab_U.run 4 (S' := (35, [some (.ref 100), some (.int x0)], [.int (q4.2.1 123 1)], hp X G q4.2)) rfl ?_
      obtain rfl := Option.some.inj hf
      exact ab_U.ret rfl rfl ⟨rfl, rfl⟩
  · rw [if_neg b3] at hf
    refine ab_U.run 1 (S' := (11, [some (.ref 100), some (.int x0)], [.int (-1)], hp X G q1.2)) rfl ?_
    obtain rfl := Option.some.inj hf
    exact ab_U.ret rfl rfl ⟨rfl, rfl⟩
set_option maxRecDepth 20000 in
def f_X8_end (F : Nat)  (x0 : Int32) (μ : fm_M) : Option (Int32 × fm_M) := (Option.bind (f_X8_isIn F x0 0 (μ.1 123 1) μ) (fun q1 => (if ¬ q1.1 = 0 then (Option.bind (some (fm_sI q1.2 123 1 x0)) (fun m4 => some ((q1.2.1 123 1), m4))) else some ((-1), q1.2))))
set_option maxRecDepth 20000 in
theorem t_X8_end {X : Nat × (Nat → Int32)} {G : Nat → Nat → Option Nat} (hG : fm_Gok G) {F : Nat}   {x0 : Int32} {μ : fm_M} {r : Int32 × fm_M} (hf : f_X8_end F x0 μ = some r) : ab_F 2 79 [.ref 100, .int x0] (hp X G μ) (some (.int r.1)) (hp X G r.2) := by
  unfold f_X8_end at hf
  refine ab_T.of (d := 1) rfl (Nat.le_of_ble_eq_true rfl) ?_
  show ab_U _ _ kX8_end (0, [some (.ref 100), some (.int x0), none], [], hp X G μ) _
  refine ab_U.run 5 (S' := (9, [some (.ref 100), some (.int x0), none], [.int (μ.1 123 1), .int 0, .int x0], hp X G μ)) rfl ?_
  obtain ⟨q1, h2, hf⟩ := ab_bnd hf
  refine ab_U.fn rfl rfl (t_X8_isIn (X := X) hG h2) (by omega) ?_
  show ab_U _ _ _ (12, [some (.ref 100), some (.int x0), none], [.int q1.1], hp X G q1.2) _
  refine ab_U.if_ne rfl (fun b3 => ?_) (fun b3 => ?_)
  · rw [if_pos b3] at hf
    refine ab_U.run 7 (S' := (30, [some (.ref 100), some (.int x0), some (.int (q1.2.1 123 1))], [.int x0, .ref 123], hp X G q1.2)) rfl ?_
    obtain ⟨m4, e5, hf⟩ := ab_bnd hf
    have e5 := Option.some.inj e5
    refine ab_U.pfI (ci := 5) (k9 := 1) rfl ⟨by decide, rfl⟩ ⟨rfl, rfl, by decide, rfl⟩ rfl ?_
    show ab_U _ _ _ (33, [some (.ref 100), some (.int x0), some (.int (q1.2.1 123 1))], [], hp X G (fm_sI q1.2 123 1 x0)) _
    rw [e5]
    refine ab_U.run 1 (S' := (34, [some (.ref 100), some (.int x0), some (.int (q1.2.1 123 1))], [.int (q1.2.1 123 1)], hp X G m4)) rfl ?_
    obtain rfl := Option.some.inj hf
    exact ab_U.ret rfl rfl ⟨rfl, rfl⟩
  · rw [if_neg b3] at hf
    refine ab_U.run 1 (S' := (16, [some (.ref 100), some (.int x0), none], [.int (-1)], hp X G q1.2)) rfl ?_
    obtain rfl := Option.some.inj hf
    exact ab_U.ret rfl rfl ⟨rfl, rfl⟩
set_option maxRecDepth 20000 in
def f_X8_fault (F : Nat)   (μ : fm_M) : Option (Int32 × fm_M) := some ((μ.1 100 11), μ)
set_option maxRecDepth 20000 in
theorem t_X8_fault {X : Nat × (Nat → Int32)} {G : Nat → Nat → Option Nat} (hG : fm_Gok G) {F : Nat}    {μ : fm_M} {r : Int32 × fm_M} (hf : f_X8_fault F  μ = some r) : ab_F 1 81 [.ref 100] (hp X G μ) (some (.int r.1)) (hp X G r.2) := by
  unfold f_X8_fault at hf
  refine ab_T.of (d := 0) rfl (Nat.le_of_ble_eq_true rfl) ?_
  show ab_U _ _ kX8_fault (0, [some (.ref 100)], [], hp X G μ) _
  refine ab_U.run 2 (S' := (4, [some (.ref 100)], [.int (μ.1 100 11)], hp X G μ)) rfl ?_
  obtain rfl := Option.some.inj hf
  exact ab_U.ret rfl rfl ⟨rfl, rfl⟩
set_option maxRecDepth 20000 in
def f_X8_rule (F : Nat)  (x0 : Int32) (μ : fm_M) : Option (Int32 × fm_M) := (if x0.toInt < 0 ∨ 6 < x0.toInt then some ((-1), μ) else (if x0.toInt = 0 then some ((μ.1 101 0), μ) else (if x0.toInt = 1 then some ((μ.1 101 3), μ) else (if x0.toInt = 2 then some ((μ.1 101 11), μ) else (if x0.toInt = 3 then some ((μ.1 101 7), μ) else (if x0.toInt = 4 then some ((μ.1 101 8), μ) else (if x0.toInt = 5 then some ((μ.1 101 9), μ) else some ((μ.1 101 15), μ))))))))
set_option maxRecDepth 20000 in
theorem t_X8_rule {X : Nat × (Nat → Int32)} {G : Nat → Nat → Option Nat} (hG : fm_Gok G) {F : Nat}   {x0 : Int32} {μ : fm_M} {r : Int32 × fm_M} (hf : f_X8_rule F x0 μ = some r) : ab_F 1 82 [.ref 100, .int x0] (hp X G μ) (some (.int r.1)) (hp X G r.2) := by
  unfold f_X8_rule at hf
  refine ab_T.of (d := 0) rfl (Nat.le_of_ble_eq_true rfl) ?_
  show ab_U _ _ kX8_rule (0, [some (.ref 100), some (.int x0)], [], hp X G μ) _
  refine ab_U.run 1 (S' := (1, [some (.ref 100), some (.int x0)], [.int x0], hp X G μ)) rfl ?_
  by_cases b1 : x0.toInt < 0 ∨ 6 < x0.toInt
  · rw [if_pos b1] at hf
    refine ab_U.tswD rfl b1 ?_
    refine ab_U.run 1 (S' := (101, [some (.ref 100), some (.int x0)], [.int (-1)], hp X G μ)) rfl ?_
    obtain rfl := Option.some.inj hf
    exact ab_U.ret rfl rfl ⟨rfl, rfl⟩
  · rw [if_neg b1] at hf
    by_cases b2 : x0.toInt = 0
    · rw [if_pos b2] at hf
      refine ab_U.tswT (t := 44) rfl b1 (by rw [b2]; rfl) ?_
      refine ab_U.run 3 (S' := (51, [some (.ref 100), some (.int x0)], [.int (μ.1 101 0)], hp X G μ)) rfl ?_
      obtain rfl := Option.some.inj hf
      exact ab_U.ret rfl rfl ⟨rfl, rfl⟩
    · rw [if_neg b2] at hf
      by_cases b3 : x0.toInt = 1
      · rw [if_pos b3] at hf
        refine ab_U.tswT (t := 52) rfl b1 (by rw [b3]; rfl) ?_
        refine ab_U.run 3 (S' := (59, [some (.ref 100), some (.int x0)], [.int (μ.1 101 3)], hp X G μ)) rfl ?_
        obtain rfl := Option.some.inj hf
        exact ab_U.ret rfl rfl ⟨rfl, rfl⟩
      · rw [if_neg b3] at hf
        by_cases b4 : x0.toInt = 2
        · rw [if_pos b4] at hf
          refine ab_U.tswT (t := 60) rfl b1 (by rw [b4]; rfl) ?_
          refine ab_U.run 3 (S' := (67, [some (.ref 100), some (.int x0)], [.int (μ.1 101 11)], hp X G μ)) rfl ?_
          obtain rfl := Option.some.inj hf
          exact ab_U.ret rfl rfl ⟨rfl, rfl⟩
        · rw [if_neg b4] at hf
          by_cases b5 : x0.toInt = 3
          · rw [if_pos b5] at hf
            refine ab_U.tswT (t := 68) rfl b1 (by rw [b5]; rfl) ?_
            refine ab_U.run 3 (S' := (75, [some (.ref 100), some (.int x0)], [.int (μ.1 101 7)], hp X G μ)) rfl ?_
            obtain rfl := Option.some.inj hf
            exact ab_U.ret rfl rfl ⟨rfl, rfl⟩
          · rw [if_neg b5] at hf
            by_cases b6 : x0.toInt = 4
            · rw [if_pos b6] at hf
              refine ab_U.tswT (t := 76) rfl b1 (by rw [b6]; rfl) ?_
              refine ab_U.run 3 (S' := (83, [some (.ref 100), some (.int x0)], [.int (μ.1 101 8)], hp X G μ)) rfl ?_
              obtain rfl := Option.some.inj hf
              exact ab_U.ret rfl rfl ⟨rfl, rfl⟩
            · rw [if_neg b6] at hf
              by_cases b7 : x0.toInt = 5
              · rw [if_pos b7] at hf
                refine ab_U.tswT (t := 84) rfl b1 (by rw [b7]; rfl) ?_
                refine ab_U.run 3 (S' := (91, [some (.ref 100), some (.int x0)], [.int (μ.1 101 9)], hp X G μ)) rfl ?_
                obtain rfl := Option.some.inj hf
                exact ab_U.ret rfl rfl ⟨rfl, rfl⟩
              · rw [if_neg b7] at hf
                have b8 : x0.toInt = 6 := by omega
                refine ab_U.tswT (t := 92) rfl b1 (by rw [b8]; rfl) ?_
                refine ab_U.run 3 (S' := (99, [some (.ref 100), some (.int x0)], [.int (μ.1 101 15)], hp X G μ)) rfl ?_
                obtain rfl := Option.some.inj hf
                exact ab_U.ret rfl rfl ⟨rfl, rfl⟩
set_option maxRecDepth 20000 in
def f_X8_one (F : Nat)  (x0 : Int32) (x1 : Int32) (μ : fm_M) : Option (Int32 × fm_M) := (Option.bind (f_X7_hasOne F 101 x0 μ) (fun q1 => (if ¬ q1.1 = 0 then (if x1.toInt < 0 ∨ 3 < x1.toInt then some ((-1), q1.2) else (if x1.toInt = 0 then (if ab_in x0 4 = true then some ((q1.2.2.1 102 x0.toNatClampNeg), q1.2) else none) else (if x1.toInt = 1 then (if ab_in x0 4 = true then some ((q1.2.2.1 103 x0.toNatClampNeg), q1.2) else none) else (if x1.toInt = 2 then (Option.bind (f_X7_stonesOf F 101 x0 q1.2) (fun q10 => some (q10.1, q10.2))) else (Option.bind (f_X7_warmthOf F 101 x0 q1.2) (fun q13 => some (q13.1, q13.2))))))) else some ((-1), q1.2))))
set_option maxRecDepth 20000 in
theorem t_X8_one {X : Nat × (Nat → Int32)} {G : Nat → Nat → Option Nat} (hG : fm_Gok G) {F : Nat}   {x0 : Int32} {x1 : Int32} {μ : fm_M} {r : Int32 × fm_M} (hf : f_X8_one F x0 x1 μ = some r) : ab_F 2 83 [.ref 100, .int x0, .int x1] (hp X G μ) (some (.int r.1)) (hp X G r.2) := by
  unfold f_X8_one at hf
  refine ab_T.of (d := 1) rfl (Nat.le_of_ble_eq_true rfl) ?_
  show ab_U _ _ kX8_one (0, [some (.ref 100), some (.int x0), some (.int x1)], [], hp X G μ) _
  refine ab_U.run 3 (S' := (5, [some (.ref 100), some (.int x0), some (.int x1)], [.int x0, .ref 101], hp X G μ)) rfl ?_
  obtain ⟨q1, h2, hf⟩ := ab_bnd hf
  refine ab_U.fn rfl rfl (t_X7_hasOne (X := X) hG (by decide) h2) (by omega) ?_
  show ab_U _ _ _ (8, [some (.ref 100), some (.int x0), some (.int x1)], [.int q1.1], hp X G q1.2) _
  refine ab_U.if_ne rfl (fun b3 => ?_) (fun b3 => ?_)
  · rw [if_pos b3] at hf
    refine ab_U.run 1 (S' := (14, [some (.ref 100), some (.int x0), some (.int x1)], [.int x1], hp X G q1.2)) rfl ?_
    by_cases b4 : x1.toInt < 0 ∨ 3 < x1.toInt
    · rw [if_pos b4] at hf
      refine ab_U.tswD rfl b4 ?_
      refine ab_U.run 1 (S' := (83, [some (.ref 100), some (.int x0), some (.int x1)], [.int (-1)], hp X G q1.2)) rfl ?_
      obtain rfl := Option.some.inj hf
      exact ab_U.ret rfl rfl ⟨rfl, rfl⟩
    · rw [if_neg b4] at hf
      by_cases b5 : x1.toInt = 0
      · rw [if_pos b5] at hf
        refine ab_U.tswT (t := 44) rfl b4 (by rw [b5]; rfl) ?_
        refine ab_U.run 4 (S' := (52, [some (.ref 100), some (.int x0), some (.int x1)], [.int x0, .ref 102], hp X G q1.2)) rfl ?_
        obtain ⟨c6, hf⟩ := ab_ifs hf
        refine ab_U.iald (n := 4) rfl ⟨by decide, rfl⟩ c6 ?_
        show ab_U _ _ _ (53, [some (.ref 100), some (.int x0), some (.int x1)], [.int (q1.2.2.1 102 x0.toNatClampNeg)], hp X G q1.2) _
        obtain rfl := Option.some.inj hf
        exact ab_U.ret rfl rfl ⟨rfl, rfl⟩
      · rw [if_neg b5] at hf
        by_cases b7 : x1.toInt = 1
        · rw [if_pos b7] at hf
          refine ab_U.tswT (t := 54) rfl b4 (by rw [b7]; rfl) ?_
          refine ab_U.run 4 (S' := (62, [some (.ref 100), some (.int x0), some (.int x1)], [.int x0, .ref 103], hp X G q1.2)) rfl ?_
          obtain ⟨c8, hf⟩ := ab_ifs hf
          refine ab_U.iald (n := 4) rfl ⟨by decide, rfl⟩ c8 ?_
          show ab_U _ _ _ (63, [some (.ref 100), some (.int x0), some (.int x1)], [.int (q1.2.2.1 103 x0.toNatClampNeg)], hp X G q1.2) _
          obtain rfl := Option.some.inj hf
          exact ab_U.ret rfl rfl ⟨rfl, rfl⟩
        · rw [if_neg b7] at hf
          by_cases b9 : x1.toInt = 2
          · rw [if_pos b9] at hf
            refine ab_U.tswT (t := 64) rfl b4 (by rw [b9]; rfl) ?_
            refine ab_U.run 3 (S' := (69, [some (.ref 100), some (.int x0), some (.int x1)], [.int x0, .ref 101], hp X G q1.2)) rfl ?_
            obtain ⟨q10, h11, hf⟩ := ab_bnd hf
            refine ab_U.fn rfl rfl (t_X7_stonesOf (X := X) hG (by decide) h11) (by omega) ?_
            show ab_U _ _ _ (72, [some (.ref 100), some (.int x0), some (.int x1)], [.int q10.1], hp X G q10.2) _
            obtain rfl := Option.some.inj hf
            exact ab_U.ret rfl rfl ⟨rfl, rfl⟩
          · rw [if_neg b9] at hf
            have b12 : x1.toInt = 3 := by omega
            refine ab_U.tswT (t := 73) rfl b4 (by rw [b12]; rfl) ?_
            refine ab_U.run 3 (S' := (78, [some (.ref 100), some (.int x0), some (.int x1)], [.int x0, .ref 101], hp X G q1.2)) rfl ?_
            obtain ⟨q13, h14, hf⟩ := ab_bnd hf
            refine ab_U.fn rfl rfl (t_X7_warmthOf (X := X) hG (by decide) h14) (by omega) ?_
            show ab_U _ _ _ (81, [some (.ref 100), some (.int x0), some (.int x1)], [.int q13.1], hp X G q13.2) _
            obtain rfl := Option.some.inj hf
            exact ab_U.ret rfl rfl ⟨rfl, rfl⟩
  · rw [if_neg b3] at hf
    refine ab_U.run 1 (S' := (12, [some (.ref 100), some (.int x0), some (.int x1)], [.int (-1)], hp X G q1.2)) rfl ?_
    obtain rfl := Option.some.inj hf
    exact ab_U.ret rfl rfl ⟨rfl, rfl⟩
set_option maxRecDepth 20000 in
def f_X8_stone (F : Nat)  (x0 : Int32) (x1 : Int32) (μ : fm_M) : Option (Int32 × fm_M) := (Option.bind (f_X7_hasStone F 101 x0 μ) (fun q1 => (if ¬ q1.1 = 0 then (if x1.toInt < 0 ∨ 4 < x1.toInt then some ((-1), q1.2) else (if x1.toInt = 0 then (if ab_in x0 5 = true then some ((q1.2.2.1 104 x0.toNatClampNeg), q1.2) else none) else (if x1.toInt = 1 then (if ab_in x0 5 = true then some ((q1.2.2.1 105 x0.toNatClampNeg), q1.2) else none) else (if x1.toInt = 2 then (if ab_in x0 5 = true then some ((q1.2.2.1 106 x0.toNatClampNeg), q1.2) else none) else (if x1.toInt = 3 then (Option.bind (f_X7_rateOf F 101 x0 q1.2) (fun q12 => some (q12.1, q12.2))) else (if ab_in x0 5 = true then (Option.bind (f_X8_isWarm F (q1.2.2.1 105 x0.toNatClampNeg) q1.2) (fun q16 => (if q16.1 = 0 then some (0, q16.2) else some (1, q16.2)))) else none)))))) else some ((-1), q1.2))))
set_option maxRecDepth 20000 in
theorem t_X8_stone {X : Nat × (Nat → Int32)} {G : Nat → Nat → Option Nat} (hG : fm_Gok G) {F : Nat}   {x0 : Int32} {x1 : Int32} {μ : fm_M} {r : Int32 × fm_M} (hf : f_X8_stone F x0 x1 μ = some r) : ab_F 4 84 [.ref 100, .int x0, .int x1] (hp X G μ) (some (.int r.1)) (hp X G r.2) := by
  unfold f_X8_stone at hf
  refine ab_T.of (d := 3) rfl (Nat.le_of_ble_eq_true rfl) ?_
  show ab_U _ _ kX8_stone (0, [some (.ref 100), some (.int x0), some (.int x1)], [], hp X G μ) _
  refine ab_U.run 3 (S' := (5, [some (.ref 100), some (.int x0), some (.int x1)], [.int x0, .ref 101], hp X G μ)) rfl ?_
  obtain ⟨q1, h2, hf⟩ := ab_bnd hf
  refine ab_U.fn rfl rfl (t_X7_hasStone (X := X) hG (by decide) h2) (by omega) ?_
  show ab_U _ _ _ (8, [some (.ref 100), some (.int x0), some (.int x1)], [.int q1.1], hp X G q1.2) _
  refine ab_U.if_ne rfl (fun b3 => ?_) (fun b3 => ?_)
  · rw [if_pos b3] at hf
    refine ab_U.run 1 (S' := (14, [some (.ref 100), some (.int x0), some (.int x1)], [.int x1], hp X G q1.2)) rfl ?_
    by_cases b4 : x1.toInt < 0 ∨ 4 < x1.toInt
    · rw [if_pos b4] at hf
      refine ab_U.tswD rfl b4 ?_
      refine ab_U.run 1 (S' := (109, [some (.ref 100), some (.int x0), some (.int x1)], [.int (-1)], hp X G q1.2)) rfl ?_
      obtain rfl := Option.some.inj hf
      exact ab_U.ret rfl rfl ⟨rfl, rfl⟩
    · rw [if_neg b4] at hf
      by_cases b5 : x1.toInt = 0
      · rw [if_pos b5] at hf
        refine ab_U.tswT (t := 48) rfl b4 (by rw [b5]; rfl) ?_
        refine ab_U.run 4 (S' := (56, [some (.ref 100), some (.int x0), some (.int x1)], [.int x0, .ref 104], hp X G q1.2)) rfl ?_
        obtain ⟨c6, hf⟩ := ab_ifs hf
        refine ab_U.iald (n := 5) rfl ⟨by decide, rfl⟩ c6 ?_
        show ab_U _ _ _ (57, [some (.ref 100), some (.int x0), some (.int x1)], [.int (q1.2.2.1 104 x0.toNatClampNeg)], hp X G q1.2) _
        obtain rfl := Option.some.inj hf
        exact ab_U.ret rfl rfl ⟨rfl, rfl⟩
      · rw [if_neg b5] at hf
        by_cases b7 : x1.toInt = 1
        · rw [if_pos b7] at hf
          refine ab_U.tswT (t := 58) rfl b4 (by rw [b7]; rfl) ?_
          refine ab_U.run 4 (S' := (66, [some (.ref 100), some (.int x0), some (.int x1)], [.int x0, .ref 105], hp X G q1.2)) rfl ?_
          obtain ⟨c8, hf⟩ := ab_ifs hf
          refine ab_U.iald (n := 5) rfl ⟨by decide, rfl⟩ c8 ?_
          show ab_U _ _ _ (67, [some (.ref 100), some (.int x0), some (.int x1)], [.int (q1.2.2.1 105 x0.toNatClampNeg)], hp X G q1.2) _
          obtain rfl := Option.some.inj hf
          exact ab_U.ret rfl rfl ⟨rfl, rfl⟩
        · rw [if_neg b7] at hf
          by_cases b9 : x1.toInt = 2
          · rw [if_pos b9] at hf
            refine ab_U.tswT (t := 68) rfl b4 (by rw [b9]; rfl) ?_
            refine ab_U.run 4 (S' := (76, [some (.ref 100), some (.int x0), some (.int x1)], [.int x0, .ref 106], hp X G q1.2)) rfl ?_
            obtain ⟨c10, hf⟩ := ab_ifs hf
            refine ab_U.iald (n := 5) rfl ⟨by decide, rfl⟩ c10 ?_
            show ab_U _ _ _ (77, [some (.ref 100), some (.int x0), some (.int x1)], [.int (q1.2.2.1 106 x0.toNatClampNeg)], hp X G q1.2) _
            obtain rfl := Option.some.inj hf
            exact ab_U.ret rfl rfl ⟨rfl, rfl⟩
          · rw [if_neg b9] at hf
            by_cases b11 : x1.toInt = 3
            · rw [if_pos b11] at hf
              refine ab_U.tswT (t := 78) rfl b4 (by rw [b11]; rfl) ?_
              refine ab_U.run 3 (S' := (83, [some (.ref 100), some (.int x0), some (.int x1)], [.int x0, .ref 101], hp X G q1.2)) rfl ?_
              obtain ⟨q12, h13, hf⟩ := ab_bnd hf
              refine ab_U.fn rfl rfl (t_X7_rateOf (X := X) hG (by decide) h13) (by omega) ?_
              show ab_U _ _ _ (86, [some (.ref 100), some (.int x0), some (.int x1)], [.int q12.1], hp X G q12.2) _
              obtain rfl := Option.some.inj hf
              exact ab_U.ret rfl rfl ⟨rfl, rfl⟩
            · rw [if_neg b11] at hf
              have b14 : x1.toInt = 4 := by omega
              refine ab_U.tswT (t := 87) rfl b4 (by rw [b14]; rfl) ?_
              refine ab_U.run 4 (S' := (95, [some (.ref 100), some (.int x0), some (.int x1)], [.int x0, .ref 105], hp X G q1.2)) rfl ?_
              obtain ⟨c15, hf⟩ := ab_ifs hf
              refine ab_U.iald (n := 5) rfl ⟨by decide, rfl⟩ c15 ?_
              show ab_U _ _ _ (96, [some (.ref 100), some (.int x0), some (.int x1)], [.int (q1.2.2.1 105 x0.toNatClampNeg)], hp X G q1.2) _
              obtain ⟨q16, h17, hf⟩ := ab_bnd hf
              refine ab_U.fn rfl rfl (t_X8_isWarm (X := X) hG h17) (by omega) ?_
              show ab_U _ _ _ (99, [some (.ref 100), some (.int x0), some (.int x1)], [.int q16.1], hp X G q16.2) _
              refine ab_U.if_eq rfl (fun b18 => ?_) (fun b18 => ?_)
              · rw [if_pos b18] at hf
                refine ab_U.run 1 (S' := (107, [some (.ref 100), some (.int x0), some (.int x1)], [.int 0], hp X G q16.2)) rfl ?_
                obtain rfl := Option.some.inj hf
                exact ab_U.ret rfl rfl ⟨rfl, rfl⟩
              · rw [if_neg b18] at hf
                refine ab_U.run 2 (S' := (107, [some (.ref 100), some (.int x0), some (.int x1)], [.int 1], hp X G q16.2)) rfl ?_
                obtain rfl := Option.some.inj hf
                exact ab_U.ret rfl rfl ⟨rfl, rfl⟩
  · rw [if_neg b3] at hf
    refine ab_U.run 1 (S' := (12, [some (.ref 100), some (.int x0), some (.int x1)], [.int (-1)], hp X G q1.2)) rfl ?_
    obtain rfl := Option.some.inj hf
    exact ab_U.ret rfl rfl ⟨rfl, rfl⟩
set_option maxRecDepth 20000 in
def f_X8_debt (F : Nat)  (x0 : Int32) (x1 : Int32) (μ : fm_M) : Option (Int32 × fm_M) := (Option.bind (f_X7_hasDebt F 101 x0 μ) (fun q1 => (if ¬ q1.1 = 0 then (if x1.toInt < 0 ∨ 2 < x1.toInt then some ((-1), q1.2) else (if x1.toInt = 0 then (if ab_in x0 4 = true then some ((q1.2.2.1 108 x0.toNatClampNeg), q1.2) else none) else (if x1.toInt = 1 then (if ab_in x0 4 = true then some ((q1.2.2.1 109 x0.toNatClampNeg), q1.2) else none) else (if ab_in x0 4 = true then some ((q1.2.2.1 110 x0.toNatClampNeg), q1.2) else none)))) else some ((-1), q1.2))))
set_option maxRecDepth 20000 in
theorem t_X8_debt {X : Nat × (Nat → Int32)} {G : Nat → Nat → Option Nat} (hG : fm_Gok G) {F : Nat}   {x0 : Int32} {x1 : Int32} {μ : fm_M} {r : Int32 × fm_M} (hf : f_X8_debt F x0 x1 μ = some r) : ab_F 2 85 [.ref 100, .int x0, .int x1] (hp X G μ) (some (.int r.1)) (hp X G r.2) := by
  unfold f_X8_debt at hf
  refine ab_T.of (d := 1) rfl (Nat.le_of_ble_eq_true rfl) ?_
  show ab_U _ _ kX8_debt (0, [some (.ref 100), some (.int x0), some (.int x1)], [], hp X G μ) _
  refine ab_U.run 3 (S' := (5, [some (.ref 100), some (.int x0), some (.int x1)], [.int x0, .ref 101], hp X G μ)) rfl ?_
  obtain ⟨q1, h2, hf⟩ := ab_bnd hf
  refine ab_U.fn rfl rfl (t_X7_hasDebt (X := X) hG (by decide) h2) (by omega) ?_
  show ab_U _ _ _ (8, [some (.ref 100), some (.int x0), some (.int x1)], [.int q1.1], hp X G q1.2) _
  refine ab_U.if_ne rfl (fun b3 => ?_) (fun b3 => ?_)
  · rw [if_pos b3] at hf
    refine ab_U.run 1 (S' := (14, [some (.ref 100), some (.int x0), some (.int x1)], [.int x1], hp X G q1.2)) rfl ?_
    by_cases b4 : x1.toInt < 0 ∨ 2 < x1.toInt
    · rw [if_pos b4] at hf
      refine ab_U.tswD rfl b4 ?_
      refine ab_U.run 1 (S' := (71, [some (.ref 100), some (.int x0), some (.int x1)], [.int (-1)], hp X G q1.2)) rfl ?_
      obtain rfl := Option.some.inj hf
      exact ab_U.ret rfl rfl ⟨rfl, rfl⟩
    · rw [if_neg b4] at hf
      by_cases b5 : x1.toInt = 0
      · rw [if_pos b5] at hf
        refine ab_U.tswT (t := 40) rfl b4 (by rw [b5]; rfl) ?_
        refine ab_U.run 4 (S' := (48, [some (.ref 100), some (.int x0), some (.int x1)], [.int x0, .ref 108], hp X G q1.2)) rfl ?_
        obtain ⟨c6, hf⟩ := ab_ifs hf
        refine ab_U.iald (n := 4) rfl ⟨by decide, rfl⟩ c6 ?_
        show ab_U _ _ _ (49, [some (.ref 100), some (.int x0), some (.int x1)], [.int (q1.2.2.1 108 x0.toNatClampNeg)], hp X G q1.2) _
        obtain rfl := Option.some.inj hf
        exact ab_U.ret rfl rfl ⟨rfl, rfl⟩
      · rw [if_neg b5] at hf
        by_cases b7 : x1.toInt = 1
        · rw [if_pos b7] at hf
          refine ab_U.tswT (t := 50) rfl b4 (by rw [b7]; rfl) ?_
          refine ab_U.run 4 (S' := (58, [some (.ref 100), some (.int x0), some (.int x1)], [.int x0, .ref 109], hp X G q1.2)) rfl ?_
          obtain ⟨c8, hf⟩ := ab_ifs hf
          refine ab_U.iald (n := 4) rfl ⟨by decide, rfl⟩ c8 ?_
          show ab_U _ _ _ (59, [some (.ref 100), some (.int x0), some (.int x1)], [.int (q1.2.2.1 109 x0.toNatClampNeg)], hp X G q1.2) _
          obtain rfl := Option.some.inj hf
          exact ab_U.ret rfl rfl ⟨rfl, rfl⟩
        · rw [if_neg b7] at hf
          have b9 : x1.toInt = 2 := by omega
          refine ab_U.tswT (t := 60) rfl b4 (by rw [b9]; rfl) ?_
          refine ab_U.run 4 (S' := (68, [some (.ref 100), some (.int x0), some (.int x1)], [.int x0, .ref 110], hp X G q1.2)) rfl ?_
          obtain ⟨c10, hf⟩ := ab_ifs hf
          refine ab_U.iald (n := 4) rfl ⟨by decide, rfl⟩ c10 ?_
          show ab_U _ _ _ (69, [some (.ref 100), some (.int x0), some (.int x1)], [.int (q1.2.2.1 110 x0.toNatClampNeg)], hp X G q1.2) _
          obtain rfl := Option.some.inj hf
          exact ab_U.ret rfl rfl ⟨rfl, rfl⟩
  · rw [if_neg b3] at hf
    refine ab_U.run 1 (S' := (12, [some (.ref 100), some (.int x0), some (.int x1)], [.int (-1)], hp X G q1.2)) rfl ?_
    obtain rfl := Option.some.inj hf
    exact ab_U.ret rfl rfl ⟨rfl, rfl⟩
set_option maxRecDepth 20000 in
def f_X8_price (F : Nat)  (x0 : Int32) (μ : fm_M) : Option (Int32 × fm_M) := (Option.bind (f_X8_isIn F x0 0 5 μ) (fun q1 => (if q1.1 = 0 then some ((-1), q1.2) else (if ab_in x0 6 = true then some ((q1.2.2.1 107 x0.toNatClampNeg), q1.2) else none))))
set_option maxRecDepth 20000 in
theorem t_X8_price {X : Nat × (Nat → Int32)} {G : Nat → Nat → Option Nat} (hG : fm_Gok G) {F : Nat}   {x0 : Int32} {μ : fm_M} {r : Int32 × fm_M} (hf : f_X8_price F x0 μ = some r) : ab_F 2 86 [.ref 100, .int x0] (hp X G μ) (some (.int r.1)) (hp X G r.2) := by
  unfold f_X8_price at hf
  refine ab_T.of (d := 1) rfl (Nat.le_of_ble_eq_true rfl) ?_
  show ab_U _ _ kX8_price (0, [some (.ref 100), some (.int x0)], [], hp X G μ) _
  refine ab_U.run 3 (S' := (3, [some (.ref 100), some (.int x0)], [.int 5, .int 0, .int x0], hp X G μ)) rfl ?_
  obtain ⟨q1, h2, hf⟩ := ab_bnd hf
  refine ab_U.fn rfl rfl (t_X8_isIn (X := X) hG h2) (by omega) ?_
  show ab_U _ _ _ (6, [some (.ref 100), some (.int x0)], [.int q1.1], hp X G q1.2) _
  refine ab_U.if_eq rfl (fun b3 => ?_) (fun b3 => ?_)
  · rw [if_pos b3] at hf
    refine ab_U.run 1 (S' := (22, [some (.ref 100), some (.int x0)], [.int (-1)], hp X G q1.2)) rfl ?_
    obtain rfl := Option.some.inj hf
    exact ab_U.ret rfl rfl ⟨rfl, rfl⟩
  · rw [if_neg b3] at hf
    refine ab_U.run 4 (S' := (17, [some (.ref 100), some (.int x0)], [.int x0, .ref 107], hp X G q1.2)) rfl ?_
    obtain ⟨c4, hf⟩ := ab_ifs hf
    refine ab_U.iald (n := 6) rfl ⟨by decide, rfl⟩ c4 ?_
    show ab_U _ _ _ (18, [some (.ref 100), some (.int x0)], [.int (q1.2.2.1 107 x0.toNatClampNeg)], hp X G q1.2) _
    refine ab_U.run 1 (S' := (22, [some (.ref 100), some (.int x0)], [.int (q1.2.2.1 107 x0.toNatClampNeg)], hp X G q1.2)) rfl ?_
    obtain rfl := Option.some.inj hf
    exact ab_U.ret rfl rfl ⟨rfl, rfl⟩
set_option maxRecDepth 20000 in
def f_X8_exchange (F : Nat) (a : Nat) (x1 : Int32) (x2 : Int32) (μ : fm_M) : Option (Int32 × fm_M) := (if fm_inA a x1 = true then (if fm_inA a x1 = true then (Option.bind (some (fm_sA μ a (upd (μ.2.1 a) x1.toNatClampNeg x2))) (fun m3 => some ((μ.2.1 a x1.toNatClampNeg), m3))) else none) else none)
set_option maxRecDepth 20000 in
theorem t_X8_exchange {X : Nat × (Nat → Int32)} {G : Nat → Nat → Option Nat} (hG : fm_Gok G) {F : Nat} {a : Nat}  {x1 : Int32} {x2 : Int32} {μ : fm_M} {r : Int32 × fm_M} (hf : f_X8_exchange F a x1 x2 μ = some r) : ab_F 1 121 [.ref a, .int x1, .int x2] (hp X G μ) (some (.int r.1)) (hp X G r.2) := by
  unfold f_X8_exchange at hf
  refine ab_T.of (d := 0) rfl (Nat.le_of_ble_eq_true rfl) ?_
  show ab_U _ _ kX8_exchange (0, [some (.ref a), some (.int x1), some (.int x2), none], [], hp X G μ) _
  refine ab_U.run 2 (S' := (2, [some (.ref a), some (.int x1), some (.int x2), none], [.int x1, .ref a], hp X G μ)) rfl ?_
  obtain ⟨c1, hf⟩ := ab_ifs hf
  refine ab_U.ialdA rfl c1 ?_
  show ab_U _ _ _ (3, [some (.ref a), some (.int x1), some (.int x2), none], [.int (μ.2.1 a x1.toNatClampNeg)], hp X G μ) _
  refine ab_U.run 4 (S' := (7, [some (.ref a), some (.int x1), some (.int x2), some (.int (μ.2.1 a x1.toNatClampNeg))], [.int x2, .int x1, .ref a], hp X G μ)) rfl ?_
  obtain ⟨c2, hf⟩ := ab_ifs hf
  obtain ⟨m3, e4, hf⟩ := ab_bnd hf
  have e4 := Option.some.inj e4
  refine ab_U.iastA rfl c2 ?_
  show ab_U _ _ _ (8, [some (.ref a), some (.int x1), some (.int x2), some (.int (μ.2.1 a x1.toNatClampNeg))], [], hp X G (fm_sA μ a (upd (μ.2.1 a) x1.toNatClampNeg x2))) _
  rw [e4]
  refine ab_U.run 1 (S' := (9, [some (.ref a), some (.int x1), some (.int x2), some (.int (μ.2.1 a x1.toNatClampNeg))], [.int (μ.2.1 a x1.toNatClampNeg)], hp X G m3)) rfl ?_
  obtain rfl := Option.some.inj hf
  exact ab_U.ret rfl rfl ⟨rfl, rfl⟩
set_option maxRecDepth 20000 in
def f_X8_dress (F : Nat)  (x0 : Int32) (x1 : Int32) (x2 : Int32) (μ : fm_M) : Option (Int32 × fm_M) := (Option.bind (f_X7_hasOne F 101 x0 μ) (fun q1 => (if ¬ q1.1 = 0 then (if ¬ x1 = 0 then (if ¬ x1 = 1 then some ((-1), q1.2) else (Option.bind (f_X8_isIn F x2 0 9 q1.2) (fun q6 => (if q6.1 = 0 then some ((-1), q6.2) else (Option.bind (f_X8_exchange F 103 x0 x2 q6.2) (fun q9 => some (q9.1, q9.2))))))) else (Option.bind (f_X8_isIn F x2 0 5 q1.2) (fun q11 => (if q11.1 = 0 then (if ¬ x1 = 1 then some ((-1), q11.2) else (Option.bind (f_X8_isIn F x2 0 9 q11.2) (fun q15 => (if q15.1 = 0 then some ((-1), q15.2) else (Option.bind (f_X8_exchange F 103 x0 x2 q15.2) (fun q18 => some (q18.1, q18.2))))))) else (Option.bind (f_X8_exchange F 102 x0 x2 q11.2) (fun q20 => some (q20.1, q20.2))))))) else some ((-1), q1.2))))
set_option maxRecDepth 20000 in
theorem t_X8_dress {X : Nat × (Nat → Int32)} {G : Nat → Nat → Option Nat} (hG : fm_Gok G) {F : Nat}   {x0 : Int32} {x1 : Int32} {x2 : Int32} {μ : fm_M} {r : Int32 × fm_M} (hf : f_X8_dress F x0 x1 x2 μ = some r) : ab_F 2 87 [.ref 100, .int x0, .int x1, .int x2] (hp X G μ) (some (.int r.1)) (hp X G r.2) := by
  unfold f_X8_dress at hf
  refine ab_T.of (d := 1) rfl (Nat.le_of_ble_eq_true rfl) ?_
  show ab_U _ _ kX8_dress (0, [some (.ref 100), some (.int x0), some (.int x1), some (.int x2)], [], hp X G μ) _
  refine ab_U.run 3 (S' := (5, [some (.ref 100), some (.int x0), some (.int x1), some (.int x2)], [.int x0, .ref 101], hp X G μ)) rfl ?_
  obtain ⟨q1, h2, hf⟩ := ab_bnd hf
  refine ab_U.fn rfl rfl (t_X7_hasOne (X := X) hG (by decide) h2) (by omega) ?_
  show ab_U _ _ _ (8, [some (.ref 100), some (.int x0), some (.int x1), some (.int x2)], [.int q1.1], hp X G q1.2) _
  refine ab_U.if_ne rfl (fun b3 => ?_) (fun b3 => ?_)
  · rw [if_pos b3] at hf
    refine ab_U.run 1 (S' := (14, [some (.ref 100), some (.int x0), some (.int x1), some (.int x2)], [.int x1], hp X G q1.2)) rfl ?_
    refine ab_U.if_ne rfl (fun b4 => ?_) (fun b4 => ?_)
    · rw [if_pos b4] at hf
      refine ab_U.run 2 (S' := (41, [some (.ref 100), some (.int x0), some (.int x1), some (.int x2)], [.int 1, .int x1], hp X G q1.2)) rfl ?_
      refine ab_U.ic_ne rfl (fun b5 => ?_) (fun b5 => ?_)
      · rw [if_pos b5] at hf
        refine ab_U.run 1 (S' := (68, [some (.ref 100), some (.int x0), some (.int x1), some (.int x2)], [.int (-1)], hp X G q1.2)) rfl ?_
        obtain rfl := Option.some.inj hf
        exact ab_U.ret rfl rfl ⟨rfl, rfl⟩
      · rw [if_neg b5] at hf
        refine ab_U.run 3 (S' := (48, [some (.ref 100), some (.int x0), some (.int x1), some (.int x2)], [.int 9, .int 0, .int x2], hp X G q1.2)) rfl ?_
        obtain ⟨q6, h7, hf⟩ := ab_bnd hf
        refine ab_U.fn rfl rfl (t_X8_isIn (X := X) hG h7) (by omega) ?_
        show ab_U _ _ _ (51, [some (.ref 100), some (.int x0), some (.int x1), some (.int x2)], [.int q6.1], hp X G q6.2) _
        refine ab_U.if_eq rfl (fun b8 => ?_) (fun b8 => ?_)
        · rw [if_pos b8] at hf
          refine ab_U.run 1 (S' := (68, [some (.ref 100), some (.int x0), some (.int x1), some (.int x2)], [.int (-1)], hp X G q6.2)) rfl ?_
          obtain rfl := Option.some.inj hf
          exact ab_U.ret rfl rfl ⟨rfl, rfl⟩
        · rw [if_neg b8] at hf
          refine ab_U.run 5 (S' := (63, [some (.ref 100), some (.int x0), some (.int x1), some (.int x2)], [.int x2, .int x0, .ref 103], hp X G q6.2)) rfl ?_
          obtain ⟨q9, h10, hf⟩ := ab_bnd hf
          refine ab_U.fn rfl rfl (t_X8_exchange (X := X) hG h10) (by omega) ?_
          show ab_U _ _ _ (66, [some (.ref 100), some (.int x0), some (.int x1), some (.int x2)], [.int q9.1], hp X G q9.2) _
          obtain rfl := Option.some.inj hf
          exact ab_U.ret rfl rfl ⟨rfl, rfl⟩
    · rw [if_neg b4] at hf
      refine ab_U.run 3 (S' := (20, [some (.ref 100), some (.int x0), some (.int x1), some (.int x2)], [.int 5, .int 0, .int x2], hp X G q1.2)) rfl ?_
      obtain ⟨q11, h12, hf⟩ := ab_bnd hf
      refine ab_U.fn rfl rfl (t_X8_isIn (X := X) hG h12) (by omega) ?_
      show ab_U _ _ _ (23, [some (.ref 100), some (.int x0), some (.int x1), some (.int x2)], [.int q11.1], hp X G q11.2) _
      refine ab_U.if_eq rfl (fun b13 => ?_) (fun b13 => ?_)
      · rw [if_pos b13] at hf
        refine ab_U.run 2 (S' := (41, [some (.ref 100), some (.int x0), some (.int x1), some (.int x2)], [.int 1, .int x1], hp X G q11.2)) rfl ?_
        refine ab_U.ic_ne rfl (fun b14 => ?_) (fun b14 => ?_)
        · rw [if_pos b14] at hf
          refine ab_U.run 1 (S' := (68, [some (.ref 100), some (.int x0), some (.int x1), some (.int x2)], [.int (-1)], hp X G q11.2)) rfl ?_
          obtain rfl := Option.some.inj hf
          exact ab_U.ret rfl rfl ⟨rfl, rfl⟩
        · rw [if_neg b14] at hf
          refine ab_U.run 3 (S' := (48, [some (.ref 100), some (.int x0), some (.int x1), some (.int x2)], [.int 9, .int 0, .int x2], hp X G q11.2)) rfl ?_
          obtain ⟨q15, h16, hf⟩ := ab_bnd hf
          refine ab_U.fn rfl rfl (t_X8_isIn (X := X) hG h16) (by omega) ?_
          show ab_U _ _ _ (51, [some (.ref 100), some (.int x0), some (.int x1), some (.int x2)], [.int q15.1], hp X G q15.2) _
          refine ab_U.if_eq rfl (fun b17 => ?_) (fun b17 => ?_)
          · rw [if_pos b17] at hf
            refine ab_U.run 1 (S' := (68, [some (.ref 100), some (.int x0), some (.int x1), some (.int x2)], [.int (-1)], hp X G q15.2)) rfl ?_
            obtain rfl := Option.some.inj hf
            exact ab_U.ret rfl rfl ⟨rfl, rfl⟩
          · rw [if_neg b17] at hf
            refine ab_U.run 5 (S' := (63, [some (.ref 100), some (.int x0), some (.int x1), some (.int x2)], [.int x2, .int x0, .ref 103], hp X G q15.2)) rfl ?_
            obtain ⟨q18, h19, hf⟩ := ab_bnd hf
            refine ab_U.fn rfl rfl (t_X8_exchange (X := X) hG h19) (by omega) ?_
            show ab_U _ _ _ (66, [some (.ref 100), some (.int x0), some (.int x1), some (.int x2)], [.int q18.1], hp X G q18.2) _
            obtain rfl := Option.some.inj hf
            exact ab_U.ret rfl rfl ⟨rfl, rfl⟩
      · rw [if_neg b13] at hf
        refine ab_U.run 5 (S' := (35, [some (.ref 100), some (.int x0), some (.int x1), some (.int x2)], [.int x2, .int x0, .ref 102], hp X G q11.2)) rfl ?_
        obtain ⟨q20, h21, hf⟩ := ab_bnd hf
        refine ab_U.fn rfl rfl (t_X8_exchange (X := X) hG h21) (by omega) ?_
        show ab_U _ _ _ (38, [some (.ref 100), some (.int x0), some (.int x1), some (.int x2)], [.int q20.1], hp X G q20.2) _
        obtain rfl := Option.some.inj hf
        exact ab_U.ret rfl rfl ⟨rfl, rfl⟩
  · rw [if_neg b3] at hf
    refine ab_U.run 1 (S' := (12, [some (.ref 100), some (.int x0), some (.int x1), some (.int x2)], [.int (-1)], hp X G q1.2)) rfl ?_
    obtain rfl := Option.some.inj hf
    exact ab_U.ret rfl rfl ⟨rfl, rfl⟩
set_option maxRecDepth 20000 in
def f_X8_warm (F : Nat)  (x0 : Int32) (x1 : Int32) (x2 : Int32) (μ : fm_M) : Option (Int32 × fm_M) := (Option.bind (f_X7_hasStone F 101 x0 μ) (fun q1 => (if ¬ q1.1 = 0 then (if ¬ x1 = 0 then (if ¬ x1 = 1 then some ((-1), q1.2) else (Option.bind (f_X8_isIn F x2 0 99 q1.2) (fun q6 => (if q6.1 = 0 then some ((-1), q6.2) else (Option.bind (f_X8_exchange F 105 x0 x2 q6.2) (fun q9 => some (q9.1, q9.2))))))) else (Option.bind (f_X8_isIn F x2 0 (4 - 1) q1.2) (fun q11 => (if q11.1 = 0 then (if ¬ x1 = 1 then some ((-1), q11.2) else (Option.bind (f_X8_isIn F x2 0 99 q11.2) (fun q15 => (if q15.1 = 0 then some ((-1), q15.2) else (Option.bind (f_X8_exchange F 105 x0 x2 q15.2) (fun q18 => some (q18.1, q18.2))))))) else (Option.bind (f_X8_exchange F 104 x0 x2 q11.2) (fun q20 => some (q20.1, q20.2))))))) else some ((-1), q1.2))))
set_option maxRecDepth 20000 in
theorem t_X8_warm {X : Nat × (Nat → Int32)} {G : Nat → Nat → Option Nat} (hG : fm_Gok G) {F : Nat}   {x0 : Int32} {x1 : Int32} {x2 : Int32} {μ : fm_M} {r : Int32 × fm_M} (hf : f_X8_warm F x0 x1 x2 μ = some r) : ab_F 2 88 [.ref 100, .int x0, .int x1, .int x2] (hp X G μ) (some (.int r.1)) (hp X G r.2) := by
  unfold f_X8_warm at hf
  refine ab_T.of (d := 1) rfl (Nat.le_of_ble_eq_true rfl) ?_
  show ab_U _ _ kX8_warm (0, [some (.ref 100), some (.int x0), some (.int x1), some (.int x2)], [], hp X G μ) _
  refine ab_U.run 3 (S' := (5, [some (.ref 100), some (.int x0), some (.int x1), some (.int x2)], [.int x0, .ref 101], hp X G μ)) rfl ?_
  obtain ⟨q1, h2, hf⟩ := ab_bnd hf
  refine ab_U.fn rfl rfl (t_X7_hasStone (X := X) hG (by decide) h2) (by omega) ?_
  show ab_U _ _ _ (8, [some (.ref 100), some (.int x0), some (.int x1), some (.int x2)], [.int q1.1], hp X G q1.2) _
  refine ab_U.if_ne rfl (fun b3 => ?_) (fun b3 => ?_)
  · rw [if_pos b3] at hf
    refine ab_U.run 1 (S' := (14, [some (.ref 100), some (.int x0), some (.int x1), some (.int x2)], [.int x1], hp X G q1.2)) rfl ?_
    refine ab_U.if_ne rfl (fun b4 => ?_) (fun b4 => ?_)
    · rw [if_pos b4] at hf
      refine ab_U.run 2 (S' := (46, [some (.ref 100), some (.int x0), some (.int x1), some (.int x2)], [.int 1, .int x1], hp X G q1.2)) rfl ?_
      refine ab_U.ic_ne rfl (fun b5 => ?_) (fun b5 => ?_)
      · rw [if_pos b5] at hf
        refine ab_U.run 1 (S' := (73, [some (.ref 100), some (.int x0), some (.int x1), some (.int x2)], [.int (-1)], hp X G q1.2)) rfl ?_
        obtain rfl := Option.some.inj hf
        exact ab_U.ret rfl rfl ⟨rfl, rfl⟩
      · rw [if_neg b5] at hf
        refine ab_U.run 3 (S' := (53, [some (.ref 100), some (.int x0), some (.int x1), some (.int x2)], [.int 99, .int 0, .int x2], hp X G q1.2)) rfl ?_
        obtain ⟨q6, h7, hf⟩ := ab_bnd hf
        refine ab_U.fn rfl rfl (t_X8_isIn (X := X) hG h7) (by omega) ?_
        show ab_U _ _ _ (56, [some (.ref 100), some (.int x0), some (.int x1), some (.int x2)], [.int q6.1], hp X G q6.2) _
        refine ab_U.if_eq rfl (fun b8 => ?_) (fun b8 => ?_)
        · rw [if_pos b8] at hf
          refine ab_U.run 1 (S' := (73, [some (.ref 100), some (.int x0), some (.int x1), some (.int x2)], [.int (-1)], hp X G q6.2)) rfl ?_
          obtain rfl := Option.some.inj hf
          exact ab_U.ret rfl rfl ⟨rfl, rfl⟩
        · rw [if_neg b8] at hf
          refine ab_U.run 5 (S' := (68, [some (.ref 100), some (.int x0), some (.int x1), some (.int x2)], [.int x2, .int x0, .ref 105], hp X G q6.2)) rfl ?_
          obtain ⟨q9, h10, hf⟩ := ab_bnd hf
          refine ab_U.fn rfl rfl (t_X8_exchange (X := X) hG h10) (by omega) ?_
          show ab_U _ _ _ (71, [some (.ref 100), some (.int x0), some (.int x1), some (.int x2)], [.int q9.1], hp X G q9.2) _
          obtain rfl := Option.some.inj hf
          exact ab_U.ret rfl rfl ⟨rfl, rfl⟩
    · rw [if_neg b4] at hf
      refine ab_U.run 6 (S' := (25, [some (.ref 100), some (.int x0), some (.int x1), some (.int x2)], [.int (4 - 1), .int 0, .int x2], hp X G q1.2)) rfl ?_
      obtain ⟨q11, h12, hf⟩ := ab_bnd hf
      refine ab_U.fn rfl rfl (t_X8_isIn (X := X) hG h12) (by omega) ?_
      show ab_U _ _ _ (28, [some (.ref 100), some (.int x0), some (.int x1), some (.int x2)], [.int q11.1], hp X G q11.2) _
      refine ab_U.if_eq rfl (fun b13 => ?_) (fun b13 => ?_)
      · rw [if_pos b13] at hf
        refine ab_U.run 2 (S' := (46, [some (.ref 100), some (.int x0), some (.int x1), some (.int x2)], [.int 1, .int x1], hp X G q11.2)) rfl ?_
        refine ab_U.ic_ne rfl (fun b14 => ?_) (fun b14 => ?_)
        · rw [if_pos b14] at hf
          refine ab_U.run 1 (S' := (73, [some (.ref 100), some (.int x0), some (.int x1), some (.int x2)], [.int (-1)], hp X G q11.2)) rfl ?_
          obtain rfl := Option.some.inj hf
          exact ab_U.ret rfl rfl ⟨rfl, rfl⟩
        · rw [if_neg b14] at hf
          refine ab_U.run 3 (S' := (53, [some (.ref 100), some (.int x0), some (.int x1), some (.int x2)], [.int 99, .int 0, .int x2], hp X G q11.2)) rfl ?_
          obtain ⟨q15, h16, hf⟩ := ab_bnd hf
          refine ab_U.fn rfl rfl (t_X8_isIn (X := X) hG h16) (by omega) ?_
          show ab_U _ _ _ (56, [some (.ref 100), some (.int x0), some (.int x1), some (.int x2)], [.int q15.1], hp X G q15.2) _
          refine ab_U.if_eq rfl (fun b17 => ?_) (fun b17 => ?_)
          · rw [if_pos b17] at hf
            refine ab_U.run 1 (S' := (73, [some (.ref 100), some (.int x0), some (.int x1), some (.int x2)], [.int (-1)], hp X G q15.2)) rfl ?_
            obtain rfl := Option.some.inj hf
            exact ab_U.ret rfl rfl ⟨rfl, rfl⟩
          · rw [if_neg b17] at hf
            refine ab_U.run 5 (S' := (68, [some (.ref 100), some (.int x0), some (.int x1), some (.int x2)], [.int x2, .int x0, .ref 105], hp X G q15.2)) rfl ?_
            obtain ⟨q18, h19, hf⟩ := ab_bnd hf
            refine ab_U.fn rfl rfl (t_X8_exchange (X := X) hG h19) (by omega) ?_
            show ab_U _ _ _ (71, [some (.ref 100), some (.int x0), some (.int x1), some (.int x2)], [.int q18.1], hp X G q18.2) _
            obtain rfl := Option.some.inj hf
            exact ab_U.ret rfl rfl ⟨rfl, rfl⟩
      · rw [if_neg b13] at hf
        refine ab_U.run 5 (S' := (40, [some (.ref 100), some (.int x0), some (.int x1), some (.int x2)], [.int x2, .int x0, .ref 104], hp X G q11.2)) rfl ?_
        obtain ⟨q20, h21, hf⟩ := ab_bnd hf
        refine ab_U.fn rfl rfl (t_X8_exchange (X := X) hG h21) (by omega) ?_
        show ab_U _ _ _ (43, [some (.ref 100), some (.int x0), some (.int x1), some (.int x2)], [.int q20.1], hp X G q20.2) _
        obtain rfl := Option.some.inj hf
        exact ab_U.ret rfl rfl ⟨rfl, rfl⟩
  · rw [if_neg b3] at hf
    refine ab_U.run 1 (S' := (12, [some (.ref 100), some (.int x0), some (.int x1), some (.int x2)], [.int (-1)], hp X G q1.2)) rfl ?_
    obtain rfl := Option.some.inj hf
    exact ab_U.ret rfl rfl ⟨rfl, rfl⟩
