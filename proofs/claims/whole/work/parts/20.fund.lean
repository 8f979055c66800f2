/-! by program: each method as a function over the memory, and that our machine does it -/
set_option maxRecDepth 20000 in
def f_X8_set (F : Nat)  (x0 : Int32) (x1 : Int32) (μ : fm_M) : Option (Int32 × fm_M) := (if ¬ x0 = 0 then (if ¬ x0 = 1 then (if ¬ x0 = 2 then some ((-1), μ) else (Option.bind (f_X8_isIn F x1 0 9 μ) (fun q4 => (if q4.1 = 0 then some ((-1), q4.2) else (Option.bind (some (fm_sI q4.2 101 7 x1)) (fun m7 => some ((q4.2.1 101 7), m7))))))) else (Option.bind (f_X8_isIn F x1 5 99 μ) (fun q9 => (if q9.1 = 0 then (if ¬ x0 = 2 then some ((-1), q9.2) else (Option.bind (f_X8_isIn F x1 0 9 q9.2) (fun q13 => (if q13.1 = 0 then some ((-1), q13.2) else (Option.bind (some (fm_sI q13.2 101 7 x1)) (fun m16 => some ((q13.2.1 101 7), m16))))))) else (Option.bind (some (fm_sI q9.2 101 8 x1)) (fun m18 => some ((q9.2.1 101 8), m18))))))) else (Option.bind (f_X8_isIn F x1 0 10 μ) (fun q20 => (if q20.1 = 0 then (if ¬ x0 = 1 then (if ¬ x0 = 2 then some ((-1), q20.2) else (Option.bind (f_X8_isIn F x1 0 9 q20.2) (fun q25 => (if q25.1 = 0 then some ((-1), q25.2) else (Option.bind (some (fm_sI q25.2 101 7 x1)) (fun m28 => some ((q25.2.1 101 7), m28))))))) else (Option.bind (f_X8_isIn F x1 5 99 q20.2) (fun q30 => (if q30.1 = 0 then (if ¬ x0 = 2 then some ((-1), q30.2) else (Option.bind (f_X8_isIn F x1 0 9 q30.2) (fun q34 => (if q34.1 = 0 then some ((-1), q34.2) else (Option.bind (some (fm_sI q34.2 101 7 x1)) (fun m37 => some ((q34.2.1 101 7), m37))))))) else (Option.bind (some (fm_sI q30.2 101 8 x1)) (fun m39 => some ((q30.2.1 101 8), m39))))))) else (Option.bind (some (fm_sI q20.2 101 9 x1)) (fun m41 => some ((q20.2.1 101 9), m41)))))))
set_option maxRecDepth 20000 in
theorem t_X8_set {X : Nat × (Nat → Int32)} {G : Nat → Nat → Option Nat} (hG : fm_Gok G) {F : Nat}   {x0 : Int32} {x1 : Int32} {μ : fm_M} {r : Int32 × fm_M} (hf : f_X8_set F x0 x1 μ = some r) : ab_F 2 89 [.ref 100, .int x0, .int x1] (hp X G μ) (some (.int r.1)) (hp X G r.2) := by
  unfold f_X8_set at hf
  refine ab_T.of (d := 1) rfl (Nat.le_of_ble_eq_true rfl) ?_
  show ab_U _ _ kX8_set (0, [some (.ref 100), some (.int x0), some (.int x1), none], [], hp X G μ) _
  refine ab_U.run 3 (S' := (3, [some (.ref 100), some (.int x0), some (.int x1), some (.int (-1))], [.int x0], hp X G μ)) rfl ?_
  refine ab_U.if_ne rfl (fun b1 => ?_) (fun b1 => ?_)
  · rw [if_pos b1] at hf
    refine ab_U.run 2 (S' := (37, [some (.ref 100), some (.int x0), some (.int x1), some (.int (-1))], [.int 1, .int x0], hp X G μ)) rfl ?_
    refine ab_U.ic_ne rfl (fun b2 => ?_) (fun b2 => ?_)
    · rw [if_pos b2] at hf
      refine ab_U.run 2 (S' := (71, [some (.ref 100), some (.int x0), some (.int x1), some (.int (-1))], [.int 2, .int x0], hp X G μ)) rfl ?_
      refine ab_U.ic_ne rfl (fun b3 => ?_) (fun b3 => ?_)
      · rw [if_pos b3] at hf
        refine ab_U.run 1 (S' := (101, [some (.ref 100), some (.int x0), some (.int x1), some (.int (-1))], [.int (-1)], hp X G μ)) rfl ?_
        obtain rfl := Option.some.inj hf
        exact ab_U.ret rfl rfl ⟨rfl, rfl⟩
      · rw [if_neg b3] at hf
        refine ab_U.run 3 (S' := (78, [some (.ref 100), some (.int x0), some (.int x1), some (.int (-1))], [.int 9, .int 0, .int x1], hp X G μ)) rfl ?_
        obtain ⟨q4, h5, hf⟩ := ab_bnd hf
        refine ab_U.fn rfl rfl (t_X8_isIn (X := X) hG h5) (by omega) ?_
        show ab_U _ _ _ (81, [some (.ref 100), some (.int x0), some (.int x1), some (.int (-1))], [.int q4.1], hp X G q4.2) _
        refine ab_U.if_eq rfl (fun b6 => ?_) (fun b6 => ?_)
        · rw [if_pos b6] at hf
          refine ab_U.run 1 (S' := (101, [some (.ref 100), some (.int x0), some (.int x1), some (.int (-1))], [.int (-1)], hp X G q4.2)) rfl ?_
          obtain rfl := Option.some.inj hf
          exact ab_U.ret rfl rfl ⟨rfl, rfl⟩
        · rw [if_neg b6] at hf
          refine ab_U.run 7 (S' := (97, [some (.ref 100), some (.int x0), some (.int x1), some (.int (q4.2.1 101 7))], [.int x1, .ref 101], hp X G q4.2)) rfl ?_
          obtain ⟨m7, e8, hf⟩ := ab_bnd hf
          have e8 := Option.some.inj e8
          refine ab_U.pfI (ci := 7) (k9 := 7) rfl ⟨by decide, rfl⟩ ⟨rfl, rfl, by decide, rfl⟩ rfl ?_
          show ab_U _ _ _ (100, [some (.ref 100), some (.int x0), some (.int x1), some (.int (q4.2.1 101 7))], [], hp X G (fm_sI q4.2 101 7 x1)) _
          rw [e8]
          refine ab_U.run 1 (S' := (101, [some (.ref 100), some (.int x0), some (.int x1), some (.int (q4.2.1 101 7))], [.int (q4.2.1 101 7)], hp X G m7)) rfl ?_
          obtain rfl := Option.some.inj hf
          exact ab_U.ret rfl rfl ⟨rfl, rfl⟩
    · rw [if_neg b2] at hf
      refine ab_U.run 3 (S' := (44, [some (.ref 100), some (.int x0), some (.int x1), some (.int (-1))], [.int 99, .int 5, .int x1], hp X G μ)) rfl ?_
      obtain ⟨q9, h10, hf⟩ := ab_bnd hf
      refine ab_U.fn rfl rfl (t_X8_isIn (X := X) hG h10) (by omega) ?_
      show ab_U _ _ _ (47, [some (.ref 100), some (.int x0), some (.int x1), some (.int (-1))], [.int q9.1], hp X G q9.2) _
      refine ab_U.if_eq rfl (fun b11 => ?_) (fun b11 => ?_)
      · rw [if_pos b11] at hf
        refine ab_U.run 2 (S' := (71, [some (.ref 100), some (.int x0), some (.int x1), some (.int (-1))], [.int 2, .int x0], hp X G q9.2)) rfl ?_
        refine ab_U.ic_ne rfl (fun b12 => ?_) (fun b12 => ?_)
        · rw [if_pos b12] at hf
          refine ab_U.run 1 (S' := (101, [some (.ref 100), some (.int x0), some (.int x1), some (.int (-1))], [.int (-1)], hp X G q9.2)) rfl ?_
          obtain rfl := Option.some.inj hf
          exact ab_U.ret rfl rfl ⟨rfl, rfl⟩
        · rw [if_neg b12] at hf
          refine ab_U.run 3 (S' := (78, [some (.ref 100), some (.int x0), some (.int x1), some (.int (-1))], [.int 9, .int 0, .int x1], hp X G q9.2)) rfl ?_
          obtain ⟨q13, h14, hf⟩ := ab_bnd hf
          refine ab_U.fn rfl rfl (t_X8_isIn (X := X) hG h14) (by omega) ?_
          show ab_U _ _ _ (81, [some (.ref 100), some (.int x0), some (.int x1), some (.int (-1))], [.int q13.1], hp X G q13.2) _
          refine ab_U.if_eq rfl (fun b15 => ?_) (fun b15 => ?_)
          · rw [if_pos b15] at hf
            refine ab_U.run 1 (S' := (101, [some (.ref 100), some (.int x0), some (.int x1), some (.int (-1))], [.int (-1)], hp X G q13.2)) rfl ?_
            obtain rfl := Option.some.inj hf
            exact ab_U.ret rfl rfl ⟨rfl, rfl⟩
          · rw [if_neg b15] at hf
            refine ab_U.run 7 (S' := (97, [some (.ref 100), some (.int x0), some (.int x1), some (.int (q13.2.1 101 7))], [.int x1, .ref 101], hp X G q13.2)) rfl ?_
            obtain ⟨m16, e17, hf⟩ := ab_bnd hf
            have e17 := Option.some.inj e17
            refine ab_U.pfI (ci := 7) (k9 := 7) rfl ⟨by decide, rfl⟩ ⟨rfl, rfl, by decide, rfl⟩ rfl ?_
            show ab_U _ _ _ (100, [some (.ref 100), some (.int x0), some (.int x1), some (.int (q13.2.1 101 7))], [], hp X G (fm_sI q13.2 101 7 x1)) _
            rw [e17]
            refine ab_U.run 1 (S' := (101, [some (.ref 100), some (.int x0), some (.int x1), some (.int (q13.2.1 101 7))], [.int (q13.2.1 101 7)], hp X G m16)) rfl ?_
            obtain rfl := Option.some.inj hf
            exact ab_U.ret rfl rfl ⟨rfl, rfl⟩
      · rw [if_neg b11] at hf
        refine ab_U.run 7 (S' := (63, [some (.ref 100), some (.int x0), some (.int x1), some (.int (q9.2.1 101 8))], [.int x1, .ref 101], hp X G q9.2)) rfl ?_
        obtain ⟨m18, e19, hf⟩ := ab_bnd hf
        have e19 := Option.some.inj e19
        refine ab_U.pfI (ci := 7) (k9 := 8) rfl ⟨by decide, rfl⟩ ⟨rfl, rfl, by decide, rfl⟩ rfl ?_
        show ab_U _ _ _ (66, [some (.ref 100), some (.int x0), some (.int x1), some (.int (q9.2.1 101 8))], [], hp X G (fm_sI q9.2 101 8 x1)) _
        rw [e19]
        refine ab_U.run 2 (S' := (101, [some (.ref 100), some (.int x0), some (.int x1), some (.int (q9.2.1 101 8))], [.int (q9.2.1 101 8)], hp X G m18)) rfl ?_
        obtain rfl := Option.some.inj hf
        exact ab_U.ret rfl rfl ⟨rfl, rfl⟩
  · rw [if_neg b1] at hf
    refine ab_U.run 3 (S' := (10, [some (.ref 100), some (.int x0), some (.int x1), some (.int (-1))], [.int 10, .int 0, .int x1], hp X G μ)) rfl ?_
    obtain ⟨q20, h21, hf⟩ := ab_bnd hf
    refine ab_U.fn rfl rfl (t_X8_isIn (X := X) hG h21) (by omega) ?_
    show ab_U _ _ _ (13, [some (.ref 100), some (.int x0), some (.int x1), some (.int (-1))], [.int q20.1], hp X G q20.2) _
    refine ab_U.if_eq rfl (fun b22 => ?_) (fun b22 => ?_)
    · rw [if_pos b22] at hf
      refine ab_U.run 2 (S' := (37, [some (.ref 100), some (.int x0), some (.int x1), some (.int (-1))], [.int 1, .int x0], hp X G q20.2)) rfl ?_
      refine ab_U.ic_ne rfl (fun b23 => ?_) (fun b23 => ?_)
      · rw [if_pos b23] at hf
        refine ab_U.run 2 (S' := (71, [some (.ref 100), some (.int x0), some (.int x1), some (.int (-1))], [.int 2, .int x0], hp X G q20.2)) rfl ?_
        refine ab_U.ic_ne rfl (fun b24 => ?_) (fun b24 => ?_)
        · rw [if_pos b24] at hf
          refine ab_U.run 1 (S' := (101, [some (.ref 100), some (.int x0), some (.int x1), some (.int (-1))], [.int (-1)], hp X G q20.2)) rfl ?_
          obtain rfl := Option.some.inj hf
          exact ab_U.ret rfl rfl ⟨rfl, rfl⟩
        · rw [if_neg b24] at hf
          refine ab_U.run 3 (S' := (78, [some (.ref 100), some (.int x0), some (.int x1), some (.int (-1))], [.int 9, .int 0, .int x1], hp X G q20.2)) rfl ?_
          obtain ⟨q25, h26, hf⟩ := ab_bnd hf
          refine ab_U.fn rfl rfl (t_X8_isIn (X := X) hG h26) (by omega) ?_
          show ab_U _ _ _ (81, [some (.ref 100), some (.int x0), some (.int x1), some (.int (-1))], [.int q25.1], hp X G q25.2) _
          refine ab_U.if_eq rfl (fun b27 => ?_) (fun b27 => ?_)
          · rw [if_pos b27] at hf
            refine ab_U.run 1 (S' := (101, [some (.ref 100), some (.int x0), some (.int x1), some (.int (-1))], [.int (-1)], hp X G q25.2)) rfl ?_
            obtain rfl := Option.some.inj hf
            exact ab_U.ret rfl rfl ⟨rfl, rfl⟩
          · rw [if_neg b27] at hf
            refine ab_U.run 7 (S' := (97, [some (.ref 100), some (.int x0), some (.int x1), some (.int (q25.2.1 101 7))], [.int x1, .ref 101], hp X G q25.2)) rfl ?_
            obtain ⟨m28, e29, hf⟩ := ab_bnd hf
            have e29 := Option.some.inj e29
            refine ab_U.pfI (ci := 7) (k9 := 7) rfl ⟨by decide, rfl⟩ ⟨rfl, rfl, by decide, rfl⟩ rfl ?_
            show ab_U _ _ _ (100, [some (.ref 100), some (.int x0), some (.int x1), some (.int (q25.2.1 101 7))], [], hp X G (fm_sI q25.2 101 7 x1)) _
            rw [e29]
            refine ab_U.run 1 (S' := (101, [some (.ref 100), some (.int x0), some (.int x1), some (.int (q25.2.1 101 7))], [.int (q25.2.1 101 7)], hp X G m28)) rfl ?_
            obtain rfl := Option.some.inj hf
            exact ab_U.ret rfl rfl ⟨rfl, rfl⟩
      · rw [if_neg b23] at hf
        refine ab_U.run 3 (S' := (44, [some (.ref 100), some (.int x0), some (.int x1), some (.int (-1))], [.int 99, .int 5, .int x1], hp X G q20.2)) rfl ?_
        obtain ⟨q30, h31, hf⟩ := ab_bnd hf
        refine ab_U.fn rfl rfl (t_X8_isIn (X := X) hG h31) (by omega) ?_
        show ab_U _ _ _ (47, [some (.ref 100), some (.int x0), some (.int x1), some (.int (-1))], [.int q30.1], hp X G q30.2) _
        refine ab_U.if_eq rfl (fun b32 => ?_) (fun b32 => ?_)
        · rw [if_pos b32] at hf
          refine ab_U.run 2 (S' := (71, [some (.ref 100), some (.int x0), some (.int x1), some (.int (-1))], [.int 2, .int x0], hp X G q30.2)) rfl ?_
          refine ab_U.ic_ne rfl (fun b33 => ?_) (fun b33 => ?_)
          · rw [if_pos b33] at hf
            refine ab_U.run 1 (S' := (101, [some (.ref 100), some (.int x0), some (.int x1), some (.int (-1))], [.int (-1)], hp X G q30.2)) rfl ?_
            obtain rfl := Option.some.inj hf
            exact ab_U.ret rfl rfl ⟨rfl, rfl⟩
          · rw [if_neg b33] at hf
            refine ab_U.run 3 (S' := (78, [some (.ref 100), some (.int x0), some (.int x1), some (.int (-1))], [.int 9, .int 0, .int x1], hp X G q30.2)) rfl ?_
            obtain ⟨q34, h35, hf⟩ := ab_bnd hf
            refine ab_U.fn rfl rfl (t_X8_isIn (X := X) hG h35) (by omega) ?_
            show ab_U _ _ _ (81, [some (.ref 100), some (.int x0), some (.int x1), some (.int (-1))], [.int q34.1], hp X G q34.2) _
            refine ab_U.if_eq rfl (fun b36 => ?_) (fun b36 => ?_)
            · rw [if_pos b36] at hf
              refine ab_U.run 1 (S' := (101, [some (.ref 100), some (.int x0), some (.int x1), some (.int (-1))], [.int (-1)], hp X G q34.2)) rfl ?_
              obtain rfl := Option.some.inj hf
              exact ab_U.ret rfl rfl ⟨rfl, rfl⟩
            · rw [if_neg b36] at hf
              refine ab_U.run 7 (S' := (97, [some (.ref 100), some (.int x0), some (.int x1), some (.int (q34.2.1 101 7))], [.int x1, .ref 101], hp X G q34.2)) rfl ?_
              obtain ⟨m37, e38, hf⟩ := ab_bnd hf
              have e38 := Option.some.inj e38
              refine ab_U.pfI (ci := 7) (k9 := 7) rfl ⟨by decide, rfl⟩ ⟨rfl, rfl, by decide, rfl⟩ rfl ?_
              show ab_U _ _ _ (100, [some (.ref 100), some (.int x0), some (.int x1), some (.int (q34.2.1 101 7))], [], hp X G (fm_sI q34.2 101 7 x1)) _
              rw [e38]
              refine ab_U.run 1 (S' := (101, [some (.ref 100), some (.int x0), some (.int x1), some (.int (q34.2.1 101 7))], [.int (q34.2.1 101 7)], hp X G m37)) rfl ?_
              obtain rfl := Option.some.inj hf
              exact ab_U.ret rfl rfl ⟨rfl, rfl⟩
        · rw [if_neg b32] at hf
          refine ab_U.run 7 (S' := (63, [some (.ref 100), some (.int x0), some (.int x1), some (.int (q30.2.1 101 8))], [.int x1, .ref 101], hp X G q30.2)) rfl ?_
          obtain ⟨m39, e40, hf⟩ := ab_bnd hf
          have e40 := Option.some.inj e40
          refine ab_U.pfI (ci := 7) (k9 := 8) rfl ⟨by decide, rfl⟩ ⟨rfl, rfl, by decide, rfl⟩ rfl ?_
          show ab_U _ _ _ (66, [some (.ref 100), some (.int x0), some (.int x1), some (.int (q30.2.1 101 8))], [], hp X G (fm_sI q30.2 101 8 x1)) _
          rw [e40]
          refine ab_U.run 2 (S' := (101, [some (.ref 100), some (.int x0), some (.int x1), some (.int (q30.2.1 101 8))], [.int (q30.2.1 101 8)], hp X G m39)) rfl ?_
          obtain rfl := Option.some.inj hf
          exact ab_U.ret rfl rfl ⟨rfl, rfl⟩
    · rw [if_neg b22] at hf
      refine ab_U.run 7 (S' := (29, [some (.ref 100), some (.int x0), some (.int x1), some (.int (q20.2.1 101 9))], [.int x1, .ref 101], hp X G q20.2)) rfl ?_
      obtain ⟨m41, e42, hf⟩ := ab_bnd hf
      have e42 := Option.some.inj e42
      refine ab_U.pfI (ci := 7) (k9 := 9) rfl ⟨by decide, rfl⟩ ⟨rfl, rfl, by decide, rfl⟩ rfl ?_
      show ab_U _ _ _ (32, [some (.ref 100), some (.int x0), some (.int x1), some (.int (q20.2.1 101 9))], [], hp X G (fm_sI q20.2 101 9 x1)) _
      rw [e42]
      refine ab_U.run 2 (S' := (101, [some (.ref 100), some (.int x0), some (.int x1), some (.int (q20.2.1 101 9))], [.int (q20.2.1 101 9)], hp X G m41)) rfl ?_
      obtain rfl := Option.some.inj hf
      exact ab_U.ret rfl rfl ⟨rfl, rfl⟩
set_option maxRecDepth 20000 in
def f_X8_ask (F : Nat)  (x0 : Int32) (x1 : Int32) (μ : fm_M) : Option (Int32 × fm_M) := (Option.bind (f_X8_isIn F x0 0 5 μ) (fun q1 => (if q1.1 = 0 then some ((-1), q1.2) else (Option.bind (f_X8_isIn F x1 1 9 q1.2) (fun q4 => (if ¬ q4.1 = 0 then (Option.bind (f_X8_exchange F 107 x0 x1 q4.2) (fun q7 => some (q7.1, q7.2))) else some ((-1), q4.2)))))))
set_option maxRecDepth 20000 in
theorem t_X8_ask {X : Nat × (Nat → Int32)} {G : Nat → Nat → Option Nat} (hG : fm_Gok G) {F : Nat}   {x0 : Int32} {x1 : Int32} {μ : fm_M} {r : Int32 × fm_M} (hf : f_X8_ask F x0 x1 μ = some r) : ab_F 2 90 [.ref 100, .int x0, .int x1] (hp X G μ) (some (.int r.1)) (hp X G r.2) := by
  unfold f_X8_ask at hf
  refine ab_T.of (d := 1) rfl (Nat.le_of_ble_eq_true rfl) ?_
  show ab_U _ _ kX8_ask (0, [some (.ref 100), some (.int x0), some (.int x1)], [], hp X G μ) _
  refine ab_U.run 3 (S' := (3, [some (.ref 100), some (.int x0), some (.int x1)], [.int 5, .int 0, .int x0], hp X G μ)) rfl ?_
  obtain ⟨q1, h2, hf⟩ := ab_bnd hf
  refine ab_U.fn rfl rfl (t_X8_isIn (X := X) hG h2) (by omega) ?_
  show ab_U _ _ _ (6, [some (.ref 100), some (.int x0), some (.int x1)], [.int q1.1], hp X G q1.2) _
  refine ab_U.if_eq rfl (fun b3 => ?_) (fun b3 => ?_)
  · rw [if_pos b3] at hf
    refine ab_U.run 1 (S' := (20, [some (.ref 100), some (.int x0), some (.int x1)], [.int (-1)], hp X G q1.2)) rfl ?_
    obtain rfl := Option.some.inj hf
    exact ab_U.ret rfl rfl ⟨rfl, rfl⟩
  · rw [if_neg b3] at hf
    refine ab_U.run 3 (S' := (13, [some (.ref 100), some (.int x0), some (.int x1)], [.int 9, .int 1, .int x1], hp X G q1.2)) rfl ?_
    obtain ⟨q4, h5, hf⟩ := ab_bnd hf
    refine ab_U.fn rfl rfl (t_X8_isIn (X := X) hG h5) (by omega) ?_
    show ab_U _ _ _ (16, [some (.ref 100), some (.int x0), some (.int x1)], [.int q4.1], hp X G q4.2) _
    refine ab_U.if_ne rfl (fun b6 => ?_) (fun b6 => ?_)
    · rw [if_pos b6] at hf
      refine ab_U.run 5 (S' := (30, [some (.ref 100), some (.int x0), some (.int x1)], [.int x1, .int x0, .ref 107], hp X G q4.2)) rfl ?_
      obtain ⟨q7, h8, hf⟩ := ab_bnd hf
      refine ab_U.fn rfl rfl (t_X8_exchange (X := X) hG h8) (by omega) ?_
      show ab_U _ _ _ (33, [some (.ref 100), some (.int x0), some (.int x1)], [.int q7.1], hp X G q7.2) _
      obtain rfl := Option.some.inj hf
      exact ab_U.ret rfl rfl ⟨rfl, rfl⟩
    · rw [if_neg b6] at hf
      refine ab_U.run 1 (S' := (20, [some (.ref 100), some (.int x0), some (.int x1)], [.int (-1)], hp X G q4.2)) rfl ?_
      obtain rfl := Option.some.inj hf
      exact ab_U.ret rfl rfl ⟨rfl, rfl⟩
set_option maxRecDepth 20000 in
def f_X8_owe (F : Nat)  (x0 : Int32) (x1 : Int32) (μ : fm_M) : Option (Int32 × fm_M) := (Option.bind (f_X7_hasDebt F 101 x0 μ) (fun q1 => (if q1.1 = 0 then some ((-1), q1.2) else (Option.bind (f_X8_isIn F x1 0 99 q1.2) (fun q4 => (if ¬ q4.1 = 0 then (Option.bind (f_X8_exchange F 110 x0 x1 q4.2) (fun q7 => some (q7.1, q7.2))) else some ((-1), q4.2)))))))
set_option maxRecDepth 20000 in
theorem t_X8_owe {X : Nat × (Nat → Int32)} {G : Nat → Nat → Option Nat} (hG : fm_Gok G) {F : Nat}   {x0 : Int32} {x1 : Int32} {μ : fm_M} {r : Int32 × fm_M} (hf : f_X8_owe F x0 x1 μ = some r) : ab_F 2 91 [.ref 100, .int x0, .int x1] (hp X G μ) (some (.int r.1)) (hp X G r.2) := by
  unfold f_X8_owe at hf
  refine ab_T.of (d := 1) rfl (Nat.le_of_ble_eq_true rfl) ?_
  show ab_U _ _ kX8_owe (0, [some (.ref 100), some (.int x0), some (.int x1)], [], hp X G μ) _
  refine ab_U.run 3 (S' := (5, [some (.ref 100), some (.int x0), some (.int x1)], [.int x0, .ref 101], hp X G μ)) rfl ?_
  obtain ⟨q1, h2, hf⟩ := ab_bnd hf
  refine ab_U.fn rfl rfl (t_X7_hasDebt (X := X) hG (by decide) h2) (by omega) ?_
  show ab_U _ _ _ (8, [some (.ref 100), some (.int x0), some (.int x1)], [.int q1.1], hp X G q1.2) _
  refine ab_U.if_eq rfl (fun b3 => ?_) (fun b3 => ?_)
  · rw [if_pos b3] at hf
    refine ab_U.run 1 (S' := (22, [some (.ref 100), some (.int x0), some (.int x1)], [.int (-1)], hp X G q1.2)) rfl ?_
    obtain rfl := Option.some.inj hf
    exact ab_U.ret rfl rfl ⟨rfl, rfl⟩
  · rw [if_neg b3] at hf
    refine ab_U.run 3 (S' := (15, [some (.ref 100), some (.int x0), some (.int x1)], [.int 99, .int 0, .int x1], hp X G q1.2)) rfl ?_
    obtain ⟨q4, h5, hf⟩ := ab_bnd hf
    refine ab_U.fn rfl rfl (t_X8_isIn (X := X) hG h5) (by omega) ?_
    show ab_U _ _ _ (18, [some (.ref 100), some (.int x0), some (.int x1)], [.int q4.1], hp X G q4.2) _
    refine ab_U.if_ne rfl (fun b6 => ?_) (fun b6 => ?_)
    · rw [if_pos b6] at hf
      refine ab_U.run 5 (S' := (32, [some (.ref 100), some (.int x0), some (.int x1)], [.int x1, .int x0, .ref 110], hp X G q4.2)) rfl ?_
      obtain ⟨q7, h8, hf⟩ := ab_bnd hf
      refine ab_U.fn rfl rfl (t_X8_exchange (X := X) hG h8) (by omega) ?_
      show ab_U _ _ _ (35, [some (.ref 100), some (.int x0), some (.int x1)], [.int q7.1], hp X G q7.2) _
      obtain rfl := Option.some.inj hf
      exact ab_U.ret rfl rfl ⟨rfl, rfl⟩
    · rw [if_neg b6] at hf
      refine ab_U.run 1 (S' := (22, [some (.ref 100), some (.int x0), some (.int x1)], [.int (-1)], hp X G q4.2)) rfl ?_
      obtain rfl := Option.some.inj hf
      exact ab_U.ret rfl rfl ⟨rfl, rfl⟩
set_option maxRecDepth 20000 in
def f_X8_halve (F : Nat)  (x0 : Int32) (μ : fm_M) : Option (Int32 × fm_M) := (Option.bind (f_X7_hasStone F 101 x0 μ) (fun q1 => (if ¬ q1.1 = 0 then (if ab_in x0 5 = true then (Option.bind (f_X8_isWarm F (q1.2.2.1 105 x0.toNatClampNeg) q1.2) (fun q5 => (if ¬ q5.1 = 0 then (if (q5.2.1 101 3) < 5 then (if ab_in x0 5 = true then (Option.bind (f_J9_max_7cf53 F 0 (((q5.2.2.1 105 x0.toNatClampNeg) / 2) - 1) q5.2) (fun q10 => (if ab_in x0 5 = true then (Option.bind (some (fm_sA q10.2 105 (upd (q10.2.2.1 105) x0.toNatClampNeg q10.1))) (fun m13 => (if ab_in x0 5 = true then (if ab_in x0 5 = true then (if ab_in x0 5 = true then (Option.bind (f_X7_addStone F 101 (m13.2.1 104 x0.toNatClampNeg) (m13.2.1 105 x0.toNatClampNeg) (m13.2.1 106 x0.toNatClampNeg) m13) (fun q18 => some ((q18.2.1 101 3), q18.2))) else none) else none) else none))) else none))) else none) else some ((-3), q5.2)) else some ((-2), q5.2)))) else none) else some ((-1), q1.2))))
set_option maxRecDepth 20000 in
theorem t_X8_halve {X : Nat × (Nat → Int32)} {G : Nat → Nat → Option Nat} (hG : fm_Gok G) {F : Nat}   {x0 : Int32} {μ : fm_M} {r : Int32 × fm_M} (hf : f_X8_halve F x0 μ = some r) : ab_F 2 92 [.ref 100, .int x0] (hp X G μ) (some (.int r.1)) (hp X G r.2) := by
  unfold f_X8_halve at hf
  refine ab_T.of (d := 1) rfl (Nat.le_of_ble_eq_true rfl) ?_
  show ab_U _ _ kX8_halve (0, [some (.ref 100), some (.int x0)], [], hp X G μ) _
  refine ab_U.run 3 (S' := (5, [some (.ref 100), some (.int x0)], [.int x0, .ref 101], hp X G μ)) rfl ?_
  obtain ⟨q1, h2, hf⟩ := ab_bnd hf
  refine ab_U.fn rfl rfl (t_X7_hasStone (X := X) hG (by decide) h2) (by omega) ?_
  show ab_U _ _ _ (8, [some (.ref 100), some (.int x0)], [.int q1.1], hp X G q1.2) _
  refine ab_U.if_ne rfl (fun b3 => ?_) (fun b3 => ?_)
  · rw [if_pos b3] at hf
    refine ab_U.run 4 (S' := (21, [some (.ref 100), some (.int x0)], [.int x0, .ref 105], hp X G q1.2)) rfl ?_
    obtain ⟨c4, hf⟩ := ab_ifs hf
    refine ab_U.iald (n := 5) rfl ⟨by decide, rfl⟩ c4 ?_
    show ab_U _ _ _ (22, [some (.ref 100), some (.int x0)], [.int (q1.2.2.1 105 x0.toNatClampNeg)], hp X G q1.2) _
    obtain ⟨q5, h6, hf⟩ := ab_bnd hf
    refine ab_U.fn rfl rfl (t_X8_isWarm (X := X) hG h6) (by omega) ?_
    show ab_U _ _ _ (25, [some (.ref 100), some (.int x0)], [.int q5.1], hp X G q5.2) _
    refine ab_U.if_ne rfl (fun b7 => ?_) (fun b7 => ?_)
    · rw [if_pos b7] at hf
      refine ab_U.run 4 (S' := (39, [some (.ref 100), some (.int x0)], [.int 5, .int (q5.2.1 101 3)], hp X G q5.2)) rfl ?_
      refine ab_U.ic_lt rfl (fun b8 => ?_) (fun b8 => ?_)
      · rw [if_pos b8] at hf
        refine ab_U.run 9 (S' := (62, [some (.ref 100), some (.int x0)], [.int x0, .ref 105, .int 0, .int x0, .ref 105], hp X G q5.2)) rfl ?_
        obtain ⟨c9, hf⟩ := ab_ifs hf
        refine ab_U.iald (n := 5) rfl ⟨by decide, rfl⟩ c9 ?_
        show ab_U _ _ _ (63, [some (.ref 100), some (.int x0)], [.int (q5.2.2.1 105 x0.toNatClampNeg), .int 0, .int x0, .ref 105], hp X G q5.2) _
        refine ab_U.run 4 (S' := (67, [some (.ref 100), some (.int x0)], [.int (((q5.2.2.1 105 x0.toNatClampNeg) / 2) - 1), .int 0, .int x0, .ref 105], hp X G q5.2)) rfl ?_
        obtain ⟨q10, h11, hf⟩ := ab_bnd hf
        refine ab_U.fn rfl rfl (t_J9_max_7cf53 (X := X) hG h11) (by omega) ?_
        show ab_U _ _ _ (70, [some (.ref 100), some (.int x0)], [.int q10.1, .int x0, .ref 105], hp X G q10.2) _
        obtain ⟨c12, hf⟩ := ab_ifs hf
        obtain ⟨m13, e14, hf⟩ := ab_bnd hf
        have e14 := Option.some.inj e14
        refine ab_U.iast (n := 5) rfl ⟨by decide, rfl⟩ c12 ?_
        show ab_U _ _ _ (71, [some (.ref 100), some (.int x0)], [], hp X G (fm_sA q10.2 105 (upd (q10.2.2.1 105) x0.toNatClampNeg q10.1))) _
        rw [e14]
        refine ab_U.run 6 (S' := (83, [some (.ref 100), some (.int x0)], [.int x0, .ref 104, .ref 101], hp X G m13)) rfl ?_
        obtain ⟨c15, hf⟩ := ab_ifs hf
        refine ab_U.iald (n := 5) rfl ⟨by decide, rfl⟩ c15 ?_
        show ab_U _ _ _ (84, [some (.ref 100), some (.int x0)], [.int (m13.2.1 104 x0.toNatClampNeg), .ref 101], hp X G m13) _
        refine ab_U.run 4 (S' := (92, [some (.ref 100), some (.int x0)], [.int x0, .ref 105, .int (m13.2.1 104 x0.toNatClampNeg), .ref 101], hp X G m13)) rfl ?_
        obtain ⟨c16, hf⟩ := ab_ifs hf
        refine ab_U.iald (n := 5) rfl ⟨by decide, rfl⟩ c16 ?_
        show ab_U _ _ _ (93, [some (.ref 100), some (.int x0)], [.int (m13.2.1 105 x0.toNatClampNeg), .int (m13.2.1 104 x0.toNatClampNeg), .ref 101], hp X G m13) _
        refine ab_U.run 4 (S' := (101, [some (.ref 100), some (.int x0)], [.int x0, .ref 106, .int (m13.2.1 105 x0.toNatClampNeg), .int (m13.2.1 104 x0.toNatClampNeg), .ref 101], hp X G m13)) rfl ?_
        obtain ⟨c17, hf⟩ := ab_ifs hf
        refine ab_U.iald (n := 5) rfl ⟨by decide, rfl⟩ c17 ?_
        show ab_U _ _ _ (102, [some (.ref 100), some (.int x0)], [.int (m13.2.1 106 x0.toNatClampNeg), .int (m13.2.1 105 x0.toNatClampNeg), .int (m13.2.1 104 x0.toNatClampNeg), .ref 101], hp X G m13) _
        obtain ⟨q18, h19, hf⟩ := ab_bnd hf
        refine ab_U.fn rfl rfl (t_X7_addStone (X := X) hG (by decide) h19) (by omega) ?_
        show ab_U _ _ _ (105, [some (.ref 100), some (.int x0)], [], hp X G q18.2) _
        refine ab_U.run 3 (S' := (112, [some (.ref 100), some (.int x0)], [.int (q18.2.1 101 3)], hp X G q18.2)) rfl ?_
        obtain rfl := Option.some.inj hf
        exact ab_U.ret rfl rfl ⟨rfl, rfl⟩
      · rw [if_neg b8] at hf
        refine ab_U.run 1 (S' := (44, [some (.ref 100), some (.int x0)], [.int (-3)], hp X G q5.2)) rfl ?_
        obtain rfl := Option.some.inj hf
        exact ab_U.ret rfl rfl ⟨rfl, rfl⟩
    · rw [if_neg b7] at hf
      refine ab_U.run 1 (S' := (30, [some (.ref 100), some (.int x0)], [.int (-2)], hp X G q5.2)) rfl ?_
      obtain rfl := Option.some.inj hf
      exact ab_U.ret rfl rfl ⟨rfl, rfl⟩
  · rw [if_neg b3] at hf
    refine ab_U.run 1 (S' := (12, [some (.ref 100), some (.int x0)], [.int (-1)], hp X G q1.2)) rfl ?_
    obtain rfl := Option.some.inj hf
    exact ab_U.ret rfl rfl ⟨rfl, rfl⟩
set_option maxRecDepth 20000 in
def f_X8_go (F : Nat)  (x0 : Int32) (μ : fm_M) : Option (Int32 × fm_M) := (Option.bind (f_X8_isIn F x0 0 60 μ) (fun q1 => (if ¬ q1.1 = 0 then (if ((q1.2.1 101 15) + x0) < 1000 then (Option.bind (f_X7_letPass F 101 x0 q1.2) (fun q5 => (Option.bind (f_X7_countWarm F 101 q5.2) (fun q7 => some (q7.1, q7.2))))) else some ((-3), q1.2)) else some ((-1), q1.2))))
set_option maxRecDepth 20000 in
theorem t_X8_go {X : Nat × (Nat → Int32)} {G : Nat → Nat → Option Nat} (hG : fm_Gok G) {F : Nat}   {x0 : Int32} {μ : fm_M} {r : Int32 × fm_M} (hf : f_X8_go F x0 μ = some r) : ab_F 5 93 [.ref 100, .int x0] (hp X G μ) (some (.int r.1)) (hp X G r.2) := by
  unfold f_X8_go at hf
  refine ab_T.of (d := 4) rfl (Nat.le_of_ble_eq_true rfl) ?_
  show ab_U _ _ kX8_go (0, [some (.ref 100), some (.int x0)], [], hp X G μ) _
  refine ab_U.run 3 (S' := (4, [some (.ref 100), some (.int x0)], [.int 60, .int 0, .int x0], hp X G μ)) rfl ?_
  obtain ⟨q1, h2, hf⟩ := ab_bnd hf
  refine ab_U.fn rfl rfl (t_X8_isIn (X := X) hG h2) (by omega) ?_
  show ab_U _ _ _ (7, [some (.ref 100), some (.int x0)], [.int q1.1], hp X G q1.2) _
  refine ab_U.if_ne rfl (fun b3 => ?_) (fun b3 => ?_)
  · rw [if_pos b3] at hf
    refine ab_U.run 6 (S' := (24, [some (.ref 100), some (.int x0)], [.int 1000, .int ((q1.2.1 101 15) + x0)], hp X G q1.2)) rfl ?_
    refine ab_U.ic_lt rfl (fun b4 => ?_) (fun b4 => ?_)
    · rw [if_pos b4] at hf
      refine ab_U.run 3 (S' := (35, [some (.ref 100), some (.int x0)], [.int x0, .ref 101], hp X G q1.2)) rfl ?_
      obtain ⟨q5, h6, hf⟩ := ab_bnd hf
      refine ab_U.fn rfl rfl (t_X7_letPass (X := X) hG (by decide) h6) (by omega) ?_
      show ab_U _ _ _ (38, [some (.ref 100), some (.int x0)], [], hp X G q5.2) _
      refine ab_U.run 2 (S' := (42, [some (.ref 100), some (.int x0)], [.ref 101], hp X G q5.2)) rfl ?_
      obtain ⟨q7, h8, hf⟩ := ab_bnd hf
      refine ab_U.fn rfl rfl (t_X7_countWarm (X := X) hG (by decide) h8) (by omega) ?_
      show ab_U _ _ _ (45, [some (.ref 100), some (.int x0)], [.int q7.1], hp X G q7.2) _
      obtain rfl := Option.some.inj hf
      exact ab_U.ret rfl rfl ⟨rfl, rfl⟩
    · rw [if_neg b4] at hf
      refine ab_U.run 1 (S' := (29, [some (.ref 100), some (.int x0)], [.int (-3)], hp X G q1.2)) rfl ?_
      obtain rfl := Option.some.inj hf
      exact ab_U.ret rfl rfl ⟨rfl, rfl⟩
  · rw [if_neg b3] at hf
    refine ab_U.run 1 (S' := (11, [some (.ref 100), some (.int x0)], [.int (-1)], hp X G q1.2)) rfl ?_
    obtain rfl := Option.some.inj hf
    exact ab_U.ret rfl rfl ⟨rfl, rfl⟩
set_option maxRecDepth 20000 in
def f_X8_pay (F : Nat)  (x0 : Int32) (x1 : Int32) (μ : fm_M) : Option (Int32 × fm_M) := (Option.bind (f_X7_refusalToPay F 101 x0 x1 μ) (fun q1 => (if q1.1 = 0 then (Option.bind (f_X7_handOver F 101 x0 x1 q1.2) (fun q4 => some (q4.1, q4.2))) else some (q1.1, q1.2))))
set_option maxRecDepth 20000 in
theorem t_X8_pay {X : Nat × (Nat → Int32)} {G : Nat → Nat → Option Nat} (hG : fm_Gok G) {F : Nat}   {x0 : Int32} {x1 : Int32} {μ : fm_M} {r : Int32 × fm_M} (hf : f_X8_pay F x0 x1 μ = some r) : ab_F 6 94 [.ref 100, .int x0, .int x1] (hp X G μ) (some (.int r.1)) (hp X G r.2) := by
  unfold f_X8_pay at hf
  refine ab_T.of (d := 5) rfl (Nat.le_of_ble_eq_true rfl) ?_
  show ab_U _ _ kX8_pay (0, [some (.ref 100), some (.int x0), some (.int x1), none], [], hp X G μ) _
  refine ab_U.run 4 (S' := (6, [some (.ref 100), some (.int x0), some (.int x1), none], [.int x1, .int x0, .ref 101], hp X G μ)) rfl ?_
  obtain ⟨q1, h2, hf⟩ := ab_bnd hf
  refine ab_U.fn rfl rfl (t_X7_refusalToPay (X := X) hG (by decide) h2) (by omega) ?_
  show ab_U _ _ _ (9, [some (.ref 100), some (.int x0), some (.int x1), none], [.int q1.1], hp X G q1.2) _
  refine ab_U.run 2 (S' := (11, [some (.ref 100), some (.int x0), some (.int x1), some (.int q1.1)], [.int q1.1], hp X G q1.2)) rfl ?_
  refine ab_U.if_eq rfl (fun b3 => ?_) (fun b3 => ?_)
  · rw [if_pos b3] at hf
    refine ab_U.run 4 (S' := (24, [some (.ref 100), some (.int x0), some (.int x1), some (.int q1.1)], [.int x1, .int x0, .ref 101], hp X G q1.2)) rfl ?_
    obtain ⟨q4, h5, hf⟩ := ab_bnd hf
    refine ab_U.fn rfl rfl (t_X7_handOver (X := X) hG (by decide) h5) (by omega) ?_
    show ab_U _ _ _ (27, [some (.ref 100), some (.int x0), some (.int x1), some (.int q1.1)], [.int q4.1], hp X G q4.2) _
    obtain rfl := Option.some.inj hf
    exact ab_U.ret rfl rfl ⟨rfl, rfl⟩
  · rw [if_neg b3] at hf
    refine ab_U.run 2 (S' := (27, [some (.ref 100), some (.int x0), some (.int x1), some (.int q1.1)], [.int q1.1], hp X G q1.2)) rfl ?_
    obtain rfl := Option.some.inj hf
    exact ab_U.ret rfl rfl ⟨rfl, rfl⟩
set_option maxRecDepth 20000 in
def f_X8_heat (F : Nat)  (x0 : Int32) (μ : fm_M) : Option (Int32 × fm_M) := (Option.bind (f_X7_hasStone F 101 x0 μ) (fun q1 => (if ¬ q1.1 = 0 then (Option.bind (f_X7_ovenDistance F 101 x0 q1.2) (fun q4 => (if (((q1.2.1 101 15) + (2 * q4.1)) + 1) < 1000 then (Option.bind (f_X7_bake F 101 x0 q4.2) (fun q7 => (if ab_in x0 5 = true then some ((q7.2.2.1 105 x0.toNatClampNeg), q7.2) else none))) else some ((-3), q4.2)))) else some ((-1), q1.2))))
set_option maxRecDepth 20000 in
theorem t_X8_heat {X : Nat × (Nat → Int32)} {G : Nat → Nat → Option Nat} (hG : fm_Gok G) {F : Nat}   {x0 : Int32} {μ : fm_M} {r : Int32 × fm_M} (hf : f_X8_heat F x0 μ = some r) : ab_F 6 95 [.ref 100, .int x0] (hp X G μ) (some (.int r.1)) (hp X G r.2) := by
  unfold f_X8_heat at hf
  refine ab_T.of (d := 5) rfl (Nat.le_of_ble_eq_true rfl) ?_
  show ab_U _ _ kX8_heat (0, [some (.ref 100), some (.int x0)], [], hp X G μ) _
  refine ab_U.run 3 (S' := (5, [some (.ref 100), some (.int x0)], [.int x0, .ref 101], hp X G μ)) rfl ?_
  obtain ⟨q1, h2, hf⟩ := ab_bnd hf
  refine ab_U.fn rfl rfl (t_X7_hasStone (X := X) hG (by decide) h2) (by omega) ?_
  show ab_U _ _ _ (8, [some (.ref 100), some (.int x0)], [.int q1.1], hp X G q1.2) _
  refine ab_U.if_ne rfl (fun b3 => ?_) (fun b3 => ?_)
  · rw [if_pos b3] at hf
    refine ab_U.run 7 (S' := (26, [some (.ref 100), some (.int x0)], [.int x0, .ref 101, .int 2, .int (q1.2.1 101 15)], hp X G q1.2)) rfl ?_
    obtain ⟨q4, h5, hf⟩ := ab_bnd hf
    refine ab_U.fn rfl rfl (t_X7_ovenDistance (X := X) hG (by decide) h5) (by omega) ?_
    show ab_U _ _ _ (29, [some (.ref 100), some (.int x0)], [.int q4.1, .int 2, .int (q1.2.1 101 15)], hp X G q4.2) _
    refine ab_U.run 5 (S' := (36, [some (.ref 100), some (.int x0)], [.int 1000, .int (((q1.2.1 101 15) + (2 * q4.1)) + 1)], hp X G q4.2)) rfl ?_
    refine ab_U.ic_lt rfl (fun b6 => ?_) (fun b6 => ?_)
    · rw [if_pos b6] at hf
      refine ab_U.run 3 (S' := (47, [some (.ref 100), some (.int x0)], [.int x0, .ref 101], hp X G q4.2)) rfl ?_
      obtain ⟨q7, h8, hf⟩ := ab_bnd hf
      refine ab_U.fn rfl rfl (t_X7_bake (X := X) hG (by decide) h8) (by omega) ?_
      show ab_U _ _ _ (50, [some (.ref 100), some (.int x0)], [], hp X G q7.2) _
      refine ab_U.run 4 (S' := (58, [some (.ref 100), some (.int x0)], [.int x0, .ref 105], hp X G q7.2)) rfl ?_
      obtain ⟨c9, hf⟩ := ab_ifs hf
      refine ab_U.iald (n := 5) rfl ⟨by decide, rfl⟩ c9 ?_
      show ab_U _ _ _ (59, [some (.ref 100), some (.int x0)], [.int (q7.2.2.1 105 x0.toNatClampNeg)], hp X G q7.2) _
      obtain rfl := Option.some.inj hf
      exact ab_U.ret rfl rfl ⟨rfl, rfl⟩
    · rw [if_neg b6] at hf
      refine ab_U.run 1 (S' := (41, [some (.ref 100), some (.int x0)], [.int (-3)], hp X G q4.2)) rfl ?_
      obtain rfl := Option.some.inj hf
      exact ab_U.ret rfl rfl ⟨rfl, rfl⟩
  · rw [if_neg b3] at hf
    refine ab_U.run 1 (S' := (12, [some (.ref 100), some (.int x0)], [.int (-1)], hp X G q1.2)) rfl ?_
    obtain rfl := Option.some.inj hf
    exact ab_U.ret rfl rfl ⟨rfl, rfl⟩
set_option maxRecDepth 20000 in
def f_X8_after (F : Nat)  (x0 : Int32) (x1 : Int32) (μ : fm_M) : Option (Int32 × fm_M) := (Option.bind (f_X7_hasStone F 101 x0 μ) (fun q1 => (if q1.1 = 0 then some ((-1), q1.2) else (Option.bind (f_X8_isIn F x1 0 60 q1.2) (fun q4 => (if ¬ q4.1 = 0 then (if ab_in x0 5 = true then (Option.bind (f_X7_rateOf F 101 x0 q4.2) (fun q8 => (Option.bind (f_X8_cooledFor F (q4.2.2.1 105 x0.toNatClampNeg) q8.1 x1 q8.2) (fun q10 => some (q10.1, q10.2))))) else none) else some ((-1), q4.2)))))))
set_option maxRecDepth 20000 in
theorem t_X8_after {X : Nat × (Nat → Int32)} {G : Nat → Nat → Option Nat} (hG : fm_Gok G) {F : Nat}   {x0 : Int32} {x1 : Int32} {μ : fm_M} {r : Int32 × fm_M} (hf : f_X8_after F x0 x1 μ = some r) : ab_F 4 96 [.ref 100, .int x0, .int x1] (hp X G μ) (some (.int r.1)) (hp X G r.2) := by
  unfold f_X8_after at hf
  refine ab_T.of (d := 3) rfl (Nat.le_of_ble_eq_true rfl) ?_
  show ab_U _ _ kX8_after (0, [some (.ref 100), some (.int x0), some (.int x1)], [], hp X G μ) _
  refine ab_U.run 3 (S' := (5, [some (.ref 100), some (.int x0), some (.int x1)], [.int x0, .ref 101], hp X G μ)) rfl ?_
  obtain ⟨q1, h2, hf⟩ := ab_bnd hf
  refine ab_U.fn rfl rfl (t_X7_hasStone (X := X) hG (by decide) h2) (by omega) ?_
  show ab_U _ _ _ (8, [some (.ref 100), some (.int x0), some (.int x1)], [.int q1.1], hp X G q1.2) _
  refine ab_U.if_eq rfl (fun b3 => ?_) (fun b3 => ?_)
  · rw [if_pos b3] at hf
    refine ab_U.run 1 (S' := (22, [some (.ref 100), some (.int x0), some (.int x1)], [.int (-1)], hp X G q1.2)) rfl ?_
    obtain rfl := Option.some.inj hf
    exact ab_U.ret rfl rfl ⟨rfl, rfl⟩
  · rw [if_neg b3] at hf
    refine ab_U.run 3 (S' := (15, [some (.ref 100), some (.int x0), some (.int x1)], [.int 60, .int 0, .int x1], hp X G q1.2)) rfl ?_
    obtain ⟨q4, h5, hf⟩ := ab_bnd hf
    refine ab_U.fn rfl rfl (t_X8_isIn (X := X) hG h5) (by omega) ?_
    show ab_U _ _ _ (18, [some (.ref 100), some (.int x0), some (.int x1)], [.int q4.1], hp X G q4.2) _
    refine ab_U.if_ne rfl (fun b6 => ?_) (fun b6 => ?_)
    · rw [if_pos b6] at hf
      refine ab_U.run 4 (S' := (31, [some (.ref 100), some (.int x0), some (.int x1)], [.int x0, .ref 105], hp X G q4.2)) rfl ?_
      obtain ⟨c7, hf⟩ := ab_ifs hf
      refine ab_U.iald (n := 5) rfl ⟨by decide, rfl⟩ c7 ?_
      show ab_U _ _ _ (32, [some (.ref 100), some (.int x0), some (.int x1)], [.int (q4.2.2.1 105 x0.toNatClampNeg)], hp X G q4.2) _
      refine ab_U.run 3 (S' := (37, [some (.ref 100), some (.int x0), some (.int x1)], [.int x0, .ref 101, .int (q4.2.2.1 105 x0.toNatClampNeg)], hp X G q4.2)) rfl ?_
      obtain ⟨q8, h9, hf⟩ := ab_bnd hf
      refine ab_U.fn rfl rfl (t_X7_rateOf (X := X) hG (by decide) h9) (by omega) ?_
      show ab_U _ _ _ (40, [some (.ref 100), some (.int x0), some (.int x1)], [.int q8.1, .int (q4.2.2.1 105 x0.toNatClampNeg)], hp X G q8.2) _
      refine ab_U.run 1 (S' := (41, [some (.ref 100), some (.int x0), some (.int x1)], [.int x1, .int q8.1, .int (q4.2.2.1 105 x0.toNatClampNeg)], hp X G q8.2)) rfl ?_
      obtain ⟨q10, h11, hf⟩ := ab_bnd hf
      refine ab_U.fn rfl rfl (t_X8_cooledFor (X := X) hG h11) (by omega) ?_
      show ab_U _ _ _ (44, [some (.ref 100), some (.int x0), some (.int x1)], [.int q10.1], hp X G q10.2) _
      obtain rfl := Option.some.inj hf
      exact ab_U.ret rfl rfl ⟨rfl, rfl⟩
    · rw [if_neg b6] at hf
      refine ab_U.run 1 (S' := (22, [some (.ref 100), some (.int x0), some (.int x1)], [.int (-1)], hp X G q4.2)) rfl ?_
      obtain rfl := Option.some.inj hf
      exact ab_U.ret rfl rfl ⟨rfl, rfl⟩
set_option maxRecDepth 20000 in
def b_X8_cold_28 (F : Nat)  (gg : Nat → Int32 → Int32 → Int32 → Int32 → fm_M → Option (Int32 × fm_M)) (l1 : Int32) (l2 : Int32) (l3 : Int32) (l4 : Int32) (μ : fm_M) : Option (Int32 × fm_M) := (if 99 < l4 then some (l3, μ) else (Option.bind (f_X8_isWarm F l2 μ) (fun q2 => (if q2.1 = 0 then some (l3, q2.2) else (Option.bind (f_X7_rateOf F 101 l1 q2.2) (fun q5 => (Option.bind (f_X8_cooled F l2 q5.1 q5.2) (fun q7 => gg 28 l1 q7.1 (l3 + 1) (l4 + 1) q7.2))))))))
def g_X8_cold (F : Nat)  : Nat → Nat → Int32 → Int32 → Int32 → Int32 → fm_M → Option (Int32 × fm_M)
  | 0, _, _, _, _, _, _ => none
  | n + 1, pc, l1, l2, l3, l4, μ => if pc = 28 then b_X8_cold_28 F  (g_X8_cold F  n) l1 l2 l3 l4 μ else none
set_option maxRecDepth 20000 in
theorem t_X8_cold_g {X : Nat × (Nat → Int32)} {G : Nat → Nat → Option Nat} (hG : fm_Gok G) {F : Nat}    : ∀ n : Nat, (∀ (l1 : Int32) (l2 : Int32) (l3 : Int32) (l4 : Int32) (μ : fm_M) (r : Int32 × fm_M), g_X8_cold F  n 28 l1 l2 l3 l4 μ = some r → ab_U 3 (some .int) kX8_cold (28, [some (.ref 100), some (.int l1), some (.int l2), some (.int l3), some (.int l4)], [], hp X G μ) (fun r9 h9 => r9 = some (.int r.1) ∧ h9 = hp X G r.2))
  | 0 => by
    intros
    rename_i h
    cases h
  | n + 1 => by
    have ih := t_X8_cold_g (X := X) hG (F := F)   n
    · intro l1 l2 l3 l4 μ r hf
      have hf : b_X8_cold_28 F  (g_X8_cold F  n) l1 l2 l3 l4 μ = some r := hf
      unfold b_X8_cold_28 at hf
      refine ab_U.run 2 (S' := (32, [some (.ref 100), some (.int l1), some (.int l2), some (.int l3), some (.int l4)], [.int 99, .int l4], hp X G μ)) rfl ?_
      refine ab_U.ic_gt rfl (fun b1 => ?_) (fun b1 => ?_)
      · rw [if_pos b1] at hf
        refine ab_U.run 1 (S' := (65, [some (.ref 100), some (.int l1), some (.int l2), some (.int l3), some (.int l4)], [.int l3], hp X G μ)) rfl ?_
        obtain rfl := Option.some.inj hf
        exact ab_U.ret rfl rfl ⟨rfl, rfl⟩
      · rw [if_neg b1] at hf
        refine ab_U.run 1 (S' := (36, [some (.ref 100), some (.int l1), some (.int l2), some (.int l3), some (.int l4)], [.int l2], hp X G μ)) rfl ?_
        obtain ⟨q2, h3, hf⟩ := ab_bnd hf
        refine ab_U.fn rfl rfl (t_X8_isWarm (X := X) hG h3) (by omega) ?_
        show ab_U _ _ _ (39, [some (.ref 100), some (.int l1), some (.int l2), some (.int l3), some (.int l4)], [.int q2.1], hp X G q2.2) _
        refine ab_U.if_eq rfl (fun b4 => ?_) (fun b4 => ?_)
        · rw [if_pos b4] at hf
          refine ab_U.run 1 (S' := (65, [some (.ref 100), some (.int l1), some (.int l2), some (.int l3), some (.int l4)], [.int l3], hp X G q2.2)) rfl ?_
          obtain rfl := Option.some.inj hf
          exact ab_U.ret rfl rfl ⟨rfl, rfl⟩
        · rw [if_neg b4] at hf
          refine ab_U.run 4 (S' := (48, [some (.ref 100), some (.int l1), some (.int l2), some (.int l3), some (.int l4)], [.int l1, .ref 101, .int l2], hp X G q2.2)) rfl ?_
          obtain ⟨q5, h6, hf⟩ := ab_bnd hf
          refine ab_U.fn rfl rfl (t_X7_rateOf (X := X) hG (by decide) h6) (by omega) ?_
          show ab_U _ _ _ (51, [some (.ref 100), some (.int l1), some (.int l2), some (.int l3), some (.int l4)], [.int q5.1, .int l2], hp X G q5.2) _
          obtain ⟨q7, h8, hf⟩ := ab_bnd hf
          refine ab_U.fn rfl rfl (t_X8_cooled (X := X) hG h8) (by omega) ?_
          show ab_U _ _ _ (54, [some (.ref 100), some (.int l1), some (.int l2), some (.int l3), some (.int l4)], [.int q7.1], hp X G q7.2) _
          refine ab_U.run 4 (S' := (28, [some (.ref 100), some (.int l1), some (.int q7.1), some (.int (l3 + 1)), some (.int (l4 + 1))], [], hp X G q7.2)) rfl ?_
          exact ab_U.weak (ih _ _ _ _ _ _ hf) (ab_leL.of ⟨rfl, ⟨rfl, ⟨rfl, ⟨rfl, ⟨rfl, trivial⟩⟩⟩⟩⟩)
set_option maxRecDepth 20000 in
def f_X8_cold (F : Nat)  (x0 : Int32) (μ : fm_M) : Option (Int32 × fm_M) := (Option.bind (f_X7_hasStone F 101 x0 μ) (fun q9 => (if ¬ q9.1 = 0 then (if ab_in x0 5 = true then g_X8_cold F  F 28 x0 (q9.2.2.1 105 x0.toNatClampNeg) 0 0 q9.2 else none) else some ((-1), q9.2))))
set_option maxRecDepth 20000 in
theorem t_X8_cold {X : Nat × (Nat → Int32)} {G : Nat → Nat → Option Nat} (hG : fm_Gok G) {F : Nat}   {x0 : Int32} {μ : fm_M} {r : Int32 × fm_M} (hf : f_X8_cold F x0 μ = some r) : ab_F 4 97 [.ref 100, .int x0] (hp X G μ) (some (.int r.1)) (hp X G r.2) := by
  unfold f_X8_cold at hf
  refine ab_T.of (d := 3) rfl (Nat.le_of_ble_eq_true rfl) ?_
  show ab_U _ _ kX8_cold (0, [some (.ref 100), some (.int x0), none, none, none], [], hp X G μ) _
  refine ab_U.run 3 (S' := (5, [some (.ref 100), some (.int x0), none, none, none], [.int x0, .ref 101], hp X G μ)) rfl ?_
  obtain ⟨q9, h10, hf⟩ := ab_bnd hf
  refine ab_U.fn rfl rfl (t_X7_hasStone (X := X) hG (by decide) h10) (by omega) ?_
  show ab_U _ _ _ (8, [some (.ref 100), some (.int x0), none, none, none], [.int q9.1], hp X G q9.2) _
  refine ab_U.if_ne rfl (fun b11 => ?_) (fun b11 => ?_)
  · rw [if_pos b11] at hf
    refine ab_U.run 4 (S' := (21, [some (.ref 100), some (.int x0), none, none, none], [.int x0, .ref 105], hp X G q9.2)) rfl ?_
    obtain ⟨c12, hf⟩ := ab_ifs hf
    refine ab_U.iald (n := 5) rfl ⟨by decide, rfl⟩ c12 ?_
    show ab_U _ _ _ (22, [some (.ref 100), some (.int x0), none, none, none], [.int (q9.2.2.1 105 x0.toNatClampNeg)], hp X G q9.2) _
    refine ab_U.run 5 (S' := (28, [some (.ref 100), some (.int x0), some (.int (q9.2.2.1 105 x0.toNatClampNeg)), some (.int 0), some (.int 0)], [], hp X G q9.2)) rfl ?_
    exact ab_U.weak ((t_X8_cold_g (X := X) hG   F) _ _ _ _ _ _ hf) (ab_leL.of ⟨rfl, ⟨rfl, ⟨rfl, ⟨rfl, ⟨rfl, trivial⟩⟩⟩⟩⟩)
  · rw [if_neg b11] at hf
    refine ab_U.run 1 (S' := (12, [some (.ref 100), some (.int x0), none, none, none], [.int (-1)], hp X G q9.2)) rfl ?_
    obtain rfl := Option.some.inj hf
    exact ab_U.ret rfl rfl ⟨rfl, rfl⟩
set_option maxRecDepth 20000 in
def f_X8_way (F : Nat)  (x0 : Int32) (x1 : Int32) (x2 : Int32) (μ : fm_M) : Option (Int32 × fm_M) := (Option.bind (f_X8_isIn F x2 10 13 μ) (fun q1 => (Option.bind (f_X7_hasStone F 101 x0 q1.2) (fun q3 => (if q3.1 = 0 then some ((-1), q3.2) else (Option.bind (f_X7_hasOne F 101 x1 q3.2) (fun q6 => (if q6.1 = 0 then some ((-1), q6.2) else (Option.bind (f_X8_isIn F x2 0 1 q6.2) (fun q9 => (if ¬ q9.1 = 0 then (if ab_in x0 5 = true then (if ¬ (q9.2.2.1 106 x0.toNatClampNeg) = x1 then (Option.bind (f_X1_find F x0 x1 q9.2) (fun q14 => (if ¬ x2 = 0 then (if ¬ x2 = 1 then (if (q14.2.1 129 2) ≤ (x2 - 10) then some ((-4), q14.2) else (if ab_in (x2 - 10) 4 = true then some ((q14.2.2.1 131 (x2 - 10).toNatClampNeg), q14.2) else none)) else some ((q14.2.1 129 4), q14.2)) else some ((q14.2.1 129 3), q14.2)))) else some ((-2), q9.2)) else none) else (if ¬ q1.1 = 0 then (if ab_in x0 5 = true then (if ¬ (q9.2.2.1 106 x0.toNatClampNeg) = x1 then (Option.bind (f_X1_find F x0 x1 q9.2) (fun q23 => (if ¬ x2 = 0 then (if ¬ x2 = 1 then (if (q23.2.1 129 2) ≤ (x2 - 10) then some ((-4), q23.2) else (if ab_in (x2 - 10) 4 = true then some ((q23.2.2.1 131 (x2 - 10).toNatClampNeg), q23.2) else none)) else some ((q23.2.1 129 4), q23.2)) else some ((q23.2.1 129 3), q23.2)))) else some ((-2), q9.2)) else none) else some ((-1), q9.2)))))))))))))
set_option maxRecDepth 20000 in
theorem t_X8_way {X : Nat × (Nat → Int32)} {G : Nat → Nat → Option Nat} (hG : fm_Gok G) {F : Nat}   {x0 : Int32} {x1 : Int32} {x2 : Int32} {μ : fm_M} {r : Int32 × fm_M} (hf : f_X8_way F x0 x1 x2 μ = some r) : ab_F 42 98 [.ref 100, .int x0, .int x1, .int x2] (hp X G μ) (some (.int r.1)) (hp X G r.2) := by
  unfold f_X8_way at hf
  refine ab_T.of (d := 41) rfl (Nat.le_of_ble_eq_true rfl) ?_
  show ab_U _ _ kX8_way (0, [some (.ref 100), some (.int x0), some (.int x1), some (.int x2), none], [], hp X G μ) _
  refine ab_U.run 3 (S' := (5, [some (.ref 100), some (.int x0), some (.int x1), some (.int x2), none], [.int 13, .int 10, .int x2], hp X G μ)) rfl ?_
  obtain ⟨q1, h2, hf⟩ := ab_bnd hf
  refine ab_U.fn rfl rfl (t_X8_isIn (X := X) hG h2) (by omega) ?_
  show ab_U _ _ _ (8, [some (.ref 100), some (.int x0), some (.int x1), some (.int x2), none], [.int q1.1], hp X G q1.2) _
  refine ab_U.run 4 (S' := (15, [some (.ref 100), some (.int x0), some (.int x1), some (.int x2), some (.int q1.1)], [.int x0, .ref 101], hp X G q1.2)) rfl ?_
  obtain ⟨q3, h4, hf⟩ := ab_bnd hf
  refine ab_U.fn rfl rfl (t_X7_hasStone (X := X) hG (by decide) h4) (by omega) ?_
  show ab_U _ _ _ (18, [some (.ref 100), some (.int x0), some (.int x1), some (.int x2), some (.int q1.1)], [.int q3.1], hp X G q3.2) _
  refine ab_U.if_eq rfl (fun b5 => ?_) (fun b5 => ?_)
  · rw [if_pos b5] at hf
    refine ab_U.run 1 (S' := (47, [some (.ref 100), some (.int x0), some (.int x1), some (.int x2), some (.int q1.1)], [.int (-1)], hp X G q3.2)) rfl ?_
    obtain rfl := Option.some.inj hf
    exact ab_U.ret rfl rfl ⟨rfl, rfl⟩
  · rw [if_neg b5] at hf
    refine ab_U.run 3 (S' := (26, [some (.ref 100), some (.int x0), some (.int x1), some (.int x2), some (.int q1.1)], [.int x1, .ref 101], hp X G q3.2)) rfl ?_
    obtain ⟨q6, h7, hf⟩ := ab_bnd hf
    refine ab_U.fn rfl rfl (t_X7_hasOne (X := X) hG (by decide) h7) (by omega) ?_
    show ab_U _ _ _ (29, [some (.ref 100), some (.int x0), some (.int x1), some (.int x2), some (.int q1.1)], [.int q6.1], hp X G q6.2) _
    refine ab_U.if_eq rfl (fun b8 => ?_) (fun b8 => ?_)
    · rw [if_pos b8] at hf
      refine ab_U.run 1 (S' := (47, [some (.ref 100), some (.int x0), some (.int x1), some (.int x2), some (.int q1.1)], [.int (-1)], hp X G q6.2)) rfl ?_
      obtain rfl := Option.some.inj hf
      exact ab_U.ret rfl rfl ⟨rfl, rfl⟩
    · rw [if_neg b8] at hf
      refine ab_U.run 3 (S' := (35, [some (.ref 100), some (.int x0), some (.int x1), some (.int x2), some (.int q1.1)], [.int 1, .int 0, .int x2], hp X G q6.2)) rfl ?_
      obtain ⟨q9, h10, hf⟩ := ab_bnd hf
      refine ab_U.fn rfl rfl (t_X8_isIn (X := X) hG h10) (by omega) ?_
      show ab_U _ _ _ (38, [some (.ref 100), some (.int x0), some (.int x1), some (.int x2), some (.int q1.1)], [.int q9.1], hp X G q9.2) _
      refine ab_U.if_ne rfl (fun b11 => ?_) (fun b11 => ?_)
      · rw [if_pos b11] at hf
        refine ab_U.run 4 (S' := (56, [some (.ref 100), some (.int x0), some (.int x1), some (.int x2), some (.int q1.1)], [.int x0, .ref 106], hp X G q9.2)) rfl ?_
        obtain ⟨c12, hf⟩ := ab_ifs hf
        refine ab_U.iald (n := 5) rfl ⟨by decide, rfl⟩ c12 ?_
        show ab_U _ _ _ (57, [some (.ref 100), some (.int x0), some (.int x1), some (.int x2), some (.int q1.1)], [.int (q9.2.2.1 106 x0.toNatClampNeg)], hp X G q9.2) _
        refine ab_U.run 1 (S' := (58, [some (.ref 100), some (.int x0), some (.int x1), some (.int x2), some (.int q1.1)], [.int x1, .int (q9.2.2.1 106 x0.toNatClampNeg)], hp X G q9.2)) rfl ?_
        refine ab_U.ic_ne rfl (fun b13 => ?_) (fun b13 => ?_)
        · rw [if_pos b13] at hf
          refine ab_U.run 6 (S' := (74, [some (.ref 100), some (.int x0), some (.int x1), some (.int x2), some (.int q1.1)], [.int x1, .int x0, .ref 101, .ref 129], hp X G q9.2)) rfl ?_
          obtain ⟨q14, h15, hf⟩ := ab_bnd hf
          refine ab_U.fn rfl rfl (t_X1_find (X := X) hG h15) (by omega) ?_
          show ab_U _ _ _ (77, [some (.ref 100), some (.int x0), some (.int x1), some (.int x2), some (.int q1.1)], [], hp X G q14.2) _
          refine ab_U.run 1 (S' := (78, [some (.ref 100), some (.int x0), some (.int x1), some (.int x2), some (.int q1.1)], [.int x2], hp X G q14.2)) rfl ?_
          refine ab_U.if_ne rfl (fun b16 => ?_) (fun b16 => ?_)
          · rw [if_pos b16] at hf
            refine ab_U.run 2 (S' := (91, [some (.ref 100), some (.int x0), some (.int x1), some (.int x2), some (.int q1.1)], [.int 1, .int x2], hp X G q14.2)) rfl ?_
            refine ab_U.ic_ne rfl (fun b17 => ?_) (fun b17 => ?_)
            · rw [if_pos b17] at hf
              refine ab_U.run 6 (S' := (113, [some (.ref 100), some (.int x0), some (.int x1), some (.int x2), some (.int q1.1)], [.int (q14.2.1 129 2), .int (x2 - 10)], hp X G q14.2)) rfl ?_
              refine ab_U.ic_ge rfl (fun b18 => ?_) (fun b18 => ?_)
              · rw [if_pos b18] at hf
                refine ab_U.run 1 (S' := (133, [some (.ref 100), some (.int x0), some (.int x1), some (.int x2), some (.int q1.1)], [.int (-4)], hp X G q14.2)) rfl ?_
                obtain rfl := Option.some.inj hf
                exact ab_U.ret rfl rfl ⟨rfl, rfl⟩
              · rw [if_neg b18] at hf
                refine ab_U.run 6 (S' := (127, [some (.ref 100), some (.int x0), some (.int x1), some (.int x2), some (.int q1.1)], [.int (x2 - 10), .ref 131], hp X G q14.2)) rfl ?_
                obtain ⟨c19, hf⟩ := ab_ifs hf
                refine ab_U.iald (n := 4) rfl ⟨by decide, rfl⟩ c19 ?_
                show ab_U _ _ _ (128, [some (.ref 100), some (.int x0), some (.int x1), some (.int x2), some (.int q1.1)], [.int (q14.2.2.1 131 (x2 - 10).toNatClampNeg)], hp X G q14.2) _
                refine ab_U.run 1 (S' := (133, [some (.ref 100), some (.int x0), some (.int x1), some (.int x2), some (.int q1.1)], [.int (q14.2.2.1 131 (x2 - 10).toNatClampNeg)], hp X G q14.2)) rfl ?_
                obtain rfl := Option.some.inj hf
                exact ab_U.ret rfl rfl ⟨rfl, rfl⟩
            · rw [if_neg b17] at hf
              refine ab_U.run 3 (S' := (101, [some (.ref 100), some (.int x0), some (.int x1), some (.int x2), some (.int q1.1)], [.int (q14.2.1 129 4)], hp X G q14.2)) rfl ?_
              obtain rfl := Option.some.inj hf
              exact ab_U.ret rfl rfl ⟨rfl, rfl⟩
          · rw [if_neg b16] at hf
            refine ab_U.run 3 (S' := (88, [some (.ref 100), some (.int x0), some (.int x1), some (.int x2), some (.int q1.1)], [.int (q14.2.1 129 3)], hp X G q14.2)) rfl ?_
            obtain rfl := Option.some.inj hf
            exact ab_U.ret rfl rfl ⟨rfl, rfl⟩
        · rw [if_neg b13] at hf
          refine ab_U.run 1 (S' := (63, [some (.ref 100), some (.int x0), some (.int x1), some (.int x2), some (.int q1.1)], [.int (-2)], hp X G q9.2)) rfl ?_
          obtain rfl := Option.some.inj hf
          exact ab_U.ret rfl rfl ⟨rfl, rfl⟩
      · rw [if_neg b11] at hf
        refine ab_U.run 1 (S' := (43, [some (.ref 100), some (.int x0), some (.int x1), some (.int x2), some (.int q1.1)], [.int q1.1], hp X G q9.2)) rfl ?_
        refine ab_U.if_ne rfl (fun b20 => ?_) (fun b20 => ?_)
        · rw [if_pos b20] at hf
          refine ab_U.run 4 (S' := (56, [some (.ref 100), some (.int x0), some (.int x1), some (.int x2), some (.int q1.1)], [.int x0, .ref 106], hp X G q9.2)) rfl ?_
          obtain ⟨c21, hf⟩ := ab_ifs hf
          refine ab_U.iald (n := 5) rfl ⟨by decide, rfl⟩ c21 ?_
          show ab_U _ _ _ (57, [some (.ref 100), some (.int x0), some (.int x1), some (.int x2), some (.int q1.1)], [.int (q9.2.2.1 106 x0.toNatClampNeg)], hp X G q9.2) _
          refine ab_U.run 1 (S' := (58, [some (.ref 100), some (.int x0), some (.int x1), some (.int x2), some (.int q1.1)], [.int x1, .int (q9.2.2.1 106 x0.toNatClampNeg)], hp X G q9.2)) rfl ?_
          refine ab_U.ic_ne rfl (fun b22 => ?_) (fun b22 => ?_)
          · rw [if_pos b22] at hf
            refine ab_U.run 6 (S' := (74, [some (.ref 100), some (.int x0), some (.int x1), some (.int x2), some (.int q1.1)], [.int x1, .int x0, .ref 101, .ref 129], hp X G q9.2)) rfl ?_
            obtain ⟨q23, h24, hf⟩ := ab_bnd hf
            refine ab_U.fn rfl rfl (t_X1_find (X := X) hG h24) (by omega) ?_
            show ab_U _ _ _ (77, [some (.ref 100), some (.int x0), some (.int x1), some (.int x2), some (.int q1.1)], [], hp X G q23.2) _
            refine ab_U.run 1 (S' := (78, [some (.ref 100), some (.int x0), some (.int x1), some (.int x2), some (.int q1.1)], [.int x2], hp X G q23.2)) rfl ?_
            refine ab_U.if_ne rfl (fun b25 => ?_) (fun b25 => ?_)
            · rw [if_pos b25] at hf
              refine ab_U.run 2 (S' := (91, [some (.ref 100), some (.int x0), some (.int x1), some (.int x2), some (.int q1.1)], [.int 1, .int x2], hp X G q23.2)) rfl ?_
              refine ab_U.ic_ne rfl (fun b26 => ?_) (fun b26 => ?_)
              · rw [if_pos b26] at hf
                refine ab_U.run 6 (S' := (113, [some (.ref 100), some (.int x0), some (.int x1), some (.int x2), some (.int q1.1)], [.int (q23.2.1 129 2), .int (x2 - 10)], hp X G q23.2)) rfl ?_
                refine ab_U.ic_ge rfl (fun b27 => ?_) (fun b27 => ?_)
                · rw [if_pos b27] at hf
                  refine ab_U.run 1 (S' := (133, [some (.ref 100), some (.int x0), some (.int x1), some (.int x2), some (.int q1.1)], [.int (-4)], hp X G q23.2)) rfl ?_
                  obtain rfl := Option.some.inj hf
                  exact ab_U.ret rfl rfl ⟨rfl, rfl⟩
                · rw [if_neg b27] at hf
                  refine ab_U.run 6 (S' := (127, [some (.ref 100), some (.int x0), some (.int x1), some (.int x2), some (.int q1.1)], [.int (x2 - 10), .ref 131], hp X G q23.2)) rfl ?_
                  obtain ⟨c28, hf⟩ := ab_ifs hf
                  refine ab_U.iald (n := 4) rfl ⟨by decide, rfl⟩ c28 ?_
                  show ab_U _ _ _ (128, [some (.ref 100), some (.int x0), some (.int x1), some (.int x2), some (.int q1.1)], [.int (q23.2.2.1 131 (x2 - 10).toNatClampNeg)], hp X G q23.2) _
                  refine ab_U.run 1 (S' := (133, [some (.ref 100), some (.int x0), some (.int x1), some (.int x2), some (.int q1.1)], [.int (q23.2.2.1 131 (x2 - 10).toNatClampNeg)], hp X G q23.2)) rfl ?_
                  obtain rfl := Option.some.inj hf
                  exact ab_U.ret rfl rfl ⟨rfl, rfl⟩
              · rw [if_neg b26] at hf
                refine ab_U.run 3 (S' := (101, [some (.ref 100), some (.int x0), some (.int x1), some (.int x2), some (.int q1.1)], [.int (q23.2.1 129 4)], hp X G q23.2)) rfl ?_
                obtain rfl := Option.some.inj hf
                exact ab_U.ret rfl rfl ⟨rfl, rfl⟩
            · rw [if_neg b25] at hf
              refine ab_U.run 3 (S' := (88, [some (.ref 100), some (.int x0), some (.int x1), some (.int x2), some (.int q1.1)], [.int (q23.2.1 129 3)], hp X G q23.2)) rfl ?_
              obtain rfl := Option.some.inj hf
              exact ab_U.ret rfl rfl ⟨rfl, rfl⟩
          · rw [if_neg b22] at hf
            refine ab_U.run 1 (S' := (63, [some (.ref 100), some (.int x0), some (.int x1), some (.int x2), some (.int q1.1)], [.int (-2)], hp X G q9.2)) rfl ?_
            obtain rfl := Option.some.inj hf
            exact ab_U.ret rfl rfl ⟨rfl, rfl⟩
        · rw [if_neg b20] at hf
          refine ab_U.run 1 (S' := (47, [some (.ref 100), some (.int x0), some (.int x1), some (.int x2), some (.int q1.1)], [.int (-1)], hp X G q9.2)) rfl ?_
          obtain rfl := Option.some.inj hf
          exact ab_U.ret rfl rfl ⟨rfl, rfl⟩
set_option maxRecDepth 20000 in
def f_X8_fewest (F : Nat)  (x0 : Int32) (x1 : Int32) (μ : fm_M) : Option (Int32 × fm_M) := (Option.bind (f_X8_isIn F x1 10 14 μ) (fun q1 => (Option.bind (f_X7_hasDebt F 101 x0 q1.2) (fun q3 => (if q3.1 = 0 then some ((-1), q3.2) else (if x1 = 0 then (Option.bind (f_X0_find F 101 x0 q3.2) (fun q7 => (if ¬ q7.1 = 0 then (if ¬ x1 = 0 then (if (q7.2.1 132 0) ≤ (x1 - 10) then some ((-4), q7.2) else (if ab_in (x1 - 10) 5 = true then some ((q7.2.2.1 133 (x1 - 10).toNatClampNeg), q7.2) else none)) else some ((q7.2.1 132 0), q7.2)) else some ((-4), q7.2)))) else (if ¬ q1.1 = 0 then (Option.bind (f_X0_find F 101 x0 q3.2) (fun q14 => (if ¬ q14.1 = 0 then (if ¬ x1 = 0 then (if (q14.2.1 132 0) ≤ (x1 - 10) then some ((-4), q14.2) else (if ab_in (x1 - 10) 5 = true then some ((q14.2.2.1 133 (x1 - 10).toNatClampNeg), q14.2) else none)) else some ((q14.2.1 132 0), q14.2)) else some ((-4), q14.2)))) else some ((-1), q3.2))))))))
set_option maxRecDepth 20000 in
theorem t_X8_fewest {X : Nat × (Nat → Int32)} {G : Nat → Nat → Option Nat} (hG : fm_Gok G) {F : Nat}   {x0 : Int32} {x1 : Int32} {μ : fm_M} {r : Int32 × fm_M} (hf : f_X8_fewest F x0 x1 μ = some r) : ab_F 42 99 [.ref 100, .int x0, .int x1] (hp X G μ) (some (.int r.1)) (hp X G r.2) := by
  unfold f_X8_fewest at hf
  refine ab_T.of (d := 41) rfl (Nat.le_of_ble_eq_true rfl) ?_
  show ab_U _ _ kX8_fewest (0, [some (.ref 100), some (.int x0), some (.int x1), none], [], hp X G μ) _
  refine ab_U.run 3 (S' := (5, [some (.ref 100), some (.int x0), some (.int x1), none], [.int 14, .int 10, .int x1], hp X G μ)) rfl ?_
  obtain ⟨q1, h2, hf⟩ := ab_bnd hf
  refine ab_U.fn rfl rfl (t_X8_isIn (X := X) hG h2) (by omega) ?_
  show ab_U _ _ _ (8, [some (.ref 100), some (.int x0), some (.int x1), none], [.int q1.1], hp X G q1.2) _
  refine ab_U.run 4 (S' := (14, [some (.ref 100), some (.int x0), some (.int x1), some (.int q1.1)], [.int x0, .ref 101], hp X G q1.2)) rfl ?_
  obtain ⟨q3, h4, hf⟩ := ab_bnd hf
  refine ab_U.fn rfl rfl (t_X7_hasDebt (X := X) hG (by decide) h4) (by omega) ?_
  show ab_U _ _ _ (17, [some (.ref 100), some (.int x0), some (.int x1), some (.int q1.1)], [.int q3.1], hp X G q3.2) _
  refine ab_U.if_eq rfl (fun b5 => ?_) (fun b5 => ?_)
  · rw [if_pos b5] at hf
    refine ab_U.run 1 (S' := (29, [some (.ref 100), some (.int x0), some (.int x1), some (.int q1.1)], [.int (-1)], hp X G q3.2)) rfl ?_
    obtain rfl := Option.some.inj hf
    exact ab_U.ret rfl rfl ⟨rfl, rfl⟩
  · rw [if_neg b5] at hf
    refine ab_U.run 1 (S' := (21, [some (.ref 100), some (.int x0), some (.int x1), some (.int q1.1)], [.int x1], hp X G q3.2)) rfl ?_
    refine ab_U.if_eq rfl (fun b6 => ?_) (fun b6 => ?_)
    · rw [if_pos b6] at hf
      refine ab_U.run 5 (S' := (39, [some (.ref 100), some (.int x0), some (.int x1), some (.int q1.1)], [.int x0, .ref 101, .ref 132], hp X G q3.2)) rfl ?_
      obtain ⟨q7, h8, hf⟩ := ab_bnd hf
      refine ab_U.fn rfl rfl (t_X0_find (X := X) hG (by decide) h8) (by omega) ?_
      show ab_U _ _ _ (42, [some (.ref 100), some (.int x0), some (.int x1), some (.int q1.1)], [.int q7.1], hp X G q7.2) _
      refine ab_U.if_ne rfl (fun b9 => ?_) (fun b9 => ?_)
      · rw [if_pos b9] at hf
        refine ab_U.run 1 (S' := (49, [some (.ref 100), some (.int x0), some (.int x1), some (.int q1.1)], [.int x1], hp X G q7.2)) rfl ?_
        refine ab_U.if_ne rfl (fun b10 => ?_) (fun b10 => ?_)
        · rw [if_pos b10] at hf
          refine ab_U.run 6 (S' := (71, [some (.ref 100), some (.int x0), some (.int x1), some (.int q1.1)], [.int (q7.2.1 132 0), .int (x1 - 10)], hp X G q7.2)) rfl ?_
          refine ab_U.ic_ge rfl (fun b11 => ?_) (fun b11 => ?_)
          · rw [if_pos b11] at hf
            refine ab_U.run 1 (S' := (91, [some (.ref 100), some (.int x0), some (.int x1), some (.int q1.1)], [.int (-4)], hp X G q7.2)) rfl ?_
            obtain rfl := Option.some.inj hf
            exact ab_U.ret rfl rfl ⟨rfl, rfl⟩
          · rw [if_neg b11] at hf
            refine ab_U.run 6 (S' := (85, [some (.ref 100), some (.int x0), some (.int x1), some (.int q1.1)], [.int (x1 - 10), .ref 133], hp X G q7.2)) rfl ?_
            obtain ⟨c12, hf⟩ := ab_ifs hf
            refine ab_U.iald (n := 5) rfl ⟨by decide, rfl⟩ c12 ?_
            show ab_U _ _ _ (86, [some (.ref 100), some (.int x0), some (.int x1), some (.int q1.1)], [.int (q7.2.2.1 133 (x1 - 10).toNatClampNeg)], hp X G q7.2) _
            refine ab_U.run 1 (S' := (91, [some (.ref 100), some (.int x0), some (.int x1), some (.int q1.1)], [.int (q7.2.2.1 133 (x1 - 10).toNatClampNeg)], hp X G q7.2)) rfl ?_
            obtain rfl := Option.some.inj hf
            exact ab_U.ret rfl rfl ⟨rfl, rfl⟩
        · rw [if_neg b10] at hf
          refine ab_U.run 3 (S' := (59, [some (.ref 100), some (.int x0), some (.int x1), some (.int q1.1)], [.int (q7.2.1 132 0)], hp X G q7.2)) rfl ?_
          obtain rfl := Option.some.inj hf
          exact ab_U.ret rfl rfl ⟨rfl, rfl⟩
      · rw [if_neg b9] at hf
        refine ab_U.run 1 (S' := (47, [some (.ref 100), some (.int x0), some (.int x1), some (.int q1.1)], [.int (-4)], hp X G q7.2)) rfl ?_
        obtain rfl := Option.some.inj hf
        exact ab_U.ret rfl rfl ⟨rfl, rfl⟩
    · rw [if_neg b6] at hf
      refine ab_U.run 1 (S' := (25, [some (.ref 100), some (.int x0), some (.int x1), some (.int q1.1)], [.int q1.1], hp X G q3.2)) rfl ?_
      refine ab_U.if_ne rfl (fun b13 => ?_) (fun b13 => ?_)
      · rw [if_pos b13] at hf
        refine ab_U.run 5 (S' := (39, [some (.ref 100), some (.int x0), some (.int x1), some (.int q1.1)], [.int x0, .ref 101, .ref 132], hp X G q3.2)) rfl ?_
        obtain ⟨q14, h15, hf⟩ := ab_bnd hf
        refine ab_U.fn rfl rfl (t_X0_find (X := X) hG (by decide) h15) (by omega) ?_
        show ab_U _ _ _ (42, [some (.ref 100), some (.int x0), some (.int x1), some (.int q1.1)], [.int q14.1], hp X G q14.2) _
        refine ab_U.if_ne rfl (fun b16 => ?_) (fun b16 => ?_)
        · rw [if_pos b16] at hf
          refine ab_U.run 1 (S' := (49, [some (.ref 100), some (.int x0), some (.int x1), some (.int q1.1)], [.int x1], hp X G q14.2)) rfl ?_
          refine ab_U.if_ne rfl (fun b17 => ?_) (fun b17 => ?_)
          · rw [if_pos b17] at hf
            refine ab_U.run 6 (S' := (71, [some (.ref 100), some (.int x0), some (.int x1), some (.int q1.1)], [.int (q14.2.1 132 0), .int (x1 - 10)], hp X G q14.2)) rfl ?_
            refine ab_U.ic_ge rfl (fun b18 => ?_) (fun b18 => ?_)
            · rw [if_pos b18] at hf
              refine ab_U.run 1 (S' := (91, [some (.ref 100), some (.int x0), some (.int x1), some (.int q1.1)], [.int (-4)], hp X G q14.2)) rfl ?_
              obtain rfl := Option.some.inj hf
              exact ab_U.ret rfl rfl ⟨rfl, rfl⟩
            · rw [if_neg b18] at hf
              refine ab_U.run 6 (S' := (85, [some (.ref 100), some (.int x0), some (.int x1), some (.int q1.1)], [.int (x1 - 10), .ref 133], hp X G q14.2)) rfl ?_
              obtain ⟨c19, hf⟩ := ab_ifs hf
              refine ab_U.iald (n := 5) rfl ⟨by decide, rfl⟩ c19 ?_
              show ab_U _ _ _ (86, [some (.ref 100), some (.int x0), some (.int x1), some (.int q1.1)], [.int (q14.2.2.1 133 (x1 - 10).toNatClampNeg)], hp X G q14.2) _
              refine ab_U.run 1 (S' := (91, [some (.ref 100), some (.int x0), some (.int x1), some (.int q1.1)], [.int (q14.2.2.1 133 (x1 - 10).toNatClampNeg)], hp X G q14.2)) rfl ?_
              obtain rfl := Option.some.inj hf
              exact ab_U.ret rfl rfl ⟨rfl, rfl⟩
          · rw [if_neg b17] at hf
            refine ab_U.run 3 (S' := (59, [some (.ref 100), some (.int x0), some (.int x1), some (.int q1.1)], [.int (q14.2.1 132 0)], hp X G q14.2)) rfl ?_
            obtain rfl := Option.some.inj hf
            exact ab_U.ret rfl rfl ⟨rfl, rfl⟩
        · rw [if_neg b16] at hf
          refine ab_U.run 1 (S' := (47, [some (.ref 100), some (.int x0), some (.int x1), some (.int q1.1)], [.int (-4)], hp X G q14.2)) rfl ?_
          obtain rfl := Option.some.inj hf
          exact ab_U.ret rfl rfl ⟨rfl, rfl⟩
      · rw [if_neg b13] at hf
        refine ab_U.run 1 (S' := (29, [some (.ref 100), some (.int x0), some (.int x1), some (.int q1.1)], [.int (-1)], hp X G q3.2)) rfl ?_
        obtain rfl := Option.some.inj hf
        exact ab_U.ret rfl rfl ⟨rfl, rfl⟩
set_option maxRecDepth 20000 in
def f_X8_settle (F : Nat)  (x0 : Int32) (μ : fm_M) : Option (Int32 × fm_M) := (if x0 = 0 then (Option.bind (f_X2_find F μ) (fun q2 => (if ¬ x0 = 0 then (if ab_in (x0 - 10) 4 = true then some ((q2.2.2.1 148 (x0 - 10).toNatClampNeg), q2.2) else none) else some ((q2.2.1 147 0), q2.2)))) else (Option.bind (f_X8_isIn F x0 10 ((10 + (μ.1 101 11)) - 1) μ) (fun q6 => (if ¬ q6.1 = 0 then (Option.bind (f_X2_find F q6.2) (fun q9 => (if ¬ x0 = 0 then (if ab_in (x0 - 10) 4 = true then some ((q9.2.2.1 148 (x0 - 10).toNatClampNeg), q9.2) else none) else some ((q9.2.1 147 0), q9.2)))) else some ((-1), q6.2)))))
set_option maxRecDepth 20000 in
theorem t_X8_settle {X : Nat × (Nat → Int32)} {G : Nat → Nat → Option Nat} (hG : fm_Gok G) {F : Nat}   {x0 : Int32} {μ : fm_M} {r : Int32 × fm_M} (hf : f_X8_settle F x0 μ = some r) : ab_F 346 100 [.ref 100, .int x0] (hp X G μ) (some (.int r.1)) (hp X G r.2) := by
  unfold f_X8_settle at hf
  refine ab_T.of (d := 345) rfl (Nat.le_of_ble_eq_true rfl) ?_
  show ab_U _ _ kX8_settle (0, [some (.ref 100), some (.int x0)], [], hp X G μ) _
  refine ab_U.run 1 (S' := (1, [some (.ref 100), some (.int x0)], [.int x0], hp X G μ)) rfl ?_
  refine ab_U.if_eq rfl (fun b1 => ?_) (fun b1 => ?_)
  · rw [if_pos b1] at hf
    refine ab_U.run 6 (S' := (39, [some (.ref 100), some (.int x0)], [.ref 132, .ref 101, .ref 147], hp X G μ)) rfl ?_
    obtain ⟨q2, h3, hf⟩ := ab_bnd hf
    refine ab_U.fn rfl rfl (t_X2_find (X := X) hG h3) (by omega) ?_
    show ab_U _ _ _ (42, [some (.ref 100), some (.int x0)], [], hp X G q2.2) _
    refine ab_U.run 1 (S' := (43, [some (.ref 100), some (.int x0)], [.int x0], hp X G q2.2)) rfl ?_
    refine ab_U.if_ne rfl (fun b4 => ?_) (fun b4 => ?_)
    · rw [if_pos b4] at hf
      refine ab_U.run 6 (S' := (67, [some (.ref 100), some (.int x0)], [.int (x0 - 10), .ref 148], hp X G q2.2)) rfl ?_
      obtain ⟨c5, hf⟩ := ab_ifs hf
      refine ab_U.iald (n := 4) rfl ⟨by decide, rfl⟩ c5 ?_
      show ab_U _ _ _ (68, [some (.ref 100), some (.int x0)], [.int (q2.2.2.1 148 (x0 - 10).toNatClampNeg)], hp X G q2.2) _
      obtain rfl := Option.some.inj hf
      exact ab_U.ret rfl rfl ⟨rfl, rfl⟩
    · rw [if_neg b4] at hf
      refine ab_U.run 4 (S' := (68, [some (.ref 100), some (.int x0)], [.int (q2.2.1 147 0)], hp X G q2.2)) rfl ?_
      obtain rfl := Option.some.inj hf
      exact ab_U.ret rfl rfl ⟨rfl, rfl⟩
  · rw [if_neg b1] at hf
    refine ab_U.run 9 (S' := (19, [some (.ref 100), some (.int x0)], [.int ((10 + (μ.1 101 11)) - 1), .int 10, .int x0], hp X G μ)) rfl ?_
    obtain ⟨q6, h7, hf⟩ := ab_bnd hf
    refine ab_U.fn rfl rfl (t_X8_isIn (X := X) hG h7) (by omega) ?_
    show ab_U _ _ _ (22, [some (.ref 100), some (.int x0)], [.int q6.1], hp X G q6.2) _
    refine ab_U.if_ne rfl (fun b8 => ?_) (fun b8 => ?_)
    · rw [if_pos b8] at hf
      refine ab_U.run 6 (S' := (39, [some (.ref 100), some (.int x0)], [.ref 132, .ref 101, .ref 147], hp X G q6.2)) rfl ?_
      obtain ⟨q9, h10, hf⟩ := ab_bnd hf
      refine ab_U.fn rfl rfl (t_X2_find (X := X) hG h10) (by omega) ?_
      show ab_U _ _ _ (42, [some (.ref 100), some (.int x0)], [], hp X G q9.2) _
      refine ab_U.run 1 (S' := (43, [some (.ref 100), some (.int x0)], [.int x0], hp X G q9.2)) rfl ?_
      refine ab_U.if_ne rfl (fun b11 => ?_) (fun b11 => ?_)
      · rw [if_pos b11] at hf
        refine ab_U.run 6 (S' := (67, [some (.ref 100), some (.int x0)], [.int (x0 - 10), .ref 148], hp X G q9.2)) rfl ?_
        obtain ⟨c12, hf⟩ := ab_ifs hf
        refine ab_U.iald (n := 4) rfl ⟨by decide, rfl⟩ c12 ?_
        show ab_U _ _ _ (68, [some (.ref 100), some (.int x0)], [.int (q9.2.2.1 148 (x0 - 10).toNatClampNeg)], hp X G q9.2) _
        obtain rfl := Option.some.inj hf
        exact ab_U.ret rfl rfl ⟨rfl, rfl⟩
      · rw [if_neg b11] at hf
        refine ab_U.run 4 (S' := (68, [some (.ref 100), some (.int x0)], [.int (q9.2.1 147 0)], hp X G q9.2)) rfl ?_
        obtain rfl := Option.some.inj hf
        exact ab_U.ret rfl rfl ⟨rfl, rfl⟩
    · rw [if_neg b8] at hf
      refine ab_U.run 1 (S' := (26, [some (.ref 100), some (.int x0)], [.int (-1)], hp X G q6.2)) rfl ?_
      obtain rfl := Option.some.inj hf
      exact ab_U.ret rfl rfl ⟨rfl, rfl⟩
set_option maxRecDepth 20000 in
def b_X8_wool_25 (F : Nat)  (gg : Nat → Int32 → Int32 → Int32 → fm_M → Option (Int32 × fm_M)) (l1 : Int32) (l2 : Int32) (l3 : Int32) (μ : fm_M) : Option (Int32 × fm_M) := (if 5 < l3 then some ((-4), μ) else (if ab_in l1 5 = true then (if ab_in l1 5 = true then (Option.bind (f_X8_rate F (μ.2.1 104 l1.toNatClampNeg) l3 μ) (fun q4 => (Option.bind (f_X8_cooledFor F (μ.2.1 105 l1.toNatClampNeg) q4.1 l2 q4.2) (fun q6 => (Option.bind (f_X8_isWarm F q6.1 q6.2) (fun q8 => (if q8.1 = 0 then gg 25 l1 l2 (l3 + 1) q8.2 else some (l3, q8.2)))))))) else none) else none))
def g_X8_wool (F : Nat)  : Nat → Nat → Int32 → Int32 → Int32 → fm_M → Option (Int32 × fm_M)
  | 0, _, _, _, _, _ => none
  | n + 1, pc, l1, l2, l3, μ => if pc = 25 then b_X8_wool_25 F  (g_X8_wool F  n) l1 l2 l3 μ else none
set_option maxRecDepth 20000 in
theorem t_X8_wool_g {X : Nat × (Nat → Int32)} {G : Nat → Nat → Option Nat} (hG : fm_Gok G) {F : Nat}    : ∀ n : Nat, (∀ (l1 : Int32) (l2 : Int32) (l3 : Int32) (μ : fm_M) (r : Int32 × fm_M), g_X8_wool F  n 25 l1 l2 l3 μ = some r → ab_U 3 (some .int) kX8_wool (25, [some (.ref 100), some (.int l1), some (.int l2), some (.int l3)], [], hp X G μ) (fun r9 h9 => r9 = some (.int r.1) ∧ h9 = hp X G r.2))
  | 0 => by
    intros
    rename_i h
    cases h
  | n + 1 => by
    have ih := t_X8_wool_g (X := X) hG (F := F)   n
    · intro l1 l2 l3 μ r hf
      have hf : b_X8_wool_25 F  (g_X8_wool F  n) l1 l2 l3 μ = some r := hf
      unfold b_X8_wool_25 at hf
      refine ab_U.run 2 (S' := (27, [some (.ref 100), some (.int l1), some (.int l2), some (.int l3)], [.int 5, .int l3], hp X G μ)) rfl ?_
      refine ab_U.ic_gt rfl (fun b1 => ?_) (fun b1 => ?_)
      · rw [if_pos b1] at hf
        refine ab_U.run 1 (S' := (72, [some (.ref 100), some (.int l1), some (.int l2), some (.int l3)], [.int (-4)], hp X G μ)) rfl ?_
        obtain rfl := Option.some.inj hf
        exact ab_U.ret rfl rfl ⟨rfl, rfl⟩
      · rw [if_neg b1] at hf
        refine ab_U.run 4 (S' := (38, [some (.ref 100), some (.int l1), some (.int l2), some (.int l3)], [.int l1, .ref 105], hp X G μ)) rfl ?_
        obtain ⟨c2, hf⟩ := ab_ifs hf
        refine ab_U.iald (n := 5) rfl ⟨by decide, rfl⟩ c2 ?_
        show ab_U _ _ _ (39, [some (.ref 100), some (.int l1), some (.int l2), some (.int l3)], [.int (μ.2.1 105 l1.toNatClampNeg)], hp X G μ) _
        refine ab_U.run 4 (S' := (47, [some (.ref 100), some (.int l1), some (.int l2), some (.int l3)], [.int l1, .ref 104, .int (μ.2.1 105 l1.toNatClampNeg)], hp X G μ)) rfl ?_
        obtain ⟨c3, hf⟩ := ab_ifs hf
        refine ab_U.iald (n := 5) rfl ⟨by decide, rfl⟩ c3 ?_
        show ab_U _ _ _ (48, [some (.ref 100), some (.int l1), some (.int l2), some (.int l3)], [.int (μ.2.1 104 l1.toNatClampNeg), .int (μ.2.1 105 l1.toNatClampNeg)], hp X G μ) _
        refine ab_U.run 1 (S' := (49, [some (.ref 100), some (.int l1), some (.int l2), some (.int l3)], [.int l3, .int (μ.2.1 104 l1.toNatClampNeg), .int (μ.2.1 105 l1.toNatClampNeg)], hp X G μ)) rfl ?_
        obtain ⟨q4, h5, hf⟩ := ab_bnd hf
        refine ab_U.fn rfl rfl (t_X8_rate (X := X) hG h5) (by omega) ?_
        show ab_U _ _ _ (52, [some (.ref 100), some (.int l1), some (.int l2), some (.int l3)], [.int q4.1, .int (μ.2.1 105 l1.toNatClampNeg)], hp X G q4.2) _
        refine ab_U.run 1 (S' := (53, [some (.ref 100), some (.int l1), some (.int l2), some (.int l3)], [.int l2, .int q4.1, .int (μ.2.1 105 l1.toNatClampNeg)], hp X G q4.2)) rfl ?_
        obtain ⟨q6, h7, hf⟩ := ab_bnd hf
        refine ab_U.fn rfl rfl (t_X8_cooledFor (X := X) hG h7) (by omega) ?_
        show ab_U _ _ _ (56, [some (.ref 100), some (.int l1), some (.int l2), some (.int l3)], [.int q6.1], hp X G q6.2) _
        obtain ⟨q8, h9, hf⟩ := ab_bnd hf
        refine ab_U.fn rfl rfl (t_X8_isWarm (X := X) hG h9) (by omega) ?_
        show ab_U _ _ _ (59, [some (.ref 100), some (.int l1), some (.int l2), some (.int l3)], [.int q8.1], hp X G q8.2) _
        refine ab_U.if_eq rfl (fun b10 => ?_) (fun b10 => ?_)
        · rw [if_pos b10] at hf
          refine ab_U.run 2 (S' := (25, [some (.ref 100), some (.int l1), some (.int l2), some (.int (l3 + 1))], [], hp X G q8.2)) rfl ?_
          exact ab_U.weak (ih _ _ _ _ _ hf) (ab_leL.of ⟨rfl, ⟨rfl, ⟨rfl, ⟨rfl, trivial⟩⟩⟩⟩)
        · rw [if_neg b10] at hf
          refine ab_U.run 1 (S' := (63, [some (.ref 100), some (.int l1), some (.int l2), some (.int l3)], [.int l3], hp X G q8.2)) rfl ?_
          obtain rfl := Option.some.inj hf
          exact ab_U.ret rfl rfl ⟨rfl, rfl⟩
set_option maxRecDepth 20000 in
def f_X8_wool (F : Nat)  (x0 : Int32) (x1 : Int32) (μ : fm_M) : Option (Int32 × fm_M) := (Option.bind (f_X7_hasStone F 101 x0 μ) (fun q11 => (if q11.1 = 0 then some ((-1), q11.2) else (Option.bind (f_X8_isIn F x1 0 60 q11.2) (fun q14 => (if ¬ q14.1 = 0 then g_X8_wool F  F 25 x0 x1 0 q14.2 else some ((-1), q14.2)))))))
set_option maxRecDepth 20000 in
theorem t_X8_wool {X : Nat × (Nat → Int32)} {G : Nat → Nat → Option Nat} (hG : fm_Gok G) {F : Nat}   {x0 : Int32} {x1 : Int32} {μ : fm_M} {r : Int32 × fm_M} (hf : f_X8_wool F x0 x1 μ = some r) : ab_F 4 101 [.ref 100, .int x0, .int x1] (hp X G μ) (some (.int r.1)) (hp X G r.2) := by
  unfold f_X8_wool at hf
  refine ab_T.of (d := 3) rfl (Nat.le_of_ble_eq_true rfl) ?_
  show ab_U _ _ kX8_wool (0, [some (.ref 100), some (.int x0), some (.int x1), none], [], hp X G μ) _
  refine ab_U.run 3 (S' := (5, [some (.ref 100), some (.int x0), some (.int x1), none], [.int x0, .ref 101], hp X G μ)) rfl ?_
  obtain ⟨q11, h12, hf⟩ := ab_bnd hf
  refine ab_U.fn rfl rfl (t_X7_hasStone (X := X) hG (by decide) h12) (by omega) ?_
  show ab_U _ _ _ (8, [some (.ref 100), some (.int x0), some (.int x1), none], [.int q11.1], hp X G q11.2) _
  refine ab_U.if_eq rfl (fun b13 => ?_) (fun b13 => ?_)
  · rw [if_pos b13] at hf
    refine ab_U.run 1 (S' := (22, [some (.ref 100), some (.int x0), some (.int x1), none], [.int (-1)], hp X G q11.2)) rfl ?_
    obtain rfl := Option.some.inj hf
    exact ab_U.ret rfl rfl ⟨rfl, rfl⟩
  · rw [if_neg b13] at hf
    refine ab_U.run 3 (S' := (15, [some (.ref 100), some (.int x0), some (.int x1), none], [.int 60, .int 0, .int x1], hp X G q11.2)) rfl ?_
    obtain ⟨q14, h15, hf⟩ := ab_bnd hf
    refine ab_U.fn rfl rfl (t_X8_isIn (X := X) hG h15) (by omega) ?_
    show ab_U _ _ _ (18, [some (.ref 100), some (.int x0), some (.int x1), none], [.int q14.1], hp X G q14.2) _
    refine ab_U.if_ne rfl (fun b16 => ?_) (fun b16 => ?_)
    · rw [if_pos b16] at hf
      refine ab_U.run 2 (S' := (25, [some (.ref 100), some (.int x0), some (.int x1), some (.int 0)], [], hp X G q14.2)) rfl ?_
      exact ab_U.weak ((t_X8_wool_g (X := X) hG   F) _ _ _ _ _ hf) (ab_leL.of ⟨rfl, ⟨rfl, ⟨rfl, ⟨rfl, trivial⟩⟩⟩⟩)
    · rw [if_neg b16] at hf
      refine ab_U.run 1 (S' := (22, [some (.ref 100), some (.int x0), some (.int x1), none], [.int (-1)], hp X G q14.2)) rfl ?_
      obtain rfl := Option.some.inj hf
      exact ab_U.ret rfl rfl ⟨rfl, rfl⟩
set_option maxRecDepth 20000 in
def f_X8_walks (F : Nat)  (x0 : Int32) (x1 : Int32) (μ : fm_M) : Option (Int32 × fm_M) := (Option.bind (f_X7_hasStone F 101 x0 μ) (fun q1 => (if q1.1 = 0 then some ((-1), q1.2) else (Option.bind (f_X8_isIn F x1 0 60 q1.2) (fun q4 => (if ¬ q4.1 = 0 then (Option.bind (f_X6_leastWalks F x0 x1 q4.2) (fun q7 => some (q7.1, q7.2))) else some ((-1), q4.2)))))))
set_option maxRecDepth 20000 in
theorem t_X8_walks {X : Nat × (Nat → Int32)} {G : Nat → Nat → Option Nat} (hG : fm_Gok G) {F : Nat}   {x0 : Int32} {x1 : Int32} {μ : fm_M} {r : Int32 × fm_M} (hf : f_X8_walks F x0 x1 μ = some r) : ab_F 6 102 [.ref 100, .int x0, .int x1] (hp X G μ) (some (.int r.1)) (hp X G r.2) := by
  unfold f_X8_walks at hf
  refine ab_T.of (d := 5) rfl (Nat.le_of_ble_eq_true rfl) ?_
  show ab_U _ _ kX8_walks (0, [some (.ref 100), some (.int x0), some (.int x1)], [], hp X G μ) _
  refine ab_U.run 3 (S' := (5, [some (.ref 100), some (.int x0), some (.int x1)], [.int x0, .ref 101], hp X G μ)) rfl ?_
  obtain ⟨q1, h2, hf⟩ := ab_bnd hf
  refine ab_U.fn rfl rfl (t_X7_hasStone (X := X) hG (by decide) h2) (by omega) ?_
  show ab_U _ _ _ (8, [some (.ref 100), some (.int x0), some (.int x1)], [.int q1.1], hp X G q1.2) _
  refine ab_U.if_eq rfl (fun b3 => ?_) (fun b3 => ?_)
  · rw [if_pos b3] at hf
    refine ab_U.run 1 (S' := (22, [some (.ref 100), some (.int x0), some (.int x1)], [.int (-1)], hp X G q1.2)) rfl ?_
    obtain rfl := Option.some.inj hf
    exact ab_U.ret rfl rfl ⟨rfl, rfl⟩
  · rw [if_neg b3] at hf
    refine ab_U.run 3 (S' := (15, [some (.ref 100), some (.int x0), some (.int x1)], [.int 60, .int 0, .int x1], hp X G q1.2)) rfl ?_
    obtain ⟨q4, h5, hf⟩ := ab_bnd hf
    refine ab_U.fn rfl rfl (t_X8_isIn (X := X) hG h5) (by omega) ?_
    show ab_U _ _ _ (18, [some (.ref 100), some (.int x0), some (.int x1)], [.int q4.1], hp X G q4.2) _
    refine ab_U.if_ne rfl (fun b6 => ?_) (fun b6 => ?_)
    · rw [if_pos b6] at hf
      refine ab_U.run 6 (S' := (33, [some (.ref 100), some (.int x0), some (.int x1)], [.int x1, .int x0, .ref 101, .ref 201], hp X G q4.2)) rfl ?_
      obtain ⟨q7, h8, hf⟩ := ab_bnd hf
      refine ab_U.fn rfl rfl (t_X6_leastWalks (X := X) hG h8) (by omega) ?_
      show ab_U _ _ _ (36, [some (.ref 100), some (.int x0), some (.int x1)], [.int q7.1], hp X G q7.2) _
      obtain rfl := Option.some.inj hf
      exact ab_U.ret rfl rfl ⟨rfl, rfl⟩
    · rw [if_neg b6] at hf
      refine ab_U.run 1 (S' := (22, [some (.ref 100), some (.int x0), some (.int x1)], [.int (-1)], hp X G q4.2)) rfl ?_
      obtain rfl := Option.some.inj hf
      exact ab_U.ret rfl rfl ⟨rfl, rfl⟩
set_option maxRecDepth 20000 in
def b_X8_buys_41 (F : Nat)  (gg : Nat → Int32 → Int32 → Int32 → Int32 → Int32 → Int32 → fm_M → Option (Int32 × fm_M)) (l1 : Int32) (l2 : Int32) (l3 : Int32) (l4 : Int32) (l5 : Int32) (l6 : Int32) (μ : fm_M) : Option (Int32 × fm_M) := (if 5 < l6 then (if ¬ l2 = 0 then some (l4, μ) else some (l3, μ)) else (Option.bind (f_X7_boughtFor F 101 l5 l6 μ) (fun q3 => (if q3.1 ≤ l4 then (Option.bind (f_X7_rateOf F 101 l1 q3.2) (fun q6 => (Option.bind (f_X8_cooled F l5 q6.1 q6.2) (fun q8 => gg 41 l1 l2 l3 l4 q8.1 (l6 + 1) q8.2)))) else (Option.bind (f_X7_rateOf F 101 l1 q3.2) (fun q10 => (Option.bind (f_X8_cooled F l5 q10.1 q10.2) (fun q12 => gg 41 l1 l2 l6 q3.1 q12.1 (l6 + 1) q12.2))))))))
def g_X8_buys (F : Nat)  : Nat → Nat → Int32 → Int32 → Int32 → Int32 → Int32 → Int32 → fm_M → Option (Int32 × fm_M)
  | 0, _, _, _, _, _, _, _, _ => none
  | n + 1, pc, l1, l2, l3, l4, l5, l6, μ => if pc = 41 then b_X8_buys_41 F  (g_X8_buys F  n) l1 l2 l3 l4 l5 l6 μ else none
set_option maxRecDepth 20000 in
theorem t_X8_buys_g {X : Nat × (Nat → Int32)} {G : Nat → Nat → Option Nat} (hG : fm_Gok G) {F : Nat}    : ∀ n : Nat, (∀ (l1 : Int32) (l2 : Int32) (l3 : Int32) (l4 : Int32) (l5 : Int32) (l6 : Int32) (μ : fm_M) (r : Int32 × fm_M), g_X8_buys F  n 41 l1 l2 l3 l4 l5 l6 μ = some r → ab_U 3 (some .int) kX8_buys (41, [some (.ref 100), some (.int l1), some (.int l2), some (.int l3), some (.int l4), some (.int l5), some (.int l6), none], [], hp X G μ) (fun r9 h9 => r9 = some (.int r.1) ∧ h9 = hp X G r.2))
  | 0 => by
    intros
    rename_i h
    cases h
  | n + 1 => by
    have ih := t_X8_buys_g (X := X) hG (F := F)   n
    · intro l1 l2 l3 l4 l5 l6 μ r hf
      have hf : b_X8_buys_41 F  (g_X8_buys F  n) l1 l2 l3 l4 l5 l6 μ = some r := hf
      unfold b_X8_buys_41 at hf
      refine ab_U.run 2 (S' := (44, [some (.ref 100), some (.int l1), some (.int l2), some (.int l3), some (.int l4), some (.int l5), some (.int l6), none], [.int 5, .int l6], hp X G μ)) rfl ?_
      refine ab_U.ic_gt rfl (fun b1 => ?_) (fun b1 => ?_)
      · rw [if_pos b1] at hf
        refine ab_U.run 1 (S' := (96, [some (.ref 100), some (.int l1), some (.int l2), some (.int l3), some (.int l4), some (.int l5), some (.int l6), none], [.int l2], hp X G μ)) rfl ?_
        refine ab_U.if_ne rfl (fun b2 => ?_) (fun b2 => ?_)
        · rw [if_pos b2] at hf
          refine ab_U.run 1 (S' := (105, [some (.ref 100), some (.int l1), some (.int l2), some (.int l3), some (.int l4), some (.int l5), some (.int l6), none], [.int l4], hp X G μ)) rfl ?_
          obtain rfl := Option.some.inj hf
          exact ab_U.ret rfl rfl ⟨rfl, rfl⟩
        · rw [if_neg b2] at hf
          refine ab_U.run 2 (S' := (105, [some (.ref 100), some (.int l1), some (.int l2), some (.int l3), some (.int l4), some (.int l5), some (.int l6), none], [.int l3], hp X G μ)) rfl ?_
          obtain rfl := Option.some.inj hf
          exact ab_U.ret rfl rfl ⟨rfl, rfl⟩
      · rw [if_neg b1] at hf
        refine ab_U.run 4 (S' := (55, [some (.ref 100), some (.int l1), some (.int l2), some (.int l3), some (.int l4), some (.int l5), some (.int l6), none], [.int l6, .int l5, .ref 101], hp X G μ)) rfl ?_
        obtain ⟨q3, h4, hf⟩ := ab_bnd hf
        refine ab_U.fn rfl rfl (t_X7_boughtFor (X := X) hG (by decide) h4) (by omega) ?_
        show ab_U _ _ _ (58, [some (.ref 100), some (.int l1), some (.int l2), some (.int l3), some (.int l4), some (.int l5), some (.int l6), none], [.int q3.1], hp X G q3.2) _
        refine ab_U.run 3 (S' := (64, [some (.ref 100), some (.int l1), some (.int l2), some (.int l3), some (.int l4), some (.int l5), some (.int l6), some (.int q3.1)], [.int l4, .int q3.1], hp X G q3.2)) rfl ?_
        refine ab_U.ic_le rfl (fun b5 => ?_) (fun b5 => ?_)
        · rw [if_pos b5] at hf
          refine ab_U.run 4 (S' := (81, [some (.ref 100), some (.int l1), some (.int l2), some (.int l3), some (.int l4), some (.int l5), some (.int l6), some (.int q3.1)], [.int l1, .ref 101, .int l5], hp X G q3.2)) rfl ?_
          obtain ⟨q6, h7, hf⟩ := ab_bnd hf
          refine ab_U.fn rfl rfl (t_X7_rateOf (X := X) hG (by decide) h7) (by omega) ?_
          show ab_U _ _ _ (84, [some (.ref 100), some (.int l1), some (.int l2), some (.int l3), some (.int l4), some (.int l5), some (.int l6), some (.int q3.1)], [.int q6.1, .int l5], hp X G q6.2) _
          obtain ⟨q8, h9, hf⟩ := ab_bnd hf
          refine ab_U.fn rfl rfl (t_X8_cooled (X := X) hG h9) (by omega) ?_
          show ab_U _ _ _ (87, [some (.ref 100), some (.int l1), some (.int l2), some (.int l3), some (.int l4), some (.int l5), some (.int l6), some (.int q3.1)], [.int q8.1], hp X G q8.2) _
          refine ab_U.run 3 (S' := (41, [some (.ref 100), some (.int l1), some (.int l2), some (.int l3), some (.int l4), some (.int q8.1), some (.int (l6 + 1)), some (.int q3.1)], [], hp X G q8.2)) rfl ?_
          exact ab_U.weak (ih _ _ _ _ _ _ _ _ hf) (ab_leL.of ⟨rfl, ⟨rfl, ⟨rfl, ⟨rfl, ⟨rfl, ⟨rfl, ⟨rfl, trivial⟩⟩⟩⟩⟩⟩⟩)
        · rw [if_neg b5] at hf
          refine ab_U.run 8 (S' := (81, [some (.ref 100), some (.int l1), some (.int l2), some (.int l6), some (.int q3.1), some (.int l5), some (.int l6), some (.int q3.1)], [.int l1, .ref 101, .int l5], hp X G q3.2)) rfl ?_
          obtain ⟨q10, h11, hf⟩ := ab_bnd hf
          refine ab_U.fn rfl rfl (t_X7_rateOf (X := X) hG (by decide) h11) (by omega) ?_
          show ab_U _ _ _ (84, [some (.ref 100), some (.int l1), some (.int l2), some (.int l6), some (.int q3.1), some (.int l5), some (.int l6), some (.int q3.1)], [.int q10.1, .int l5], hp X G q10.2) _
          obtain ⟨q12, h13, hf⟩ := ab_bnd hf
          refine ab_U.fn rfl rfl (t_X8_cooled (X := X) hG h13) (by omega) ?_
          show ab_U _ _ _ (87, [some (.ref 100), some (.int l1), some (.int l2), some (.int l6), some (.int q3.1), some (.int l5), some (.int l6), some (.int q3.1)], [.int q12.1], hp X G q12.2) _
          refine ab_U.run 3 (S' := (41, [some (.ref 100), some (.int l1), some (.int l2), some (.int l6), some (.int q3.1), some (.int q12.1), some (.int (l6 + 1)), some (.int q3.1)], [], hp X G q12.2)) rfl ?_
          exact ab_U.weak (ih _ _ _ _ _ _ _ _ hf) (ab_leL.of ⟨rfl, ⟨rfl, ⟨rfl, ⟨rfl, ⟨rfl, ⟨rfl, ⟨rfl, trivial⟩⟩⟩⟩⟩⟩⟩)
set_option maxRecDepth 20000 in
def f_X8_buys (F : Nat)  (x0 : Int32) (x1 : Int32) (μ : fm_M) : Option (Int32 × fm_M) := (Option.bind (f_X7_hasStone F 101 x0 μ) (fun q14 => (if q14.1 = 0 then some ((-1), q14.2) else (Option.bind (f_X8_isIn F x1 0 1 q14.2) (fun q17 => (if ¬ q17.1 = 0 then (if ab_in x0 5 = true then g_X8_buys F  F 41 x0 x1 0 (-1) (q17.2.2.1 105 x0.toNatClampNeg) 0 q17.2 else none) else some ((-1), q17.2)))))))
set_option maxRecDepth 20000 in
theorem t_X8_buys {X : Nat × (Nat → Int32)} {G : Nat → Nat → Option Nat} (hG : fm_Gok G) {F : Nat}   {x0 : Int32} {x1 : Int32} {μ : fm_M} {r : Int32 × fm_M} (hf : f_X8_buys F x0 x1 μ = some r) : ab_F 4 103 [.ref 100, .int x0, .int x1] (hp X G μ) (some (.int r.1)) (hp X G r.2) := by
  unfold f_X8_buys at hf
  refine ab_T.of (d := 3) rfl (Nat.le_of_ble_eq_true rfl) ?_
  show ab_U _ _ kX8_buys (0, [some (.ref 100), some (.int x0), some (.int x1), none, none, none, none, none], [], hp X G μ) _
  refine ab_U.run 3 (S' := (5, [some (.ref 100), some (.int x0), some (.int x1), none, none, none, none, none], [.int x0, .ref 101], hp X G μ)) rfl ?_
  obtain ⟨q14, h15, hf⟩ := ab_bnd hf
  refine ab_U.fn rfl rfl (t_X7_hasStone (X := X) hG (by decide) h15) (by omega) ?_
  show ab_U _ _ _ (8, [some (.ref 100), some (.int x0), some (.int x1), none, none, none, none, none], [.int q14.1], hp X G q14.2) _
  refine ab_U.if_eq rfl (fun b16 => ?_) (fun b16 => ?_)
  · rw [if_pos b16] at hf
    refine ab_U.run 1 (S' := (21, [some (.ref 100), some (.int x0), some (.int x1), none, none, none, none, none], [.int (-1)], hp X G q14.2)) rfl ?_
    obtain rfl := Option.some.inj hf
    exact ab_U.ret rfl rfl ⟨rfl, rfl⟩
  · rw [if_neg b16] at hf
    refine ab_U.run 3 (S' := (14, [some (.ref 100), some (.int x0), some (.int x1), none, none, none, none, none], [.int 1, .int 0, .int x1], hp X G q14.2)) rfl ?_
    obtain ⟨q17, h18, hf⟩ := ab_bnd hf
    refine ab_U.fn rfl rfl (t_X8_isIn (X := X) hG h18) (by omega) ?_
    show ab_U _ _ _ (17, [some (.ref 100), some (.int x0), some (.int x1), none, none, none, none, none], [.int q17.1], hp X G q17.2) _
    refine ab_U.if_ne rfl (fun b19 => ?_) (fun b19 => ?_)
    · rw [if_pos b19] at hf
      refine ab_U.run 8 (S' := (35, [some (.ref 100), some (.int x0), some (.int x1), some (.int 0), some (.int (-1)), none, none, none], [.int x0, .ref 105], hp X G q17.2)) rfl ?_
      obtain ⟨c20, hf⟩ := ab_ifs hf
      refine ab_U.iald (n := 5) rfl ⟨by decide, rfl⟩ c20 ?_
      show ab_U _ _ _ (36, [some (.ref 100), some (.int x0), some (.int x1), some (.int 0), some (.int (-1)), none, none, none], [.int (q17.2.2.1 105 x0.toNatClampNeg)], hp X G q17.2) _
      refine ab_U.run 3 (S' := (41, [some (.ref 100), some (.int x0), some (.int x1), some (.int 0), some (.int (-1)), some (.int (q17.2.2.1 105 x0.toNatClampNeg)), some (.int 0), none], [], hp X G q17.2)) rfl ?_
      exact ab_U.weak ((t_X8_buys_g (X := X) hG   F) _ _ _ _ _ _ _ _ hf) (ab_leL.of ⟨rfl, ⟨rfl, ⟨rfl, ⟨rfl, ⟨rfl, ⟨rfl, ⟨rfl, trivial⟩⟩⟩⟩⟩⟩⟩)
    · rw [if_neg b19] at hf
      refine ab_U.run 1 (S' := (21, [some (.ref 100), some (.int x0), some (.int x1), none, none, none, none, none], [.int (-1)], hp X G q17.2)) rfl ?_
      obtain rfl := Option.some.inj hf
      exact ab_U.ret rfl rfl ⟨rfl, rfl⟩
set_option maxRecDepth 20000 in
def f0_X8_weightOfWarm (F : Nat) (rec : Int32 → Int32 → Int32 → Int32 → fm_M → Option (Int64 × fm_M))  (x0 : Int32) (x1 : Int32) (x2 : Int32) (x3 : Int32) (μ : fm_M) : Option (Int64 × fm_M) := (if 0 < x3 then (Option.bind (f_X8_cooled F x0 x1 μ) (fun q2 => (Option.bind (f_X8_cooled F q2.1 x1 q2.2) (fun q4 => (Option.bind (rec q2.1 x1 x2 (x3 - 1) q4.2) (fun q6 => (Option.bind (rec q4.1 x1 x2 (x3 - 1) q6.2) (fun q8 => some (((((10 - x2)).toInt64 * q6.1) + ((x2).toInt64 * q8.1)), q8.2))))))))) else (Option.bind (f_X8_isWarm F x0 μ) (fun q10 => (if q10.1 = 0 then some ((Int64.ofNat 0), q10.2) else some ((Int64.ofNat 1), q10.2)))))
def f_X8_weightOfWarm (F : Nat) : Nat → Int32 → Int32 → Int32 → Int32 → fm_M → Option (Int64 × fm_M)
  | 0, _, _, _, _, _ => none
  | e + 1, x0, x1, x2, x3, μ => f0_X8_weightOfWarm F (f_X8_weightOfWarm F e) x0 x1 x2 x3 μ
set_option maxRecDepth 20000 in
theorem t0_X8_weightOfWarm {X : Nat × (Nat → Int32)} {G : Nat → Nat → Option Nat} (hG : fm_Gok G) {F dr : Nat} {rec : Int32 → Int32 → Int32 → Int32 → fm_M → Option (Int64 × fm_M)} (hrec : ∀  {x0 : Int32} {x1 : Int32} {x2 : Int32} {x3 : Int32} {μ : fm_M} {r : Int64 × fm_M}, rec x0 x1 x2 x3 μ = some r → ab_F dr 128 [.int x0, .int x1, .int x2, .int x3] (hp X G μ) (some (.long r.1)) (hp X G r.2))   {x0 : Int32} {x1 : Int32} {x2 : Int32} {x3 : Int32} {μ : fm_M} {r : Int64 × fm_M} (hf : f0_X8_weightOfWarm F rec x0 x1 x2 x3 μ = some r) : ab_F (dr + 4) 128 [.int x0, .int x1, .int x2, .int x3] (hp X G μ) (some (.long r.1)) (hp X G r.2) := by
  unfold f0_X8_weightOfWarm at hf
  refine ab_T.of (d := dr + 3) rfl (Nat.le_of_ble_eq_true rfl) ?_
  show ab_U _ _ kX8_weightOfWarm (0, [some (.int x0), some (.int x1), some (.int x2), some (.int x3), none, none], [], hp X G μ) _
  refine ab_U.run 1 (S' := (1, [some (.int x0), some (.int x1), some (.int x2), some (.int x3), none, none], [.int x3], hp X G μ)) rfl ?_
  refine ab_U.if_gt rfl (fun b1 => ?_) (fun b1 => ?_)
  · rw [if_pos b1] at hf
    refine ab_U.run 2 (S' := (19, [some (.int x0), some (.int x1), some (.int x2), some (.int x3), none, none], [.int x1, .int x0], hp X G μ)) rfl ?_
    obtain ⟨q2, h3, hf⟩ := ab_bnd hf
    refine ab_U.fn rfl rfl (t_X8_cooled (X := X) hG h3) (by omega) ?_
    show ab_U _ _ _ (22, [some (.int x0), some (.int x1), some (.int x2), some (.int x3), none, none], [.int q2.1], hp X G q2.2) _
    refine ab_U.run 3 (S' := (27, [some (.int x0), some (.int x1), some (.int x2), some (.int x3), some (.int q2.1), none], [.int x1, .int q2.1], hp X G q2.2)) rfl ?_
    obtain ⟨q4, h5, hf⟩ := ab_bnd hf
    refine ab_U.fn rfl rfl (t_X8_cooled (X := X) hG h5) (by omega) ?_
    show ab_U _ _ _ (30, [some (.int x0), some (.int x1), some (.int x2), some (.int x3), some (.int q2.1), none], [.int q4.1], hp X G q4.2) _
    refine ab_U.run 11 (S' := (44, [some (.int x0), some (.int x1), some (.int x2), some (.int x3), some (.int q2.1), some (.int q4.1)], [.int (x3 - 1), .int x2, .int x1, .int q2.1, .long ((10 - x2)).toInt64], hp X G q4.2)) rfl ?_
    obtain ⟨q6, h7, hf⟩ := ab_bnd hf
    refine ab_U.fn rfl rfl (hrec h7) (by omega) ?_
    show ab_U _ _ _ (47, [some (.int x0), some (.int x1), some (.int x2), some (.int x3), some (.int q2.1), some (.int q4.1)], [.long q6.1, .long ((10 - x2)).toInt64], hp X G q6.2) _
    refine ab_U.run 9 (S' := (57, [some (.int x0), some (.int x1), some (.int x2), some (.int x3), some (.int q2.1), some (.int q4.1)], [.int (x3 - 1), .int x2, .int x1, .int q4.1, .long (x2).toInt64, .long (((10 - x2)).toInt64 * q6.1)], hp X G q6.2)) rfl ?_
    obtain ⟨q8, h9, hf⟩ := ab_bnd hf
    refine ab_U.fn rfl rfl (hrec h9) (by omega) ?_
    show ab_U _ _ _ (60, [some (.int x0), some (.int x1), some (.int x2), some (.int x3), some (.int q2.1), some (.int q4.1)], [.long q8.1, .long (x2).toInt64, .long (((10 - x2)).toInt64 * q6.1)], hp X G q8.2) _
    refine ab_U.run 2 (S' := (62, [some (.int x0), some (.int x1), some (.int x2), some (.int x3), some (.int q2.1), some (.int q4.1)], [.long ((((10 - x2)).toInt64 * q6.1) + ((x2).toInt64 * q8.1))], hp X G q8.2)) rfl ?_
    obtain rfl := Option.some.inj hf
    exact ab_U.ret rfl rfl ⟨rfl, rfl⟩
  · rw [if_neg b1] at hf
    refine ab_U.run 1 (S' := (5, [some (.int x0), some (.int x1), some (.int x2), some (.int x3), none, none], [.int x0], hp X G μ)) rfl ?_
    obtain ⟨q10, h11, hf⟩ := ab_bnd hf
    refine ab_U.fn rfl rfl (t_X8_isWarm (X := X) hG h11) (by omega) ?_
    show ab_U _ _ _ (8, [some (.int x0), some (.int x1), some (.int x2), some (.int x3), none, none], [.int q10.1], hp X G q10.2) _
    refine ab_U.if_eq rfl (fun b12 => ?_) (fun b12 => ?_)
    · rw [if_pos b12] at hf
      refine ab_U.run 1 (S' := (16, [some (.int x0), some (.int x1), some (.int x2), some (.int x3), none, none], [.long (Int64.ofNat 0)], hp X G q10.2)) rfl ?_
      obtain rfl := Option.some.inj hf
      exact ab_U.ret rfl rfl ⟨rfl, rfl⟩
    · rw [if_neg b12] at hf
      refine ab_U.run 2 (S' := (16, [some (.int x0), some (.int x1), some (.int x2), some (.int x3), none, none], [.long (Int64.ofNat 1)], hp X G q10.2)) rfl ?_
      obtain rfl := Option.some.inj hf
      exact ab_U.ret rfl rfl ⟨rfl, rfl⟩
theorem t_X8_weightOfWarm {X : Nat × (Nat → Int32)} {G : Nat → Nat → Option Nat} (hG : fm_Gok G) {F e : Nat}   {x0 : Int32} {x1 : Int32} {x2 : Int32} {x3 : Int32} {μ : fm_M} {r : Int64 × fm_M} (hf : f_X8_weightOfWarm F e x0 x1 x2 x3 μ = some r) : ab_F (4 * e) 128 [.int x0, .int x1, .int x2, .int x3] (hp X G μ) (some (.long r.1)) (hp X G r.2) := by
  induction e generalizing x0 x1 x2 x3 μ r with
  | zero => cases hf
  | succ e ih => exact t0_X8_weightOfWarm (X := X) hG (dr := 4 * e) (rec := f_X8_weightOfWarm F e) (fun  h9 => ih  h9)  hf
set_option maxRecDepth 20000 in
def b_X8_commonDivisor_9 (F : Nat)  (gg : Nat → Int64 → Int64 → Int32 → fm_M → Option (Int64 × fm_M)) (l4 : Int64) (l6 : Int64) (l8 : Int32) (μ : fm_M) : Option (Int64 × fm_M) := (if 200 ≤ l8 then some (l4, μ) else (if (lg_cmp l6 (Int64.ofNat 0)) = 0 then some (l4, μ) else (if ¬ l6 = 0 then gg 9 l6 (l4 - l4 / l6 * l6) (l8 + 1) μ else none)))
def g_X8_commonDivisor (F : Nat)  : Nat → Nat → Int64 → Int64 → Int32 → fm_M → Option (Int64 × fm_M)
  | 0, _, _, _, _, _ => none
  | n + 1, pc, l4, l6, l8, μ => if pc = 9 then b_X8_commonDivisor_9 F  (g_X8_commonDivisor F  n) l4 l6 l8 μ else none
set_option maxRecDepth 20000 in
theorem t_X8_commonDivisor_g {X : Nat × (Nat → Int32)} {G : Nat → Nat → Option Nat} (hG : fm_Gok G) {F : Nat}    : ∀ n : Nat, (∀ (l4 : Int64) (l6 : Int64) (l8 : Int32) (μ : fm_M) (r : Int64 × fm_M), g_X8_commonDivisor F  n 9 l4 l6 l8 μ = some r → ab_U 0 (some .long) kX8_commonDivisor (9, [none, none, none, none, some (.long l4), none, some (.long l6), none, some (.int l8), none, none], [], hp X G μ) (fun r9 h9 => r9 = some (.long r.1) ∧ h9 = hp X G r.2))
  | 0 => by
    intros
    rename_i h
    cases h
  | n + 1 => by
    have ih := t_X8_commonDivisor_g (X := X) hG (F := F)   n
    · intro l4 l6 l8 μ r hf
      have hf : b_X8_commonDivisor_9 F  (g_X8_commonDivisor F  n) l4 l6 l8 μ = some r := hf
      unfold b_X8_commonDivisor_9 at hf
      refine ab_U.run 2 (S' := (14, [none, none, none, none, some (.long l4), none, some (.long l6), none, some (.int l8), none, none], [.int 200, .int l8], hp X G μ)) rfl ?_
      refine ab_U.ic_ge rfl (fun b1 => ?_) (fun b1 => ?_)
      · rw [if_pos b1] at hf
        refine ab_U.run 1 (S' := (47, [none, none, none, none, some (.long l4), none, some (.long l6), none, some (.int l8), none, none], [.long l4], hp X G μ)) rfl ?_
        obtain rfl := Option.some.inj hf
        exact ab_U.ret rfl rfl ⟨rfl, rfl⟩
      · rw [if_neg b1] at hf
        refine ab_U.run 3 (S' := (21, [none, none, none, none, some (.long l4), none, some (.long l6), none, some (.int l8), none, none], [.int (lg_cmp l6 (Int64.ofNat 0))], hp X G μ)) rfl ?_
        refine ab_U.if_eq rfl (fun b2 => ?_) (fun b2 => ?_)
        · rw [if_pos b2] at hf
          refine ab_U.run 1 (S' := (47, [none, none, none, none, some (.long l4), none, some (.long l6), none, some (.int l8), none, none], [.long l4], hp X G μ)) rfl ?_
          obtain rfl := Option.some.inj hf
          exact ab_U.ret rfl rfl ⟨rfl, rfl⟩
        · rw [if_neg b2] at hf
          refine ab_U.run 2 (S' := (28, [none, none, none, none, some (.long l4), none, some (.long l6), none, some (.int l8), none, none], [.long l6, .long l4], hp X G μ)) rfl ?_
          obtain ⟨c3, hf⟩ := ab_ifs hf
          refine ab_U.lrm rfl c3 ?_
          refine ab_U.run 7 (S' := (9, [none, none, none, none, some (.long l6), none, some (.long (l4 - l4 / l6 * l6)), none, some (.int (l8 + 1)), some (.long (l4 - l4 / l6 * l6)), none], [], hp X G μ)) rfl ?_
          exact ab_U.weak (ih _ _ _ _ _ hf) (ab_leL.of ⟨rfl, ⟨rfl, ⟨rfl, trivial⟩⟩⟩)
set_option maxRecDepth 20000 in
def f_X8_commonDivisor (F : Nat)  (x0 : Int64) (x1 : Int64) (μ : fm_M) : Option (Int64 × fm_M) := g_X8_commonDivisor F  F 9 x1 x0 0 μ
set_option maxRecDepth 20000 in
theorem t_X8_commonDivisor {X : Nat × (Nat → Int32)} {G : Nat → Nat → Option Nat} (hG : fm_Gok G) {F : Nat}   {x0 : Int64} {x1 : Int64} {μ : fm_M} {r : Int64 × fm_M} (hf : f_X8_commonDivisor F x0 x1 μ = some r) : ab_F 1 133 [.long x0, .long x1] (hp X G μ) (some (.long r.1)) (hp X G r.2) := by
  unfold f_X8_commonDivisor at hf
  refine ab_T.of (d := 0) rfl (Nat.le_of_ble_eq_true rfl) ?_
  show ab_U _ _ kX8_commonDivisor (0, [some (.long x0), none, some (.long x1), none, none, none, none, none, none, none, none], [], hp X G μ) _
  refine ab_U.run 6 (S' := (9, [some (.long x0), none, some (.long x1), none, some (.long x1), none, some (.long x0), none, some (.int 0), none, none], [], hp X G μ)) rfl ?_
  exact ab_U.weak ((t_X8_commonDivisor_g (X := X) hG   F) _ _ _ _ _ hf) (ab_leL.of ⟨rfl, ⟨rfl, ⟨rfl, trivial⟩⟩⟩)
set_option maxRecDepth 20000 in
def f_J9_max_f86c9 (F : Nat)  (x0 : Int64) (x1 : Int64) (μ : fm_M) : Option (Int64 × fm_M) := (if (lg_cmp x0 x1) < 0 then some (x1, μ) else some (x0, μ))
set_option maxRecDepth 20000 in
theorem t_J9_max_f86c9 {X : Nat × (Nat → Int32)} {G : Nat → Nat → Option Nat} (hG : fm_Gok G) {F : Nat}   {x0 : Int64} {x1 : Int64} {μ : fm_M} {r : Int64 × fm_M} (hf : f_J9_max_f86c9 F x0 x1 μ = some r) : ab_F 1 221 [.long x0, .long x1] (hp X G μ) (some (.long r.1)) (hp X G r.2) := by
  unfold f_J9_max_f86c9 at hf
  refine ab_T.of (d := 0) rfl (Nat.le_of_ble_eq_true rfl) ?_
  show ab_U _ _ kJ9_max_f86c9 (0, [some (.long x0), none, some (.long x1), none], [], hp X G μ) _
  refine ab_U.run 3 (S' := (3, [some (.long x0), none, some (.long x1), none], [.int (lg_cmp x0 x1)], hp X G μ)) rfl ?_
  refine ab_U.if_lt rfl (fun b1 => ?_) (fun b1 => ?_)
  · rw [if_pos b1] at hf
    refine ab_U.run 1 (S' := (11, [some (.long x0), none, some (.long x1), none], [.long x1], hp X G μ)) rfl ?_
    obtain rfl := Option.some.inj hf
    exact ab_U.ret rfl rfl ⟨rfl, rfl⟩
  · rw [if_neg b1] at hf
    refine ab_U.run 2 (S' := (11, [some (.long x0), none, some (.long x1), none], [.long x0], hp X G μ)) rfl ?_
    obtain rfl := Option.some.inj hf
    exact ab_U.ret rfl rfl ⟨rfl, rfl⟩
set_option maxRecDepth 20000 in
def f_X8_fractionPart (F : Nat)  (x0 : Int64) (x1 : Int32) (x2 : Int32) (μ : fm_M) : Option (Int64 × fm_M) := (if ab_in x1 7 = true then (Option.bind (f_X8_commonDivisor F x0 (ab_p10.getD x1.toNatClampNeg 0) μ) (fun q2 => (Option.bind (f_J9_max_f86c9 F (Int64.ofNat 1) q2.1 q2.2) (fun q4 => (if ¬ x2 = 0 then (if ¬ q4.1 = 0 then some (((ab_p10.getD x1.toNatClampNeg 0) / q4.1), q4.2) else none) else (if ¬ q4.1 = 0 then some ((x0 / q4.1), q4.2) else none)))))) else none)
set_option maxRecDepth 20000 in
theorem t_X8_fractionPart {X : Nat × (Nat → Int32)} {G : Nat → Nat → Option Nat} (hG : fm_Gok G) {F : Nat}   {x0 : Int64} {x1 : Int32} {x2 : Int32} {μ : fm_M} {r : Int64 × fm_M} (hf : f_X8_fractionPart F x0 x1 x2 μ = some r) : ab_F 2 132 [.long x0, .int x1, .int x2] (hp X G μ) (some (.long r.1)) (hp X G r.2) := by
  unfold f_X8_fractionPart at hf
  refine ab_T.of (d := 1) rfl (Nat.le_of_ble_eq_true rfl) ?_
  show ab_U _ _ kX8_fractionPart (0, [some (.long x0), none, some (.int x1), some (.int x2), none, none, none, none], [], hp X G μ) _
  refine ab_U.run 2 (S' := (4, [some (.long x0), none, some (.int x1), some (.int x2), none, none, none, none], [.int x1, .ref 2], hp X G μ)) rfl ?_
  obtain ⟨c1, hf⟩ := ab_ifs hf
  refine ab_U.powers rfl c1 ?_
  show ab_U _ _ _ (5, [some (.long x0), none, some (.int x1), some (.int x2), none, none, none, none], [.long (ab_p10.getD x1.toNatClampNeg 0)], hp X G μ) _
  refine ab_U.run 4 (S' := (11, [some (.long x0), none, some (.int x1), some (.int x2), some (.long (ab_p10.getD x1.toNatClampNeg 0)), none, none, none], [.long (ab_p10.getD x1.toNatClampNeg 0), .long x0, .long (Int64.ofNat 1)], hp X G μ)) rfl ?_
  obtain ⟨q2, h3, hf⟩ := ab_bnd hf
  refine ab_U.fn rfl rfl (t_X8_commonDivisor (X := X) hG h3) (by omega) ?_
  show ab_U _ _ _ (14, [some (.long x0), none, some (.int x1), some (.int x2), some (.long (ab_p10.getD x1.toNatClampNeg 0)), none, none, none], [.long q2.1, .long (Int64.ofNat 1)], hp X G q2.2) _
  obtain ⟨q4, h5, hf⟩ := ab_bnd hf
  refine ab_U.fn rfl rfl (t_J9_max_f86c9 (X := X) hG h5) (by omega) ?_
  show ab_U _ _ _ (17, [some (.long x0), none, some (.int x1), some (.int x2), some (.long (ab_p10.getD x1.toNatClampNeg 0)), none, none, none], [.long q4.1], hp X G q4.2) _
  refine ab_U.run 2 (S' := (20, [some (.long x0), none, some (.int x1), some (.int x2), some (.long (ab_p10.getD x1.toNatClampNeg 0)), none, some (.long q4.1), none], [.int x2], hp X G q4.2)) rfl ?_
  refine ab_U.if_ne rfl (fun b6 => ?_) (fun b6 => ?_)
  · rw [if_pos b6] at hf
    refine ab_U.run 2 (S' := (31, [some (.long x0), none, some (.int x1), some (.int x2), some (.long (ab_p10.getD x1.toNatClampNeg 0)), none, some (.long q4.1), none], [.long q4.1, .long (ab_p10.getD x1.toNatClampNeg 0)], hp X G q4.2)) rfl ?_
    obtain ⟨c7, hf⟩ := ab_ifs hf
    refine ab_U.ldv rfl c7 ?_
    obtain rfl := Option.some.inj hf
    exact ab_U.ret rfl rfl ⟨rfl, rfl⟩
  · rw [if_neg b6] at hf
    refine ab_U.run 3 (S' := (31, [some (.long x0), none, some (.int x1), some (.int x2), some (.long (ab_p10.getD x1.toNatClampNeg 0)), none, some (.long q4.1), none], [.long q4.1, .long x0], hp X G q4.2)) rfl ?_
    obtain ⟨c8, hf⟩ := ab_ifs hf
    refine ab_U.ldv rfl c8 ?_
    obtain rfl := Option.some.inj hf
    exact ab_U.ret rfl rfl ⟨rfl, rfl⟩
set_option maxRecDepth 20000 in
def f_X8_lasts (F : Nat)  (x0 : Int32) (x1 : Int32) (x2 : Int32) (μ : fm_M) : Option (Int64 × fm_M) := (Option.bind (f_X7_hasStone F 101 x0 μ) (fun q1 => (if q1.1 = 0 then some ((Int64.ofNat 18446744073709551615), q1.2) else (Option.bind (f_X8_isIn F x1 0 6 q1.2) (fun q4 => (if q4.1 = 0 then some ((Int64.ofNat 18446744073709551615), q4.2) else (Option.bind (f_X8_isIn F x2 0 1 q4.2) (fun q7 => (if ¬ q7.1 = 0 then (if ab_in x0 5 = true then (Option.bind (f_X7_rateOf F 101 x0 q7.2) (fun q11 => (Option.bind (f_X8_weightOfWarm F 8 (q7.2.2.1 105 x0.toNatClampNeg) q11.1 (q11.2.1 101 9) x1 q11.2) (fun q13 => (Option.bind (f_X8_fractionPart F q13.1 x1 x2 q13.2) (fun q15 => some (q15.1, q15.2))))))) else none) else some ((Int64.ofNat 18446744073709551615), q7.2))))))))))
set_option maxRecDepth 20000 in
theorem t_X8_lasts {X : Nat × (Nat → Int32)} {G : Nat → Nat → Option Nat} (hG : fm_Gok G) {F : Nat}   {x0 : Int32} {x1 : Int32} {x2 : Int32} {μ : fm_M} {r : Int64 × fm_M} (hf : f_X8_lasts F x0 x1 x2 μ = some r) : ab_F 33 104 [.ref 100, .int x0, .int x1, .int x2] (hp X G μ) (some (.long r.1)) (hp X G r.2) := by
  unfold f_X8_lasts at hf
  refine ab_T.of (d := 32) rfl (Nat.le_of_ble_eq_true rfl) ?_
  show ab_U _ _ kX8_lasts (0, [some (.ref 100), some (.int x0), some (.int x1), some (.int x2)], [], hp X G μ) _
  refine ab_U.run 3 (S' := (5, [some (.ref 100), some (.int x0), some (.int x1), some (.int x2)], [.int x0, .ref 101], hp X G μ)) rfl ?_
  obtain ⟨q1, h2, hf⟩ := ab_bnd hf
  refine ab_U.fn rfl rfl (t_X7_hasStone (X := X) hG (by decide) h2) (by omega) ?_
  show ab_U _ _ _ (8, [some (.ref 100), some (.int x0), some (.int x1), some (.int x2)], [.int q1.1], hp X G q1.2) _
  refine ab_U.if_eq rfl (fun b3 => ?_) (fun b3 => ?_)
  · rw [if_pos b3] at hf
    refine ab_U.run 1 (S' := (33, [some (.ref 100), some (.int x0), some (.int x1), some (.int x2)], [.long (Int64.ofNat 18446744073709551615)], hp X G q1.2)) rfl ?_
    obtain rfl := Option.some.inj hf
    exact ab_U.ret rfl rfl ⟨rfl, rfl⟩
  · rw [if_neg b3] at hf
    refine ab_U.run 3 (S' := (15, [some (.ref 100), some (.int x0), some (.int x1), some (.int x2)], [.int 6, .int 0, .int x1], hp X G q1.2)) rfl ?_
    obtain ⟨q4, h5, hf⟩ := ab_bnd hf
    refine ab_U.fn rfl rfl (t_X8_isIn (X := X) hG h5) (by omega) ?_
    show ab_U _ _ _ (18, [some (.ref 100), some (.int x0), some (.int x1), some (.int x2)], [.int q4.1], hp X G q4.2) _
    refine ab_U.if_eq rfl (fun b6 => ?_) (fun b6 => ?_)
    · rw [if_pos b6] at hf
      refine ab_U.run 1 (S' := (33, [some (.ref 100), some (.int x0), some (.int x1), some (.int x2)], [.long (Int64.ofNat 18446744073709551615)], hp X G q4.2)) rfl ?_
      obtain rfl := Option.some.inj hf
      exact ab_U.ret rfl rfl ⟨rfl, rfl⟩
    · rw [if_neg b6] at hf
      refine ab_U.run 3 (S' := (24, [some (.ref 100), some (.int x0), some (.int x1), some (.int x2)], [.int 1, .int 0, .int x2], hp X G q4.2)) rfl ?_
      obtain ⟨q7, h8, hf⟩ := ab_bnd hf
      refine ab_U.fn rfl rfl (t_X8_isIn (X := X) hG h8) (by omega) ?_
      show ab_U _ _ _ (27, [some (.ref 100), some (.int x0), some (.int x1), some (.int x2)], [.int q7.1], hp X G q7.2) _
      refine ab_U.if_ne rfl (fun b9 => ?_) (fun b9 => ?_)
      · rw [if_pos b9] at hf
        refine ab_U.run 4 (S' := (42, [some (.ref 100), some (.int x0), some (.int x1), some (.int x2)], [.int x0, .ref 105], hp X G q7.2)) rfl ?_
        obtain ⟨c10, hf⟩ := ab_ifs hf
        refine ab_U.iald (n := 5) rfl ⟨by decide, rfl⟩ c10 ?_
        show ab_U _ _ _ (43, [some (.ref 100), some (.int x0), some (.int x1), some (.int x2)], [.int (q7.2.2.1 105 x0.toNatClampNeg)], hp X G q7.2) _
        refine ab_U.run 3 (S' := (48, [some (.ref 100), some (.int x0), some (.int x1), some (.int x2)], [.int x0, .ref 101, .int (q7.2.2.1 105 x0.toNatClampNeg)], hp X G q7.2)) rfl ?_
        obtain ⟨q11, h12, hf⟩ := ab_bnd hf
        refine ab_U.fn rfl rfl (t_X7_rateOf (X := X) hG (by decide) h12) (by omega) ?_
        show ab_U _ _ _ (51, [some (.ref 100), some (.int x0), some (.int x1), some (.int x2)], [.int q11.1, .int (q7.2.2.1 105 x0.toNatClampNeg)], hp X G q11.2) _
        refine ab_U.run 4 (S' := (59, [some (.ref 100), some (.int x0), some (.int x1), some (.int x2)], [.int x1, .int (q11.2.1 101 9), .int q11.1, .int (q7.2.2.1 105 x0.toNatClampNeg)], hp X G q11.2)) rfl ?_
        obtain ⟨q13, h14, hf⟩ := ab_bnd hf
        refine ab_U.fn rfl rfl (t_X8_weightOfWarm (X := X) hG h14) (by omega) ?_
        show ab_U _ _ _ (62, [some (.ref 100), some (.int x0), some (.int x1), some (.int x2)], [.long q13.1], hp X G q13.2) _
        refine ab_U.run 2 (S' := (64, [some (.ref 100), some (.int x0), some (.int x1), some (.int x2)], [.int x2, .int x1, .long q13.1], hp X G q13.2)) rfl ?_
        obtain ⟨q15, h16, hf⟩ := ab_bnd hf
        refine ab_U.fn rfl rfl (t_X8_fractionPart (X := X) hG h16) (by omega) ?_
        show ab_U _ _ _ (67, [some (.ref 100), some (.int x0), some (.int x1), some (.int x2)], [.long q15.1], hp X G q15.2) _
        obtain rfl := Option.some.inj hf
        exact ab_U.ret rfl rfl ⟨rfl, rfl⟩
      · rw [if_neg b9] at hf
        refine ab_U.run 1 (S' := (33, [some (.ref 100), some (.int x0), some (.int x1), some (.int x2)], [.long (Int64.ofNat 18446744073709551615)], hp X G q7.2)) rfl ?_
        obtain rfl := Option.some.inj hf
        exact ab_U.ret rfl rfl ⟨rfl, rfl⟩
set_option maxRecDepth 20000 in
def f0_X8_weightOfWarmth (F : Nat) (rec : Int32 → Int32 → Int32 → Int32 → fm_M → Option (Int64 × fm_M))  (x0 : Int32) (x1 : Int32) (x2 : Int32) (x3 : Int32) (μ : fm_M) : Option (Int64 × fm_M) := (if 0 < x3 then (Option.bind (f_X8_cooled F x0 x1 μ) (fun q2 => (Option.bind (f_X8_cooled F q2.1 x1 q2.2) (fun q4 => (Option.bind (rec q2.1 x1 x2 (x3 - 1) q4.2) (fun q6 => (Option.bind (rec q4.1 x1 x2 (x3 - 1) q6.2) (fun q8 => some (((((10 - x2)).toInt64 * q6.1) + ((x2).toInt64 * q8.1)), q8.2))))))))) else some ((x0).toInt64, μ))
def f_X8_weightOfWarmth (F : Nat) : Nat → Int32 → Int32 → Int32 → Int32 → fm_M → Option (Int64 × fm_M)
  | 0, _, _, _, _, _ => none
  | e + 1, x0, x1, x2, x3, μ => f0_X8_weightOfWarmth F (f_X8_weightOfWarmth F e) x0 x1 x2 x3 μ
set_option maxRecDepth 20000 in
theorem t0_X8_weightOfWarmth {X : Nat × (Nat → Int32)} {G : Nat → Nat → Option Nat} (hG : fm_Gok G) {F dr : Nat} {rec : Int32 → Int32 → Int32 → Int32 → fm_M → Option (Int64 × fm_M)} (hrec : ∀  {x0 : Int32} {x1 : Int32} {x2 : Int32} {x3 : Int32} {μ : fm_M} {r : Int64 × fm_M}, rec x0 x1 x2 x3 μ = some r → ab_F dr 129 [.int x0, .int x1, .int x2, .int x3] (hp X G μ) (some (.long r.1)) (hp X G r.2))   {x0 : Int32} {x1 : Int32} {x2 : Int32} {x3 : Int32} {μ : fm_M} {r : Int64 × fm_M} (hf : f0_X8_weightOfWarmth F rec x0 x1 x2 x3 μ = some r) : ab_F (dr + 4) 129 [.int x0, .int x1, .int x2, .int x3] (hp X G μ) (some (.long r.1)) (hp X G r.2) := by
  unfold f0_X8_weightOfWarmth at hf
  refine ab_T.of (d := dr + 3) rfl (Nat.le_of_ble_eq_true rfl) ?_
  show ab_U _ _ kX8_weightOfWarmth (0, [some (.int x0), some (.int x1), some (.int x2), some (.int x3), none, none], [], hp X G μ) _
  refine ab_U.run 1 (S' := (1, [some (.int x0), some (.int x1), some (.int x2), some (.int x3), none, none], [.int x3], hp X G μ)) rfl ?_
  refine ab_U.if_gt rfl (fun b1 => ?_) (fun b1 => ?_)
  · rw [if_pos b1] at hf
    refine ab_U.run 2 (S' := (9, [some (.int x0), some (.int x1), some (.int x2), some (.int x3), none, none], [.int x1, .int x0], hp X G μ)) rfl ?_
    obtain ⟨q2, h3, hf⟩ := ab_bnd hf
    refine ab_U.fn rfl rfl (t_X8_cooled (X := X) hG h3) (by omega) ?_
    show ab_U _ _ _ (12, [some (.int x0), some (.int x1), some (.int x2), some (.int x3), none, none], [.int q2.1], hp X G q2.2) _
    refine ab_U.run 3 (S' := (17, [some (.int x0), some (.int x1), some (.int x2), some (.int x3), some (.int q2.1), none], [.int x1, .int q2.1], hp X G q2.2)) rfl ?_
    obtain ⟨q4, h5, hf⟩ := ab_bnd hf
    refine ab_U.fn rfl rfl (t_X8_cooled (X := X) hG h5) (by omega) ?_
    show ab_U _ _ _ (20, [some (.int x0), some (.int x1), some (.int x2), some (.int x3), some (.int q2.1), none], [.int q4.1], hp X G q4.2) _
    refine ab_U.run 11 (S' := (34, [some (.int x0), some (.int x1), some (.int x2), some (.int x3), some (.int q2.1), some (.int q4.1)], [.int (x3 - 1), .int x2, .int x1, .int q2.1, .long ((10 - x2)).toInt64], hp X G q4.2)) rfl ?_
    obtain ⟨q6, h7, hf⟩ := ab_bnd hf
    refine ab_U.fn rfl rfl (hrec h7) (by omega) ?_
    show ab_U _ _ _ (37, [some (.int x0), some (.int x1), some (.int x2), some (.int x3), some (.int q2.1), some (.int q4.1)], [.long q6.1, .long ((10 - x2)).toInt64], hp X G q6.2) _
    refine ab_U.run 9 (S' := (47, [some (.int x0), some (.int x1), some (.int x2), some (.int x3), some (.int q2.1), some (.int q4.1)], [.int (x3 - 1), .int x2, .int x1, .int q4.1, .long (x2).toInt64, .long (((10 - x2)).toInt64 * q6.1)], hp X G q6.2)) rfl ?_
    obtain ⟨q8, h9, hf⟩ := ab_bnd hf
    refine ab_U.fn rfl rfl (hrec h9) (by omega) ?_
    show ab_U _ _ _ (50, [some (.int x0), some (.int x1), some (.int x2), some (.int x3), some (.int q2.1), some (.int q4.1)], [.long q8.1, .long (x2).toInt64, .long (((10 - x2)).toInt64 * q6.1)], hp X G q8.2) _
    refine ab_U.run 2 (S' := (52, [some (.int x0), some (.int x1), some (.int x2), some (.int x3), some (.int q2.1), some (.int q4.1)], [.long ((((10 - x2)).toInt64 * q6.1) + ((x2).toInt64 * q8.1))], hp X G q8.2)) rfl ?_
    obtain rfl := Option.some.inj hf
    exact ab_U.ret rfl rfl ⟨rfl, rfl⟩
  · rw [if_neg b1] at hf
    refine ab_U.run 2 (S' := (6, [some (.int x0), some (.int x1), some (.int x2), some (.int x3), none, none], [.long (x0).toInt64], hp X G μ)) rfl ?_
    obtain rfl := Option.some.inj hf
    exact ab_U.ret rfl rfl ⟨rfl, rfl⟩
theorem t_X8_weightOfWarmth {X : Nat × (Nat → Int32)} {G : Nat → Nat → Option Nat} (hG : fm_Gok G) {F e : Nat}   {x0 : Int32} {x1 : Int32} {x2 : Int32} {x3 : Int32} {μ : fm_M} {r : Int64 × fm_M} (hf : f_X8_weightOfWarmth F e x0 x1 x2 x3 μ = some r) : ab_F (4 * e) 129 [.int x0, .int x1, .int x2, .int x3] (hp X G μ) (some (.long r.1)) (hp X G r.2) := by
  induction e generalizing x0 x1 x2 x3 μ r with
  | zero => cases hf
  | succ e ih => exact t0_X8_weightOfWarmth (X := X) hG (dr := 4 * e) (rec := f_X8_weightOfWarmth F e) (fun  h9 => ih  h9)  hf
set_option maxRecDepth 20000 in
def f_X8_mean (F : Nat)  (x0 : Int32) (x1 : Int32) (x2 : Int32) (μ : fm_M) : Option (Int64 × fm_M) := (Option.bind (f_X7_hasStone F 101 x0 μ) (fun q1 => (if q1.1 = 0 then some ((Int64.ofNat 18446744073709551615), q1.2) else (Option.bind (f_X8_isIn F x1 0 6 q1.2) (fun q4 => (if q4.1 = 0 then some ((Int64.ofNat 18446744073709551615), q4.2) else (Option.bind (f_X8_isIn F x2 0 1 q4.2) (fun q7 => (if ¬ q7.1 = 0 then (if ab_in x0 5 = true then (Option.bind (f_X7_rateOf F 101 x0 q7.2) (fun q11 => (Option.bind (f_X8_weightOfWarmth F 8 (q7.2.2.1 105 x0.toNatClampNeg) q11.1 (q11.2.1 101 9) x1 q11.2) (fun q13 => (Option.bind (f_X8_fractionPart F q13.1 x1 x2 q13.2) (fun q15 => some (q15.1, q15.2))))))) else none) else some ((Int64.ofNat 18446744073709551615), q7.2))))))))))
set_option maxRecDepth 20000 in
theorem t_X8_mean {X : Nat × (Nat → Int32)} {G : Nat → Nat → Option Nat} (hG : fm_Gok G) {F : Nat}   {x0 : Int32} {x1 : Int32} {x2 : Int32} {μ : fm_M} {r : Int64 × fm_M} (hf : f_X8_mean F x0 x1 x2 μ = some r) : ab_F 33 105 [.ref 100, .int x0, .int x1, .int x2] (hp X G μ) (some (.long r.1)) (hp X G r.2) := by
  unfold f_X8_mean at hf
  refine ab_T.of (d := 32) rfl (Nat.le_of_ble_eq_true rfl) ?_
  show ab_U _ _ kX8_mean (0, [some (.ref 100), some (.int x0), some (.int x1), some (.int x2)], [], hp X G μ) _
  refine ab_U.run 3 (S' := (5, [some (.ref 100), some (.int x0), some (.int x1), some (.int x2)], [.int x0, .ref 101], hp X G μ)) rfl ?_
  obtain ⟨q1, h2, hf⟩ := ab_bnd hf
  refine ab_U.fn rfl rfl (t_X7_hasStone (X := X) hG (by decide) h2) (by omega) ?_
  show ab_U _ _ _ (8, [some (.ref 100), some (.int x0), some (.int x1), some (.int x2)], [.int q1.1], hp X G q1.2) _
  refine ab_U.if_eq rfl (fun b3 => ?_) (fun b3 => ?_)
  · rw [if_pos b3] at hf
    refine ab_U.run 1 (S' := (33, [some (.ref 100), some (.int x0), some (.int x1), some (.int x2)], [.long (Int64.ofNat 18446744073709551615)], hp X G q1.2)) rfl ?_
    obtain rfl := Option.some.inj hf
    exact ab_U.ret rfl rfl ⟨rfl, rfl⟩
  · rw [if_neg b3] at hf
    refine ab_U.run 3 (S' := (15, [some (.ref 100), some (.int x0), some (.int x1), some (.int x2)], [.int 6, .int 0, .int x1], hp X G q1.2)) rfl ?_
    obtain ⟨q4, h5, hf⟩ := ab_bnd hf
    refine ab_U.fn rfl rfl (t_X8_isIn (X := X) hG h5) (by omega) ?_
    show ab_U _ _ _ (18, [some (.ref 100), some (.int x0), some (.int x1), some (.int x2)], [.int q4.1], hp X G q4.2) _
    refine ab_U.if_eq rfl (fun b6 => ?_) (fun b6 => ?_)
    · rw [if_pos b6] at hf
      refine ab_U.run 1 (S' := (33, [some (.ref 100), some (.int x0), some (.int x1), some (.int x2)], [.long (Int64.ofNat 18446744073709551615)], hp X G q4.2)) rfl ?_
      obtain rfl := Option.some.inj hf
      exact ab_U.ret rfl rfl ⟨rfl, rfl⟩
    · rw [if_neg b6] at hf
      refine ab_U.run 3 (S' := (24, [some (.ref 100), some (.int x0), some (.int x1), some (.int x2)], [.int 1, .int 0, .int x2], hp X G q4.2)) rfl ?_
      obtain ⟨q7, h8, hf⟩ := ab_bnd hf
      refine ab_U.fn rfl rfl (t_X8_isIn (X := X) hG h8) (by omega) ?_
      show ab_U _ _ _ (27, [some (.ref 100), some (.int x0), some (.int x1), some (.int x2)], [.int q7.1], hp X G q7.2) _
      refine ab_U.if_ne rfl (fun b9 => ?_) (fun b9 => ?_)
      · rw [if_pos b9] at hf
        refine ab_U.run 4 (S' := (42, [some (.ref 100), some (.int x0), some (.int x1), some (.int x2)], [.int x0, .ref 105], hp X G q7.2)) rfl ?_
        obtain ⟨c10, hf⟩ := ab_ifs hf
        refine ab_U.iald (n := 5) rfl ⟨by decide, rfl⟩ c10 ?_
        show ab_U _ _ _ (43, [some (.ref 100), some (.int x0), some (.int x1), some (.int x2)], [.int (q7.2.2.1 105 x0.toNatClampNeg)], hp X G q7.2) _
        refine ab_U.run 3 (S' := (48, [some (.ref 100), some (.int x0), some (.int x1), some (.int x2)], [.int x0, .ref 101, .int (q7.2.2.1 105 x0.toNatClampNeg)], hp X G q7.2)) rfl ?_
        obtain ⟨q11, h12, hf⟩ := ab_bnd hf
        refine ab_U.fn rfl rfl (t_X7_rateOf (X := X) hG (by decide) h12) (by omega) ?_
        show ab_U _ _ _ (51, [some (.ref 100), some (.int x0), some (.int x1), some (.int x2)], [.int q11.1, .int (q7.2.2.1 105 x0.toNatClampNeg)], hp X G q11.2) _
        refine ab_U.run 4 (S' := (59, [some (.ref 100), some (.int x0), some (.int x1), some (.int x2)], [.int x1, .int (q11.2.1 101 9), .int q11.1, .int (q7.2.2.1 105 x0.toNatClampNeg)], hp X G q11.2)) rfl ?_
        obtain ⟨q13, h14, hf⟩ := ab_bnd hf
        refine ab_U.fn rfl rfl (t_X8_weightOfWarmth (X := X) hG h14) (by omega) ?_
        show ab_U _ _ _ (62, [some (.ref 100), some (.int x0), some (.int x1), some (.int x2)], [.long q13.1], hp X G q13.2) _
        refine ab_U.run 2 (S' := (64, [some (.ref 100), some (.int x0), some (.int x1), some (.int x2)], [.int x2, .int x1, .long q13.1], hp X G q13.2)) rfl ?_
        obtain ⟨q15, h16, hf⟩ := ab_bnd hf
        refine ab_U.fn rfl rfl (t_X8_fractionPart (X := X) hG h16) (by omega) ?_
        show ab_U _ _ _ (67, [some (.ref 100), some (.int x0), some (.int x1), some (.int x2)], [.long q15.1], hp X G q15.2) _
        obtain rfl := Option.some.inj hf
        exact ab_U.ret rfl rfl ⟨rfl, rfl⟩
      · rw [if_neg b9] at hf
        refine ab_U.run 1 (S' := (33, [some (.ref 100), some (.int x0), some (.int x1), some (.int x2)], [.long (Int64.ofNat 18446744073709551615)], hp X G q7.2)) rfl ?_
        obtain rfl := Option.some.inj hf
        exact ab_U.ret rfl rfl ⟨rfl, rfl⟩
set_option maxRecDepth 20000 in
def f_X8_weightBoughtLater (F : Nat) (rec : Int32 → Int32 → Int32 → fm_M → Option (Int64 × fm_M))  (x1 : Int32) (x2 : Int32) (x3 : Int32) (μ : fm_M) : Option (Int64 × fm_M) := (Option.bind (f_X8_cooled F x1 x2 μ) (fun q1 => (Option.bind (f_X8_cooled F q1.1 x2 q1.2) (fun q3 => (Option.bind (rec q1.1 x2 (x3 + 1) q3.2) (fun q5 => (Option.bind (rec q3.1 x2 (x3 + 1) q5.2) (fun q7 => some (((((10 - (q3.2.1 101 9))).toInt64 * q5.1) + (((q5.2.1 101 9)).toInt64 * q7.1)), q7.2)))))))))
set_option maxRecDepth 20000 in
theorem t_X8_weightBoughtLater {X : Nat × (Nat → Int32)} {G : Nat → Nat → Option Nat} (hG : fm_Gok G) {F dr : Nat} {rec : Int32 → Int32 → Int32 → fm_M → Option (Int64 × fm_M)} (hrec : ∀  {x1 : Int32} {x2 : Int32} {x3 : Int32} {μ : fm_M} {r : Int64 × fm_M}, rec x1 x2 x3 μ = some r → ab_F dr 130 [.ref 101, .int x1, .int x2, .int x3] (hp X G μ) (some (.long r.1)) (hp X G r.2))   {x1 : Int32} {x2 : Int32} {x3 : Int32} {μ : fm_M} {r : Int64 × fm_M} (hf : f_X8_weightBoughtLater F rec x1 x2 x3 μ = some r) : ab_F (dr + 3) 131 [.ref 101, .int x1, .int x2, .int x3] (hp X G μ) (some (.long r.1)) (hp X G r.2) := by
  unfold f_X8_weightBoughtLater at hf
  refine ab_T.of (d := (dr + 2)) rfl (Nat.le_of_ble_eq_true rfl) ?_
  show ab_U _ _ kX8_weightBoughtLater (0, [some (.ref 101), some (.int x1), some (.int x2), some (.int x3), none, none], [], hp X G μ) _
  refine ab_U.run 2 (S' := (2, [some (.ref 101), some (.int x1), some (.int x2), some (.int x3), none, none], [.int x2, .int x1], hp X G μ)) rfl ?_
  obtain ⟨q1, h2, hf⟩ := ab_bnd hf
  refine ab_U.fn rfl rfl (t_X8_cooled (X := X) hG h2) (by omega) ?_
  show ab_U _ _ _ (5, [some (.ref 101), some (.int x1), some (.int x2), some (.int x3), none, none], [.int q1.1], hp X G q1.2) _
  refine ab_U.run 3 (S' := (10, [some (.ref 101), some (.int x1), some (.int x2), some (.int x3), some (.int q1.1), none], [.int x2, .int q1.1], hp X G q1.2)) rfl ?_
  obtain ⟨q3, h4, hf⟩ := ab_bnd hf
  refine ab_U.fn rfl rfl (t_X8_cooled (X := X) hG h4) (by omega) ?_
  show ab_U _ _ _ (13, [some (.ref 101), some (.int x1), some (.int x2), some (.int x3), some (.int q1.1), none], [.int q3.1], hp X G q3.2) _
  refine ab_U.run 12 (S' := (30, [some (.ref 101), some (.int x1), some (.int x2), some (.int x3), some (.int q1.1), some (.int q3.1)], [.int (x3 + 1), .int x2, .int q1.1, .ref 101, .long ((10 - (q3.2.1 101 9))).toInt64], hp X G q3.2)) rfl ?_
  obtain ⟨q5, h6, hf⟩ := ab_bnd hf
  refine ab_U.fn rfl rfl (hrec h6) (by omega) ?_
  show ab_U _ _ _ (33, [some (.ref 101), some (.int x1), some (.int x2), some (.int x3), some (.int q1.1), some (.int q3.1)], [.long q5.1, .long ((10 - (q3.2.1 101 9))).toInt64], hp X G q5.2) _
  refine ab_U.run 10 (S' := (46, [some (.ref 101), some (.int x1), some (.int x2), some (.int x3), some (.int q1.1), some (.int q3.1)], [.int (x3 + 1), .int x2, .int q3.1, .ref 101, .long ((q5.2.1 101 9)).toInt64, .long (((10 - (q3.2.1 101 9))).toInt64 * q5.1)], hp X G q5.2)) rfl ?_
  obtain ⟨q7, h8, hf⟩ := ab_bnd hf
  refine ab_U.fn rfl rfl (hrec h8) (by omega) ?_
  show ab_U _ _ _ (49, [some (.ref 101), some (.int x1), some (.int x2), some (.int x3), some (.int q1.1), some (.int q3.1)], [.long q7.1, .long ((q5.2.1 101 9)).toInt64, .long (((10 - (q3.2.1 101 9))).toInt64 * q5.1)], hp X G q7.2) _
  refine ab_U.run 2 (S' := (51, [some (.ref 101), some (.int x1), some (.int x2), some (.int x3), some (.int q1.1), some (.int q3.1)], [.long ((((10 - (q3.2.1 101 9))).toInt64 * q5.1) + (((q5.2.1 101 9)).toInt64 * q7.1))], hp X G q7.2)) rfl ?_
  obtain rfl := Option.some.inj hf
  exact ab_U.ret rfl rfl ⟨rfl, rfl⟩
set_option maxRecDepth 20000 in
def f0_X8_weightBought (F : Nat) (rec : Int32 → Int32 → Int32 → fm_M → Option (Int64 × fm_M))  (x1 : Int32) (x2 : Int32) (x3 : Int32) (μ : fm_M) : Option (Int64 × fm_M) := (if x3 < 5 then (Option.bind (f_X7_boughtFor F 101 x1 x3 μ) (fun q2 => (if ab_in (5 - x3) 7 = true then (Option.bind (f_X8_weightBoughtLater F rec x1 x2 x3 q2.2) (fun q5 => (Option.bind (f_J9_max_f86c9 F ((q2.1).toInt64 * (ab_p10.getD (5 - x3).toNatClampNeg 0)) q5.1 q5.2) (fun q7 => some (q7.1, q7.2))))) else none))) else (Option.bind (f_X7_boughtFor F 101 x1 5 μ) (fun q9 => some ((q9.1).toInt64, q9.2))))
def f_X8_weightBought (F : Nat) : Nat → Int32 → Int32 → Int32 → fm_M → Option (Int64 × fm_M)
  | 0, _, _, _, _ => none
  | e + 1, x1, x2, x3, μ => f0_X8_weightBought F (f_X8_weightBought F e) x1 x2 x3 μ
set_option maxRecDepth 20000 in
theorem t0_X8_weightBought {X : Nat × (Nat → Int32)} {G : Nat → Nat → Option Nat} (hG : fm_Gok G) {F dr : Nat} {rec : Int32 → Int32 → Int32 → fm_M → Option (Int64 × fm_M)} (hrec : ∀  {x1 : Int32} {x2 : Int32} {x3 : Int32} {μ : fm_M} {r : Int64 × fm_M}, rec x1 x2 x3 μ = some r → ab_F dr 130 [.ref 101, .int x1, .int x2, .int x3] (hp X G μ) (some (.long r.1)) (hp X G r.2))   {x1 : Int32} {x2 : Int32} {x3 : Int32} {μ : fm_M} {r : Int64 × fm_M} (hf : f0_X8_weightBought F rec x1 x2 x3 μ = some r) : ab_F (dr + 5) 130 [.ref 101, .int x1, .int x2, .int x3] (hp X G μ) (some (.long r.1)) (hp X G r.2) := by
  unfold f0_X8_weightBought at hf
  refine ab_T.of (d := dr + 4) rfl (Nat.le_of_ble_eq_true rfl) ?_
  show ab_U _ _ kX8_weightBought (0, [some (.ref 101), some (.int x1), some (.int x2), some (.int x3), none, none], [], hp X G μ) _
  refine ab_U.run 2 (S' := (2, [some (.ref 101), some (.int x1), some (.int x2), some (.int x3), none, none], [.int 5, .int x3], hp X G μ)) rfl ?_
  refine ab_U.ic_lt rfl (fun b1 => ?_) (fun b1 => ?_)
  · rw [if_pos b1] at hf
    refine ab_U.run 3 (S' := (16, [some (.ref 101), some (.int x1), some (.int x2), some (.int x3), none, none], [.int x3, .int x1, .ref 101], hp X G μ)) rfl ?_
    obtain ⟨q2, h3, hf⟩ := ab_bnd hf
    refine ab_U.fn rfl rfl (t_X7_boughtFor (X := X) hG (by decide) h3) (by omega) ?_
    show ab_U _ _ _ (19, [some (.ref 101), some (.int x1), some (.int x2), some (.int x3), none, none], [.int q2.1], hp X G q2.2) _
    refine ab_U.run 5 (S' := (26, [some (.ref 101), some (.int x1), some (.int x2), some (.int x3), none, none], [.int (5 - x3), .ref 2, .long (q2.1).toInt64], hp X G q2.2)) rfl ?_
    obtain ⟨c4, hf⟩ := ab_ifs hf
    refine ab_U.powers rfl c4 ?_
    show ab_U _ _ _ (27, [some (.ref 101), some (.int x1), some (.int x2), some (.int x3), none, none], [.long (ab_p10.getD (5 - x3).toNatClampNeg 0), .long (q2.1).toInt64], hp X G q2.2) _
    refine ab_U.run 7 (S' := (36, [some (.ref 101), some (.int x1), some (.int x2), some (.int x3), some (.long ((q2.1).toInt64 * (ab_p10.getD (5 - x3).toNatClampNeg 0))), none], [.int x3, .int x2, .int x1, .ref 101, .long ((q2.1).toInt64 * (ab_p10.getD (5 - x3).toNatClampNeg 0))], hp X G q2.2)) rfl ?_
    obtain ⟨q5, h6, hf⟩ := ab_bnd hf
    refine ab_U.fn rfl rfl (t_X8_weightBoughtLater (X := X) hG (hrec) h6) (by omega) ?_
    show ab_U _ _ _ (39, [some (.ref 101), some (.int x1), some (.int x2), some (.int x3), some (.long ((q2.1).toInt64 * (ab_p10.getD (5 - x3).toNatClampNeg 0))), none], [.long q5.1, .long ((q2.1).toInt64 * (ab_p10.getD (5 - x3).toNatClampNeg 0))], hp X G q5.2) _
    obtain ⟨q7, h8, hf⟩ := ab_bnd hf
    refine ab_U.fn rfl rfl (t_J9_max_f86c9 (X := X) hG h8) (by omega) ?_
    show ab_U _ _ _ (42, [some (.ref 101), some (.int x1), some (.int x2), some (.int x3), some (.long ((q2.1).toInt64 * (ab_p10.getD (5 - x3).toNatClampNeg 0))), none], [.long q7.1], hp X G q7.2) _
    obtain rfl := Option.some.inj hf
    exact ab_U.ret rfl rfl ⟨rfl, rfl⟩
  · rw [if_neg b1] at hf
    refine ab_U.run 3 (S' := (8, [some (.ref 101), some (.int x1), some (.int x2), some (.int x3), none, none], [.int 5, .int x1, .ref 101], hp X G μ)) rfl ?_
    obtain ⟨q9, h10, hf⟩ := ab_bnd hf
    refine ab_U.fn rfl rfl (t_X7_boughtFor (X := X) hG (by decide) h10) (by omega) ?_
    show ab_U _ _ _ (11, [some (.ref 101), some (.int x1), some (.int x2), some (.int x3), none, none], [.int q9.1], hp X G q9.2) _
    refine ab_U.run 1 (S' := (12, [some (.ref 101), some (.int x1), some (.int x2), some (.int x3), none, none], [.long (q9.1).toInt64], hp X G q9.2)) rfl ?_
    obtain rfl := Option.some.inj hf
    exact ab_U.ret rfl rfl ⟨rfl, rfl⟩
theorem t_X8_weightBought {X : Nat × (Nat → Int32)} {G : Nat → Nat → Option Nat} (hG : fm_Gok G) {F e : Nat}   {x1 : Int32} {x2 : Int32} {x3 : Int32} {μ : fm_M} {r : Int64 × fm_M} (hf : f_X8_weightBought F e x1 x2 x3 μ = some r) : ab_F (5 * e) 130 [.ref 101, .int x1, .int x2, .int x3] (hp X G μ) (some (.long r.1)) (hp X G r.2) := by
  induction e generalizing x1 x2 x3 μ r with
  | zero => cases hf
  | succ e ih => exact t0_X8_weightBought (X := X) hG (dr := 5 * e) (rec := f_X8_weightBought F e) (fun  h9 => ih  h9)  hf
set_option maxRecDepth 20000 in
def f_X8_spend (F : Nat)  (x0 : Int32) (x1 : Int32) (μ : fm_M) : Option (Int64 × fm_M) := (Option.bind (f_X7_hasStone F 101 x0 μ) (fun q1 => (if q1.1 = 0 then some ((Int64.ofNat 18446744073709551615), q1.2) else (Option.bind (f_X8_isIn F x1 0 2 q1.2) (fun q4 => (if ¬ q4.1 = 0 then (if ab_in x0 5 = true then (Option.bind (f_X7_rateOf F 101 x0 q4.2) (fun q8 => (Option.bind (f_X7_boughtFor F 101 (q4.2.2.1 105 x0.toNatClampNeg) 0 q8.2) (fun q10 => (if ab_in 5 7 = true then (Option.bind (f_X8_weightBoughtLater F (f_X8_weightBought F 8) (q4.2.2.1 105 x0.toNatClampNeg) q8.1 0 q10.2) (fun q13 => (if ¬ x1 = 2 then (Option.bind (f_J9_max_f86c9 F ((q10.1).toInt64 * (ab_p10.getD (5 : Int32).toNatClampNeg 0)) q13.1 q13.2) (fun q16 => (Option.bind (f_X8_fractionPart F q16.1 5 x1 q16.2) (fun q18 => some (q18.1, q18.2))))) else (if (lg_cmp ((q10.1).toInt64 * (ab_p10.getD (5 : Int32).toNatClampNeg 0)) q13.1) < 0 then some ((Int64.ofNat 0), q13.2) else some ((Int64.ofNat 1), q13.2))))) else none))))) else none) else some ((Int64.ofNat 18446744073709551615), q4.2)))))))
set_option maxRecDepth 20000 in
theorem t_X8_spend {X : Nat × (Nat → Int32)} {G : Nat → Nat → Option Nat} (hG : fm_Gok G) {F : Nat}   {x0 : Int32} {x1 : Int32} {μ : fm_M} {r : Int64 × fm_M} (hf : f_X8_spend F x0 x1 μ = some r) : ab_F 44 106 [.ref 100, .int x0, .int x1] (hp X G μ) (some (.long r.1)) (hp X G r.2) := by
  unfold f_X8_spend at hf
  refine ab_T.of (d := 43) rfl (Nat.le_of_ble_eq_true rfl) ?_
  show ab_U _ _ kX8_spend (0, [some (.ref 100), some (.int x0), some (.int x1), none, none, none, none, none, none], [], hp X G μ) _
  refine ab_U.run 3 (S' := (5, [some (.ref 100), some (.int x0), some (.int x1), none, none, none, none, none, none], [.int x0, .ref 101], hp X G μ)) rfl ?_
  obtain ⟨q1, h2, hf⟩ := ab_bnd hf
  refine ab_U.fn rfl rfl (t_X7_hasStone (X := X) hG (by decide) h2) (by omega) ?_
  show ab_U _ _ _ (8, [some (.ref 100), some (.int x0), some (.int x1), none, none, none, none, none, none], [.int q1.1], hp X G q1.2) _
  refine ab_U.if_eq rfl (fun b3 => ?_) (fun b3 => ?_)
  · rw [if_pos b3] at hf
    refine ab_U.run 1 (S' := (23, [some (.ref 100), some (.int x0), some (.int x1), none, none, none, none, none, none], [.long (Int64.ofNat 18446744073709551615)], hp X G q1.2)) rfl ?_
    obtain rfl := Option.some.inj hf
    exact ab_U.ret rfl rfl ⟨rfl, rfl⟩
  · rw [if_neg b3] at hf
    refine ab_U.run 3 (S' := (14, [some (.ref 100), some (.int x0), some (.int x1), none, none, none, none, none, none], [.int 2, .int 0, .int x1], hp X G q1.2)) rfl ?_
    obtain ⟨q4, h5, hf⟩ := ab_bnd hf
    refine ab_U.fn rfl rfl (t_X8_isIn (X := X) hG h5) (by omega) ?_
    show ab_U _ _ _ (17, [some (.ref 100), some (.int x0), some (.int x1), none, none, none, none, none, none], [.int q4.1], hp X G q4.2) _
    refine ab_U.if_ne rfl (fun b6 => ?_) (fun b6 => ?_)
    · rw [if_pos b6] at hf
      refine ab_U.run 4 (S' := (32, [some (.ref 100), some (.int x0), some (.int x1), none, none, none, none, none, none], [.int x0, .ref 105], hp X G q4.2)) rfl ?_
      obtain ⟨c7, hf⟩ := ab_ifs hf
      refine ab_U.iald (n := 5) rfl ⟨by decide, rfl⟩ c7 ?_
      show ab_U _ _ _ (33, [some (.ref 100), some (.int x0), some (.int x1), none, none, none, none, none, none], [.int (q4.2.2.1 105 x0.toNatClampNeg)], hp X G q4.2) _
      refine ab_U.run 4 (S' := (39, [some (.ref 100), some (.int x0), some (.int x1), some (.int (q4.2.2.1 105 x0.toNatClampNeg)), none, none, none, none, none], [.int x0, .ref 101], hp X G q4.2)) rfl ?_
      obtain ⟨q8, h9, hf⟩ := ab_bnd hf
      refine ab_U.fn rfl rfl (t_X7_rateOf (X := X) hG (by decide) h9) (by omega) ?_
      show ab_U _ _ _ (42, [some (.ref 100), some (.int x0), some (.int x1), some (.int (q4.2.2.1 105 x0.toNatClampNeg)), none, none, none, none, none], [.int q8.1], hp X G q8.2) _
      refine ab_U.run 5 (S' := (50, [some (.ref 100), some (.int x0), some (.int x1), some (.int (q4.2.2.1 105 x0.toNatClampNeg)), some (.int q8.1), none, none, none, none], [.int 0, .int (q4.2.2.1 105 x0.toNatClampNeg), .ref 101], hp X G q8.2)) rfl ?_
      obtain ⟨q10, h11, hf⟩ := ab_bnd hf
      refine ab_U.fn rfl rfl (t_X7_boughtFor (X := X) hG (by decide) h11) (by omega) ?_
      show ab_U _ _ _ (53, [some (.ref 100), some (.int x0), some (.int x1), some (.int (q4.2.2.1 105 x0.toNatClampNeg)), some (.int q8.1), none, none, none, none], [.int q10.1], hp X G q10.2) _
      refine ab_U.run 3 (S' := (58, [some (.ref 100), some (.int x0), some (.int x1), some (.int (q4.2.2.1 105 x0.toNatClampNeg)), some (.int q8.1), none, none, none, none], [.int 5, .ref 2, .long (q10.1).toInt64], hp X G q10.2)) rfl ?_
      obtain ⟨c12, hf⟩ := ab_ifs hf
      refine ab_U.powers rfl c12 ?_
      show ab_U _ _ _ (59, [some (.ref 100), some (.int x0), some (.int x1), some (.int (q4.2.2.1 105 x0.toNatClampNeg)), some (.int q8.1), none, none, none, none], [.long (ab_p10.getD (5 : Int32).toNatClampNeg 0), .long (q10.1).toInt64], hp X G q10.2) _
      refine ab_U.run 7 (S' := (70, [some (.ref 100), some (.int x0), some (.int x1), some (.int (q4.2.2.1 105 x0.toNatClampNeg)), some (.int q8.1), some (.long ((q10.1).toInt64 * (ab_p10.getD (5 : Int32).toNatClampNeg 0))), none, none, none], [.int 0, .int q8.1, .int (q4.2.2.1 105 x0.toNatClampNeg), .ref 101], hp X G q10.2)) rfl ?_
      obtain ⟨q13, h14, hf⟩ := ab_bnd hf
      refine ab_U.fn rfl rfl (t_X8_weightBoughtLater (X := X) hG (fun h9 => t_X8_weightBought (X := X) hG h9) h14) (by omega) ?_
      show ab_U _ _ _ (73, [some (.ref 100), some (.int x0), some (.int x1), some (.int (q4.2.2.1 105 x0.toNatClampNeg)), some (.int q8.1), some (.long ((q10.1).toInt64 * (ab_p10.getD (5 : Int32).toNatClampNeg 0))), none, none, none], [.long q13.1], hp X G q13.2) _
      refine ab_U.run 3 (S' := (77, [some (.ref 100), some (.int x0), some (.int x1), some (.int (q4.2.2.1 105 x0.toNatClampNeg)), some (.int q8.1), some (.long ((q10.1).toInt64 * (ab_p10.getD (5 : Int32).toNatClampNeg 0))), none, some (.long q13.1), none], [.int 2, .int x1], hp X G q13.2)) rfl ?_
      refine ab_U.ic_ne rfl (fun b15 => ?_) (fun b15 => ?_)
      · rw [if_pos b15] at hf
        refine ab_U.run 2 (S' := (98, [some (.ref 100), some (.int x0), some (.int x1), some (.int (q4.2.2.1 105 x0.toNatClampNeg)), some (.int q8.1), some (.long ((q10.1).toInt64 * (ab_p10.getD (5 : Int32).toNatClampNeg 0))), none, some (.long q13.1), none], [.long q13.1, .long ((q10.1).toInt64 * (ab_p10.getD (5 : Int32).toNatClampNeg 0))], hp X G q13.2)) rfl ?_
        obtain ⟨q16, h17, hf⟩ := ab_bnd hf
        refine ab_U.fn rfl rfl (t_J9_max_f86c9 (X := X) hG h17) (by omega) ?_
        show ab_U _ _ _ (101, [some (.ref 100), some (.int x0), some (.int x1), some (.int (q4.2.2.1 105 x0.toNatClampNeg)), some (.int q8.1), some (.long ((q10.1).toInt64 * (ab_p10.getD (5 : Int32).toNatClampNeg 0))), none, some (.long q13.1), none], [.long q16.1], hp X G q16.2) _
        refine ab_U.run 2 (S' := (103, [some (.ref 100), some (.int x0), some (.int x1), some (.int (q4.2.2.1 105 x0.toNatClampNeg)), some (.int q8.1), some (.long ((q10.1).toInt64 * (ab_p10.getD (5 : Int32).toNatClampNeg 0))), none, some (.long q13.1), none], [.int x1, .int 5, .long q16.1], hp X G q16.2)) rfl ?_
        obtain ⟨q18, h19, hf⟩ := ab_bnd hf
        refine ab_U.fn rfl rfl (t_X8_fractionPart (X := X) hG h19) (by omega) ?_
        show ab_U _ _ _ (106, [some (.ref 100), some (.int x0), some (.int x1), some (.int (q4.2.2.1 105 x0.toNatClampNeg)), some (.int q8.1), some (.long ((q10.1).toInt64 * (ab_p10.getD (5 : Int32).toNatClampNeg 0))), none, some (.long q13.1), none], [.long q18.1], hp X G q18.2) _
        obtain rfl := Option.some.inj hf
        exact ab_U.ret rfl rfl ⟨rfl, rfl⟩
      · rw [if_neg b15] at hf
        refine ab_U.run 3 (S' := (85, [some (.ref 100), some (.int x0), some (.int x1), some (.int (q4.2.2.1 105 x0.toNatClampNeg)), some (.int q8.1), some (.long ((q10.1).toInt64 * (ab_p10.getD (5 : Int32).toNatClampNeg 0))), none, some (.long q13.1), none], [.int (lg_cmp ((q10.1).toInt64 * (ab_p10.getD (5 : Int32).toNatClampNeg 0)) q13.1)], hp X G q13.2)) rfl ?_
        refine ab_U.if_lt rfl (fun b20 => ?_) (fun b20 => ?_)
        · rw [if_pos b20] at hf
          refine ab_U.run 1 (S' := (93, [some (.ref 100), some (.int x0), some (.int x1), some (.int (q4.2.2.1 105 x0.toNatClampNeg)), some (.int q8.1), some (.long ((q10.1).toInt64 * (ab_p10.getD (5 : Int32).toNatClampNeg 0))), none, some (.long q13.1), none], [.long (Int64.ofNat 0)], hp X G q13.2)) rfl ?_
          obtain rfl := Option.some.inj hf
          exact ab_U.ret rfl rfl ⟨rfl, rfl⟩
        · rw [if_neg b20] at hf
          refine ab_U.run 2 (S' := (93, [some (.ref 100), some (.int x0), some (.int x1), some (.int (q4.2.2.1 105 x0.toNatClampNeg)), some (.int q8.1), some (.long ((q10.1).toInt64 * (ab_p10.getD (5 : Int32).toNatClampNeg 0))), none, some (.long q13.1), none], [.long (Int64.ofNat 1)], hp X G q13.2)) rfl ?_
          obtain rfl := Option.some.inj hf
          exact ab_U.ret rfl rfl ⟨rfl, rfl⟩
    · rw [if_neg b6] at hf
      refine ab_U.run 1 (S' := (23, [some (.ref 100), some (.int x0), some (.int x1), none, none, none, none, none, none], [.long (Int64.ofNat 18446744073709551615)], hp X G q4.2)) rfl ?_
      obtain rfl := Option.some.inj hf
      exact ab_U.ret rfl rfl ⟨rfl, rfl⟩
set_option maxRecDepth 20000 in
def f_X8_see (F : Nat)  (x0 : Int32) (x1 : Int32) (μ : fm_M) : Option (Int32 × fm_M) := (Option.bind (f_X8_isIn F x0 0 20 μ) (fun q1 => (if q1.1 = 0 then some ((-1), q1.2) else (Option.bind (f_X8_isIn F x1 0 99 q1.2) (fun q4 => (if ¬ q4.1 = 0 then (Option.bind (f_X4_append F x0 x1 q4.2) (fun q7 => (if q7.1 = 0 then some ((-3), q7.2) else some ((q7.2.1 125 0), q7.2)))) else some ((-1), q4.2)))))))
set_option maxRecDepth 20000 in
theorem t_X8_see {X : Nat × (Nat → Int32)} {G : Nat → Nat → Option Nat} (hG : fm_Gok G) {F : Nat}   {x0 : Int32} {x1 : Int32} {μ : fm_M} {r : Int32 × fm_M} (hf : f_X8_see F x0 x1 μ = some r) : ab_F 2 107 [.ref 100, .int x0, .int x1] (hp X G μ) (some (.int r.1)) (hp X G r.2) := by
  unfold f_X8_see at hf
  refine ab_T.of (d := 1) rfl (Nat.le_of_ble_eq_true rfl) ?_
  show ab_U _ _ kX8_see (0, [some (.ref 100), some (.int x0), some (.int x1)], [], hp X G μ) _
  refine ab_U.run 3 (S' := (4, [some (.ref 100), some (.int x0), some (.int x1)], [.int 20, .int 0, .int x0], hp X G μ)) rfl ?_
  obtain ⟨q1, h2, hf⟩ := ab_bnd hf
  refine ab_U.fn rfl rfl (t_X8_isIn (X := X) hG h2) (by omega) ?_
  show ab_U _ _ _ (7, [some (.ref 100), some (.int x0), some (.int x1)], [.int q1.1], hp X G q1.2) _
  refine ab_U.if_eq rfl (fun b3 => ?_) (fun b3 => ?_)
  · rw [if_pos b3] at hf
    refine ab_U.run 1 (S' := (21, [some (.ref 100), some (.int x0), some (.int x1)], [.int (-1)], hp X G q1.2)) rfl ?_
    obtain rfl := Option.some.inj hf
    exact ab_U.ret rfl rfl ⟨rfl, rfl⟩
  · rw [if_neg b3] at hf
    refine ab_U.run 3 (S' := (14, [some (.ref 100), some (.int x0), some (.int x1)], [.int 99, .int 0, .int x1], hp X G q1.2)) rfl ?_
    obtain ⟨q4, h5, hf⟩ := ab_bnd hf
    refine ab_U.fn rfl rfl (t_X8_isIn (X := X) hG h5) (by omega) ?_
    show ab_U _ _ _ (17, [some (.ref 100), some (.int x0), some (.int x1)], [.int q4.1], hp X G q4.2) _
    refine ab_U.if_ne rfl (fun b6 => ?_) (fun b6 => ?_)
    · rw [if_pos b6] at hf
      refine ab_U.run 4 (S' := (28, [some (.ref 100), some (.int x0), some (.int x1)], [.int x1, .int x0, .ref 125], hp X G q4.2)) rfl ?_
      obtain ⟨q7, h8, hf⟩ := ab_bnd hf
      refine ab_U.fn rfl rfl (t_X4_append (X := X) hG h8) (by omega) ?_
      show ab_U _ _ _ (31, [some (.ref 100), some (.int x0), some (.int x1)], [.int q7.1], hp X G q7.2) _
      refine ab_U.if_eq rfl (fun b9 => ?_) (fun b9 => ?_)
      · rw [if_pos b9] at hf
        refine ab_U.run 1 (S' := (46, [some (.ref 100), some (.int x0), some (.int x1)], [.int (-3)], hp X G q7.2)) rfl ?_
        obtain rfl := Option.some.inj hf
        exact ab_U.ret rfl rfl ⟨rfl, rfl⟩
      · rw [if_neg b9] at hf
        refine ab_U.run 4 (S' := (46, [some (.ref 100), some (.int x0), some (.int x1)], [.int (q7.2.1 125 0)], hp X G q7.2)) rfl ?_
        obtain rfl := Option.some.inj hf
        exact ab_U.ret rfl rfl ⟨rfl, rfl⟩
    · rw [if_neg b6] at hf
      refine ab_U.run 1 (S' := (21, [some (.ref 100), some (.int x0), some (.int x1)], [.int (-1)], hp X G q4.2)) rfl ?_
      obtain rfl := Option.some.inj hf
      exact ab_U.ret rfl rfl ⟨rfl, rfl⟩
set_option maxRecDepth 20000 in
def f_X8_forget (F : Nat)  (x0 : Int32) (μ : fm_M) : Option (Int32 × fm_M) := (Option.bind (f_X8_isIn F x0 0 (μ.1 125 0) μ) (fun q1 => (if ¬ q1.1 = 0 then (Option.bind (some (fm_sI q1.2 125 0 x0)) (fun m4 => some ((q1.2.1 125 0), m4))) else some ((-1), q1.2))))
set_option maxRecDepth 20000 in
theorem t_X8_forget {X : Nat × (Nat → Int32)} {G : Nat → Nat → Option Nat} (hG : fm_Gok G) {F : Nat}   {x0 : Int32} {μ : fm_M} {r : Int32 × fm_M} (hf : f_X8_forget F x0 μ = some r) : ab_F 2 108 [.ref 100, .int x0] (hp X G μ) (some (.int r.1)) (hp X G r.2) := by
  unfold f_X8_forget at hf
  refine ab_T.of (d := 1) rfl (Nat.le_of_ble_eq_true rfl) ?_
  show ab_U _ _ kX8_forget (0, [some (.ref 100), some (.int x0), none], [], hp X G μ) _
  refine ab_U.run 5 (S' := (9, [some (.ref 100), some (.int x0), none], [.int (μ.1 125 0), .int 0, .int x0], hp X G μ)) rfl ?_
  obtain ⟨q1, h2, hf⟩ := ab_bnd hf
  refine ab_U.fn rfl rfl (t_X8_isIn (X := X) hG h2) (by omega) ?_
  show ab_U _ _ _ (12, [some (.ref 100), some (.int x0), none], [.int q1.1], hp X G q1.2) _
  refine ab_U.if_ne rfl (fun b3 => ?_) (fun b3 => ?_)
  · rw [if_pos b3] at hf
    refine ab_U.run 7 (S' := (30, [some (.ref 100), some (.int x0), some (.int (q1.2.1 125 0))], [.int x0, .ref 125], hp X G q1.2)) rfl ?_
    obtain ⟨m4, e5, hf⟩ := ab_bnd hf
    have e5 := Option.some.inj e5
    refine ab_U.pfI (ci := 4) (k9 := 0) rfl ⟨by decide, rfl⟩ ⟨rfl, rfl, by decide, rfl⟩ rfl ?_
    show ab_U _ _ _ (33, [some (.ref 100), some (.int x0), some (.int (q1.2.1 125 0))], [], hp X G (fm_sI q1.2 125 0 x0)) _
    rw [e5]
    refine ab_U.run 1 (S' := (34, [some (.ref 100), some (.int x0), some (.int (q1.2.1 125 0))], [.int (q1.2.1 125 0)], hp X G m4)) rfl ?_
    obtain rfl := Option.some.inj hf
    exact ab_U.ret rfl rfl ⟨rfl, rfl⟩
  · rw [if_neg b3] at hf
    refine ab_U.run 1 (S' := (16, [some (.ref 100), some (.int x0), none], [.int (-1)], hp X G q1.2)) rfl ?_
    obtain rfl := Option.some.inj hf
    exact ab_U.ret rfl rfl ⟨rfl, rfl⟩
set_option maxRecDepth 20000 in
def f_X8_fits (F : Nat)  (x0 : Int32) (μ : fm_M) : Option (Int32 × fm_M) := (Option.bind (f_X8_isIn F x0 0 3 μ) (fun q1 => (if ¬ q1.1 = 0 then (Option.bind (f_X4_match F q1.2) (fun q4 => (if x0.toInt < 0 ∨ 2 < x0.toInt then some ((q4.2.1 125 6), q4.2) else (if x0.toInt = 0 then some ((q4.2.1 125 3), q4.2) else (if x0.toInt = 1 then some ((q4.2.1 125 4), q4.2) else some ((q4.2.1 125 5), q4.2)))))) else some ((-1), q1.2))))
set_option maxRecDepth 20000 in
theorem t_X8_fits {X : Nat × (Nat → Int32)} {G : Nat → Nat → Option Nat} (hG : fm_Gok G) {F : Nat}   {x0 : Int32} {μ : fm_M} {r : Int32 × fm_M} (hf : f_X8_fits F x0 μ = some r) : ab_F 6 109 [.ref 100, .int x0] (hp X G μ) (some (.int r.1)) (hp X G r.2) := by
  unfold f_X8_fits at hf
  refine ab_T.of (d := 5) rfl (Nat.le_of_ble_eq_true rfl) ?_
  show ab_U _ _ kX8_fits (0, [some (.ref 100), some (.int x0)], [], hp X G μ) _
  refine ab_U.run 3 (S' := (3, [some (.ref 100), some (.int x0)], [.int 3, .int 0, .int x0], hp X G μ)) rfl ?_
  obtain ⟨q1, h2, hf⟩ := ab_bnd hf
  refine ab_U.fn rfl rfl (t_X8_isIn (X := X) hG h2) (by omega) ?_
  show ab_U _ _ _ (6, [some (.ref 100), some (.int x0)], [.int q1.1], hp X G q1.2) _
  refine ab_U.if_ne rfl (fun b3 => ?_) (fun b3 => ?_)
  · rw [if_pos b3] at hf
    refine ab_U.run 4 (S' := (19, [some (.ref 100), some (.int x0)], [.ref 101, .ref 125], hp X G q1.2)) rfl ?_
    obtain ⟨q4, h5, hf⟩ := ab_bnd hf
    refine ab_U.fn rfl rfl (t_X4_match (X := X) hG h5) (by omega) ?_
    show ab_U _ _ _ (22, [some (.ref 100), some (.int x0)], [], hp X G q4.2) _
    refine ab_U.run 1 (S' := (23, [some (.ref 100), some (.int x0)], [.int x0], hp X G q4.2)) rfl ?_
    by_cases b6 : x0.toInt < 0 ∨ 2 < x0.toInt
    · rw [if_pos b6] at hf
      refine ab_U.tswD rfl b6 ?_
      refine ab_U.run 3 (S' := (79, [some (.ref 100), some (.int x0)], [.int (q4.2.1 125 6)], hp X G q4.2)) rfl ?_
      obtain rfl := Option.some.inj hf
      exact ab_U.ret rfl rfl ⟨rfl, rfl⟩
    · rw [if_neg b6] at hf
      by_cases b7 : x0.toInt = 0
      · rw [if_pos b7] at hf
        refine ab_U.tswT (t := 48) rfl b6 (by rw [b7]; rfl) ?_
        refine ab_U.run 3 (S' := (55, [some (.ref 100), some (.int x0)], [.int (q4.2.1 125 3)], hp X G q4.2)) rfl ?_
        obtain rfl := Option.some.inj hf
        exact ab_U.ret rfl rfl ⟨rfl, rfl⟩
      · rw [if_neg b7] at hf
        by_cases b8 : x0.toInt = 1
        · rw [if_pos b8] at hf
          refine ab_U.tswT (t := 56) rfl b6 (by rw [b8]; rfl) ?_
          refine ab_U.run 3 (S' := (63, [some (.ref 100), some (.int x0)], [.int (q4.2.1 125 4)], hp X G q4.2)) rfl ?_
          obtain rfl := Option.some.inj hf
          exact ab_U.ret rfl rfl ⟨rfl, rfl⟩
        · rw [if_neg b8] at hf
          have b9 : x0.toInt = 2 := by omega
          refine ab_U.tswT (t := 64) rfl b6 (by rw [b9]; rfl) ?_
          refine ab_U.run 3 (S' := (71, [some (.ref 100), some (.int x0)], [.int (q4.2.1 125 5)], hp X G q4.2)) rfl ?_
          obtain rfl := Option.some.inj hf
          exact ab_U.ret rfl rfl ⟨rfl, rfl⟩
  · rw [if_neg b3] at hf
    refine ab_U.run 1 (S' := (10, [some (.ref 100), some (.int x0)], [.int (-1)], hp X G q1.2)) rfl ?_
    obtain rfl := Option.some.inj hf
    exact ab_U.ret rfl rfl ⟨rfl, rfl⟩
set_option maxRecDepth 20000 in
def f_X8_nextSeed (F : Nat)  (x0 : Int32) (μ : fm_M) : Option (Int32 × fm_M) := some (((x0 * 1103515245) + 12345), μ)
set_option maxRecDepth 20000 in
theorem t_X8_nextSeed {X : Nat × (Nat → Int32)} {G : Nat → Nat → Option Nat} (hG : fm_Gok G) {F : Nat}   {x0 : Int32} {μ : fm_M} {r : Int32 × fm_M} (hf : f_X8_nextSeed F x0 μ = some r) : ab_F 1 122 [.int x0] (hp X G μ) (some (.int r.1)) (hp X G r.2) := by
  unfold f_X8_nextSeed at hf
  refine ab_T.of (d := 0) rfl (Nat.le_of_ble_eq_true rfl) ?_
  show ab_U _ _ kX8_nextSeed (0, [some (.int x0)], [], hp X G μ) _
  refine ab_U.run 5 (S' := (9, [some (.int x0)], [.int ((x0 * 1103515245) + 12345)], hp X G μ)) rfl ?_
  obtain rfl := Option.some.inj hf
  exact ab_U.ret rfl rfl ⟨rfl, rfl⟩
set_option maxRecDepth 20000 in
def f_X8_seedBits (F : Nat)  (x0 : Int32) (μ : fm_M) : Option (Int32 × fm_M) := some (((((x0).toUInt32 >>> ((16 : Int32).toUInt32 &&& Int32.toUInt32 31)).toInt32) &&& 32767), μ)
set_option maxRecDepth 20000 in
theorem t_X8_seedBits {X : Nat × (Nat → Int32)} {G : Nat → Nat → Option Nat} (hG : fm_Gok G) {F : Nat}   {x0 : Int32} {μ : fm_M} {r : Int32 × fm_M} (hf : f_X8_seedBits F x0 μ = some r) : ab_F 1 123 [.int x0] (hp X G μ) (some (.int r.1)) (hp X G r.2) := by
  unfold f_X8_seedBits at hf
  refine ab_T.of (d := 0) rfl (Nat.le_of_ble_eq_true rfl) ?_
  show ab_U _ _ kX8_seedBits (0, [some (.int x0)], [], hp X G μ) _
  refine ab_U.run 5 (S' := (8, [some (.int x0)], [.int ((((x0).toUInt32 >>> ((16 : Int32).toUInt32 &&& Int32.toUInt32 31)).toInt32) &&& 32767)], hp X G μ)) rfl ?_
  obtain rfl := Option.some.inj hf
  exact ab_U.ret rfl rfl ⟨rfl, rfl⟩
