/-! by program: each method as a function over the memory, and that our machine does it -/
set_option maxRecDepth 20000 in
def f_X9_paid (F : Nat)  (x0 : Int32) (x1 : Int32) (μ : fm_M) : Option (Int32 × fm_M) := (Option.bind (f_X9_isStone F x0 μ) (fun q1 => (if q1.1 = 0 then some ((-1), q1.2) else (Option.bind (f_X9_isOne F x1 q1.2) (fun q4 => (if ¬ q4.1 = 0 then (if ab_in (18 + x0) 228 = true then (if ¬ (q4.2.2.1 233 (18 + x0).toNatClampNeg) = x1 then (if ab_in 37 228 = true then (if ab_in (18 + x0) 228 = true then (Option.bind (f_X9_wayOn F 0 (q4.2.2.1 233 (18 + x0).toNatClampNeg) x1 q4.2) (fun q11 => (if ((q4.2.2.1 233 (37 : Int32).toNatClampNeg) + q11.1) ≤ 999 then (Option.bind (f_X9_paysOn F 0 x0 x1 q11.2) (fun q14 => some (q14.1, q14.2))) else some ((-3), q11.2)))) else none) else none) else some ((-2), q4.2)) else none) else some ((-1), q4.2)))))))
set_option maxRecDepth 20000 in
theorem t_X9_paid {X : Nat × (Nat → Int32)} {G : Nat → Nat → Option Nat} (hG : fm_Gok G) {F : Nat}   {x0 : Int32} {x1 : Int32} {μ : fm_M} {r : Int32 × fm_M} (hf : f_X9_paid F x0 x1 μ = some r) : ab_F 6 174 [.ref 232, .int x0, .int x1] (hp X G μ) (some (.int r.1)) (hp X G r.2) := by
  unfold f_X9_paid at hf
  refine ab_T.of (d := 5) rfl (Nat.le_of_ble_eq_true rfl) ?_
  show ab_U _ _ kX9_paid (0, [some (.ref 232), some (.int x0), some (.int x1)], [], hp X G μ) _
  refine ab_U.run 2 (S' := (2, [some (.ref 232), some (.int x0), some (.int x1)], [.int x0, .ref 232], hp X G μ)) rfl ?_
  obtain ⟨q1, h2, hf⟩ := ab_bnd hf
  refine ab_U.fn rfl rfl (t_X9_isStone (X := X) hG h2) (by omega) ?_
  show ab_U _ _ _ (5, [some (.ref 232), some (.int x0), some (.int x1)], [.int q1.1], hp X G q1.2) _
  refine ab_U.if_eq rfl (fun b3 => ?_) (fun b3 => ?_)
  · rw [if_pos b3] at hf
    refine ab_U.run 1 (S' := (17, [some (.ref 232), some (.int x0), some (.int x1)], [.int (-1)], hp X G q1.2)) rfl ?_
    obtain rfl := Option.some.inj hf
    exact ab_U.ret rfl rfl ⟨rfl, rfl⟩
  · rw [if_neg b3] at hf
    refine ab_U.run 2 (S' := (10, [some (.ref 232), some (.int x0), some (.int x1)], [.int x1, .ref 232], hp X G q1.2)) rfl ?_
    obtain ⟨q4, h5, hf⟩ := ab_bnd hf
    refine ab_U.fn rfl rfl (t_X9_isOne (X := X) hG h5) (by omega) ?_
    show ab_U _ _ _ (13, [some (.ref 232), some (.int x0), some (.int x1)], [.int q4.1], hp X G q4.2) _
    refine ab_U.if_ne rfl (fun b6 => ?_) (fun b6 => ?_)
    · rw [if_pos b6] at hf
      refine ab_U.run 5 (S' := (26, [some (.ref 232), some (.int x0), some (.int x1)], [.int (18 + x0), .ref 233], hp X G q4.2)) rfl ?_
      obtain ⟨c7, hf⟩ := ab_ifs hf
      refine ab_U.iald (n := 228) rfl ⟨by decide, rfl⟩ c7 ?_
      show ab_U _ _ _ (27, [some (.ref 232), some (.int x0), some (.int x1)], [.int (q4.2.2.1 233 (18 + x0).toNatClampNeg)], hp X G q4.2) _
      refine ab_U.run 1 (S' := (28, [some (.ref 232), some (.int x0), some (.int x1)], [.int x1, .int (q4.2.2.1 233 (18 + x0).toNatClampNeg)], hp X G q4.2)) rfl ?_
      refine ab_U.ic_ne rfl (fun b8 => ?_) (fun b8 => ?_)
      · rw [if_pos b8] at hf
        refine ab_U.run 3 (S' := (40, [some (.ref 232), some (.int x0), some (.int x1)], [.int 37, .ref 233], hp X G q4.2)) rfl ?_
        obtain ⟨c9, hf⟩ := ab_ifs hf
        refine ab_U.iald (n := 228) rfl ⟨by decide, rfl⟩ c9 ?_
        show ab_U _ _ _ (41, [some (.ref 232), some (.int x0), some (.int x1)], [.int (q4.2.2.1 233 (37 : Int32).toNatClampNeg)], hp X G q4.2) _
        refine ab_U.run 7 (S' := (51, [some (.ref 232), some (.int x0), some (.int x1)], [.int (18 + x0), .ref 233, .int 0, .ref 232, .int (q4.2.2.1 233 (37 : Int32).toNatClampNeg)], hp X G q4.2)) rfl ?_
        obtain ⟨c10, hf⟩ := ab_ifs hf
        refine ab_U.iald (n := 228) rfl ⟨by decide, rfl⟩ c10 ?_
        show ab_U _ _ _ (52, [some (.ref 232), some (.int x0), some (.int x1)], [.int (q4.2.2.1 233 (18 + x0).toNatClampNeg), .int 0, .ref 232, .int (q4.2.2.1 233 (37 : Int32).toNatClampNeg)], hp X G q4.2) _
        refine ab_U.run 1 (S' := (53, [some (.ref 232), some (.int x0), some (.int x1)], [.int x1, .int (q4.2.2.1 233 (18 + x0).toNatClampNeg), .int 0, .ref 232, .int (q4.2.2.1 233 (37 : Int32).toNatClampNeg)], hp X G q4.2)) rfl ?_
        obtain ⟨q11, h12, hf⟩ := ab_bnd hf
        refine ab_U.fn rfl rfl (t_X9_wayOn (X := X) hG h12) (by omega) ?_
        show ab_U _ _ _ (56, [some (.ref 232), some (.int x0), some (.int x1)], [.int q11.1, .int (q4.2.2.1 233 (37 : Int32).toNatClampNeg)], hp X G q11.2) _
        refine ab_U.run 2 (S' := (60, [some (.ref 232), some (.int x0), some (.int x1)], [.int 999, .int ((q4.2.2.1 233 (37 : Int32).toNatClampNeg) + q11.1)], hp X G q11.2)) rfl ?_
        refine ab_U.ic_le rfl (fun b13 => ?_) (fun b13 => ?_)
        · rw [if_pos b13] at hf
          refine ab_U.run 4 (S' := (72, [some (.ref 232), some (.int x0), some (.int x1)], [.int x1, .int x0, .int 0, .ref 232], hp X G q11.2)) rfl ?_
          obtain ⟨q14, h15, hf⟩ := ab_bnd hf
          refine ab_U.fn rfl rfl (t_X9_paysOn (X := X) hG h15) (by omega) ?_
          show ab_U _ _ _ (75, [some (.ref 232), some (.int x0), some (.int x1)], [.int q14.1], hp X G q14.2) _
          obtain rfl := Option.some.inj hf
          exact ab_U.ret rfl rfl ⟨rfl, rfl⟩
        · rw [if_neg b13] at hf
          refine ab_U.run 2 (S' := (75, [some (.ref 232), some (.int x0), some (.int x1)], [.int (-3)], hp X G q11.2)) rfl ?_
          obtain rfl := Option.some.inj hf
          exact ab_U.ret rfl rfl ⟨rfl, rfl⟩
      · rw [if_neg b8] at hf
        refine ab_U.run 1 (S' := (33, [some (.ref 232), some (.int x0), some (.int x1)], [.int (-2)], hp X G q4.2)) rfl ?_
        obtain rfl := Option.some.inj hf
        exact ab_U.ret rfl rfl ⟨rfl, rfl⟩
    · rw [if_neg b6] at hf
      refine ab_U.run 1 (S' := (17, [some (.ref 232), some (.int x0), some (.int x1)], [.int (-1)], hp X G q4.2)) rfl ?_
      obtain rfl := Option.some.inj hf
      exact ab_U.ret rfl rfl ⟨rfl, rfl⟩
set_option maxRecDepth 20000 in
def f_X9_pay (F : Nat)  (x0 : Int32) (x1 : Int32) (μ : fm_M) : Option (Int32 × fm_M) := (Option.bind (f_X9_paid F x0 x1 μ) (fun q1 => some (q1.1, q1.2)))
set_option maxRecDepth 20000 in
theorem t_X9_pay {X : Nat × (Nat → Int32)} {G : Nat → Nat → Option Nat} (hG : fm_Gok G) {F : Nat}   {x0 : Int32} {x1 : Int32} {μ : fm_M} {r : Int32 × fm_M} (hf : f_X9_pay F x0 x1 μ = some r) : ab_F 7 175 [.ref 232, .int x0, .int x1] (hp X G μ) (some (.int r.1)) (hp X G r.2) := by
  unfold f_X9_pay at hf
  refine ab_T.of (d := 6) rfl (Nat.le_of_ble_eq_true rfl) ?_
  show ab_U _ _ kX9_pay (0, [some (.ref 232), some (.int x0), some (.int x1)], [], hp X G μ) _
  refine ab_U.run 3 (S' := (3, [some (.ref 232), some (.int x0), some (.int x1)], [.int x1, .int x0, .ref 232], hp X G μ)) rfl ?_
  obtain ⟨q1, h2, hf⟩ := ab_bnd hf
  refine ab_U.fn rfl rfl (t_X9_paid (X := X) hG h2) (by omega) ?_
  show ab_U _ _ _ (6, [some (.ref 232), some (.int x0), some (.int x1)], [.int q1.1], hp X G q1.2) _
  obtain rfl := Option.some.inj hf
  exact ab_U.ret rfl rfl ⟨rfl, rfl⟩
set_option maxRecDepth 20000 in
def f_X9_heatNow (F : Nat)   (μ : fm_M) : Option (Int32 × fm_M) := (if ab_in 25 228 = true then some (((μ.2.1 233 (25 : Int32).toNatClampNeg) + 50), μ) else none)
set_option maxRecDepth 20000 in
theorem t_X9_heatNow {X : Nat × (Nat → Int32)} {G : Nat → Nat → Option Nat} (hG : fm_Gok G) {F : Nat}    {μ : fm_M} {r : Int32 × fm_M} (hf : f_X9_heatNow F  μ = some r) : ab_F 1 176 [.ref 232] (hp X G μ) (some (.int r.1)) (hp X G r.2) := by
  unfold f_X9_heatNow at hf
  refine ab_T.of (d := 0) rfl (Nat.le_of_ble_eq_true rfl) ?_
  show ab_U _ _ kX9_heatNow (0, [some (.ref 232)], [], hp X G μ) _
  refine ab_U.run 3 (S' := (6, [some (.ref 232)], [.int 25, .ref 233], hp X G μ)) rfl ?_
  obtain ⟨c1, hf⟩ := ab_ifs hf
  refine ab_U.iald (n := 228) rfl ⟨by decide, rfl⟩ c1 ?_
  show ab_U _ _ _ (7, [some (.ref 232)], [.int (μ.2.1 233 (25 : Int32).toNatClampNeg)], hp X G μ) _
  refine ab_U.run 2 (S' := (10, [some (.ref 232)], [.int ((μ.2.1 233 (25 : Int32).toNatClampNeg) + 50)], hp X G μ)) rfl ?_
  obtain rfl := Option.some.inj hf
  exact ab_U.ret rfl rfl ⟨rfl, rfl⟩
set_option maxRecDepth 20000 in
def f_X9_ovenWay (F : Nat)  (x0 : Int32) (μ : fm_M) : Option (Int32 × fm_M) := (if ab_in (18 + x0) 228 = true then (if ab_in (4 + (μ.2.1 233 (18 + x0).toNatClampNeg)) 228 = true then (if ab_in 24 228 = true then (Option.bind (f_X9_apart F (μ.2.1 233 (4 + (μ.2.1 233 (18 + x0).toNatClampNeg)).toNatClampNeg) (μ.2.1 233 (24 : Int32).toNatClampNeg) μ) (fun q4 => some (q4.1, q4.2))) else none) else none) else none)
set_option maxRecDepth 20000 in
theorem t_X9_ovenWay {X : Nat × (Nat → Int32)} {G : Nat → Nat → Option Nat} (hG : fm_Gok G) {F : Nat}   {x0 : Int32} {μ : fm_M} {r : Int32 × fm_M} (hf : f_X9_ovenWay F x0 μ = some r) : ab_F 2 177 [.ref 232, .int x0] (hp X G μ) (some (.int r.1)) (hp X G r.2) := by
  unfold f_X9_ovenWay at hf
  refine ab_T.of (d := 1) rfl (Nat.le_of_ble_eq_true rfl) ?_
  show ab_U _ _ kX9_ovenWay (0, [some (.ref 232), some (.int x0)], [], hp X G μ) _
  refine ab_U.run 9 (S' := (14, [some (.ref 232), some (.int x0)], [.int (18 + x0), .ref 233, .int 4, .ref 233, .ref 232], hp X G μ)) rfl ?_
  obtain ⟨c1, hf⟩ := ab_ifs hf
  refine ab_U.iald (n := 228) rfl ⟨by decide, rfl⟩ c1 ?_
  show ab_U _ _ _ (15, [some (.ref 232), some (.int x0)], [.int (μ.2.1 233 (18 + x0).toNatClampNeg), .int 4, .ref 233, .ref 232], hp X G μ) _
  refine ab_U.run 1 (S' := (16, [some (.ref 232), some (.int x0)], [.int (4 + (μ.2.1 233 (18 + x0).toNatClampNeg)), .ref 233, .ref 232], hp X G μ)) rfl ?_
  obtain ⟨c2, hf⟩ := ab_ifs hf
  refine ab_U.iald (n := 228) rfl ⟨by decide, rfl⟩ c2 ?_
  show ab_U _ _ _ (17, [some (.ref 232), some (.int x0)], [.int (μ.2.1 233 (4 + (μ.2.1 233 (18 + x0).toNatClampNeg)).toNatClampNeg), .ref 232], hp X G μ) _
  refine ab_U.run 3 (S' := (23, [some (.ref 232), some (.int x0)], [.int 24, .ref 233, .int (μ.2.1 233 (4 + (μ.2.1 233 (18 + x0).toNatClampNeg)).toNatClampNeg), .ref 232], hp X G μ)) rfl ?_
  obtain ⟨c3, hf⟩ := ab_ifs hf
  refine ab_U.iald (n := 228) rfl ⟨by decide, rfl⟩ c3 ?_
  show ab_U _ _ _ (24, [some (.ref 232), some (.int x0)], [.int (μ.2.1 233 (24 : Int32).toNatClampNeg), .int (μ.2.1 233 (4 + (μ.2.1 233 (18 + x0).toNatClampNeg)).toNatClampNeg), .ref 232], hp X G μ) _
  obtain ⟨q4, h5, hf⟩ := ab_bnd hf
  refine ab_U.fn rfl rfl (t_X9_apart (X := X) hG h5) (by omega) ?_
  show ab_U _ _ _ (27, [some (.ref 232), some (.int x0)], [.int q4.1], hp X G q4.2) _
  obtain rfl := Option.some.inj hf
  exact ab_U.ret rfl rfl ⟨rfl, rfl⟩
set_option maxRecDepth 20000 in
def f_X9_heat (F : Nat)  (x0 : Int32) (μ : fm_M) : Option (Int32 × fm_M) := (Option.bind (f_X9_isStone F x0 μ) (fun q1 => (if ¬ q1.1 = 0 then (Option.bind (f_X9_ovenWay F x0 q1.2) (fun q4 => (if ab_in 37 228 = true then (if (((q4.2.2.1 233 (37 : Int32).toNatClampNeg) + (2 * q4.1)) + 1) ≤ 999 then (Option.bind (f_X9_goesOn F 0 q4.1 q4.2) (fun q8 => (Option.bind (f_X9_minuteOn F 0 x0 q8.2) (fun q10 => (if ab_in (13 + x0) 228 = true then (Option.bind (f_X9_heatNow F q10.2) (fun q13 => (if q13.1 ≤ (q10.2.2.1 233 (13 + x0).toNatClampNeg) then (if ab_in (13 + x0) 228 = true then (if ab_in (13 + x0) 228 = true then (Option.bind (some (fm_sA q13.2 233 (upd (q13.2.2.1 233) (13 + x0).toNatClampNeg (q13.2.2.1 233 (13 + x0).toNatClampNeg)))) (fun m18 => (Option.bind (f_X9_goesOn F 0 q4.1 m18) (fun q20 => (if ab_in (13 + x0) 228 = true then some ((q20.2.2.1 233 (13 + x0).toNatClampNeg), q20.2) else none))))) else none) else none) else (Option.bind (f_X9_heatNow F q13.2) (fun q23 => (if ab_in (13 + x0) 228 = true then (Option.bind (some (fm_sA q23.2 233 (upd (q23.2.2.1 233) (13 + x0).toNatClampNeg q23.1))) (fun m26 => (Option.bind (f_X9_goesOn F 0 q4.1 m26) (fun q28 => (if ab_in (13 + x0) 228 = true then some ((q28.2.2.1 233 (13 + x0).toNatClampNeg), q28.2) else none))))) else none)))))) else none))))) else some ((-3), q4.2)) else none))) else some ((-1), q1.2))))
set_option maxRecDepth 20000 in
theorem t_X9_heat {X : Nat × (Nat → Int32)} {G : Nat → Nat → Option Nat} (hG : fm_Gok G) {F : Nat}   {x0 : Int32} {μ : fm_M} {r : Int32 × fm_M} (hf : f_X9_heat F x0 μ = some r) : ab_F 5 178 [.ref 232, .int x0] (hp X G μ) (some (.int r.1)) (hp X G r.2) := by
  unfold f_X9_heat at hf
  refine ab_T.of (d := 4) rfl (Nat.le_of_ble_eq_true rfl) ?_
  show ab_U _ _ kX9_heat (0, [some (.ref 232), some (.int x0), none], [], hp X G μ) _
  refine ab_U.run 2 (S' := (2, [some (.ref 232), some (.int x0), none], [.int x0, .ref 232], hp X G μ)) rfl ?_
  obtain ⟨q1, h2, hf⟩ := ab_bnd hf
  refine ab_U.fn rfl rfl (t_X9_isStone (X := X) hG h2) (by omega) ?_
  show ab_U _ _ _ (5, [some (.ref 232), some (.int x0), none], [.int q1.1], hp X G q1.2) _
  refine ab_U.if_ne rfl (fun b3 => ?_) (fun b3 => ?_)
  · rw [if_pos b3] at hf
    refine ab_U.run 2 (S' := (12, [some (.ref 232), some (.int x0), none], [.int x0, .ref 232], hp X G q1.2)) rfl ?_
    obtain ⟨q4, h5, hf⟩ := ab_bnd hf
    refine ab_U.fn rfl rfl (t_X9_ovenWay (X := X) hG h5) (by omega) ?_
    show ab_U _ _ _ (15, [some (.ref 232), some (.int x0), none], [.int q4.1], hp X G q4.2) _
    refine ab_U.run 4 (S' := (22, [some (.ref 232), some (.int x0), some (.int q4.1)], [.int 37, .ref 233], hp X G q4.2)) rfl ?_
    obtain ⟨c6, hf⟩ := ab_ifs hf
    refine ab_U.iald (n := 228) rfl ⟨by decide, rfl⟩ c6 ?_
    show ab_U _ _ _ (23, [some (.ref 232), some (.int x0), some (.int q4.1)], [.int (q4.2.2.1 233 (37 : Int32).toNatClampNeg)], hp X G q4.2) _
    refine ab_U.run 7 (S' := (32, [some (.ref 232), some (.int x0), some (.int q4.1)], [.int 999, .int (((q4.2.2.1 233 (37 : Int32).toNatClampNeg) + (2 * q4.1)) + 1)], hp X G q4.2)) rfl ?_
    refine ab_U.ic_le rfl (fun b7 => ?_) (fun b7 => ?_)
    · rw [if_pos b7] at hf
      refine ab_U.run 3 (S' := (41, [some (.ref 232), some (.int x0), some (.int q4.1)], [.int q4.1, .int 0, .ref 232], hp X G q4.2)) rfl ?_
      obtain ⟨q8, h9, hf⟩ := ab_bnd hf
      refine ab_U.fn rfl rfl (t_X9_goesOn (X := X) hG h9) (by omega) ?_
      show ab_U _ _ _ (44, [some (.ref 232), some (.int x0), some (.int q4.1)], [], hp X G q8.2) _
      refine ab_U.run 3 (S' := (47, [some (.ref 232), some (.int x0), some (.int q4.1)], [.int x0, .int 0, .ref 232], hp X G q8.2)) rfl ?_
      obtain ⟨q10, h11, hf⟩ := ab_bnd hf
      refine ab_U.fn rfl rfl (t_X9_minuteOn (X := X) hG h11) (by omega) ?_
      show ab_U _ _ _ (50, [some (.ref 232), some (.int x0), some (.int q4.1)], [], hp X G q10.2) _
      refine ab_U.run 10 (S' := (66, [some (.ref 232), some (.int x0), some (.int q4.1)], [.int (13 + x0), .ref 233, .int (13 + x0), .ref 233], hp X G q10.2)) rfl ?_
      obtain ⟨c12, hf⟩ := ab_ifs hf
      refine ab_U.iald (n := 228) rfl ⟨by decide, rfl⟩ c12 ?_
      show ab_U _ _ _ (67, [some (.ref 232), some (.int x0), some (.int q4.1)], [.int (q10.2.2.1 233 (13 + x0).toNatClampNeg), .int (13 + x0), .ref 233], hp X G q10.2) _
      refine ab_U.run 1 (S' := (68, [some (.ref 232), some (.int x0), some (.int q4.1)], [.ref 232, .int (q10.2.2.1 233 (13 + x0).toNatClampNeg), .int (13 + x0), .ref 233], hp X G q10.2)) rfl ?_
      obtain ⟨q13, h14, hf⟩ := ab_bnd hf
      refine ab_U.fn rfl rfl (t_X9_heatNow (X := X) hG h14) (by omega) ?_
      show ab_U _ _ _ (71, [some (.ref 232), some (.int x0), some (.int q4.1)], [.int q13.1, .int (q10.2.2.1 233 (13 + x0).toNatClampNeg), .int (13 + x0), .ref 233], hp X G q13.2) _
      refine ab_U.ic_ge rfl (fun b15 => ?_) (fun b15 => ?_)
      · rw [if_pos b15] at hf
        refine ab_U.run 5 (S' := (89, [some (.ref 232), some (.int x0), some (.int q4.1)], [.int (13 + x0), .ref 233, .int (13 + x0), .ref 233], hp X G q13.2)) rfl ?_
        obtain ⟨c16, hf⟩ := ab_ifs hf
        refine ab_U.iald (n := 228) rfl ⟨by decide, rfl⟩ c16 ?_
        show ab_U _ _ _ (90, [some (.ref 232), some (.int x0), some (.int q4.1)], [.int (q13.2.2.1 233 (13 + x0).toNatClampNeg), .int (13 + x0), .ref 233], hp X G q13.2) _
        obtain ⟨c17, hf⟩ := ab_ifs hf
        obtain ⟨m18, e19, hf⟩ := ab_bnd hf
        have e19 := Option.some.inj e19
        refine ab_U.iast (n := 228) rfl ⟨by decide, rfl⟩ c17 ?_
        show ab_U _ _ _ (91, [some (.ref 232), some (.int x0), some (.int q4.1)], [], hp X G (fm_sA q13.2 233 (upd (q13.2.2.1 233) (13 + x0).toNatClampNeg (q13.2.2.1 233 (13 + x0).toNatClampNeg)))) _
        rw [e19]
        refine ab_U.run 3 (S' := (94, [some (.ref 232), some (.int x0), some (.int q4.1)], [.int q4.1, .int 0, .ref 232], hp X G m18)) rfl ?_
        obtain ⟨q20, h21, hf⟩ := ab_bnd hf
        refine ab_U.fn rfl rfl (t_X9_goesOn (X := X) hG h21) (by omega) ?_
        show ab_U _ _ _ (97, [some (.ref 232), some (.int x0), some (.int q4.1)], [], hp X G q20.2) _
        refine ab_U.run 5 (S' := (105, [some (.ref 232), some (.int x0), some (.int q4.1)], [.int (13 + x0), .ref 233], hp X G q20.2)) rfl ?_
        obtain ⟨c22, hf⟩ := ab_ifs hf
        refine ab_U.iald (n := 228) rfl ⟨by decide, rfl⟩ c22 ?_
        show ab_U _ _ _ (106, [some (.ref 232), some (.int x0), some (.int q4.1)], [.int (q20.2.2.1 233 (13 + x0).toNatClampNeg)], hp X G q20.2) _
        obtain rfl := Option.some.inj hf
        exact ab_U.ret rfl rfl ⟨rfl, rfl⟩
      · rw [if_neg b15] at hf
        refine ab_U.run 1 (S' := (75, [some (.ref 232), some (.int x0), some (.int q4.1)], [.ref 232, .int (13 + x0), .ref 233], hp X G q13.2)) rfl ?_
        obtain ⟨q23, h24, hf⟩ := ab_bnd hf
        refine ab_U.fn rfl rfl (t_X9_heatNow (X := X) hG h24) (by omega) ?_
        show ab_U _ _ _ (78, [some (.ref 232), some (.int x0), some (.int q4.1)], [.int q23.1, .int (13 + x0), .ref 233], hp X G q23.2) _
        refine ab_U.run 1 (S' := (90, [some (.ref 232), some (.int x0), some (.int q4.1)], [.int q23.1, .int (13 + x0), .ref 233], hp X G q23.2)) rfl ?_
        obtain ⟨c25, hf⟩ := ab_ifs hf
        obtain ⟨m26, e27, hf⟩ := ab_bnd hf
        have e27 := Option.some.inj e27
        refine ab_U.iast (n := 228) rfl ⟨by decide, rfl⟩ c25 ?_
        show ab_U _ _ _ (91, [some (.ref 232), some (.int x0), some (.int q4.1)], [], hp X G (fm_sA q23.2 233 (upd (q23.2.2.1 233) (13 + x0).toNatClampNeg q23.1))) _
        rw [e27]
        refine ab_U.run 3 (S' := (94, [some (.ref 232), some (.int x0), some (.int q4.1)], [.int q4.1, .int 0, .ref 232], hp X G m26)) rfl ?_
        obtain ⟨q28, h29, hf⟩ := ab_bnd hf
        refine ab_U.fn rfl rfl (t_X9_goesOn (X := X) hG h29) (by omega) ?_
        show ab_U _ _ _ (97, [some (.ref 232), some (.int x0), some (.int q4.1)], [], hp X G q28.2) _
        refine ab_U.run 5 (S' := (105, [some (.ref 232), some (.int x0), some (.int q4.1)], [.int (13 + x0), .ref 233], hp X G q28.2)) rfl ?_
        obtain ⟨c30, hf⟩ := ab_ifs hf
        refine ab_U.iald (n := 228) rfl ⟨by decide, rfl⟩ c30 ?_
        show ab_U _ _ _ (106, [some (.ref 232), some (.int x0), some (.int q4.1)], [.int (q28.2.2.1 233 (13 + x0).toNatClampNeg)], hp X G q28.2) _
        obtain rfl := Option.some.inj hf
        exact ab_U.ret rfl rfl ⟨rfl, rfl⟩
    · rw [if_neg b7] at hf
      refine ab_U.run 1 (S' := (37, [some (.ref 232), some (.int x0), some (.int q4.1)], [.int (-3)], hp X G q4.2)) rfl ?_
      obtain rfl := Option.some.inj hf
      exact ab_U.ret rfl rfl ⟨rfl, rfl⟩
  · rw [if_neg b3] at hf
    refine ab_U.run 1 (S' := (9, [some (.ref 232), some (.int x0), none], [.int (-1)], hp X G q1.2)) rfl ?_
    obtain rfl := Option.some.inj hf
    exact ab_U.ret rfl rfl ⟨rfl, rfl⟩
set_option maxRecDepth 20000 in
def b_X9_afterOf_6 (F : Nat)  (gg : Nat → Int32 → Int32 → Int32 → Int32 → fm_M → Option (Int32 × fm_M)) (l2 : Int32) (l3 : Int32) (l4 : Int32) (l5 : Int32) (μ : fm_M) : Option (Int32 × fm_M) := (if l3 ≤ l5 then some (l4, μ) else (Option.bind (f_X9_cooled F l4 l2 μ) (fun q2 => gg 6 l2 l3 q2.1 (l5 + 1) q2.2)))
def g_X9_afterOf (F : Nat)  : Nat → Nat → Int32 → Int32 → Int32 → Int32 → fm_M → Option (Int32 × fm_M)
  | 0, _, _, _, _, _, _ => none
  | n + 1, pc, l2, l3, l4, l5, μ => if pc = 6 then b_X9_afterOf_6 F  (g_X9_afterOf F  n) l2 l3 l4 l5 μ else none
set_option maxRecDepth 20000 in
theorem t_X9_afterOf_g {X : Nat × (Nat → Int32)} {G : Nat → Nat → Option Nat} (hG : fm_Gok G) {F : Nat}    : ∀ n : Nat, (∀ (l2 : Int32) (l3 : Int32) (l4 : Int32) (l5 : Int32) (μ : fm_M) (r : Int32 × fm_M), g_X9_afterOf F  n 6 l2 l3 l4 l5 μ = some r → ab_U 1 (some .int) kX9_afterOf (6, [none, none, some (.int l2), some (.int l3), some (.int l4), some (.int l5)], [], hp X G μ) (fun r9 h9 => r9 = some (.int r.1) ∧ h9 = hp X G r.2))
  | 0 => by
    intros
    rename_i h
    cases h
  | n + 1 => by
    have ih := t_X9_afterOf_g (X := X) hG (F := F)   n
    · intro l2 l3 l4 l5 μ r hf
      have hf : b_X9_afterOf_6 F  (g_X9_afterOf F  n) l2 l3 l4 l5 μ = some r := hf
      unfold b_X9_afterOf_6 at hf
      refine ab_U.run 2 (S' := (9, [none, none, some (.int l2), some (.int l3), some (.int l4), some (.int l5)], [.int l3, .int l5], hp X G μ)) rfl ?_
      refine ab_U.ic_ge rfl (fun b1 => ?_) (fun b1 => ?_)
      · rw [if_pos b1] at hf
        refine ab_U.run 1 (S' := (28, [none, none, some (.int l2), some (.int l3), some (.int l4), some (.int l5)], [.int l4], hp X G μ)) rfl ?_
        obtain rfl := Option.some.inj hf
        exact ab_U.ret rfl rfl ⟨rfl, rfl⟩
      · rw [if_neg b1] at hf
        refine ab_U.run 2 (S' := (15, [none, none, some (.int l2), some (.int l3), some (.int l4), some (.int l5)], [.int l2, .int l4], hp X G μ)) rfl ?_
        obtain ⟨q2, h3, hf⟩ := ab_bnd hf
        refine ab_U.fn rfl rfl (t_X9_cooled (X := X) hG h3) (by omega) ?_
        show ab_U _ _ _ (18, [none, none, some (.int l2), some (.int l3), some (.int l4), some (.int l5)], [.int q2.1], hp X G q2.2) _
        refine ab_U.run 3 (S' := (6, [none, none, some (.int l2), some (.int l3), some (.int q2.1), some (.int (l5 + 1))], [], hp X G q2.2)) rfl ?_
        exact ab_U.weak (ih _ _ _ _ _ _ hf) (ab_leL.of ⟨rfl, ⟨rfl, ⟨rfl, ⟨rfl, trivial⟩⟩⟩⟩)
set_option maxRecDepth 20000 in
def f_X9_afterOf (F : Nat)  (x0 : Int32) (x1 : Int32) (x2 : Int32) (μ : fm_M) : Option (Int32 × fm_M) := g_X9_afterOf F  F 6 x1 x2 x0 0 μ
set_option maxRecDepth 20000 in
theorem t_X9_afterOf {X : Nat × (Nat → Int32)} {G : Nat → Nat → Option Nat} (hG : fm_Gok G) {F : Nat}   {x0 : Int32} {x1 : Int32} {x2 : Int32} {μ : fm_M} {r : Int32 × fm_M} (hf : f_X9_afterOf F x0 x1 x2 μ = some r) : ab_F 2 179 [.ref 232, .int x0, .int x1, .int x2] (hp X G μ) (some (.int r.1)) (hp X G r.2) := by
  unfold f_X9_afterOf at hf
  refine ab_T.of (d := 1) rfl (Nat.le_of_ble_eq_true rfl) ?_
  show ab_U _ _ kX9_afterOf (0, [some (.ref 232), some (.int x0), some (.int x1), some (.int x2), none, none], [], hp X G μ) _
  refine ab_U.run 4 (S' := (6, [some (.ref 232), some (.int x0), some (.int x1), some (.int x2), some (.int x0), some (.int 0)], [], hp X G μ)) rfl ?_
  exact ab_U.weak ((t_X9_afterOf_g (X := X) hG   F) _ _ _ _ _ _ hf) (ab_leL.of ⟨rfl, ⟨rfl, ⟨rfl, ⟨rfl, trivial⟩⟩⟩⟩)
set_option maxRecDepth 20000 in
def f_X9_after (F : Nat)  (x0 : Int32) (x1 : Int32) (μ : fm_M) : Option (Int32 × fm_M) := (Option.bind (f_X9_isStone F x0 μ) (fun q1 => (if q1.1 = 0 then some ((-1), q1.2) else (Option.bind (f_X9_in F ((x1).toInt64) (Int64.ofNat 0) (Int64.ofNat 60) q1.2) (fun q4 => (if q4.1 = 0 then some ((-1), q4.2) else (if ab_in (13 + x0) 228 = true then (Option.bind (f_X9_rateOn F 0 x0 q4.2) (fun q8 => (Option.bind (f_X9_afterOf F (q4.2.2.1 233 (13 + x0).toNatClampNeg) q8.1 x1 q8.2) (fun q10 => some (q10.1, q10.2))))) else none)))))))
set_option maxRecDepth 20000 in
theorem t_X9_after {X : Nat × (Nat → Int32)} {G : Nat → Nat → Option Nat} (hG : fm_Gok G) {F : Nat}   {x0 : Int32} {x1 : Int32} {μ : fm_M} {r : Int32 × fm_M} (hf : f_X9_after F x0 x1 μ = some r) : ab_F 3 180 [.ref 232, .int x0, .int x1] (hp X G μ) (some (.int r.1)) (hp X G r.2) := by
  unfold f_X9_after at hf
  refine ab_T.of (d := 2) rfl (Nat.le_of_ble_eq_true rfl) ?_
  show ab_U _ _ kX9_after (0, [some (.ref 232), some (.int x0), some (.int x1)], [], hp X G μ) _
  refine ab_U.run 2 (S' := (2, [some (.ref 232), some (.int x0), some (.int x1)], [.int x0, .ref 232], hp X G μ)) rfl ?_
  obtain ⟨q1, h2, hf⟩ := ab_bnd hf
  refine ab_U.fn rfl rfl (t_X9_isStone (X := X) hG h2) (by omega) ?_
  show ab_U _ _ _ (5, [some (.ref 232), some (.int x0), some (.int x1)], [.int q1.1], hp X G q1.2) _
  refine ab_U.if_eq rfl (fun b3 => ?_) (fun b3 => ?_)
  · rw [if_pos b3] at hf
    refine ab_U.run 1 (S' := (44, [some (.ref 232), some (.int x0), some (.int x1)], [.int (-1)], hp X G q1.2)) rfl ?_
    obtain rfl := Option.some.inj hf
    exact ab_U.ret rfl rfl ⟨rfl, rfl⟩
  · rw [if_neg b3] at hf
    refine ab_U.run 4 (S' := (14, [some (.ref 232), some (.int x0), some (.int x1)], [.long (Int64.ofNat 60), .long (Int64.ofNat 0), .long (x1).toInt64], hp X G q1.2)) rfl ?_
    obtain ⟨q4, h5, hf⟩ := ab_bnd hf
    refine ab_U.fn rfl rfl (t_X9_in (X := X) hG h5) (by omega) ?_
    show ab_U _ _ _ (17, [some (.ref 232), some (.int x0), some (.int x1)], [.int q4.1], hp X G q4.2) _
    refine ab_U.if_eq rfl (fun b6 => ?_) (fun b6 => ?_)
    · rw [if_pos b6] at hf
      refine ab_U.run 1 (S' := (44, [some (.ref 232), some (.int x0), some (.int x1)], [.int (-1)], hp X G q4.2)) rfl ?_
      obtain rfl := Option.some.inj hf
      exact ab_U.ret rfl rfl ⟨rfl, rfl⟩
    · rw [if_neg b6] at hf
      refine ab_U.run 6 (S' := (29, [some (.ref 232), some (.int x0), some (.int x1)], [.int (13 + x0), .ref 233, .ref 232], hp X G q4.2)) rfl ?_
      obtain ⟨c7, hf⟩ := ab_ifs hf
      refine ab_U.iald (n := 228) rfl ⟨by decide, rfl⟩ c7 ?_
      show ab_U _ _ _ (30, [some (.ref 232), some (.int x0), some (.int x1)], [.int (q4.2.2.1 233 (13 + x0).toNatClampNeg), .ref 232], hp X G q4.2) _
      refine ab_U.run 3 (S' := (33, [some (.ref 232), some (.int x0), some (.int x1)], [.int x0, .int 0, .ref 232, .int (q4.2.2.1 233 (13 + x0).toNatClampNeg), .ref 232], hp X G q4.2)) rfl ?_
      obtain ⟨q8, h9, hf⟩ := ab_bnd hf
      refine ab_U.fn rfl rfl (t_X9_rateOn (X := X) hG h9) (by omega) ?_
      show ab_U _ _ _ (36, [some (.ref 232), some (.int x0), some (.int x1)], [.int q8.1, .int (q4.2.2.1 233 (13 + x0).toNatClampNeg), .ref 232], hp X G q8.2) _
      refine ab_U.run 1 (S' := (37, [some (.ref 232), some (.int x0), some (.int x1)], [.int x1, .int q8.1, .int (q4.2.2.1 233 (13 + x0).toNatClampNeg), .ref 232], hp X G q8.2)) rfl ?_
      obtain ⟨q10, h11, hf⟩ := ab_bnd hf
      refine ab_U.fn rfl rfl (t_X9_afterOf (X := X) hG h11) (by omega) ?_
      show ab_U _ _ _ (40, [some (.ref 232), some (.int x0), some (.int x1)], [.int q10.1], hp X G q10.2) _
      refine ab_U.run 1 (S' := (44, [some (.ref 232), some (.int x0), some (.int x1)], [.int q10.1], hp X G q10.2)) rfl ?_
      obtain rfl := Option.some.inj hf
      exact ab_U.ret rfl rfl ⟨rfl, rfl⟩
set_option maxRecDepth 20000 in
def b_X9_cold_22 (F : Nat)  (gg : Nat → Int32 → Int32 → Int32 → fm_M → Option (Int32 × fm_M)) (l1 : Int32) (l2 : Int32) (l3 : Int32) (μ : fm_M) : Option (Int32 × fm_M) := (if l3 < 5 then some (l2, μ) else (Option.bind (f_X9_rateOn F 0 l1 μ) (fun q2 => (Option.bind (f_X9_cooled F l3 q2.1 q2.2) (fun q4 => gg 22 l1 (l2 + 1) q4.1 q4.2)))))
def g_X9_cold (F : Nat)  : Nat → Nat → Int32 → Int32 → Int32 → fm_M → Option (Int32 × fm_M)
  | 0, _, _, _, _, _ => none
  | n + 1, pc, l1, l2, l3, μ => if pc = 22 then b_X9_cold_22 F  (g_X9_cold F  n) l1 l2 l3 μ else none
set_option maxRecDepth 20000 in
theorem t_X9_cold_g {X : Nat × (Nat → Int32)} {G : Nat → Nat → Option Nat} (hG : fm_Gok G) {F : Nat}    : ∀ n : Nat, (∀ (l1 : Int32) (l2 : Int32) (l3 : Int32) (μ : fm_M) (r : Int32 × fm_M), g_X9_cold F  n 22 l1 l2 l3 μ = some r → ab_U 2 (some .int) kX9_cold (22, [some (.ref 232), some (.int l1), some (.int l2), some (.int l3)], [], hp X G μ) (fun r9 h9 => r9 = some (.int r.1) ∧ h9 = hp X G r.2))
  | 0 => by
    intros
    rename_i h
    cases h
  | n + 1 => by
    have ih := t_X9_cold_g (X := X) hG (F := F)   n
    · intro l1 l2 l3 μ r hf
      have hf : b_X9_cold_22 F  (g_X9_cold F  n) l1 l2 l3 μ = some r := hf
      unfold b_X9_cold_22 at hf
      refine ab_U.run 2 (S' := (24, [some (.ref 232), some (.int l1), some (.int l2), some (.int l3)], [.int 5, .int l3], hp X G μ)) rfl ?_
      refine ab_U.ic_lt rfl (fun b1 => ?_) (fun b1 => ?_)
      · rw [if_pos b1] at hf
        refine ab_U.run 1 (S' := (45, [some (.ref 232), some (.int l1), some (.int l2), some (.int l3)], [.int l2], hp X G μ)) rfl ?_
        obtain rfl := Option.some.inj hf
        exact ab_U.ret rfl rfl ⟨rfl, rfl⟩
      · rw [if_neg b1] at hf
        refine ab_U.run 4 (S' := (31, [some (.ref 232), some (.int l1), some (.int l2), some (.int l3)], [.int l1, .int 0, .ref 232, .int l3], hp X G μ)) rfl ?_
        obtain ⟨q2, h3, hf⟩ := ab_bnd hf
        refine ab_U.fn rfl rfl (t_X9_rateOn (X := X) hG h3) (by omega) ?_
        show ab_U _ _ _ (34, [some (.ref 232), some (.int l1), some (.int l2), some (.int l3)], [.int q2.1, .int l3], hp X G q2.2) _
        obtain ⟨q4, h5, hf⟩ := ab_bnd hf
        refine ab_U.fn rfl rfl (t_X9_cooled (X := X) hG h5) (by omega) ?_
        show ab_U _ _ _ (37, [some (.ref 232), some (.int l1), some (.int l2), some (.int l3)], [.int q4.1], hp X G q4.2) _
        refine ab_U.run 3 (S' := (22, [some (.ref 232), some (.int l1), some (.int (l2 + 1)), some (.int q4.1)], [], hp X G q4.2)) rfl ?_
        exact ab_U.weak (ih _ _ _ _ _ hf) (ab_leL.of ⟨rfl, ⟨rfl, ⟨rfl, ⟨rfl, trivial⟩⟩⟩⟩)
set_option maxRecDepth 20000 in
def f_X9_cold (F : Nat)  (x0 : Int32) (μ : fm_M) : Option (Int32 × fm_M) := (Option.bind (f_X9_isStone F x0 μ) (fun q6 => (if ¬ q6.1 = 0 then (if ab_in (13 + x0) 228 = true then g_X9_cold F  F 22 x0 0 (q6.2.2.1 233 (13 + x0).toNatClampNeg) q6.2 else none) else some ((-1), q6.2))))
set_option maxRecDepth 20000 in
theorem t_X9_cold {X : Nat × (Nat → Int32)} {G : Nat → Nat → Option Nat} (hG : fm_Gok G) {F : Nat}   {x0 : Int32} {μ : fm_M} {r : Int32 × fm_M} (hf : f_X9_cold F x0 μ = some r) : ab_F 3 181 [.ref 232, .int x0] (hp X G μ) (some (.int r.1)) (hp X G r.2) := by
  unfold f_X9_cold at hf
  refine ab_T.of (d := 2) rfl (Nat.le_of_ble_eq_true rfl) ?_
  show ab_U _ _ kX9_cold (0, [some (.ref 232), some (.int x0), none, none], [], hp X G μ) _
  refine ab_U.run 2 (S' := (2, [some (.ref 232), some (.int x0), none, none], [.int x0, .ref 232], hp X G μ)) rfl ?_
  obtain ⟨q6, h7, hf⟩ := ab_bnd hf
  refine ab_U.fn rfl rfl (t_X9_isStone (X := X) hG h7) (by omega) ?_
  show ab_U _ _ _ (5, [some (.ref 232), some (.int x0), none, none], [.int q6.1], hp X G q6.2) _
  refine ab_U.if_ne rfl (fun b8 => ?_) (fun b8 => ?_)
  · rw [if_pos b8] at hf
    refine ab_U.run 7 (S' := (20, [some (.ref 232), some (.int x0), some (.int 0), none], [.int (13 + x0), .ref 233], hp X G q6.2)) rfl ?_
    obtain ⟨c9, hf⟩ := ab_ifs hf
    refine ab_U.iald (n := 228) rfl ⟨by decide, rfl⟩ c9 ?_
    show ab_U _ _ _ (21, [some (.ref 232), some (.int x0), some (.int 0), none], [.int (q6.2.2.1 233 (13 + x0).toNatClampNeg)], hp X G q6.2) _
    refine ab_U.run 1 (S' := (22, [some (.ref 232), some (.int x0), some (.int 0), some (.int (q6.2.2.1 233 (13 + x0).toNatClampNeg))], [], hp X G q6.2)) rfl ?_
    exact ab_U.weak ((t_X9_cold_g (X := X) hG   F) _ _ _ _ _ hf) (ab_leL.of ⟨rfl, ⟨rfl, ⟨rfl, ⟨rfl, trivial⟩⟩⟩⟩)
  · rw [if_neg b8] at hf
    refine ab_U.run 1 (S' := (9, [some (.ref 232), some (.int x0), none, none], [.int (-1)], hp X G q6.2)) rfl ?_
    obtain rfl := Option.some.inj hf
    exact ab_U.ret rfl rfl ⟨rfl, rfl⟩
set_option maxRecDepth 20000 in
def b_X9_laysHands_17 (F : Nat)  (gg : Nat → Int32 → Int32 → Int32 → Int32 → Int32 → Int32 → fm_M → Option (Int32 × fm_M)) (l3 : Int32) (l4 : Int32) (l5 : Int32) (l6 : Int32) (l7 : Int32) (l8 : Int32) (μ : fm_M) : Option (Int32 × fm_M) := (if 3 ≤ l8 then (if l7 = 0 then some ((-4), μ) else (if l4 ≤ 0 then some ((-4), μ) else (if ab_in (l4 - 1) 3 = true then (if ¬ (μ.2.1 241 (l4 - 1).toNatClampNeg) = l3 then some ((-4), μ) else some (l4, μ)) else none))) else (if l8 ≤ l4 then (if l7 = 0 then (if ab_in l8 3 = true then (Option.bind (some (fm_sA μ 241 (upd (μ.2.1 241) l8.toNatClampNeg (l5 / 25)))) (fun m9 => gg 17 l3 (l4 + 0) ((l5 - l5 / 25 * 25) * 5) (l6 ||| (1 <<< ((l5 / 25) &&& 31))) 0 (l8 + 1) m9)) else none) else (if (l5 / 25) = 4 then (if ab_in l8 3 = true then (Option.bind (some (fm_sA μ 241 (upd (μ.2.1 241) l8.toNatClampNeg (l5 / 25)))) (fun m13 => (if 4 ≤ (l5 / 25) then gg 17 l3 (l4 + 0) ((l5 - l5 / 25 * 25) * 5) (l6 ||| (1 <<< ((l5 / 25) &&& 31))) 1 (l8 + 1) m13 else gg 17 l3 (l4 + 1) ((l5 - l5 / 25 * 25) * 5) (l6 ||| (1 <<< ((l5 / 25) &&& 31))) 1 (l8 + 1) m13))) else none) else (if (μ.1 232 1) ≤ (l5 / 25) then (if ab_in l8 3 = true then (Option.bind (some (fm_sA μ 241 (upd (μ.2.1 241) l8.toNatClampNeg (l5 / 25)))) (fun m18 => gg 17 l3 (l4 + 0) ((l5 - l5 / 25 * 25) * 5) (l6 ||| (1 <<< ((l5 / 25) &&& 31))) 0 (l8 + 1) m18)) else none) else (if ¬ ((l6 >>> ((l5 / 25) &&& 31)) &&& 1) = 0 then (if ab_in l8 3 = true then (Option.bind (some (fm_sA μ 241 (upd (μ.2.1 241) l8.toNatClampNeg (l5 / 25)))) (fun m22 => gg 17 l3 (l4 + 0) ((l5 - l5 / 25 * 25) * 5) (l6 ||| (1 <<< ((l5 / 25) &&& 31))) 0 (l8 + 1) m22)) else none) else (if ab_in l8 3 = true then (Option.bind (some (fm_sA μ 241 (upd (μ.2.1 241) l8.toNatClampNeg (l5 / 25)))) (fun m25 => (if 4 ≤ (l5 / 25) then gg 17 l3 (l4 + 0) ((l5 - l5 / 25 * 25) * 5) (l6 ||| (1 <<< ((l5 / 25) &&& 31))) 1 (l8 + 1) m25 else gg 17 l3 (l4 + 1) ((l5 - l5 / 25 * 25) * 5) (l6 ||| (1 <<< ((l5 / 25) &&& 31))) 1 (l8 + 1) m25))) else none))))) else (if l7 = 0 then (if ab_in l8 3 = true then (Option.bind (some (fm_sA μ 241 (upd (μ.2.1 241) l8.toNatClampNeg (l5 / 25)))) (fun m30 => gg 17 l3 (l4 + 0) ((l5 - l5 / 25 * 25) * 5) (l6 ||| (1 <<< ((l5 / 25) &&& 31))) 0 (l8 + 1) m30)) else none) else (if (l5 / 25) = 4 then (if ab_in l8 3 = true then (Option.bind (some (fm_sA μ 241 (upd (μ.2.1 241) l8.toNatClampNeg (l5 / 25)))) (fun m34 => (if 4 ≤ (l5 / 25) then gg 17 l3 (l4 + 0) ((l5 - l5 / 25 * 25) * 5) (l6 ||| (1 <<< ((l5 / 25) &&& 31))) 1 (l8 + 1) m34 else gg 17 l3 (l4 + 0) ((l5 - l5 / 25 * 25) * 5) (l6 ||| (1 <<< ((l5 / 25) &&& 31))) 1 (l8 + 1) m34))) else none) else (if ab_in l8 3 = true then (Option.bind (some (fm_sA μ 241 (upd (μ.2.1 241) l8.toNatClampNeg (l5 / 25)))) (fun m38 => gg 17 l3 (l4 + 0) ((l5 - l5 / 25 * 25) * 5) (l6 ||| (1 <<< ((l5 / 25) &&& 31))) 0 (l8 + 1) m38)) else none)))))
def g_X9_laysHands (F : Nat)  : Nat → Nat → Int32 → Int32 → Int32 → Int32 → Int32 → Int32 → fm_M → Option (Int32 × fm_M)
  | 0, _, _, _, _, _, _, _, _ => none
  | n + 1, pc, l3, l4, l5, l6, l7, l8, μ => if pc = 17 then b_X9_laysHands_17 F  (g_X9_laysHands F  n) l3 l4 l5 l6 l7 l8 μ else none
set_option maxRecDepth 20000 in
theorem t_X9_laysHands_g {X : Nat × (Nat → Int32)} {G : Nat → Nat → Option Nat} (hG : fm_Gok G) {F : Nat}    : ∀ n : Nat, (∀ (l3 : Int32) (l4 : Int32) (l5 : Int32) (l6 : Int32) (l7 : Int32) (l8 : Int32) (μ : fm_M) (r : Int32 × fm_M), g_X9_laysHands F  n 17 l3 l4 l5 l6 l7 l8 μ = some r → ab_U 0 (some .int) kX9_laysHands (17, [some (.ref 232), none, none, some (.int l3), some (.int l4), some (.int l5), some (.int l6), some (.int l7), some (.int l8), none, none], [], hp X G μ) (fun r9 h9 => r9 = some (.int r.1) ∧ h9 = hp X G r.2))
  | 0 => by
    intros
    rename_i h
    cases h
  | n + 1 => by
    have ih := t_X9_laysHands_g (X := X) hG (F := F)   n
    · intro l3 l4 l5 l6 l7 l8 μ r hf
      have hf : b_X9_laysHands_17 F  (g_X9_laysHands F  n) l3 l4 l5 l6 l7 l8 μ = some r := hf
      unfold b_X9_laysHands_17 at hf
      refine ab_U.run 2 (S' := (20, [some (.ref 232), none, none, some (.int l3), some (.int l4), some (.int l5), some (.int l6), some (.int l7), some (.int l8), none, none], [.int 3, .int l8], hp X G μ)) rfl ?_
      refine ab_U.ic_ge rfl (fun b1 => ?_) (fun b1 => ?_)
      · rw [if_pos b1] at hf
        refine ab_U.run 1 (S' := (147, [some (.ref 232), none, none, some (.int l3), some (.int l4), some (.int l5), some (.int l6), some (.int l7), some (.int l8), none, none], [.int l7], hp X G μ)) rfl ?_
        refine ab_U.if_eq rfl (fun b2 => ?_) (fun b2 => ?_)
        · rw [if_pos b2] at hf
          refine ab_U.run 1 (S' := (175, [some (.ref 232), none, none, some (.int l3), some (.int l4), some (.int l5), some (.int l6), some (.int l7), some (.int l8), none, none], [.int (-4)], hp X G μ)) rfl ?_
          obtain rfl := Option.some.inj hf
          exact ab_U.ret rfl rfl ⟨rfl, rfl⟩
        · rw [if_neg b2] at hf
          refine ab_U.run 1 (S' := (152, [some (.ref 232), none, none, some (.int l3), some (.int l4), some (.int l5), some (.int l6), some (.int l7), some (.int l8), none, none], [.int l4], hp X G μ)) rfl ?_
          refine ab_U.if_le rfl (fun b3 => ?_) (fun b3 => ?_)
          · rw [if_pos b3] at hf
            refine ab_U.run 1 (S' := (175, [some (.ref 232), none, none, some (.int l3), some (.int l4), some (.int l5), some (.int l6), some (.int l7), some (.int l8), none, none], [.int (-4)], hp X G μ)) rfl ?_
            obtain rfl := Option.some.inj hf
            exact ab_U.ret rfl rfl ⟨rfl, rfl⟩
          · rw [if_neg b3] at hf
            refine ab_U.run 5 (S' := (163, [some (.ref 232), none, none, some (.int l3), some (.int l4), some (.int l5), some (.int l6), some (.int l7), some (.int l8), none, none], [.int (l4 - 1), .ref 241], hp X G μ)) rfl ?_
            obtain ⟨c4, hf⟩ := ab_ifs hf
            refine ab_U.iald (n := 3) rfl ⟨by decide, rfl⟩ c4 ?_
            show ab_U _ _ _ (164, [some (.ref 232), none, none, some (.int l3), some (.int l4), some (.int l5), some (.int l6), some (.int l7), some (.int l8), none, none], [.int (μ.2.1 241 (l4 - 1).toNatClampNeg)], hp X G μ) _
            refine ab_U.run 1 (S' := (165, [some (.ref 232), none, none, some (.int l3), some (.int l4), some (.int l5), some (.int l6), some (.int l7), some (.int l8), none, none], [.int l3, .int (μ.2.1 241 (l4 - 1).toNatClampNeg)], hp X G μ)) rfl ?_
            refine ab_U.ic_ne rfl (fun b5 => ?_) (fun b5 => ?_)
            · rw [if_pos b5] at hf
              refine ab_U.run 1 (S' := (175, [some (.ref 232), none, none, some (.int l3), some (.int l4), some (.int l5), some (.int l6), some (.int l7), some (.int l8), none, none], [.int (-4)], hp X G μ)) rfl ?_
              obtain rfl := Option.some.inj hf
              exact ab_U.ret rfl rfl ⟨rfl, rfl⟩
            · rw [if_neg b5] at hf
              refine ab_U.run 2 (S' := (175, [some (.ref 232), none, none, some (.int l3), some (.int l4), some (.int l5), some (.int l6), some (.int l7), some (.int l8), none, none], [.int l4], hp X G μ)) rfl ?_
              obtain rfl := Option.some.inj hf
              exact ab_U.ret rfl rfl ⟨rfl, rfl⟩
      · rw [if_neg b1] at hf
        refine ab_U.run 12 (S' := (43, [some (.ref 232), none, none, some (.int l3), some (.int l4), some (.int ((l5 - l5 / 25 * 25) * 5)), some (.int l6), some (.int l7), some (.int l8), some (.int (l5 / 25)), none], [.int l8, .int l4], hp X G μ)) rfl ?_
        refine ab_U.ic_ge rfl (fun b6 => ?_) (fun b6 => ?_)
        · rw [if_pos b6] at hf
          refine ab_U.run 3 (S' := (55, [some (.ref 232), none, none, some (.int l3), some (.int l4), some (.int ((l5 - l5 / 25 * 25) * 5)), some (.int l6), some (.int l7), some (.int l8), some (.int (l5 / 25)), some (.int 0)], [.int l7], hp X G μ)) rfl ?_
          refine ab_U.if_eq rfl (fun b7 => ?_) (fun b7 => ?_)
          · rw [if_pos b7] at hf
            refine ab_U.run 12 (S' := (112, [some (.ref 232), none, none, some (.int l3), some (.int l4), some (.int ((l5 - l5 / 25 * 25) * 5)), some (.int (l6 ||| (1 <<< ((l5 / 25) &&& 31)))), some (.int 0), some (.int l8), some (.int (l5 / 25)), some (.int 0)], [.int (l5 / 25), .int l8, .ref 241], hp X G μ)) rfl ?_
            obtain ⟨c8, hf⟩ := ab_ifs hf
            obtain ⟨m9, e10, hf⟩ := ab_bnd hf
            have e10 := Option.some.inj e10
            refine ab_U.iast (n := 3) rfl ⟨by decide, rfl⟩ c8 ?_
            show ab_U _ _ _ (113, [some (.ref 232), none, none, some (.int l3), some (.int l4), some (.int ((l5 - l5 / 25 * 25) * 5)), some (.int (l6 ||| (1 <<< ((l5 / 25) &&& 31)))), some (.int 0), some (.int l8), some (.int (l5 / 25)), some (.int 0)], [], hp X G (fm_sA μ 241 (upd (μ.2.1 241) l8.toNatClampNeg (l5 / 25)))) _
            rw [e10]
            refine ab_U.run 8 (S' := (17, [some (.ref 232), none, none, some (.int l3), some (.int (l4 + 0)), some (.int ((l5 - l5 / 25 * 25) * 5)), some (.int (l6 ||| (1 <<< ((l5 / 25) &&& 31)))), some (.int 0), some (.int (l8 + 1)), some (.int (l5 / 25)), some (.int 0)], [], hp X G m9)) rfl ?_
            exact ab_U.weak (ih _ _ _ _ _ _ _ _ hf) (ab_leL.of ⟨rfl, ⟨rfl, ⟨rfl, ⟨rfl, ⟨rfl, ⟨rfl, ⟨rfl, trivial⟩⟩⟩⟩⟩⟩⟩)
          · rw [if_neg b7] at hf
            refine ab_U.run 2 (S' := (61, [some (.ref 232), none, none, some (.int l3), some (.int l4), some (.int ((l5 - l5 / 25 * 25) * 5)), some (.int l6), some (.int l7), some (.int l8), some (.int (l5 / 25)), some (.int 0)], [.int 4, .int (l5 / 25)], hp X G μ)) rfl ?_
            refine ab_U.ic_eq rfl (fun b11 => ?_) (fun b11 => ?_)
            · rw [if_pos b11] at hf
              refine ab_U.run 12 (S' := (110, [some (.ref 232), none, none, some (.int l3), some (.int l4), some (.int ((l5 - l5 / 25 * 25) * 5)), some (.int (l6 ||| (1 <<< ((l5 / 25) &&& 31)))), some (.int 1), some (.int l8), some (.int (l5 / 25)), some (.int 0)], [.int l8, .ref 241], hp X G μ)) rfl ?_
              refine ab_U.run 1 (S' := (112, [some (.ref 232), none, none, some (.int l3), some (.int l4), some (.int ((l5 - l5 / 25 * 25) * 5)), some (.int (l6 ||| (1 <<< ((l5 / 25) &&& 31)))), some (.int 1), some (.int l8), some (.int (l5 / 25)), some (.int 0)], [.int (l5 / 25), .int l8, .ref 241], hp X G μ)) rfl ?_
              obtain ⟨c12, hf⟩ := ab_ifs hf
              obtain ⟨m13, e14, hf⟩ := ab_bnd hf
              have e14 := Option.some.inj e14
              refine ab_U.iast (n := 3) rfl ⟨by decide, rfl⟩ c12 ?_
              show ab_U _ _ _ (113, [some (.ref 232), none, none, some (.int l3), some (.int l4), some (.int ((l5 - l5 / 25 * 25) * 5)), some (.int (l6 ||| (1 <<< ((l5 / 25) &&& 31)))), some (.int 1), some (.int l8), some (.int (l5 / 25)), some (.int 0)], [], hp X G (fm_sA μ 241 (upd (μ.2.1 241) l8.toNatClampNeg (l5 / 25)))) _
              rw [e14]
              refine ab_U.run 5 (S' := (123, [some (.ref 232), none, none, some (.int l3), some (.int l4), some (.int ((l5 - l5 / 25 * 25) * 5)), some (.int (l6 ||| (1 <<< ((l5 / 25) &&& 31)))), some (.int 1), some (.int l8), some (.int (l5 / 25)), some (.int 0)], [.int 4, .int (l5 / 25), .int l4], hp X G m13)) rfl ?_
              refine ab_U.ic_ge rfl (fun b15 => ?_) (fun b15 => ?_)
              · rw [if_pos b15] at hf
                refine ab_U.run 5 (S' := (17, [some (.ref 232), none, none, some (.int l3), some (.int (l4 + 0)), some (.int ((l5 - l5 / 25 * 25) * 5)), some (.int (l6 ||| (1 <<< ((l5 / 25) &&& 31)))), some (.int 1), some (.int (l8 + 1)), some (.int (l5 / 25)), some (.int 0)], [], hp X G m13)) rfl ?_
                exact ab_U.weak (ih _ _ _ _ _ _ _ _ hf) (ab_leL.of ⟨rfl, ⟨rfl, ⟨rfl, ⟨rfl, ⟨rfl, ⟨rfl, ⟨rfl, trivial⟩⟩⟩⟩⟩⟩⟩)
              · rw [if_neg b15] at hf
                refine ab_U.run 8 (S' := (17, [some (.ref 232), none, none, some (.int l3), some (.int (l4 + 1)), some (.int ((l5 - l5 / 25 * 25) * 5)), some (.int (l6 ||| (1 <<< ((l5 / 25) &&& 31)))), some (.int 1), some (.int (l8 + 1)), some (.int (l5 / 25)), some (.int 0)], [], hp X G m13)) rfl ?_
                exact ab_U.weak (ih _ _ _ _ _ _ _ _ hf) (ab_leL.of ⟨rfl, ⟨rfl, ⟨rfl, ⟨rfl, ⟨rfl, ⟨rfl, ⟨rfl, trivial⟩⟩⟩⟩⟩⟩⟩)
            · rw [if_neg b11] at hf
              refine ab_U.run 5 (S' := (75, [some (.ref 232), none, none, some (.int l3), some (.int l4), some (.int ((l5 - l5 / 25 * 25) * 5)), some (.int l6), some (.int l7), some (.int l8), some (.int (l5 / 25)), some (.int 0)], [.int (μ.1 232 1), .int (l5 / 25)], hp X G μ)) rfl ?_
              refine ab_U.ic_ge rfl (fun b16 => ?_) (fun b16 => ?_)
              · rw [if_pos b16] at hf
                refine ab_U.run 12 (S' := (112, [some (.ref 232), none, none, some (.int l3), some (.int l4), some (.int ((l5 - l5 / 25 * 25) * 5)), some (.int (l6 ||| (1 <<< ((l5 / 25) &&& 31)))), some (.int 0), some (.int l8), some (.int (l5 / 25)), some (.int 0)], [.int (l5 / 25), .int l8, .ref 241], hp X G μ)) rfl ?_
                obtain ⟨c17, hf⟩ := ab_ifs hf
                obtain ⟨m18, e19, hf⟩ := ab_bnd hf
                have e19 := Option.some.inj e19
                refine ab_U.iast (n := 3) rfl ⟨by decide, rfl⟩ c17 ?_
                show ab_U _ _ _ (113, [some (.ref 232), none, none, some (.int l3), some (.int l4), some (.int ((l5 - l5 / 25 * 25) * 5)), some (.int (l6 ||| (1 <<< ((l5 / 25) &&& 31)))), some (.int 0), some (.int l8), some (.int (l5 / 25)), some (.int 0)], [], hp X G (fm_sA μ 241 (upd (μ.2.1 241) l8.toNatClampNeg (l5 / 25)))) _
                rw [e19]
                refine ab_U.run 8 (S' := (17, [some (.ref 232), none, none, some (.int l3), some (.int (l4 + 0)), some (.int ((l5 - l5 / 25 * 25) * 5)), some (.int (l6 ||| (1 <<< ((l5 / 25) &&& 31)))), some (.int 0), some (.int (l8 + 1)), some (.int (l5 / 25)), some (.int 0)], [], hp X G m18)) rfl ?_
                exact ab_U.weak (ih _ _ _ _ _ _ _ _ hf) (ab_leL.of ⟨rfl, ⟨rfl, ⟨rfl, ⟨rfl, ⟨rfl, ⟨rfl, ⟨rfl, trivial⟩⟩⟩⟩⟩⟩⟩)
              · rw [if_neg b16] at hf
                refine ab_U.run 5 (S' := (85, [some (.ref 232), none, none, some (.int l3), some (.int l4), some (.int ((l5 - l5 / 25 * 25) * 5)), some (.int l6), some (.int l7), some (.int l8), some (.int (l5 / 25)), some (.int 0)], [.int ((l6 >>> ((l5 / 25) &&& 31)) &&& 1)], hp X G μ)) rfl ?_
                refine ab_U.if_ne rfl (fun b20 => ?_) (fun b20 => ?_)
                · rw [if_pos b20] at hf
                  refine ab_U.run 12 (S' := (112, [some (.ref 232), none, none, some (.int l3), some (.int l4), some (.int ((l5 - l5 / 25 * 25) * 5)), some (.int (l6 ||| (1 <<< ((l5 / 25) &&& 31)))), some (.int 0), some (.int l8), some (.int (l5 / 25)), some (.int 0)], [.int (l5 / 25), .int l8, .ref 241], hp X G μ)) rfl ?_
                  obtain ⟨c21, hf⟩ := ab_ifs hf
                  obtain ⟨m22, e23, hf⟩ := ab_bnd hf
                  have e23 := Option.some.inj e23
                  refine ab_U.iast (n := 3) rfl ⟨by decide, rfl⟩ c21 ?_
                  show ab_U _ _ _ (113, [some (.ref 232), none, none, some (.int l3), some (.int l4), some (.int ((l5 - l5 / 25 * 25) * 5)), some (.int (l6 ||| (1 <<< ((l5 / 25) &&& 31)))), some (.int 0), some (.int l8), some (.int (l5 / 25)), some (.int 0)], [], hp X G (fm_sA μ 241 (upd (μ.2.1 241) l8.toNatClampNeg (l5 / 25)))) _
                  rw [e23]
                  refine ab_U.run 8 (S' := (17, [some (.ref 232), none, none, some (.int l3), some (.int (l4 + 0)), some (.int ((l5 - l5 / 25 * 25) * 5)), some (.int (l6 ||| (1 <<< ((l5 / 25) &&& 31)))), some (.int 0), some (.int (l8 + 1)), some (.int (l5 / 25)), some (.int 0)], [], hp X G m22)) rfl ?_
                  exact ab_U.weak (ih _ _ _ _ _ _ _ _ hf) (ab_leL.of ⟨rfl, ⟨rfl, ⟨rfl, ⟨rfl, ⟨rfl, ⟨rfl, ⟨rfl, trivial⟩⟩⟩⟩⟩⟩⟩)
                · rw [if_neg b20] at hf
                  refine ab_U.run 12 (S' := (110, [some (.ref 232), none, none, some (.int l3), some (.int l4), some (.int ((l5 - l5 / 25 * 25) * 5)), some (.int (l6 ||| (1 <<< ((l5 / 25) &&& 31)))), some (.int 1), some (.int l8), some (.int (l5 / 25)), some (.int 0)], [.int l8, .ref 241], hp X G μ)) rfl ?_
                  refine ab_U.run 1 (S' := (112, [some (.ref 232), none, none, some (.int l3), some (.int l4), some (.int ((l5 - l5 / 25 * 25) * 5)), some (.int (l6 ||| (1 <<< ((l5 / 25) &&& 31)))), some (.int 1), some (.int l8), some (.int (l5 / 25)), some (.int 0)], [.int (l5 / 25), .int l8, .ref 241], hp X G μ)) rfl ?_
                  obtain ⟨c24, hf⟩ := ab_ifs hf
                  obtain ⟨m25, e26, hf⟩ := ab_bnd hf
                  have e26 := Option.some.inj e26
                  refine ab_U.iast (n := 3) rfl ⟨by decide, rfl⟩ c24 ?_
                  show ab_U _ _ _ (113, [some (.ref 232), none, none, some (.int l3), some (.int l4), some (.int ((l5 - l5 / 25 * 25) * 5)), some (.int (l6 ||| (1 <<< ((l5 / 25) &&& 31)))), some (.int 1), some (.int l8), some (.int (l5 / 25)), some (.int 0)], [], hp X G (fm_sA μ 241 (upd (μ.2.1 241) l8.toNatClampNeg (l5 / 25)))) _
                  rw [e26]
                  refine ab_U.run 5 (S' := (123, [some (.ref 232), none, none, some (.int l3), some (.int l4), some (.int ((l5 - l5 / 25 * 25) * 5)), some (.int (l6 ||| (1 <<< ((l5 / 25) &&& 31)))), some (.int 1), some (.int l8), some (.int (l5 / 25)), some (.int 0)], [.int 4, .int (l5 / 25), .int l4], hp X G m25)) rfl ?_
                  refine ab_U.ic_ge rfl (fun b27 => ?_) (fun b27 => ?_)
                  · rw [if_pos b27] at hf
                    refine ab_U.run 5 (S' := (17, [some (.ref 232), none, none, some (.int l3), some (.int (l4 + 0)), some (.int ((l5 - l5 / 25 * 25) * 5)), some (.int (l6 ||| (1 <<< ((l5 / 25) &&& 31)))), some (.int 1), some (.int (l8 + 1)), some (.int (l5 / 25)), some (.int 0)], [], hp X G m25)) rfl ?_
                    exact ab_U.weak (ih _ _ _ _ _ _ _ _ hf) (ab_leL.of ⟨rfl, ⟨rfl, ⟨rfl, ⟨rfl, ⟨rfl, ⟨rfl, ⟨rfl, trivial⟩⟩⟩⟩⟩⟩⟩)
                  · rw [if_neg b27] at hf
                    refine ab_U.run 8 (S' := (17, [some (.ref 232), none, none, some (.int l3), some (.int (l4 + 1)), some (.int ((l5 - l5 / 25 * 25) * 5)), some (.int (l6 ||| (1 <<< ((l5 / 25) &&& 31)))), some (.int 1), some (.int (l8 + 1)), some (.int (l5 / 25)), some (.int 0)], [], hp X G m25)) rfl ?_
                    exact ab_U.weak (ih _ _ _ _ _ _ _ _ hf) (ab_leL.of ⟨rfl, ⟨rfl, ⟨rfl, ⟨rfl, ⟨rfl, ⟨rfl, ⟨rfl, trivial⟩⟩⟩⟩⟩⟩⟩)
        · rw [if_neg b6] at hf
          refine ab_U.run 4 (S' := (55, [some (.ref 232), none, none, some (.int l3), some (.int l4), some (.int ((l5 - l5 / 25 * 25) * 5)), some (.int l6), some (.int l7), some (.int l8), some (.int (l5 / 25)), some (.int 1)], [.int l7], hp X G μ)) rfl ?_
          refine ab_U.if_eq rfl (fun b28 => ?_) (fun b28 => ?_)
          · rw [if_pos b28] at hf
            refine ab_U.run 12 (S' := (112, [some (.ref 232), none, none, some (.int l3), some (.int l4), some (.int ((l5 - l5 / 25 * 25) * 5)), some (.int (l6 ||| (1 <<< ((l5 / 25) &&& 31)))), some (.int 0), some (.int l8), some (.int (l5 / 25)), some (.int 1)], [.int (l5 / 25), .int l8, .ref 241], hp X G μ)) rfl ?_
            obtain ⟨c29, hf⟩ := ab_ifs hf
            obtain ⟨m30, e31, hf⟩ := ab_bnd hf
            have e31 := Option.some.inj e31
            refine ab_U.iast (n := 3) rfl ⟨by decide, rfl⟩ c29 ?_
            show ab_U _ _ _ (113, [some (.ref 232), none, none, some (.int l3), some (.int l4), some (.int ((l5 - l5 / 25 * 25) * 5)), some (.int (l6 ||| (1 <<< ((l5 / 25) &&& 31)))), some (.int 0), some (.int l8), some (.int (l5 / 25)), some (.int 1)], [], hp X G (fm_sA μ 241 (upd (μ.2.1 241) l8.toNatClampNeg (l5 / 25)))) _
            rw [e31]
            refine ab_U.run 8 (S' := (17, [some (.ref 232), none, none, some (.int l3), some (.int (l4 + 0)), some (.int ((l5 - l5 / 25 * 25) * 5)), some (.int (l6 ||| (1 <<< ((l5 / 25) &&& 31)))), some (.int 0), some (.int (l8 + 1)), some (.int (l5 / 25)), some (.int 1)], [], hp X G m30)) rfl ?_
            exact ab_U.weak (ih _ _ _ _ _ _ _ _ hf) (ab_leL.of ⟨rfl, ⟨rfl, ⟨rfl, ⟨rfl, ⟨rfl, ⟨rfl, ⟨rfl, trivial⟩⟩⟩⟩⟩⟩⟩)
          · rw [if_neg b28] at hf
            refine ab_U.run 2 (S' := (61, [some (.ref 232), none, none, some (.int l3), some (.int l4), some (.int ((l5 - l5 / 25 * 25) * 5)), some (.int l6), some (.int l7), some (.int l8), some (.int (l5 / 25)), some (.int 1)], [.int 4, .int (l5 / 25)], hp X G μ)) rfl ?_
            refine ab_U.ic_eq rfl (fun b32 => ?_) (fun b32 => ?_)
            · rw [if_pos b32] at hf
              refine ab_U.run 12 (S' := (110, [some (.ref 232), none, none, some (.int l3), some (.int l4), some (.int ((l5 - l5 / 25 * 25) * 5)), some (.int (l6 ||| (1 <<< ((l5 / 25) &&& 31)))), some (.int 1), some (.int l8), some (.int (l5 / 25)), some (.int 1)], [.int l8, .ref 241], hp X G μ)) rfl ?_
              refine ab_U.run 1 (S' := (112, [some (.ref 232), none, none, some (.int l3), some (.int l4), some (.int ((l5 - l5 / 25 * 25) * 5)), some (.int (l6 ||| (1 <<< ((l5 / 25) &&& 31)))), some (.int 1), some (.int l8), some (.int (l5 / 25)), some (.int 1)], [.int (l5 / 25), .int l8, .ref 241], hp X G μ)) rfl ?_
              obtain ⟨c33, hf⟩ := ab_ifs hf
              obtain ⟨m34, e35, hf⟩ := ab_bnd hf
              have e35 := Option.some.inj e35
              refine ab_U.iast (n := 3) rfl ⟨by decide, rfl⟩ c33 ?_
              show ab_U _ _ _ (113, [some (.ref 232), none, none, some (.int l3), some (.int l4), some (.int ((l5 - l5 / 25 * 25) * 5)), some (.int (l6 ||| (1 <<< ((l5 / 25) &&& 31)))), some (.int 1), some (.int l8), some (.int (l5 / 25)), some (.int 1)], [], hp X G (fm_sA μ 241 (upd (μ.2.1 241) l8.toNatClampNeg (l5 / 25)))) _
              rw [e35]
              refine ab_U.run 5 (S' := (123, [some (.ref 232), none, none, some (.int l3), some (.int l4), some (.int ((l5 - l5 / 25 * 25) * 5)), some (.int (l6 ||| (1 <<< ((l5 / 25) &&& 31)))), some (.int 1), some (.int l8), some (.int (l5 / 25)), some (.int 1)], [.int 4, .int (l5 / 25), .int l4], hp X G m34)) rfl ?_
              refine ab_U.ic_ge rfl (fun b36 => ?_) (fun b36 => ?_)
              · rw [if_pos b36] at hf
                refine ab_U.run 5 (S' := (17, [some (.ref 232), none, none, some (.int l3), some (.int (l4 + 0)), some (.int ((l5 - l5 / 25 * 25) * 5)), some (.int (l6 ||| (1 <<< ((l5 / 25) &&& 31)))), some (.int 1), some (.int (l8 + 1)), some (.int (l5 / 25)), some (.int 1)], [], hp X G m34)) rfl ?_
                exact ab_U.weak (ih _ _ _ _ _ _ _ _ hf) (ab_leL.of ⟨rfl, ⟨rfl, ⟨rfl, ⟨rfl, ⟨rfl, ⟨rfl, ⟨rfl, trivial⟩⟩⟩⟩⟩⟩⟩)
              · rw [if_neg b36] at hf
                refine ab_U.run 7 (S' := (17, [some (.ref 232), none, none, some (.int l3), some (.int (l4 + 0)), some (.int ((l5 - l5 / 25 * 25) * 5)), some (.int (l6 ||| (1 <<< ((l5 / 25) &&& 31)))), some (.int 1), some (.int (l8 + 1)), some (.int (l5 / 25)), some (.int 1)], [], hp X G m34)) rfl ?_
                exact ab_U.weak (ih _ _ _ _ _ _ _ _ hf) (ab_leL.of ⟨rfl, ⟨rfl, ⟨rfl, ⟨rfl, ⟨rfl, ⟨rfl, ⟨rfl, trivial⟩⟩⟩⟩⟩⟩⟩)
            · rw [if_neg b32] at hf
              refine ab_U.run 12 (S' := (108, [some (.ref 232), none, none, some (.int l3), some (.int l4), some (.int ((l5 - l5 / 25 * 25) * 5)), some (.int (l6 ||| (1 <<< ((l5 / 25) &&& 31)))), some (.int 0), some (.int l8), some (.int (l5 / 25)), some (.int 1)], [.ref 241], hp X G μ)) rfl ?_
              refine ab_U.run 2 (S' := (112, [some (.ref 232), none, none, some (.int l3), some (.int l4), some (.int ((l5 - l5 / 25 * 25) * 5)), some (.int (l6 ||| (1 <<< ((l5 / 25) &&& 31)))), some (.int 0), some (.int l8), some (.int (l5 / 25)), some (.int 1)], [.int (l5 / 25), .int l8, .ref 241], hp X G μ)) rfl ?_
              obtain ⟨c37, hf⟩ := ab_ifs hf
              obtain ⟨m38, e39, hf⟩ := ab_bnd hf
              have e39 := Option.some.inj e39
              refine ab_U.iast (n := 3) rfl ⟨by decide, rfl⟩ c37 ?_
              show ab_U _ _ _ (113, [some (.ref 232), none, none, some (.int l3), some (.int l4), some (.int ((l5 - l5 / 25 * 25) * 5)), some (.int (l6 ||| (1 <<< ((l5 / 25) &&& 31)))), some (.int 0), some (.int l8), some (.int (l5 / 25)), some (.int 1)], [], hp X G (fm_sA μ 241 (upd (μ.2.1 241) l8.toNatClampNeg (l5 / 25)))) _
              rw [e39]
              refine ab_U.run 8 (S' := (17, [some (.ref 232), none, none, some (.int l3), some (.int (l4 + 0)), some (.int ((l5 - l5 / 25 * 25) * 5)), some (.int (l6 ||| (1 <<< ((l5 / 25) &&& 31)))), some (.int 0), some (.int (l8 + 1)), some (.int (l5 / 25)), some (.int 1)], [], hp X G m38)) rfl ?_
              exact ab_U.weak (ih _ _ _ _ _ _ _ _ hf) (ab_leL.of ⟨rfl, ⟨rfl, ⟨rfl, ⟨rfl, ⟨rfl, ⟨rfl, ⟨rfl, trivial⟩⟩⟩⟩⟩⟩⟩)
set_option maxRecDepth 20000 in
def f_X9_laysHands (F : Nat)  (x0 : Int32) (x1 : Int32) (x2 : Int32) (μ : fm_M) : Option (Int32 × fm_M) := g_X9_laysHands F  F 17 x2 0 x0 (1 <<< (x1 &&& 31)) 1 0 μ
set_option maxRecDepth 20000 in
theorem t_X9_laysHands {X : Nat × (Nat → Int32)} {G : Nat → Nat → Option Nat} (hG : fm_Gok G) {F : Nat}   {x0 : Int32} {x1 : Int32} {x2 : Int32} {μ : fm_M} {r : Int32 × fm_M} (hf : f_X9_laysHands F x0 x1 x2 μ = some r) : ab_F 1 182 [.ref 232, .int x0, .int x1, .int x2] (hp X G μ) (some (.int r.1)) (hp X G r.2) := by
  unfold f_X9_laysHands at hf
  refine ab_T.of (d := 0) rfl (Nat.le_of_ble_eq_true rfl) ?_
  show ab_U _ _ kX9_laysHands (0, [some (.ref 232), some (.int x0), some (.int x1), some (.int x2), none, none, none, none, none, none, none], [], hp X G μ) _
  refine ab_U.run 12 (S' := (17, [some (.ref 232), some (.int x0), some (.int x1), some (.int x2), some (.int 0), some (.int x0), some (.int (1 <<< (x1 &&& 31))), some (.int 1), some (.int 0), none, none], [], hp X G μ)) rfl ?_
  exact ab_U.weak ((t_X9_laysHands_g (X := X) hG   F) _ _ _ _ _ _ _ _ hf) (ab_leL.of ⟨rfl, ⟨rfl, ⟨rfl, ⟨rfl, ⟨rfl, ⟨rfl, ⟨rfl, trivial⟩⟩⟩⟩⟩⟩⟩)
set_option maxRecDepth 20000 in
def b_X9_handed_29 (F : Nat)  (gg : Nat → Int32 → Int32 → Int32 → Int32 → Int32 → fm_M → Option (Int32 × fm_M)) (l1 : Int32) (l2 : Int32) (l3 : Int32) (l4 : Int32) (l5 : Int32) (μ : fm_M) : Option (Int32 × fm_M) := (if l2 ≤ l5 then some (l3, μ) else (if ab_in l5 3 = true then (Option.bind (f_X9_wayOn F 0 l4 (μ.2.1 241 l5.toNatClampNeg) μ) (fun q3 => (if ab_in (8 + l1) 228 = true then (if ab_in (q3.2.2.1 233 (8 + l1).toNatClampNeg) 4 = true then (if ab_in l4 228 = true then (Option.bind (f_X9_rateOf F (q3.2.2.1 235 (q3.2.2.1 233 (8 + l1).toNatClampNeg).toNatClampNeg) (q3.2.2.1 233 l4.toNatClampNeg) q3.2) (fun q8 => (Option.bind (f_X9_afterOf F l3 q8.1 q3.1 q8.2) (fun q10 => (Option.bind (some (fm_sI q10.2 232 24 ((q10.2.1 232 24) + q3.1))) (fun m12 => (if ab_in l5 3 = true then gg 29 l1 l2 q10.1 (m12.2.1 241 l5.toNatClampNeg) (l5 + 1) m12 else none))))))) else none) else none) else none))) else none))
def g_X9_handed (F : Nat)  : Nat → Nat → Int32 → Int32 → Int32 → Int32 → Int32 → fm_M → Option (Int32 × fm_M)
  | 0, _, _, _, _, _, _, _ => none
  | n + 1, pc, l1, l2, l3, l4, l5, μ => if pc = 29 then b_X9_handed_29 F  (g_X9_handed F  n) l1 l2 l3 l4 l5 μ else none
set_option maxRecDepth 20000 in
theorem t_X9_handed_g {X : Nat × (Nat → Int32)} {G : Nat → Nat → Option Nat} (hG : fm_Gok G) {F : Nat}    : ∀ n : Nat, (∀ (l1 : Int32) (l2 : Int32) (l3 : Int32) (l4 : Int32) (l5 : Int32) (μ : fm_M) (r : Int32 × fm_M), g_X9_handed F  n 29 l1 l2 l3 l4 l5 μ = some r → ab_U 2 (some .int) kX9_handed (29, [some (.ref 232), some (.int l1), some (.int l2), some (.int l3), some (.int l4), some (.int l5), none], [], hp X G μ) (fun r9 h9 => r9 = some (.int r.1) ∧ h9 = hp X G r.2))
  | 0 => by
    intros
    rename_i h
    cases h
  | n + 1 => by
    have ih := t_X9_handed_g (X := X) hG (F := F)   n
    · intro l1 l2 l3 l4 l5 μ r hf
      have hf : b_X9_handed_29 F  (g_X9_handed F  n) l1 l2 l3 l4 l5 μ = some r := hf
      unfold b_X9_handed_29 at hf
      refine ab_U.run 2 (S' := (32, [some (.ref 232), some (.int l1), some (.int l2), some (.int l3), some (.int l4), some (.int l5), none], [.int l2, .int l5], hp X G μ)) rfl ?_
      refine ab_U.ic_ge rfl (fun b1 => ?_) (fun b1 => ?_)
      · rw [if_pos b1] at hf
        refine ab_U.run 1 (S' := (110, [some (.ref 232), some (.int l1), some (.int l2), some (.int l3), some (.int l4), some (.int l5), none], [.int l3], hp X G μ)) rfl ?_
        obtain rfl := Option.some.inj hf
        exact ab_U.ret rfl rfl ⟨rfl, rfl⟩
      · rw [if_neg b1] at hf
        refine ab_U.run 6 (S' := (45, [some (.ref 232), some (.int l1), some (.int l2), some (.int l3), some (.int l4), some (.int l5), none], [.int l5, .ref 241, .int l4, .int 0, .ref 232], hp X G μ)) rfl ?_
        obtain ⟨c2, hf⟩ := ab_ifs hf
        refine ab_U.iald (n := 3) rfl ⟨by decide, rfl⟩ c2 ?_
        show ab_U _ _ _ (46, [some (.ref 232), some (.int l1), some (.int l2), some (.int l3), some (.int l4), some (.int l5), none], [.int (μ.2.1 241 l5.toNatClampNeg), .int l4, .int 0, .ref 232], hp X G μ) _
        obtain ⟨q3, h4, hf⟩ := ab_bnd hf
        refine ab_U.fn rfl rfl (t_X9_wayOn (X := X) hG h4) (by omega) ?_
        show ab_U _ _ _ (49, [some (.ref 232), some (.int l1), some (.int l2), some (.int l3), some (.int l4), some (.int l5), none], [.int q3.1], hp X G q3.2) _
        refine ab_U.run 10 (S' := (65, [some (.ref 232), some (.int l1), some (.int l2), some (.int l3), some (.int l4), some (.int l5), some (.int q3.1)], [.int (8 + l1), .ref 233, .ref 235, .int l3, .ref 232], hp X G q3.2)) rfl ?_
        obtain ⟨c5, hf⟩ := ab_ifs hf
        refine ab_U.iald (n := 228) rfl ⟨by decide, rfl⟩ c5 ?_
        show ab_U _ _ _ (66, [some (.ref 232), some (.int l1), some (.int l2), some (.int l3), some (.int l4), some (.int l5), some (.int q3.1)], [.int (q3.2.2.1 233 (8 + l1).toNatClampNeg), .ref 235, .int l3, .ref 232], hp X G q3.2) _
        obtain ⟨c6, hf⟩ := ab_ifs hf
        refine ab_U.iald (n := 4) rfl ⟨by decide, rfl⟩ c6 ?_
        show ab_U _ _ _ (67, [some (.ref 232), some (.int l1), some (.int l2), some (.int l3), some (.int l4), some (.int l5), some (.int q3.1)], [.int (q3.2.2.1 235 (q3.2.2.1 233 (8 + l1).toNatClampNeg).toNatClampNeg), .int l3, .ref 232], hp X G q3.2) _
        refine ab_U.run 3 (S' := (73, [some (.ref 232), some (.int l1), some (.int l2), some (.int l3), some (.int l4), some (.int l5), some (.int q3.1)], [.int l4, .ref 233, .int (q3.2.2.1 235 (q3.2.2.1 233 (8 + l1).toNatClampNeg).toNatClampNeg), .int l3, .ref 232], hp X G q3.2)) rfl ?_
        obtain ⟨c7, hf⟩ := ab_ifs hf
        refine ab_U.iald (n := 228) rfl ⟨by decide, rfl⟩ c7 ?_
        show ab_U _ _ _ (74, [some (.ref 232), some (.int l1), some (.int l2), some (.int l3), some (.int l4), some (.int l5), some (.int q3.1)], [.int (q3.2.2.1 233 l4.toNatClampNeg), .int (q3.2.2.1 235 (q3.2.2.1 233 (8 + l1).toNatClampNeg).toNatClampNeg), .int l3, .ref 232], hp X G q3.2) _
        obtain ⟨q8, h9, hf⟩ := ab_bnd hf
        refine ab_U.fn rfl rfl (t_X9_rateOf (X := X) hG h9) (by omega) ?_
        show ab_U _ _ _ (77, [some (.ref 232), some (.int l1), some (.int l2), some (.int l3), some (.int l4), some (.int l5), some (.int q3.1)], [.int q8.1, .int l3, .ref 232], hp X G q8.2) _
        refine ab_U.run 1 (S' := (79, [some (.ref 232), some (.int l1), some (.int l2), some (.int l3), some (.int l4), some (.int l5), some (.int q3.1)], [.int q3.1, .int q8.1, .int l3, .ref 232], hp X G q8.2)) rfl ?_
        obtain ⟨q10, h11, hf⟩ := ab_bnd hf
        refine ab_U.fn rfl rfl (t_X9_afterOf (X := X) hG h11) (by omega) ?_
        show ab_U _ _ _ (82, [some (.ref 232), some (.int l1), some (.int l2), some (.int l3), some (.int l4), some (.int l5), some (.int q3.1)], [.int q10.1], hp X G q10.2) _
        refine ab_U.run 6 (S' := (91, [some (.ref 232), some (.int l1), some (.int l2), some (.int q10.1), some (.int l4), some (.int l5), some (.int q3.1)], [.int ((q10.2.1 232 24) + q3.1), .ref 232], hp X G q10.2)) rfl ?_
        obtain ⟨m12, e13, hf⟩ := ab_bnd hf
        have e13 := Option.some.inj e13
        refine ab_U.pfI (ci := 9) (k9 := 24) rfl ⟨by decide, rfl⟩ ⟨rfl, rfl, by decide, rfl⟩ rfl ?_
        show ab_U _ _ _ (94, [some (.ref 232), some (.int l1), some (.int l2), some (.int q10.1), some (.int l4), some (.int l5), some (.int q3.1)], [], hp X G (fm_sI q10.2 232 24 ((q10.2.1 232 24) + q3.1))) _
        rw [e13]
        refine ab_U.run 3 (S' := (100, [some (.ref 232), some (.int l1), some (.int l2), some (.int q10.1), some (.int l4), some (.int l5), some (.int q3.1)], [.int l5, .ref 241], hp X G m12)) rfl ?_
        obtain ⟨c14, hf⟩ := ab_ifs hf
        refine ab_U.iald (n := 3) rfl ⟨by decide, rfl⟩ c14 ?_
        show ab_U _ _ _ (101, [some (.ref 232), some (.int l1), some (.int l2), some (.int q10.1), some (.int l4), some (.int l5), some (.int q3.1)], [.int (m12.2.1 241 l5.toNatClampNeg)], hp X G m12) _
        refine ab_U.run 3 (S' := (29, [some (.ref 232), some (.int l1), some (.int l2), some (.int q10.1), some (.int (m12.2.1 241 l5.toNatClampNeg)), some (.int (l5 + 1)), some (.int q3.1)], [], hp X G m12)) rfl ?_
        exact ab_U.weak (ih _ _ _ _ _ _ _ hf) (ab_leL.of ⟨rfl, ⟨rfl, ⟨rfl, ⟨rfl, ⟨rfl, ⟨rfl, trivial⟩⟩⟩⟩⟩⟩)
set_option maxRecDepth 20000 in
def f_X9_handed (F : Nat)  (x0 : Int32) (x1 : Int32) (μ : fm_M) : Option (Int32 × fm_M) := (if ab_in (13 + x0) 228 = true then (if ab_in (18 + x0) 228 = true then (Option.bind (some (fm_sI μ 232 24 0)) (fun m17 => g_X9_handed F  F 29 x0 x1 (μ.2.1 233 (13 + x0).toNatClampNeg) (μ.2.1 233 (18 + x0).toNatClampNeg) 0 m17)) else none) else none)
set_option maxRecDepth 20000 in
theorem t_X9_handed {X : Nat × (Nat → Int32)} {G : Nat → Nat → Option Nat} (hG : fm_Gok G) {F : Nat}   {x0 : Int32} {x1 : Int32} {μ : fm_M} {r : Int32 × fm_M} (hf : f_X9_handed F x0 x1 μ = some r) : ab_F 3 183 [.ref 232, .int x0, .int x1] (hp X G μ) (some (.int r.1)) (hp X G r.2) := by
  unfold f_X9_handed at hf
  refine ab_T.of (d := 2) rfl (Nat.le_of_ble_eq_true rfl) ?_
  show ab_U _ _ kX9_handed (0, [some (.ref 232), some (.int x0), some (.int x1), none, none, none, none], [], hp X G μ) _
  refine ab_U.run 5 (S' := (8, [some (.ref 232), some (.int x0), some (.int x1), none, none, none, none], [.int (13 + x0), .ref 233], hp X G μ)) rfl ?_
  obtain ⟨c15, hf⟩ := ab_ifs hf
  refine ab_U.iald (n := 228) rfl ⟨by decide, rfl⟩ c15 ?_
  show ab_U _ _ _ (9, [some (.ref 232), some (.int x0), some (.int x1), none, none, none, none], [.int (μ.2.1 233 (13 + x0).toNatClampNeg)], hp X G μ) _
  refine ab_U.run 6 (S' := (18, [some (.ref 232), some (.int x0), some (.int x1), some (.int (μ.2.1 233 (13 + x0).toNatClampNeg)), none, none, none], [.int (18 + x0), .ref 233], hp X G μ)) rfl ?_
  obtain ⟨c16, hf⟩ := ab_ifs hf
  refine ab_U.iald (n := 228) rfl ⟨by decide, rfl⟩ c16 ?_
  show ab_U _ _ _ (19, [some (.ref 232), some (.int x0), some (.int x1), some (.int (μ.2.1 233 (13 + x0).toNatClampNeg)), none, none, none], [.int (μ.2.1 233 (18 + x0).toNatClampNeg)], hp X G μ) _
  refine ab_U.run 3 (S' := (23, [some (.ref 232), some (.int x0), some (.int x1), some (.int (μ.2.1 233 (13 + x0).toNatClampNeg)), some (.int (μ.2.1 233 (18 + x0).toNatClampNeg)), none, none], [.int 0, .ref 232], hp X G μ)) rfl ?_
  obtain ⟨m17, e18, hf⟩ := ab_bnd hf
  have e18 := Option.some.inj e18
  refine ab_U.pfI (ci := 9) (k9 := 24) rfl ⟨by decide, rfl⟩ ⟨rfl, rfl, by decide, rfl⟩ rfl ?_
  show ab_U _ _ _ (26, [some (.ref 232), some (.int x0), some (.int x1), some (.int (μ.2.1 233 (13 + x0).toNatClampNeg)), some (.int (μ.2.1 233 (18 + x0).toNatClampNeg)), none, none], [], hp X G (fm_sI μ 232 24 0)) _
  rw [e18]
  refine ab_U.run 2 (S' := (29, [some (.ref 232), some (.int x0), some (.int x1), some (.int (μ.2.1 233 (13 + x0).toNatClampNeg)), some (.int (μ.2.1 233 (18 + x0).toNatClampNeg)), some (.int 0), none], [], hp X G m17)) rfl ?_
  exact ab_U.weak ((t_X9_handed_g (X := X) hG   F) _ _ _ _ _ _ _ hf) (ab_leL.of ⟨rfl, ⟨rfl, ⟨rfl, ⟨rfl, ⟨rfl, ⟨rfl, trivial⟩⟩⟩⟩⟩⟩)
set_option maxRecDepth 20000 in
def b_X9_way_75 (F : Nat)  (gg : Nat → Int32 → Int32 → Int32 → Int32 → Int32 → Int32 → Int32 → Int32 → fm_M → Option (Int32 × fm_M)) (l1 : Int32) (l2 : Int32) (l3 : Int32) (l4 : Int32) (l5 : Int32) (l6 : Int32) (l7 : Int32) (l8 : Int32) (μ : fm_M) : Option (Int32 × fm_M) := (if 125 ≤ l8 then (Option.bind (f_X9_laysHands F l7 l4 l2 μ) (fun q2 => (Option.bind (f_X9_handed F l1 q2.1 q2.2) (fun q4 => (if ¬ l3 = 0 then (if ¬ l3 = 1 then (if q2.1 ≤ (l3 - 10) then some ((-4), q4.2) else (if ab_in (l3 - 10) 3 = true then some ((q4.2.2.1 241 (l3 - 10).toNatClampNeg), q4.2) else none)) else some ((q4.2.1 232 24), q4.2)) else some (l5, q4.2)))))) else (Option.bind (f_X9_laysHands F l8 l4 l2 μ) (fun q10 => (if q10.1 = (-4) then gg 75 l1 l2 l3 l4 l5 l6 l7 (l8 + 1) q10.2 else (Option.bind (f_X9_handed F l1 q10.1 q10.2) (fun q13 => (if l5 < q13.1 then gg 75 l1 l2 l3 l4 q13.1 q10.1 l8 (l8 + 1) q13.2 else (if ¬ q13.1 = l5 then gg 75 l1 l2 l3 l4 l5 l6 l7 (l8 + 1) q13.2 else (if l6 ≤ q10.1 then gg 75 l1 l2 l3 l4 l5 l6 l7 (l8 + 1) q13.2 else gg 75 l1 l2 l3 l4 q13.1 q10.1 l8 (l8 + 1) q13.2)))))))))
def g_X9_way (F : Nat)  : Nat → Nat → Int32 → Int32 → Int32 → Int32 → Int32 → Int32 → Int32 → Int32 → fm_M → Option (Int32 × fm_M)
  | 0, _, _, _, _, _, _, _, _, _, _ => none
  | n + 1, pc, l1, l2, l3, l4, l5, l6, l7, l8, μ => if pc = 75 then b_X9_way_75 F  (g_X9_way F  n) l1 l2 l3 l4 l5 l6 l7 l8 μ else none
set_option maxRecDepth 20000 in
theorem t_X9_way_g {X : Nat × (Nat → Int32)} {G : Nat → Nat → Option Nat} (hG : fm_Gok G) {F : Nat}    : ∀ n : Nat, (∀ (l1 : Int32) (l2 : Int32) (l3 : Int32) (l4 : Int32) (l5 : Int32) (l6 : Int32) (l7 : Int32) (l8 : Int32) (μ : fm_M) (r : Int32 × fm_M), g_X9_way F  n 75 l1 l2 l3 l4 l5 l6 l7 l8 μ = some r → ab_U 3 (some .int) kX9_way (75, [some (.ref 232), some (.int l1), some (.int l2), some (.int l3), some (.int l4), some (.int l5), some (.int l6), some (.int l7), some (.int l8), none, none, none], [], hp X G μ) (fun r9 h9 => r9 = some (.int r.1) ∧ h9 = hp X G r.2))
  | 0 => by
    intros
    rename_i h
    cases h
  | n + 1 => by
    have ih := t_X9_way_g (X := X) hG (F := F)   n
    · intro l1 l2 l3 l4 l5 l6 l7 l8 μ r hf
      have hf : b_X9_way_75 F  (g_X9_way F  n) l1 l2 l3 l4 l5 l6 l7 l8 μ = some r := hf
      unfold b_X9_way_75 at hf
      refine ab_U.run 2 (S' := (79, [some (.ref 232), some (.int l1), some (.int l2), some (.int l3), some (.int l4), some (.int l5), some (.int l6), some (.int l7), some (.int l8), none, none, none], [.int 125, .int l8], hp X G μ)) rfl ?_
      refine ab_U.ic_ge rfl (fun b1 => ?_) (fun b1 => ?_)
      · rw [if_pos b1] at hf
        refine ab_U.run 4 (S' := (191, [some (.ref 232), some (.int l1), some (.int l2), some (.int l3), some (.int l4), some (.int l5), some (.int l6), some (.int l7), some (.int l8), none, none, none], [.int l2, .int l4, .int l7, .ref 232], hp X G μ)) rfl ?_
        obtain ⟨q2, h3, hf⟩ := ab_bnd hf
        refine ab_U.fn rfl rfl (t_X9_laysHands (X := X) hG h3) (by omega) ?_
        show ab_U _ _ _ (194, [some (.ref 232), some (.int l1), some (.int l2), some (.int l3), some (.int l4), some (.int l5), some (.int l6), some (.int l7), some (.int l8), none, none, none], [.int q2.1], hp X G q2.2) _
        refine ab_U.run 4 (S' := (200, [some (.ref 232), some (.int l1), some (.int l2), some (.int l3), some (.int l4), some (.int l5), some (.int l6), some (.int l7), some (.int q2.1), none, none, none], [.int q2.1, .int l1, .ref 232], hp X G q2.2)) rfl ?_
        obtain ⟨q4, h5, hf⟩ := ab_bnd hf
        refine ab_U.fn rfl rfl (t_X9_handed (X := X) hG h5) (by omega) ?_
        show ab_U _ _ _ (203, [some (.ref 232), some (.int l1), some (.int l2), some (.int l3), some (.int l4), some (.int l5), some (.int l6), some (.int l7), some (.int q2.1), none, none, none], [.int q4.1], hp X G q4.2) _
        refine ab_U.run 2 (S' := (205, [some (.ref 232), some (.int l1), some (.int l2), some (.int l3), some (.int l4), some (.int l5), some (.int l6), some (.int l7), some (.int q2.1), none, none, none], [.int l3], hp X G q4.2)) rfl ?_
        refine ab_U.if_ne rfl (fun b6 => ?_) (fun b6 => ?_)
        · rw [if_pos b6] at hf
          refine ab_U.run 2 (S' := (215, [some (.ref 232), some (.int l1), some (.int l2), some (.int l3), some (.int l4), some (.int l5), some (.int l6), some (.int l7), some (.int q2.1), none, none, none], [.int 1, .int l3], hp X G q4.2)) rfl ?_
          refine ab_U.ic_ne rfl (fun b7 => ?_) (fun b7 => ?_)
          · rw [if_pos b7] at hf
            refine ab_U.run 4 (S' := (231, [some (.ref 232), some (.int l1), some (.int l2), some (.int l3), some (.int l4), some (.int l5), some (.int l6), some (.int l7), some (.int q2.1), none, none, none], [.int q2.1, .int (l3 - 10)], hp X G q4.2)) rfl ?_
            refine ab_U.ic_ge rfl (fun b8 => ?_) (fun b8 => ?_)
            · rw [if_pos b8] at hf
              refine ab_U.run 1 (S' := (248, [some (.ref 232), some (.int l1), some (.int l2), some (.int l3), some (.int l4), some (.int l5), some (.int l6), some (.int l7), some (.int q2.1), none, none, none], [.int (-4)], hp X G q4.2)) rfl ?_
              obtain rfl := Option.some.inj hf
              exact ab_U.ret rfl rfl ⟨rfl, rfl⟩
            · rw [if_neg b8] at hf
              refine ab_U.run 5 (S' := (242, [some (.ref 232), some (.int l1), some (.int l2), some (.int l3), some (.int l4), some (.int l5), some (.int l6), some (.int l7), some (.int q2.1), none, none, none], [.int (l3 - 10), .ref 241], hp X G q4.2)) rfl ?_
              obtain ⟨c9, hf⟩ := ab_ifs hf
              refine ab_U.iald (n := 3) rfl ⟨by decide, rfl⟩ c9 ?_
              show ab_U _ _ _ (243, [some (.ref 232), some (.int l1), some (.int l2), some (.int l3), some (.int l4), some (.int l5), some (.int l6), some (.int l7), some (.int q2.1), none, none, none], [.int (q4.2.2.1 241 (l3 - 10).toNatClampNeg)], hp X G q4.2) _
              refine ab_U.run 1 (S' := (248, [some (.ref 232), some (.int l1), some (.int l2), some (.int l3), some (.int l4), some (.int l5), some (.int l6), some (.int l7), some (.int q2.1), none, none, none], [.int (q4.2.2.1 241 (l3 - 10).toNatClampNeg)], hp X G q4.2)) rfl ?_
              obtain rfl := Option.some.inj hf
              exact ab_U.ret rfl rfl ⟨rfl, rfl⟩
          · rw [if_neg b7] at hf
            refine ab_U.run 3 (S' := (248, [some (.ref 232), some (.int l1), some (.int l2), some (.int l3), some (.int l4), some (.int l5), some (.int l6), some (.int l7), some (.int q2.1), none, none, none], [.int (q4.2.1 232 24)], hp X G q4.2)) rfl ?_
            obtain rfl := Option.some.inj hf
            exact ab_U.ret rfl rfl ⟨rfl, rfl⟩
        · rw [if_neg b6] at hf
          refine ab_U.run 2 (S' := (248, [some (.ref 232), some (.int l1), some (.int l2), some (.int l3), some (.int l4), some (.int l5), some (.int l6), some (.int l7), some (.int q2.1), none, none, none], [.int l5], hp X G q4.2)) rfl ?_
          obtain rfl := Option.some.inj hf
          exact ab_U.ret rfl rfl ⟨rfl, rfl⟩
      · rw [if_neg b1] at hf
        refine ab_U.run 4 (S' := (88, [some (.ref 232), some (.int l1), some (.int l2), some (.int l3), some (.int l4), some (.int l5), some (.int l6), some (.int l7), some (.int l8), none, none, none], [.int l2, .int l4, .int l8, .ref 232], hp X G μ)) rfl ?_
        obtain ⟨q10, h11, hf⟩ := ab_bnd hf
        refine ab_U.fn rfl rfl (t_X9_laysHands (X := X) hG h11) (by omega) ?_
        show ab_U _ _ _ (91, [some (.ref 232), some (.int l1), some (.int l2), some (.int l3), some (.int l4), some (.int l5), some (.int l6), some (.int l7), some (.int l8), none, none, none], [.int q10.1], hp X G q10.2) _
        refine ab_U.run 3 (S' := (97, [some (.ref 232), some (.int l1), some (.int l2), some (.int l3), some (.int l4), some (.int l5), some (.int l6), some (.int l7), some (.int l8), some (.int q10.1), none, none], [.int (-4), .int q10.1], hp X G q10.2)) rfl ?_
        refine ab_U.ic_eq rfl (fun b12 => ?_) (fun b12 => ?_)
        · rw [if_pos b12] at hf
          refine ab_U.run 2 (S' := (75, [some (.ref 232), some (.int l1), some (.int l2), some (.int l3), some (.int l4), some (.int l5), some (.int l6), some (.int l7), some (.int (l8 + 1)), some (.int q10.1), none, none], [], hp X G q10.2)) rfl ?_
          exact ab_U.weak (ih _ _ _ _ _ _ _ _ _ _ hf) (ab_leL.of ⟨rfl, ⟨rfl, ⟨rfl, ⟨rfl, ⟨rfl, ⟨rfl, ⟨rfl, ⟨rfl, ⟨rfl, trivial⟩⟩⟩⟩⟩⟩⟩⟩⟩)
        · rw [if_neg b12] at hf
          refine ab_U.run 3 (S' := (104, [some (.ref 232), some (.int l1), some (.int l2), some (.int l3), some (.int l4), some (.int l5), some (.int l6), some (.int l7), some (.int l8), some (.int q10.1), none, none], [.int q10.1, .int l1, .ref 232], hp X G q10.2)) rfl ?_
          obtain ⟨q13, h14, hf⟩ := ab_bnd hf
          refine ab_U.fn rfl rfl (t_X9_handed (X := X) hG h14) (by omega) ?_
          show ab_U _ _ _ (107, [some (.ref 232), some (.int l1), some (.int l2), some (.int l3), some (.int l4), some (.int l5), some (.int l6), some (.int l7), some (.int l8), some (.int q10.1), none, none], [.int q13.1], hp X G q13.2) _
          refine ab_U.run 3 (S' := (113, [some (.ref 232), some (.int l1), some (.int l2), some (.int l3), some (.int l4), some (.int l5), some (.int l6), some (.int l7), some (.int l8), some (.int q10.1), some (.int q13.1), none], [.int l5, .int q13.1], hp X G q13.2)) rfl ?_
          refine ab_U.ic_gt rfl (fun b15 => ?_) (fun b15 => ?_)
          · rw [if_pos b15] at hf
            refine ab_U.run 12 (S' := (163, [some (.ref 232), some (.int l1), some (.int l2), some (.int l3), some (.int l4), some (.int l5), some (.int l6), some (.int l8), some (.int l8), some (.int q10.1), some (.int q13.1), some (.int 1)], [.int q10.1], hp X G q13.2)) rfl ?_
            refine ab_U.run 8 (S' := (75, [some (.ref 232), some (.int l1), some (.int l2), some (.int l3), some (.int l4), some (.int q13.1), some (.int q10.1), some (.int l8), some (.int (l8 + 1)), some (.int q10.1), some (.int q13.1), some (.int 1)], [], hp X G q13.2)) rfl ?_
            exact ab_U.weak (ih _ _ _ _ _ _ _ _ _ _ hf) (ab_leL.of ⟨rfl, ⟨rfl, ⟨rfl, ⟨rfl, ⟨rfl, ⟨rfl, ⟨rfl, ⟨rfl, ⟨rfl, trivial⟩⟩⟩⟩⟩⟩⟩⟩⟩)
          · rw [if_neg b15] at hf
            refine ab_U.run 2 (S' := (120, [some (.ref 232), some (.int l1), some (.int l2), some (.int l3), some (.int l4), some (.int l5), some (.int l6), some (.int l7), some (.int l8), some (.int q10.1), some (.int q13.1), none], [.int l5, .int q13.1], hp X G q13.2)) rfl ?_
            refine ab_U.ic_ne rfl (fun b16 => ?_) (fun b16 => ?_)
            · rw [if_pos b16] at hf
              refine ab_U.run 12 (S' := (175, [some (.ref 232), some (.int l1), some (.int l2), some (.int l3), some (.int l4), some (.int l5), some (.int l6), some (.int l7), some (.int l8), some (.int q10.1), some (.int q13.1), some (.int 0)], [], hp X G q13.2)) rfl ?_
              refine ab_U.run 4 (S' := (75, [some (.ref 232), some (.int l1), some (.int l2), some (.int l3), some (.int l4), some (.int l5), some (.int l6), some (.int l7), some (.int (l8 + 1)), some (.int q10.1), some (.int q13.1), some (.int 0)], [], hp X G q13.2)) rfl ?_
              exact ab_U.weak (ih _ _ _ _ _ _ _ _ _ _ hf) (ab_leL.of ⟨rfl, ⟨rfl, ⟨rfl, ⟨rfl, ⟨rfl, ⟨rfl, ⟨rfl, ⟨rfl, ⟨rfl, trivial⟩⟩⟩⟩⟩⟩⟩⟩⟩)
            · rw [if_neg b16] at hf
              refine ab_U.run 2 (S' := (127, [some (.ref 232), some (.int l1), some (.int l2), some (.int l3), some (.int l4), some (.int l5), some (.int l6), some (.int l7), some (.int l8), some (.int q10.1), some (.int q13.1), none], [.int l6, .int q10.1], hp X G q13.2)) rfl ?_
              refine ab_U.ic_ge rfl (fun b17 => ?_) (fun b17 => ?_)
              · rw [if_pos b17] at hf
                refine ab_U.run 12 (S' := (175, [some (.ref 232), some (.int l1), some (.int l2), some (.int l3), some (.int l4), some (.int l5), some (.int l6), some (.int l7), some (.int l8), some (.int q10.1), some (.int q13.1), some (.int 0)], [], hp X G q13.2)) rfl ?_
                refine ab_U.run 4 (S' := (75, [some (.ref 232), some (.int l1), some (.int l2), some (.int l3), some (.int l4), some (.int l5), some (.int l6), some (.int l7), some (.int (l8 + 1)), some (.int q10.1), some (.int q13.1), some (.int 0)], [], hp X G q13.2)) rfl ?_
                exact ab_U.weak (ih _ _ _ _ _ _ _ _ _ _ hf) (ab_leL.of ⟨rfl, ⟨rfl, ⟨rfl, ⟨rfl, ⟨rfl, ⟨rfl, ⟨rfl, ⟨rfl, ⟨rfl, trivial⟩⟩⟩⟩⟩⟩⟩⟩⟩)
              · rw [if_neg b17] at hf
                refine ab_U.run 12 (S' := (163, [some (.ref 232), some (.int l1), some (.int l2), some (.int l3), some (.int l4), some (.int l5), some (.int l6), some (.int l8), some (.int l8), some (.int q10.1), some (.int q13.1), some (.int 1)], [.int q10.1], hp X G q13.2)) rfl ?_
                refine ab_U.run 8 (S' := (75, [some (.ref 232), some (.int l1), some (.int l2), some (.int l3), some (.int l4), some (.int q13.1), some (.int q10.1), some (.int l8), some (.int (l8 + 1)), some (.int q10.1), some (.int q13.1), some (.int 1)], [], hp X G q13.2)) rfl ?_
                exact ab_U.weak (ih _ _ _ _ _ _ _ _ _ _ hf) (ab_leL.of ⟨rfl, ⟨rfl, ⟨rfl, ⟨rfl, ⟨rfl, ⟨rfl, ⟨rfl, ⟨rfl, ⟨rfl, trivial⟩⟩⟩⟩⟩⟩⟩⟩⟩)
set_option maxRecDepth 20000 in
def f_X9_way (F : Nat)  (x0 : Int32) (x1 : Int32) (x2 : Int32) (μ : fm_M) : Option (Int32 × fm_M) := (Option.bind (f_X9_isStone F x0 μ) (fun q18 => (if q18.1 = 0 then some ((-1), q18.2) else (Option.bind (f_X9_isOne F x1 q18.2) (fun q21 => (if q21.1 = 0 then some ((-1), q21.2) else (if x2 = 0 then (if ab_in (18 + x0) 228 = true then (if ¬ (q21.2.2.1 233 (18 + x0).toNatClampNeg) = x1 then g_X9_way F  F 75 x0 x1 x2 (q21.2.2.1 233 (18 + x0).toNatClampNeg) (-1) 1000 0 0 q21.2 else some ((-2), q21.2)) else none) else (if x2 = 1 then (if ab_in (18 + x0) 228 = true then (if ¬ (q21.2.2.1 233 (18 + x0).toNatClampNeg) = x1 then g_X9_way F  F 75 x0 x1 x2 (q21.2.2.1 233 (18 + x0).toNatClampNeg) (-1) 1000 0 0 q21.2 else some ((-2), q21.2)) else none) else (Option.bind (f_X9_in F ((x2).toInt64) (Int64.ofNat 10) (Int64.ofNat 13) q21.2) (fun q30 => (if ¬ q30.1 = 0 then (if ab_in (18 + x0) 228 = true then (if ¬ (q30.2.2.1 233 (18 + x0).toNatClampNeg) = x1 then g_X9_way F  F 75 x0 x1 x2 (q30.2.2.1 233 (18 + x0).toNatClampNeg) (-1) 1000 0 0 q30.2 else some ((-2), q30.2)) else none) else some ((-1), q30.2))))))))))))
set_option maxRecDepth 20000 in
theorem t_X9_way {X : Nat × (Nat → Int32)} {G : Nat → Nat → Option Nat} (hG : fm_Gok G) {F : Nat}   {x0 : Int32} {x1 : Int32} {x2 : Int32} {μ : fm_M} {r : Int32 × fm_M} (hf : f_X9_way F x0 x1 x2 μ = some r) : ab_F 4 184 [.ref 232, .int x0, .int x1, .int x2] (hp X G μ) (some (.int r.1)) (hp X G r.2) := by
  unfold f_X9_way at hf
  refine ab_T.of (d := 3) rfl (Nat.le_of_ble_eq_true rfl) ?_
  show ab_U _ _ kX9_way (0, [some (.ref 232), some (.int x0), some (.int x1), some (.int x2), none, none, none, none, none, none, none, none], [], hp X G μ) _
  refine ab_U.run 2 (S' := (2, [some (.ref 232), some (.int x0), some (.int x1), some (.int x2), none, none, none, none, none, none, none, none], [.int x0, .ref 232], hp X G μ)) rfl ?_
  obtain ⟨q18, h19, hf⟩ := ab_bnd hf
  refine ab_U.fn rfl rfl (t_X9_isStone (X := X) hG h19) (by omega) ?_
  show ab_U _ _ _ (5, [some (.ref 232), some (.int x0), some (.int x1), some (.int x2), none, none, none, none, none, none, none, none], [.int q18.1], hp X G q18.2) _
  refine ab_U.if_eq rfl (fun b20 => ?_) (fun b20 => ?_)
  · rw [if_pos b20] at hf
    refine ab_U.run 1 (S' := (40, [some (.ref 232), some (.int x0), some (.int x1), some (.int x2), none, none, none, none, none, none, none, none], [.int (-1)], hp X G q18.2)) rfl ?_
    obtain rfl := Option.some.inj hf
    exact ab_U.ret rfl rfl ⟨rfl, rfl⟩
  · rw [if_neg b20] at hf
    refine ab_U.run 2 (S' := (10, [some (.ref 232), some (.int x0), some (.int x1), some (.int x2), none, none, none, none, none, none, none, none], [.int x1, .ref 232], hp X G q18.2)) rfl ?_
    obtain ⟨q21, h22, hf⟩ := ab_bnd hf
    refine ab_U.fn rfl rfl (t_X9_isOne (X := X) hG h22) (by omega) ?_
    show ab_U _ _ _ (13, [some (.ref 232), some (.int x0), some (.int x1), some (.int x2), none, none, none, none, none, none, none, none], [.int q21.1], hp X G q21.2) _
    refine ab_U.if_eq rfl (fun b23 => ?_) (fun b23 => ?_)
    · rw [if_pos b23] at hf
      refine ab_U.run 1 (S' := (40, [some (.ref 232), some (.int x0), some (.int x1), some (.int x2), none, none, none, none, none, none, none, none], [.int (-1)], hp X G q21.2)) rfl ?_
      obtain rfl := Option.some.inj hf
      exact ab_U.ret rfl rfl ⟨rfl, rfl⟩
    · rw [if_neg b23] at hf
      refine ab_U.run 1 (S' := (17, [some (.ref 232), some (.int x0), some (.int x1), some (.int x2), none, none, none, none, none, none, none, none], [.int x2], hp X G q21.2)) rfl ?_
      refine ab_U.if_eq rfl (fun b24 => ?_) (fun b24 => ?_)
      · rw [if_pos b24] at hf
        refine ab_U.run 5 (S' := (49, [some (.ref 232), some (.int x0), some (.int x1), some (.int x2), none, none, none, none, none, none, none, none], [.int (18 + x0), .ref 233], hp X G q21.2)) rfl ?_
        obtain ⟨c25, hf⟩ := ab_ifs hf
        refine ab_U.iald (n := 228) rfl ⟨by decide, rfl⟩ c25 ?_
        show ab_U _ _ _ (50, [some (.ref 232), some (.int x0), some (.int x1), some (.int x2), none, none, none, none, none, none, none, none], [.int (q21.2.2.1 233 (18 + x0).toNatClampNeg)], hp X G q21.2) _
        refine ab_U.run 3 (S' := (55, [some (.ref 232), some (.int x0), some (.int x1), some (.int x2), some (.int (q21.2.2.1 233 (18 + x0).toNatClampNeg)), none, none, none, none, none, none, none], [.int x1, .int (q21.2.2.1 233 (18 + x0).toNatClampNeg)], hp X G q21.2)) rfl ?_
        refine ab_U.ic_ne rfl (fun b26 => ?_) (fun b26 => ?_)
        · rw [if_pos b26] at hf
          refine ab_U.run 8 (S' := (75, [some (.ref 232), some (.int x0), some (.int x1), some (.int x2), some (.int (q21.2.2.1 233 (18 + x0).toNatClampNeg)), some (.int (-1)), some (.int 1000), some (.int 0), some (.int 0), none, none, none], [], hp X G q21.2)) rfl ?_
          exact ab_U.weak ((t_X9_way_g (X := X) hG   F) _ _ _ _ _ _ _ _ _ _ hf) (ab_leL.of ⟨rfl, ⟨rfl, ⟨rfl, ⟨rfl, ⟨rfl, ⟨rfl, ⟨rfl, ⟨rfl, ⟨rfl, trivial⟩⟩⟩⟩⟩⟩⟩⟩⟩)
        · rw [if_neg b26] at hf
          refine ab_U.run 1 (S' := (60, [some (.ref 232), some (.int x0), some (.int x1), some (.int x2), some (.int (q21.2.2.1 233 (18 + x0).toNatClampNeg)), none, none, none, none, none, none, none], [.int (-2)], hp X G q21.2)) rfl ?_
          obtain rfl := Option.some.inj hf
          exact ab_U.ret rfl rfl ⟨rfl, rfl⟩
      · rw [if_neg b24] at hf
        refine ab_U.run 2 (S' := (22, [some (.ref 232), some (.int x0), some (.int x1), some (.int x2), none, none, none, none, none, none, none, none], [.int 1, .int x2], hp X G q21.2)) rfl ?_
        refine ab_U.ic_eq rfl (fun b27 => ?_) (fun b27 => ?_)
        · rw [if_pos b27] at hf
          refine ab_U.run 5 (S' := (49, [some (.ref 232), some (.int x0), some (.int x1), some (.int x2), none, none, none, none, none, none, none, none], [.int (18 + x0), .ref 233], hp X G q21.2)) rfl ?_
          obtain ⟨c28, hf⟩ := ab_ifs hf
          refine ab_U.iald (n := 228) rfl ⟨by decide, rfl⟩ c28 ?_
          show ab_U _ _ _ (50, [some (.ref 232), some (.int x0), some (.int x1), some (.int x2), none, none, none, none, none, none, none, none], [.int (q21.2.2.1 233 (18 + x0).toNatClampNeg)], hp X G q21.2) _
          refine ab_U.run 3 (S' := (55, [some (.ref 232), some (.int x0), some (.int x1), some (.int x2), some (.int (q21.2.2.1 233 (18 + x0).toNatClampNeg)), none, none, none, none, none, none, none], [.int x1, .int (q21.2.2.1 233 (18 + x0).toNatClampNeg)], hp X G q21.2)) rfl ?_
          refine ab_U.ic_ne rfl (fun b29 => ?_) (fun b29 => ?_)
          · rw [if_pos b29] at hf
            refine ab_U.run 8 (S' := (75, [some (.ref 232), some (.int x0), some (.int x1), some (.int x2), some (.int (q21.2.2.1 233 (18 + x0).toNatClampNeg)), some (.int (-1)), some (.int 1000), some (.int 0), some (.int 0), none, none, none], [], hp X G q21.2)) rfl ?_
            exact ab_U.weak ((t_X9_way_g (X := X) hG   F) _ _ _ _ _ _ _ _ _ _ hf) (ab_leL.of ⟨rfl, ⟨rfl, ⟨rfl, ⟨rfl, ⟨rfl, ⟨rfl, ⟨rfl, ⟨rfl, ⟨rfl, trivial⟩⟩⟩⟩⟩⟩⟩⟩⟩)
          · rw [if_neg b29] at hf
            refine ab_U.run 1 (S' := (60, [some (.ref 232), some (.int x0), some (.int x1), some (.int x2), some (.int (q21.2.2.1 233 (18 + x0).toNatClampNeg)), none, none, none, none, none, none, none], [.int (-2)], hp X G q21.2)) rfl ?_
            obtain rfl := Option.some.inj hf
            exact ab_U.ret rfl rfl ⟨rfl, rfl⟩
        · rw [if_neg b27] at hf
          refine ab_U.run 4 (S' := (33, [some (.ref 232), some (.int x0), some (.int x1), some (.int x2), none, none, none, none, none, none, none, none], [.long (Int64.ofNat 13), .long (Int64.ofNat 10), .long (x2).toInt64], hp X G q21.2)) rfl ?_
          obtain ⟨q30, h31, hf⟩ := ab_bnd hf
          refine ab_U.fn rfl rfl (t_X9_in (X := X) hG h31) (by omega) ?_
          show ab_U _ _ _ (36, [some (.ref 232), some (.int x0), some (.int x1), some (.int x2), none, none, none, none, none, none, none, none], [.int q30.1], hp X G q30.2) _
          refine ab_U.if_ne rfl (fun b32 => ?_) (fun b32 => ?_)
          · rw [if_pos b32] at hf
            refine ab_U.run 5 (S' := (49, [some (.ref 232), some (.int x0), some (.int x1), some (.int x2), none, none, none, none, none, none, none, none], [.int (18 + x0), .ref 233], hp X G q30.2)) rfl ?_
            obtain ⟨c33, hf⟩ := ab_ifs hf
            refine ab_U.iald (n := 228) rfl ⟨by decide, rfl⟩ c33 ?_
            show ab_U _ _ _ (50, [some (.ref 232), some (.int x0), some (.int x1), some (.int x2), none, none, none, none, none, none, none, none], [.int (q30.2.2.1 233 (18 + x0).toNatClampNeg)], hp X G q30.2) _
            refine ab_U.run 3 (S' := (55, [some (.ref 232), some (.int x0), some (.int x1), some (.int x2), some (.int (q30.2.2.1 233 (18 + x0).toNatClampNeg)), none, none, none, none, none, none, none], [.int x1, .int (q30.2.2.1 233 (18 + x0).toNatClampNeg)], hp X G q30.2)) rfl ?_
            refine ab_U.ic_ne rfl (fun b34 => ?_) (fun b34 => ?_)
            · rw [if_pos b34] at hf
              refine ab_U.run 8 (S' := (75, [some (.ref 232), some (.int x0), some (.int x1), some (.int x2), some (.int (q30.2.2.1 233 (18 + x0).toNatClampNeg)), some (.int (-1)), some (.int 1000), some (.int 0), some (.int 0), none, none, none], [], hp X G q30.2)) rfl ?_
              exact ab_U.weak ((t_X9_way_g (X := X) hG   F) _ _ _ _ _ _ _ _ _ _ hf) (ab_leL.of ⟨rfl, ⟨rfl, ⟨rfl, ⟨rfl, ⟨rfl, ⟨rfl, ⟨rfl, ⟨rfl, ⟨rfl, trivial⟩⟩⟩⟩⟩⟩⟩⟩⟩)
            · rw [if_neg b34] at hf
              refine ab_U.run 1 (S' := (60, [some (.ref 232), some (.int x0), some (.int x1), some (.int x2), some (.int (q30.2.2.1 233 (18 + x0).toNatClampNeg)), none, none, none, none, none, none, none], [.int (-2)], hp X G q30.2)) rfl ?_
              obtain rfl := Option.some.inj hf
              exact ab_U.ret rfl rfl ⟨rfl, rfl⟩
          · rw [if_neg b32] at hf
            refine ab_U.run 1 (S' := (40, [some (.ref 232), some (.int x0), some (.int x1), some (.int x2), none, none, none, none, none, none, none, none], [.int (-1)], hp X G q30.2)) rfl ?_
            obtain rfl := Option.some.inj hf
            exact ab_U.ret rfl rfl ⟨rfl, rfl⟩
set_option maxRecDepth 20000 in
def b_X9_copies_2 (F : Nat)  (gg : Nat → Int32 → Int32 → Int32 → fm_M → Option (Unit × fm_M)) (l1 : Int32) (l2 : Int32) (l3 : Int32) (μ : fm_M) : Option (Unit × fm_M) := (if 38 ≤ l3 then some ((), μ) else (if ab_in (l1 + l3) 228 = true then (if ab_in (l2 + l3) 228 = true then (Option.bind (some (fm_sA μ 233 (upd (μ.2.1 233) (l2 + l3).toNatClampNeg (μ.2.1 233 (l1 + l3).toNatClampNeg)))) (fun m4 => gg 2 l1 l2 (l3 + 1) m4)) else none) else none))
def g_X9_copies (F : Nat)  : Nat → Nat → Int32 → Int32 → Int32 → fm_M → Option (Unit × fm_M)
  | 0, _, _, _, _, _ => none
  | n + 1, pc, l1, l2, l3, μ => if pc = 2 then b_X9_copies_2 F  (g_X9_copies F  n) l1 l2 l3 μ else none
set_option maxRecDepth 20000 in
theorem t_X9_copies_g {X : Nat × (Nat → Int32)} {G : Nat → Nat → Option Nat} (hG : fm_Gok G) {F : Nat}    : ∀ n : Nat, (∀ (l1 : Int32) (l2 : Int32) (l3 : Int32) (μ : fm_M) (r : Unit × fm_M), g_X9_copies F  n 2 l1 l2 l3 μ = some r → ab_U 0 (none) kX9_copies (2, [some (.ref 232), some (.int l1), some (.int l2), some (.int l3)], [], hp X G μ) (fun r9 h9 => r9 = none ∧ h9 = hp X G r.2))
  | 0 => by
    intros
    rename_i h
    cases h
  | n + 1 => by
    have ih := t_X9_copies_g (X := X) hG (F := F)   n
    · intro l1 l2 l3 μ r hf
      have hf : b_X9_copies_2 F  (g_X9_copies F  n) l1 l2 l3 μ = some r := hf
      unfold b_X9_copies_2 at hf
      refine ab_U.run 2 (S' := (5, [some (.ref 232), some (.int l1), some (.int l2), some (.int l3)], [.int 38, .int l3], hp X G μ)) rfl ?_
      refine ab_U.ic_ge rfl (fun b1 => ?_) (fun b1 => ?_)
      · rw [if_pos b1] at hf
        obtain rfl := Option.some.inj hf
        exact ab_U.ret rfl rfl ⟨rfl, rfl⟩
      · rw [if_neg b1] at hf
        refine ab_U.run 10 (S' := (22, [some (.ref 232), some (.int l1), some (.int l2), some (.int l3)], [.int (l1 + l3), .ref 233, .int (l2 + l3), .ref 233], hp X G μ)) rfl ?_
        obtain ⟨c2, hf⟩ := ab_ifs hf
        refine ab_U.iald (n := 228) rfl ⟨by decide, rfl⟩ c2 ?_
        show ab_U _ _ _ (23, [some (.ref 232), some (.int l1), some (.int l2), some (.int l3)], [.int (μ.2.1 233 (l1 + l3).toNatClampNeg), .int (l2 + l3), .ref 233], hp X G μ) _
        obtain ⟨c3, hf⟩ := ab_ifs hf
        obtain ⟨m4, e5, hf⟩ := ab_bnd hf
        have e5 := Option.some.inj e5
        refine ab_U.iast (n := 228) rfl ⟨by decide, rfl⟩ c3 ?_
        show ab_U _ _ _ (24, [some (.ref 232), some (.int l1), some (.int l2), some (.int l3)], [], hp X G (fm_sA μ 233 (upd (μ.2.1 233) (l2 + l3).toNatClampNeg (μ.2.1 233 (l1 + l3).toNatClampNeg)))) _
        rw [e5]
        refine ab_U.run 2 (S' := (2, [some (.ref 232), some (.int l1), some (.int l2), some (.int (l3 + 1))], [], hp X G m4)) rfl ?_
        exact ab_U.weak (ih _ _ _ _ _ hf) (ab_leL.of ⟨rfl, ⟨rfl, ⟨rfl, ⟨rfl, trivial⟩⟩⟩⟩)
set_option maxRecDepth 20000 in
def f_X9_copies (F : Nat)  (x0 : Int32) (x1 : Int32) (μ : fm_M) : Option (Unit × fm_M) := g_X9_copies F  F 2 x0 x1 0 μ
set_option maxRecDepth 20000 in
theorem t_X9_copies {X : Nat × (Nat → Int32)} {G : Nat → Nat → Option Nat} (hG : fm_Gok G) {F : Nat}   {x0 : Int32} {x1 : Int32} {μ : fm_M} {r : Unit × fm_M} (hf : f_X9_copies F x0 x1 μ = some r) : ab_F 1 185 [.ref 232, .int x0, .int x1] (hp X G μ) none (hp X G r.2) := by
  unfold f_X9_copies at hf
  refine ab_T.of (d := 0) rfl (Nat.le_of_ble_eq_true rfl) ?_
  show ab_U _ _ kX9_copies (0, [some (.ref 232), some (.int x0), some (.int x1), none], [], hp X G μ) _
  refine ab_U.run 2 (S' := (2, [some (.ref 232), some (.int x0), some (.int x1), some (.int 0)], [], hp X G μ)) rfl ?_
  exact ab_U.weak ((t_X9_copies_g (X := X) hG   F) _ _ _ _ _ hf) (ab_leL.of ⟨rfl, ⟨rfl, ⟨rfl, ⟨rfl, trivial⟩⟩⟩⟩)
set_option maxRecDepth 20000 in
def b_X9_laysRow_14 (F : Nat)  (gg : Nat → Int32 → Int32 → Int32 → Int32 → Int32 → Int32 → fm_M → Option (Int32 × fm_M)) (l1 : Int32) (l4 : Int32) (l5 : Int32) (l6 : Int32) (l7 : Int32) (l8 : Int32) (μ : fm_M) : Option (Int32 × fm_M) := (if l8 < 0 then (if l7 = 0 ∨ l7 = 1 then some (l7, μ) else none) else (if l7 = 0 then (if ab_in l8 5 = true then (Option.bind (some (fm_sA μ 242 (upd (μ.2.1 242) l8.toNatClampNeg (l5 - l5 / 5 * 5)))) (fun m5 => gg 14 l1 l4 (l5 / 5) (l6 ||| (1 <<< ((l5 - l5 / 5 * 5) &&& 31))) 0 (l8 + (-1)) m5)) else none) else (if ab_in (l1 + 23) 228 = true then (if (μ.2.1 233 (l1 + 23).toNatClampNeg) ≤ (l5 - l5 / 5 * 5) then (if ab_in l8 5 = true then (Option.bind (some (fm_sA μ 242 (upd (μ.2.1 242) l8.toNatClampNeg (l5 - l5 / 5 * 5)))) (fun m10 => gg 14 l1 l4 (l5 / 5) (l6 ||| (1 <<< ((l5 - l5 / 5 * 5) &&& 31))) 0 (l8 + (-1)) m10)) else none) else (if ab_in ((l1 + 18) + (l5 - l5 / 5 * 5)) 228 = true then (if ¬ (μ.2.1 233 ((l1 + 18) + (l5 - l5 / 5 * 5)).toNatClampNeg) = l4 then (if ab_in l8 5 = true then (Option.bind (some (fm_sA μ 242 (upd (μ.2.1 242) l8.toNatClampNeg (l5 - l5 / 5 * 5)))) (fun m15 => gg 14 l1 l4 (l5 / 5) (l6 ||| (1 <<< ((l5 - l5 / 5 * 5) &&& 31))) 0 (l8 + (-1)) m15)) else none) else (if ¬ ((l6 >>> ((l5 - l5 / 5 * 5) &&& 31)) &&& 1) = 0 then (if ab_in l8 5 = true then (Option.bind (some (fm_sA μ 242 (upd (μ.2.1 242) l8.toNatClampNeg (l5 - l5 / 5 * 5)))) (fun m19 => gg 14 l1 l4 (l5 / 5) (l6 ||| (1 <<< ((l5 - l5 / 5 * 5) &&& 31))) 0 (l8 + (-1)) m19)) else none) else (if ab_in l8 5 = true then (Option.bind (some (fm_sA μ 242 (upd (μ.2.1 242) l8.toNatClampNeg (l5 - l5 / 5 * 5)))) (fun m22 => gg 14 l1 l4 (l5 / 5) (l6 ||| (1 <<< ((l5 - l5 / 5 * 5) &&& 31))) 1 (l8 + (-1)) m22)) else none))) else none)) else none)))
def g_X9_laysRow (F : Nat)  : Nat → Nat → Int32 → Int32 → Int32 → Int32 → Int32 → Int32 → fm_M → Option (Int32 × fm_M)
  | 0, _, _, _, _, _, _, _, _ => none
  | n + 1, pc, l1, l4, l5, l6, l7, l8, μ => if pc = 14 then b_X9_laysRow_14 F  (g_X9_laysRow F  n) l1 l4 l5 l6 l7 l8 μ else none
set_option maxRecDepth 20000 in
theorem t_X9_laysRow_g {X : Nat × (Nat → Int32)} {G : Nat → Nat → Option Nat} (hG : fm_Gok G) {F : Nat}    : ∀ n : Nat, (∀ (l1 : Int32) (l4 : Int32) (l5 : Int32) (l6 : Int32) (l7 : Int32) (l8 : Int32) (μ : fm_M) (r : Int32 × fm_M), g_X9_laysRow F  n 14 l1 l4 l5 l6 l7 l8 μ = some r → ab_U 0 (some .boolean) kX9_laysRow (14, [some (.ref 232), some (.int l1), none, none, some (.int l4), some (.int l5), some (.int l6), some (.int l7), some (.int l8), none], [], hp X G μ) (fun r9 h9 => r9 = some (.int r.1) ∧ h9 = hp X G r.2))
  | 0 => by
    intros
    rename_i h
    cases h
  | n + 1 => by
    have ih := t_X9_laysRow_g (X := X) hG (F := F)   n
    · intro l1 l4 l5 l6 l7 l8 μ r hf
      have hf : b_X9_laysRow_14 F  (g_X9_laysRow F  n) l1 l4 l5 l6 l7 l8 μ = some r := hf
      unfold b_X9_laysRow_14 at hf
      refine ab_U.run 1 (S' := (16, [some (.ref 232), some (.int l1), none, none, some (.int l4), some (.int l5), some (.int l6), some (.int l7), some (.int l8), none], [.int l8], hp X G μ)) rfl ?_
      refine ab_U.if_lt rfl (fun b1 => ?_) (fun b1 => ?_)
      · rw [if_pos b1] at hf
        refine ab_U.run 1 (S' := (110, [some (.ref 232), some (.int l1), none, none, some (.int l4), some (.int l5), some (.int l6), some (.int l7), some (.int l8), none], [.int l7], hp X G μ)) rfl ?_
        obtain ⟨c2, hf⟩ := ab_ifs hf
        obtain rfl := Option.some.inj hf
        exact ab_U.retZ rfl c2 ⟨rfl, rfl⟩
      · rw [if_neg b1] at hf
        refine ab_U.run 9 (S' := (33, [some (.ref 232), some (.int l1), none, none, some (.int l4), some (.int (l5 / 5)), some (.int l6), some (.int l7), some (.int l8), some (.int (l5 - l5 / 5 * 5))], [.int l7], hp X G μ)) rfl ?_
        refine ab_U.if_eq rfl (fun b3 => ?_) (fun b3 => ?_)
        · rw [if_pos b3] at hf
          refine ab_U.run 12 (S' := (101, [some (.ref 232), some (.int l1), none, none, some (.int l4), some (.int (l5 / 5)), some (.int (l6 ||| (1 <<< ((l5 - l5 / 5 * 5) &&& 31)))), some (.int 0), some (.int l8), some (.int (l5 - l5 / 5 * 5))], [.int (l5 - l5 / 5 * 5), .int l8, .ref 242], hp X G μ)) rfl ?_
          obtain ⟨c4, hf⟩ := ab_ifs hf
          obtain ⟨m5, e6, hf⟩ := ab_bnd hf
          have e6 := Option.some.inj e6
          refine ab_U.iast (n := 5) rfl ⟨by decide, rfl⟩ c4 ?_
          show ab_U _ _ _ (102, [some (.ref 232), some (.int l1), none, none, some (.int l4), some (.int (l5 / 5)), some (.int (l6 ||| (1 <<< ((l5 - l5 / 5 * 5) &&& 31)))), some (.int 0), some (.int l8), some (.int (l5 - l5 / 5 * 5))], [], hp X G (fm_sA μ 242 (upd (μ.2.1 242) l8.toNatClampNeg (l5 - l5 / 5 * 5)))) _
          rw [e6]
          refine ab_U.run 2 (S' := (14, [some (.ref 232), some (.int l1), none, none, some (.int l4), some (.int (l5 / 5)), some (.int (l6 ||| (1 <<< ((l5 - l5 / 5 * 5) &&& 31)))), some (.int 0), some (.int (l8 + (-1))), some (.int (l5 - l5 / 5 * 5))], [], hp X G m5)) rfl ?_
          exact ab_U.weak (ih _ _ _ _ _ _ _ _ hf) (ab_leL.of ⟨rfl, ⟨rfl, ⟨rfl, ⟨rfl, ⟨rfl, ⟨rfl, ⟨rfl, trivial⟩⟩⟩⟩⟩⟩⟩)
        · rw [if_neg b3] at hf
          refine ab_U.run 6 (S' := (46, [some (.ref 232), some (.int l1), none, none, some (.int l4), some (.int (l5 / 5)), some (.int l6), some (.int l7), some (.int l8), some (.int (l5 - l5 / 5 * 5))], [.int (l1 + 23), .ref 233, .int (l5 - l5 / 5 * 5)], hp X G μ)) rfl ?_
          obtain ⟨c7, hf⟩ := ab_ifs hf
          refine ab_U.iald (n := 228) rfl ⟨by decide, rfl⟩ c7 ?_
          show ab_U _ _ _ (47, [some (.ref 232), some (.int l1), none, none, some (.int l4), some (.int (l5 / 5)), some (.int l6), some (.int l7), some (.int l8), some (.int (l5 - l5 / 5 * 5))], [.int (μ.2.1 233 (l1 + 23).toNatClampNeg), .int (l5 - l5 / 5 * 5)], hp X G μ) _
          refine ab_U.ic_ge rfl (fun b8 => ?_) (fun b8 => ?_)
          · rw [if_pos b8] at hf
            refine ab_U.run 12 (S' := (101, [some (.ref 232), some (.int l1), none, none, some (.int l4), some (.int (l5 / 5)), some (.int (l6 ||| (1 <<< ((l5 - l5 / 5 * 5) &&& 31)))), some (.int 0), some (.int l8), some (.int (l5 - l5 / 5 * 5))], [.int (l5 - l5 / 5 * 5), .int l8, .ref 242], hp X G μ)) rfl ?_
            obtain ⟨c9, hf⟩ := ab_ifs hf
            obtain ⟨m10, e11, hf⟩ := ab_bnd hf
            have e11 := Option.some.inj e11
            refine ab_U.iast (n := 5) rfl ⟨by decide, rfl⟩ c9 ?_
            show ab_U _ _ _ (102, [some (.ref 232), some (.int l1), none, none, some (.int l4), some (.int (l5 / 5)), some (.int (l6 ||| (1 <<< ((l5 - l5 / 5 * 5) &&& 31)))), some (.int 0), some (.int l8), some (.int (l5 - l5 / 5 * 5))], [], hp X G (fm_sA μ 242 (upd (μ.2.1 242) l8.toNatClampNeg (l5 - l5 / 5 * 5)))) _
            rw [e11]
            refine ab_U.run 2 (S' := (14, [some (.ref 232), some (.int l1), none, none, some (.int l4), some (.int (l5 / 5)), some (.int (l6 ||| (1 <<< ((l5 - l5 / 5 * 5) &&& 31)))), some (.int 0), some (.int (l8 + (-1))), some (.int (l5 - l5 / 5 * 5))], [], hp X G m10)) rfl ?_
            exact ab_U.weak (ih _ _ _ _ _ _ _ _ hf) (ab_leL.of ⟨rfl, ⟨rfl, ⟨rfl, ⟨rfl, ⟨rfl, ⟨rfl, ⟨rfl, trivial⟩⟩⟩⟩⟩⟩⟩)
          · rw [if_neg b8] at hf
            refine ab_U.run 7 (S' := (61, [some (.ref 232), some (.int l1), none, none, some (.int l4), some (.int (l5 / 5)), some (.int l6), some (.int l7), some (.int l8), some (.int (l5 - l5 / 5 * 5))], [.int ((l1 + 18) + (l5 - l5 / 5 * 5)), .ref 233], hp X G μ)) rfl ?_
            obtain ⟨c12, hf⟩ := ab_ifs hf
            refine ab_U.iald (n := 228) rfl ⟨by decide, rfl⟩ c12 ?_
            show ab_U _ _ _ (62, [some (.ref 232), some (.int l1), none, none, some (.int l4), some (.int (l5 / 5)), some (.int l6), some (.int l7), some (.int l8), some (.int (l5 - l5 / 5 * 5))], [.int (μ.2.1 233 ((l1 + 18) + (l5 - l5 / 5 * 5)).toNatClampNeg)], hp X G μ) _
            refine ab_U.run 1 (S' := (64, [some (.ref 232), some (.int l1), none, none, some (.int l4), some (.int (l5 / 5)), some (.int l6), some (.int l7), some (.int l8), some (.int (l5 - l5 / 5 * 5))], [.int l4, .int (μ.2.1 233 ((l1 + 18) + (l5 - l5 / 5 * 5)).toNatClampNeg)], hp X G μ)) rfl ?_
            refine ab_U.ic_ne rfl (fun b13 => ?_) (fun b13 => ?_)
            · rw [if_pos b13] at hf
              refine ab_U.run 12 (S' := (101, [some (.ref 232), some (.int l1), none, none, some (.int l4), some (.int (l5 / 5)), some (.int (l6 ||| (1 <<< ((l5 - l5 / 5 * 5) &&& 31)))), some (.int 0), some (.int l8), some (.int (l5 - l5 / 5 * 5))], [.int (l5 - l5 / 5 * 5), .int l8, .ref 242], hp X G μ)) rfl ?_
              obtain ⟨c14, hf⟩ := ab_ifs hf
              obtain ⟨m15, e16, hf⟩ := ab_bnd hf
              have e16 := Option.some.inj e16
              refine ab_U.iast (n := 5) rfl ⟨by decide, rfl⟩ c14 ?_
              show ab_U _ _ _ (102, [some (.ref 232), some (.int l1), none, none, some (.int l4), some (.int (l5 / 5)), some (.int (l6 ||| (1 <<< ((l5 - l5 / 5 * 5) &&& 31)))), some (.int 0), some (.int l8), some (.int (l5 - l5 / 5 * 5))], [], hp X G (fm_sA μ 242 (upd (μ.2.1 242) l8.toNatClampNeg (l5 - l5 / 5 * 5)))) _
              rw [e16]
              refine ab_U.run 2 (S' := (14, [some (.ref 232), some (.int l1), none, none, some (.int l4), some (.int (l5 / 5)), some (.int (l6 ||| (1 <<< ((l5 - l5 / 5 * 5) &&& 31)))), some (.int 0), some (.int (l8 + (-1))), some (.int (l5 - l5 / 5 * 5))], [], hp X G m15)) rfl ?_
              exact ab_U.weak (ih _ _ _ _ _ _ _ _ hf) (ab_leL.of ⟨rfl, ⟨rfl, ⟨rfl, ⟨rfl, ⟨rfl, ⟨rfl, ⟨rfl, trivial⟩⟩⟩⟩⟩⟩⟩)
            · rw [if_neg b13] at hf
              refine ab_U.run 5 (S' := (74, [some (.ref 232), some (.int l1), none, none, some (.int l4), some (.int (l5 / 5)), some (.int l6), some (.int l7), some (.int l8), some (.int (l5 - l5 / 5 * 5))], [.int ((l6 >>> ((l5 - l5 / 5 * 5) &&& 31)) &&& 1)], hp X G μ)) rfl ?_
              refine ab_U.if_ne rfl (fun b17 => ?_) (fun b17 => ?_)
              · rw [if_pos b17] at hf
                refine ab_U.run 12 (S' := (101, [some (.ref 232), some (.int l1), none, none, some (.int l4), some (.int (l5 / 5)), some (.int (l6 ||| (1 <<< ((l5 - l5 / 5 * 5) &&& 31)))), some (.int 0), some (.int l8), some (.int (l5 - l5 / 5 * 5))], [.int (l5 - l5 / 5 * 5), .int l8, .ref 242], hp X G μ)) rfl ?_
                obtain ⟨c18, hf⟩ := ab_ifs hf
                obtain ⟨m19, e20, hf⟩ := ab_bnd hf
                have e20 := Option.some.inj e20
                refine ab_U.iast (n := 5) rfl ⟨by decide, rfl⟩ c18 ?_
                show ab_U _ _ _ (102, [some (.ref 232), some (.int l1), none, none, some (.int l4), some (.int (l5 / 5)), some (.int (l6 ||| (1 <<< ((l5 - l5 / 5 * 5) &&& 31)))), some (.int 0), some (.int l8), some (.int (l5 - l5 / 5 * 5))], [], hp X G (fm_sA μ 242 (upd (μ.2.1 242) l8.toNatClampNeg (l5 - l5 / 5 * 5)))) _
                rw [e20]
                refine ab_U.run 2 (S' := (14, [some (.ref 232), some (.int l1), none, none, some (.int l4), some (.int (l5 / 5)), some (.int (l6 ||| (1 <<< ((l5 - l5 / 5 * 5) &&& 31)))), some (.int 0), some (.int (l8 + (-1))), some (.int (l5 - l5 / 5 * 5))], [], hp X G m19)) rfl ?_
                exact ab_U.weak (ih _ _ _ _ _ _ _ _ hf) (ab_leL.of ⟨rfl, ⟨rfl, ⟨rfl, ⟨rfl, ⟨rfl, ⟨rfl, ⟨rfl, trivial⟩⟩⟩⟩⟩⟩⟩)
              · rw [if_neg b17] at hf
                refine ab_U.run 12 (S' := (99, [some (.ref 232), some (.int l1), none, none, some (.int l4), some (.int (l5 / 5)), some (.int (l6 ||| (1 <<< ((l5 - l5 / 5 * 5) &&& 31)))), some (.int 1), some (.int l8), some (.int (l5 - l5 / 5 * 5))], [.int l8, .ref 242], hp X G μ)) rfl ?_
                refine ab_U.run 1 (S' := (101, [some (.ref 232), some (.int l1), none, none, some (.int l4), some (.int (l5 / 5)), some (.int (l6 ||| (1 <<< ((l5 - l5 / 5 * 5) &&& 31)))), some (.int 1), some (.int l8), some (.int (l5 - l5 / 5 * 5))], [.int (l5 - l5 / 5 * 5), .int l8, .ref 242], hp X G μ)) rfl ?_
                obtain ⟨c21, hf⟩ := ab_ifs hf
                obtain ⟨m22, e23, hf⟩ := ab_bnd hf
                have e23 := Option.some.inj e23
                refine ab_U.iast (n := 5) rfl ⟨by decide, rfl⟩ c21 ?_
                show ab_U _ _ _ (102, [some (.ref 232), some (.int l1), none, none, some (.int l4), some (.int (l5 / 5)), some (.int (l6 ||| (1 <<< ((l5 - l5 / 5 * 5) &&& 31)))), some (.int 1), some (.int l8), some (.int (l5 - l5 / 5 * 5))], [], hp X G (fm_sA μ 242 (upd (μ.2.1 242) l8.toNatClampNeg (l5 - l5 / 5 * 5)))) _
                rw [e23]
                refine ab_U.run 2 (S' := (14, [some (.ref 232), some (.int l1), none, none, some (.int l4), some (.int (l5 / 5)), some (.int (l6 ||| (1 <<< ((l5 - l5 / 5 * 5) &&& 31)))), some (.int 1), some (.int (l8 + (-1))), some (.int (l5 - l5 / 5 * 5))], [], hp X G m22)) rfl ?_
                exact ab_U.weak (ih _ _ _ _ _ _ _ _ hf) (ab_leL.of ⟨rfl, ⟨rfl, ⟨rfl, ⟨rfl, ⟨rfl, ⟨rfl, ⟨rfl, trivial⟩⟩⟩⟩⟩⟩⟩)
set_option maxRecDepth 20000 in
def f_X9_laysRow (F : Nat)  (x0 : Int32) (x1 : Int32) (x2 : Int32) (x3 : Int32) (μ : fm_M) : Option (Int32 × fm_M) := g_X9_laysRow F  F 14 x0 x3 x1 0 1 (x2 - 1) μ
set_option maxRecDepth 20000 in
theorem t_X9_laysRow {X : Nat × (Nat → Int32)} {G : Nat → Nat → Option Nat} (hG : fm_Gok G) {F : Nat}   {x0 : Int32} {x1 : Int32} {x2 : Int32} {x3 : Int32} {μ : fm_M} {r : Int32 × fm_M} (hf : f_X9_laysRow F x0 x1 x2 x3 μ = some r) : ab_F 1 186 [.ref 232, .int x0, .int x1, .int x2, .int x3] (hp X G μ) (some (.int r.1)) (hp X G r.2) := by
  unfold f_X9_laysRow at hf
  refine ab_T.of (d := 0) rfl (Nat.le_of_ble_eq_true rfl) ?_
  show ab_U _ _ kX9_laysRow (0, [some (.ref 232), some (.int x0), some (.int x1), some (.int x2), some (.int x3), none, none, none, none, none], [], hp X G μ) _
  refine ab_U.run 10 (S' := (14, [some (.ref 232), some (.int x0), some (.int x1), some (.int x2), some (.int x3), some (.int x1), some (.int 0), some (.int 1), some (.int (x2 - 1)), none], [], hp X G μ)) rfl ?_
  exact ab_U.weak ((t_X9_laysRow_g (X := X) hG   F) _ _ _ _ _ _ _ _ hf) (ab_leL.of ⟨rfl, ⟨rfl, ⟨rfl, ⟨rfl, ⟨rfl, ⟨rfl, ⟨rfl, trivial⟩⟩⟩⟩⟩⟩⟩)
set_option maxRecDepth 20000 in
def b_X9_fewestFrom_5 (F : Nat)  (gg : Nat → Int32 → Int32 → Int32 → Int32 → Int32 → Int32 → fm_M → Option (Int32 × fm_M)) (l1 : Int32) (l2 : Int32) (l3 : Int32) (l4 : Int32) (l5 : Int32) (l6 : Int32) (μ : fm_M) : Option (Int32 × fm_M) := (if ab_in (l1 + 23) 228 = true then (if (μ.2.1 233 (l1 + 23).toNatClampNeg) < l4 then some ((-4), μ) else gg 22 l1 l2 l3 l4 0 0 μ) else none)
set_option maxRecDepth 20000 in
def b_X9_fewestFrom_22 (F : Nat)  (gg : Nat → Int32 → Int32 → Int32 → Int32 → Int32 → Int32 → fm_M → Option (Int32 × fm_M)) (l1 : Int32) (l2 : Int32) (l3 : Int32) (l4 : Int32) (l5 : Int32) (l6 : Int32) (μ : fm_M) : Option (Int32 × fm_M) := (if l3 ≤ l5 then gg 5 l1 l2 (l3 * 5) (l4 + 1) 0 0 μ else (if ab_in (2 * l2) 8 = true then (Option.bind (f_X9_laysRow F l1 l5 l4 (μ.2.1 234 (2 * l2).toNatClampNeg) μ) (fun q5 => (if q5.1 = 0 then gg 22 l1 l2 l3 l4 (l5 + 1) 0 q5.2 else (Option.bind (f_X9_copies F l1 152 q5.2) (fun q8 => gg 59 l1 l2 l3 l4 l5 0 q8.2))))) else none))
set_option maxRecDepth 20000 in
def b_X9_fewestFrom_59 (F : Nat)  (gg : Nat → Int32 → Int32 → Int32 → Int32 → Int32 → Int32 → fm_M → Option (Int32 × fm_M)) (l1 : Int32) (l2 : Int32) (l3 : Int32) (l4 : Int32) (l5 : Int32) (l6 : Int32) (μ : fm_M) : Option (Int32 × fm_M) := (if l4 ≤ l6 then (if ab_in (185 + l2) 228 = true then (if ¬ (μ.2.1 233 (185 + l2).toNatClampNeg) = 0 then gg 22 l1 l2 l3 l4 (l5 + 1) 0 μ else some (l4, μ)) else none) else (if ab_in l6 5 = true then (if ab_in ((2 * l2) + 1) 8 = true then (Option.bind (f_X9_paysOn F 152 (μ.2.1 242 l6.toNatClampNeg) (μ.2.1 234 ((2 * l2) + 1).toNatClampNeg) μ) (fun q15 => (if ab_in l6 5 = true then (if ab_in l6 5 = true then (Option.bind (some (fm_sA q15.2 243 (upd (q15.2.2.1 243) l6.toNatClampNeg (q15.2.2.1 242 l6.toNatClampNeg)))) (fun m19 => gg 59 l1 l2 l3 l4 l5 (l6 + 1) m19)) else none) else none))) else none) else none))
def g_X9_fewestFrom (F : Nat)  : Nat → Nat → Int32 → Int32 → Int32 → Int32 → Int32 → Int32 → fm_M → Option (Int32 × fm_M)
  | 0, _, _, _, _, _, _, _, _ => none
  | n + 1, pc, l1, l2, l3, l4, l5, l6, μ => if pc = 5 then b_X9_fewestFrom_5 F  (g_X9_fewestFrom F  n) l1 l2 l3 l4 l5 l6 μ else if pc = 22 then b_X9_fewestFrom_22 F  (g_X9_fewestFrom F  n) l1 l2 l3 l4 l5 l6 μ else if pc = 59 then b_X9_fewestFrom_59 F  (g_X9_fewestFrom F  n) l1 l2 l3 l4 l5 l6 μ else none
set_option maxRecDepth 20000 in
theorem t_X9_fewestFrom_g {X : Nat × (Nat → Int32)} {G : Nat → Nat → Option Nat} (hG : fm_Gok G) {F : Nat}    : ∀ n : Nat, (∀ (l1 : Int32) (l2 : Int32) (l3 : Int32) (l4 : Int32) (l5 : Int32) (l6 : Int32) (μ : fm_M) (r : Int32 × fm_M), g_X9_fewestFrom F  n 5 l1 l2 l3 l4 l5 l6 μ = some r → ab_U 5 (some .int) kX9_fewestFrom (5, [some (.ref 232), some (.int l1), some (.int l2), some (.int l3), some (.int l4), none, none], [], hp X G μ) (fun r9 h9 => r9 = some (.int r.1) ∧ h9 = hp X G r.2)) ∧ (∀ (l1 : Int32) (l2 : Int32) (l3 : Int32) (l4 : Int32) (l5 : Int32) (l6 : Int32) (μ : fm_M) (r : Int32 × fm_M), g_X9_fewestFrom F  n 22 l1 l2 l3 l4 l5 l6 μ = some r → ab_U 5 (some .int) kX9_fewestFrom (22, [some (.ref 232), some (.int l1), some (.int l2), some (.int l3), some (.int l4), some (.int l5), none], [], hp X G μ) (fun r9 h9 => r9 = some (.int r.1) ∧ h9 = hp X G r.2)) ∧ (∀ (l1 : Int32) (l2 : Int32) (l3 : Int32) (l4 : Int32) (l5 : Int32) (l6 : Int32) (μ : fm_M) (r : Int32 × fm_M), g_X9_fewestFrom F  n 59 l1 l2 l3 l4 l5 l6 μ = some r → ab_U 5 (some .int) kX9_fewestFrom (59, [some (.ref 232), some (.int l1), some (.int l2), some (.int l3), some (.int l4), some (.int l5), some (.int l6)], [], hp X G μ) (fun r9 h9 => r9 = some (.int r.1) ∧ h9 = hp X G r.2))
  | 0 => by
    refine ⟨?_, ?_, ?_⟩
    all_goals (intros; rename_i h; cases h)
  | n + 1 => by
    have ih := t_X9_fewestFrom_g (X := X) hG (F := F)   n
    refine ⟨?_, ?_, ?_⟩
    · intro l1 l2 l3 l4 l5 l6 μ r hf
      have hf : b_X9_fewestFrom_5 F  (g_X9_fewestFrom F  n) l1 l2 l3 l4 l5 l6 μ = some r := hf
      unfold b_X9_fewestFrom_5 at hf
      refine ab_U.run 6 (S' := (15, [some (.ref 232), some (.int l1), some (.int l2), some (.int l3), some (.int l4), none, none], [.int (l1 + 23), .ref 233, .int l4], hp X G μ)) rfl ?_
      obtain ⟨c1, hf⟩ := ab_ifs hf
      refine ab_U.iald (n := 228) rfl ⟨by decide, rfl⟩ c1 ?_
      show ab_U _ _ _ (16, [some (.ref 232), some (.int l1), some (.int l2), some (.int l3), some (.int l4), none, none], [.int (μ.2.1 233 (l1 + 23).toNatClampNeg), .int l4], hp X G μ) _
      refine ab_U.ic_gt rfl (fun b2 => ?_) (fun b2 => ?_)
      · rw [if_pos b2] at hf
        refine ab_U.run 1 (S' := (145, [some (.ref 232), some (.int l1), some (.int l2), some (.int l3), some (.int l4), none, none], [.int (-4)], hp X G μ)) rfl ?_
        obtain rfl := Option.some.inj hf
        exact ab_U.ret rfl rfl ⟨rfl, rfl⟩
      · rw [if_neg b2] at hf
        refine ab_U.run 2 (S' := (22, [some (.ref 232), some (.int l1), some (.int l2), some (.int l3), some (.int l4), some (.int 0), none], [], hp X G μ)) rfl ?_
        exact ab_U.weak (ih.2.1 _ _ _ _ _ _ _ _ hf) (ab_leL.of ⟨rfl, ⟨rfl, ⟨rfl, ⟨rfl, ⟨rfl, ⟨rfl, trivial⟩⟩⟩⟩⟩⟩)
    · intro l1 l2 l3 l4 l5 l6 μ r hf
      have hf : b_X9_fewestFrom_22 F  (g_X9_fewestFrom F  n) l1 l2 l3 l4 l5 l6 μ = some r := hf
      unfold b_X9_fewestFrom_22 at hf
      refine ab_U.run 2 (S' := (25, [some (.ref 232), some (.int l1), some (.int l2), some (.int l3), some (.int l4), some (.int l5), none], [.int l3, .int l5], hp X G μ)) rfl ?_
      refine ab_U.ic_ge rfl (fun b3 => ?_) (fun b3 => ?_)
      · rw [if_pos b3] at hf
        refine ab_U.run 6 (S' := (5, [some (.ref 232), some (.int l1), some (.int l2), some (.int (l3 * 5)), some (.int (l4 + 1)), some (.int l5), none], [], hp X G μ)) rfl ?_
        exact ab_U.weak (ih.1 _ _ _ _ _ _ _ _ hf) (ab_leL.of ⟨rfl, ⟨rfl, ⟨rfl, ⟨rfl, ⟨rfl, trivial⟩⟩⟩⟩⟩)
      · rw [if_neg b3] at hf
        refine ab_U.run 9 (S' := (41, [some (.ref 232), some (.int l1), some (.int l2), some (.int l3), some (.int l4), some (.int l5), none], [.int (2 * l2), .ref 234, .int l4, .int l5, .int l1, .ref 232], hp X G μ)) rfl ?_
        obtain ⟨c4, hf⟩ := ab_ifs hf
        refine ab_U.iald (n := 8) rfl ⟨by decide, rfl⟩ c4 ?_
        show ab_U _ _ _ (42, [some (.ref 232), some (.int l1), some (.int l2), some (.int l3), some (.int l4), some (.int l5), none], [.int (μ.2.1 234 (2 * l2).toNatClampNeg), .int l4, .int l5, .int l1, .ref 232], hp X G μ) _
        obtain ⟨q5, h6, hf⟩ := ab_bnd hf
        refine ab_U.fn rfl rfl (t_X9_laysRow (X := X) hG h6) (by omega) ?_
        show ab_U _ _ _ (45, [some (.ref 232), some (.int l1), some (.int l2), some (.int l3), some (.int l4), some (.int l5), none], [.int q5.1], hp X G q5.2) _
        refine ab_U.if_eq rfl (fun b7 => ?_) (fun b7 => ?_)
        · rw [if_pos b7] at hf
          refine ab_U.run 2 (S' := (22, [some (.ref 232), some (.int l1), some (.int l2), some (.int l3), some (.int l4), some (.int (l5 + 1)), none], [], hp X G q5.2)) rfl ?_
          exact ab_U.weak (ih.2.1 _ _ _ _ _ _ _ _ hf) (ab_leL.of ⟨rfl, ⟨rfl, ⟨rfl, ⟨rfl, ⟨rfl, ⟨rfl, trivial⟩⟩⟩⟩⟩⟩)
        · rw [if_neg b7] at hf
          refine ab_U.run 3 (S' := (53, [some (.ref 232), some (.int l1), some (.int l2), some (.int l3), some (.int l4), some (.int l5), none], [.int 152, .int l1, .ref 232], hp X G q5.2)) rfl ?_
          obtain ⟨q8, h9, hf⟩ := ab_bnd hf
          refine ab_U.fn rfl rfl (t_X9_copies (X := X) hG h9) (by omega) ?_
          show ab_U _ _ _ (56, [some (.ref 232), some (.int l1), some (.int l2), some (.int l3), some (.int l4), some (.int l5), none], [], hp X G q8.2) _
          refine ab_U.run 2 (S' := (59, [some (.ref 232), some (.int l1), some (.int l2), some (.int l3), some (.int l4), some (.int l5), some (.int 0)], [], hp X G q8.2)) rfl ?_
          exact ab_U.weak (ih.2.2 _ _ _ _ _ _ _ _ hf) (ab_leL.of ⟨rfl, ⟨rfl, ⟨rfl, ⟨rfl, ⟨rfl, ⟨rfl, ⟨rfl, trivial⟩⟩⟩⟩⟩⟩⟩)
    · intro l1 l2 l3 l4 l5 l6 μ r hf
      have hf : b_X9_fewestFrom_59 F  (g_X9_fewestFrom F  n) l1 l2 l3 l4 l5 l6 μ = some r := hf
      unfold b_X9_fewestFrom_59 at hf
      refine ab_U.run 2 (S' := (63, [some (.ref 232), some (.int l1), some (.int l2), some (.int l3), some (.int l4), some (.int l5), some (.int l6)], [.int l4, .int l6], hp X G μ)) rfl ?_
      refine ab_U.ic_ge rfl (fun b10 => ?_) (fun b10 => ?_)
      · rw [if_pos b10] at hf
        refine ab_U.run 5 (S' := (120, [some (.ref 232), some (.int l1), some (.int l2), some (.int l3), some (.int l4), some (.int l5), some (.int l6)], [.int (185 + l2), .ref 233], hp X G μ)) rfl ?_
        obtain ⟨c11, hf⟩ := ab_ifs hf
        refine ab_U.iald (n := 228) rfl ⟨by decide, rfl⟩ c11 ?_
        show ab_U _ _ _ (121, [some (.ref 232), some (.int l1), some (.int l2), some (.int l3), some (.int l4), some (.int l5), some (.int l6)], [.int (μ.2.1 233 (185 + l2).toNatClampNeg)], hp X G μ) _
        refine ab_U.if_ne rfl (fun b12 => ?_) (fun b12 => ?_)
        · rw [if_pos b12] at hf
          refine ab_U.run 2 (S' := (22, [some (.ref 232), some (.int l1), some (.int l2), some (.int l3), some (.int l4), some (.int (l5 + 1)), some (.int l6)], [], hp X G μ)) rfl ?_
          exact ab_U.weak (ih.2.1 _ _ _ _ _ _ _ _ hf) (ab_leL.of ⟨rfl, ⟨rfl, ⟨rfl, ⟨rfl, ⟨rfl, ⟨rfl, trivial⟩⟩⟩⟩⟩⟩)
        · rw [if_neg b12] at hf
          refine ab_U.run 1 (S' := (126, [some (.ref 232), some (.int l1), some (.int l2), some (.int l3), some (.int l4), some (.int l5), some (.int l6)], [.int l4], hp X G μ)) rfl ?_
          obtain rfl := Option.some.inj hf
          exact ab_U.ret rfl rfl ⟨rfl, rfl⟩
      · rw [if_neg b10] at hf
        refine ab_U.run 5 (S' := (76, [some (.ref 232), some (.int l1), some (.int l2), some (.int l3), some (.int l4), some (.int l5), some (.int l6)], [.int l6, .ref 242, .int 152, .ref 232], hp X G μ)) rfl ?_
        obtain ⟨c13, hf⟩ := ab_ifs hf
        refine ab_U.iald (n := 5) rfl ⟨by decide, rfl⟩ c13 ?_
        show ab_U _ _ _ (77, [some (.ref 232), some (.int l1), some (.int l2), some (.int l3), some (.int l4), some (.int l5), some (.int l6)], [.int (μ.2.1 242 l6.toNatClampNeg), .int 152, .ref 232], hp X G μ) _
        refine ab_U.run 7 (S' := (86, [some (.ref 232), some (.int l1), some (.int l2), some (.int l3), some (.int l4), some (.int l5), some (.int l6)], [.int ((2 * l2) + 1), .ref 234, .int (μ.2.1 242 l6.toNatClampNeg), .int 152, .ref 232], hp X G μ)) rfl ?_
        obtain ⟨c14, hf⟩ := ab_ifs hf
        refine ab_U.iald (n := 8) rfl ⟨by decide, rfl⟩ c14 ?_
        show ab_U _ _ _ (87, [some (.ref 232), some (.int l1), some (.int l2), some (.int l3), some (.int l4), some (.int l5), some (.int l6)], [.int (μ.2.1 234 ((2 * l2) + 1).toNatClampNeg), .int (μ.2.1 242 l6.toNatClampNeg), .int 152, .ref 232], hp X G μ) _
        obtain ⟨q15, h16, hf⟩ := ab_bnd hf
        refine ab_U.fn rfl rfl (t_X9_paysOn (X := X) hG h16) (by omega) ?_
        show ab_U _ _ _ (90, [some (.ref 232), some (.int l1), some (.int l2), some (.int l3), some (.int l4), some (.int l5), some (.int l6)], [.int q15.1], hp X G q15.2) _
        refine ab_U.run 7 (S' := (103, [some (.ref 232), some (.int l1), some (.int l2), some (.int l3), some (.int l4), some (.int l5), some (.int l6)], [.int l6, .ref 242, .int l6, .ref 243], hp X G q15.2)) rfl ?_
        obtain ⟨c17, hf⟩ := ab_ifs hf
        refine ab_U.iald (n := 5) rfl ⟨by decide, rfl⟩ c17 ?_
        show ab_U _ _ _ (104, [some (.ref 232), some (.int l1), some (.int l2), some (.int l3), some (.int l4), some (.int l5), some (.int l6)], [.int (q15.2.2.1 242 l6.toNatClampNeg), .int l6, .ref 243], hp X G q15.2) _
        obtain ⟨c18, hf⟩ := ab_ifs hf
        obtain ⟨m19, e20, hf⟩ := ab_bnd hf
        have e20 := Option.some.inj e20
        refine ab_U.iast (n := 5) rfl ⟨by decide, rfl⟩ c18 ?_
        show ab_U _ _ _ (105, [some (.ref 232), some (.int l1), some (.int l2), some (.int l3), some (.int l4), some (.int l5), some (.int l6)], [], hp X G (fm_sA q15.2 243 (upd (q15.2.2.1 243) l6.toNatClampNeg (q15.2.2.1 242 l6.toNatClampNeg)))) _
        rw [e20]
        refine ab_U.run 2 (S' := (59, [some (.ref 232), some (.int l1), some (.int l2), some (.int l3), some (.int l4), some (.int l5), some (.int (l6 + 1))], [], hp X G m19)) rfl ?_
        exact ab_U.weak (ih.2.2 _ _ _ _ _ _ _ _ hf) (ab_leL.of ⟨rfl, ⟨rfl, ⟨rfl, ⟨rfl, ⟨rfl, ⟨rfl, ⟨rfl, trivial⟩⟩⟩⟩⟩⟩⟩)
set_option maxRecDepth 20000 in
def f_X9_fewestFrom (F : Nat)  (x0 : Int32) (x1 : Int32) (μ : fm_M) : Option (Int32 × fm_M) := g_X9_fewestFrom F  F 5 x0 x1 1 0 0 0 μ
set_option maxRecDepth 20000 in
theorem t_X9_fewestFrom {X : Nat × (Nat → Int32)} {G : Nat → Nat → Option Nat} (hG : fm_Gok G) {F : Nat}   {x0 : Int32} {x1 : Int32} {μ : fm_M} {r : Int32 × fm_M} (hf : f_X9_fewestFrom F x0 x1 μ = some r) : ab_F 6 187 [.ref 232, .int x0, .int x1] (hp X G μ) (some (.int r.1)) (hp X G r.2) := by
  unfold f_X9_fewestFrom at hf
  refine ab_T.of (d := 5) rfl (Nat.le_of_ble_eq_true rfl) ?_
  show ab_U _ _ kX9_fewestFrom (0, [some (.ref 232), some (.int x0), some (.int x1), none, none, none, none], [], hp X G μ) _
  refine ab_U.run 4 (S' := (5, [some (.ref 232), some (.int x0), some (.int x1), some (.int 1), some (.int 0), none, none], [], hp X G μ)) rfl ?_
  exact ab_U.weak ((t_X9_fewestFrom_g (X := X) hG   F).1 _ _ _ _ _ _ _ _ hf) (ab_leL.of ⟨rfl, ⟨rfl, ⟨rfl, ⟨rfl, ⟨rfl, trivial⟩⟩⟩⟩⟩)
set_option maxRecDepth 20000 in
def f_X9_fewest (F : Nat)  (x0 : Int32) (x1 : Int32) (μ : fm_M) : Option (Int32 × fm_M) := (Option.bind (f_X9_isDebt F x0 μ) (fun q1 => (if q1.1 = 0 then some ((-1), q1.2) else (if x1 = 0 then (Option.bind (f_X9_fewestFrom F 0 x0 q1.2) (fun q5 => (if x1 = 0 then some (q5.1, q5.2) else (if ¬ q5.1 = (-4) then (if q5.1 ≤ (x1 - 10) then some ((-4), q5.2) else (if ab_in (x1 - 10) 5 = true then some ((q5.2.2.1 243 (x1 - 10).toNatClampNeg), q5.2) else none)) else some (q5.1, q5.2))))) else (Option.bind (f_X9_in F ((x1).toInt64) (Int64.ofNat 10) (Int64.ofNat 14) q1.2) (fun q11 => (if ¬ q11.1 = 0 then (Option.bind (f_X9_fewestFrom F 0 x0 q11.2) (fun q14 => (if x1 = 0 then some (q14.1, q14.2) else (if ¬ q14.1 = (-4) then (if q14.1 ≤ (x1 - 10) then some ((-4), q14.2) else (if ab_in (x1 - 10) 5 = true then some ((q14.2.2.1 243 (x1 - 10).toNatClampNeg), q14.2) else none)) else some (q14.1, q14.2))))) else some ((-1), q11.2))))))))
set_option maxRecDepth 20000 in
theorem t_X9_fewest {X : Nat × (Nat → Int32)} {G : Nat → Nat → Option Nat} (hG : fm_Gok G) {F : Nat}   {x0 : Int32} {x1 : Int32} {μ : fm_M} {r : Int32 × fm_M} (hf : f_X9_fewest F x0 x1 μ = some r) : ab_F 7 188 [.ref 232, .int x0, .int x1] (hp X G μ) (some (.int r.1)) (hp X G r.2) := by
  unfold f_X9_fewest at hf
  refine ab_T.of (d := 6) rfl (Nat.le_of_ble_eq_true rfl) ?_
  show ab_U _ _ kX9_fewest (0, [some (.ref 232), some (.int x0), some (.int x1), none], [], hp X G μ) _
  refine ab_U.run 2 (S' := (2, [some (.ref 232), some (.int x0), some (.int x1), none], [.int x0, .ref 232], hp X G μ)) rfl ?_
  obtain ⟨q1, h2, hf⟩ := ab_bnd hf
  refine ab_U.fn rfl rfl (t_X9_isDebt (X := X) hG h2) (by omega) ?_
  show ab_U _ _ _ (5, [some (.ref 232), some (.int x0), some (.int x1), none], [.int q1.1], hp X G q1.2) _
  refine ab_U.if_eq rfl (fun b3 => ?_) (fun b3 => ?_)
  · rw [if_pos b3] at hf
    refine ab_U.run 1 (S' := (27, [some (.ref 232), some (.int x0), some (.int x1), none], [.int (-1)], hp X G q1.2)) rfl ?_
    obtain rfl := Option.some.inj hf
    exact ab_U.ret rfl rfl ⟨rfl, rfl⟩
  · rw [if_neg b3] at hf
    refine ab_U.run 1 (S' := (9, [some (.ref 232), some (.int x0), some (.int x1), none], [.int x1], hp X G q1.2)) rfl ?_
    refine ab_U.if_eq rfl (fun b4 => ?_) (fun b4 => ?_)
    · rw [if_pos b4] at hf
      refine ab_U.run 3 (S' := (31, [some (.ref 232), some (.int x0), some (.int x1), none], [.int x0, .int 0, .ref 232], hp X G q1.2)) rfl ?_
      obtain ⟨q5, h6, hf⟩ := ab_bnd hf
      refine ab_U.fn rfl rfl (t_X9_fewestFrom (X := X) hG h6) (by omega) ?_
      show ab_U _ _ _ (34, [some (.ref 232), some (.int x0), some (.int x1), none], [.int q5.1], hp X G q5.2) _
      refine ab_U.run 2 (S' := (36, [some (.ref 232), some (.int x0), some (.int x1), some (.int q5.1)], [.int x1], hp X G q5.2)) rfl ?_
      refine ab_U.if_eq rfl (fun b7 => ?_) (fun b7 => ?_)
      · rw [if_pos b7] at hf
        refine ab_U.run 2 (S' := (71, [some (.ref 232), some (.int x0), some (.int x1), some (.int q5.1)], [.int q5.1], hp X G q5.2)) rfl ?_
        obtain rfl := Option.some.inj hf
        exact ab_U.ret rfl rfl ⟨rfl, rfl⟩
      · rw [if_neg b7] at hf
        refine ab_U.run 2 (S' := (42, [some (.ref 232), some (.int x0), some (.int x1), some (.int q5.1)], [.int (-4), .int q5.1], hp X G q5.2)) rfl ?_
        refine ab_U.ic_ne rfl (fun b8 => ?_) (fun b8 => ?_)
        · rw [if_pos b8] at hf
          refine ab_U.run 4 (S' := (54, [some (.ref 232), some (.int x0), some (.int x1), some (.int q5.1)], [.int q5.1, .int (x1 - 10)], hp X G q5.2)) rfl ?_
          refine ab_U.ic_ge rfl (fun b9 => ?_) (fun b9 => ?_)
          · rw [if_pos b9] at hf
            refine ab_U.run 1 (S' := (71, [some (.ref 232), some (.int x0), some (.int x1), some (.int q5.1)], [.int (-4)], hp X G q5.2)) rfl ?_
            obtain rfl := Option.some.inj hf
            exact ab_U.ret rfl rfl ⟨rfl, rfl⟩
          · rw [if_neg b9] at hf
            refine ab_U.run 5 (S' := (65, [some (.ref 232), some (.int x0), some (.int x1), some (.int q5.1)], [.int (x1 - 10), .ref 243], hp X G q5.2)) rfl ?_
            obtain ⟨c10, hf⟩ := ab_ifs hf
            refine ab_U.iald (n := 5) rfl ⟨by decide, rfl⟩ c10 ?_
            show ab_U _ _ _ (66, [some (.ref 232), some (.int x0), some (.int x1), some (.int q5.1)], [.int (q5.2.2.1 243 (x1 - 10).toNatClampNeg)], hp X G q5.2) _
            refine ab_U.run 1 (S' := (71, [some (.ref 232), some (.int x0), some (.int x1), some (.int q5.1)], [.int (q5.2.2.1 243 (x1 - 10).toNatClampNeg)], hp X G q5.2)) rfl ?_
            obtain rfl := Option.some.inj hf
            exact ab_U.ret rfl rfl ⟨rfl, rfl⟩
        · rw [if_neg b8] at hf
          refine ab_U.run 2 (S' := (71, [some (.ref 232), some (.int x0), some (.int x1), some (.int q5.1)], [.int q5.1], hp X G q5.2)) rfl ?_
          obtain rfl := Option.some.inj hf
          exact ab_U.ret rfl rfl ⟨rfl, rfl⟩
    · rw [if_neg b4] at hf
      refine ab_U.run 4 (S' := (20, [some (.ref 232), some (.int x0), some (.int x1), none], [.long (Int64.ofNat 14), .long (Int64.ofNat 10), .long (x1).toInt64], hp X G q1.2)) rfl ?_
      obtain ⟨q11, h12, hf⟩ := ab_bnd hf
      refine ab_U.fn rfl rfl (t_X9_in (X := X) hG h12) (by omega) ?_
      show ab_U _ _ _ (23, [some (.ref 232), some (.int x0), some (.int x1), none], [.int q11.1], hp X G q11.2) _
      refine ab_U.if_ne rfl (fun b13 => ?_) (fun b13 => ?_)
      · rw [if_pos b13] at hf
        refine ab_U.run 3 (S' := (31, [some (.ref 232), some (.int x0), some (.int x1), none], [.int x0, .int 0, .ref 232], hp X G q11.2)) rfl ?_
        obtain ⟨q14, h15, hf⟩ := ab_bnd hf
        refine ab_U.fn rfl rfl (t_X9_fewestFrom (X := X) hG h15) (by omega) ?_
        show ab_U _ _ _ (34, [some (.ref 232), some (.int x0), some (.int x1), none], [.int q14.1], hp X G q14.2) _
        refine ab_U.run 2 (S' := (36, [some (.ref 232), some (.int x0), some (.int x1), some (.int q14.1)], [.int x1], hp X G q14.2)) rfl ?_
        refine ab_U.if_eq rfl (fun b16 => ?_) (fun b16 => ?_)
        · rw [if_pos b16] at hf
          refine ab_U.run 2 (S' := (71, [some (.ref 232), some (.int x0), some (.int x1), some (.int q14.1)], [.int q14.1], hp X G q14.2)) rfl ?_
          obtain rfl := Option.some.inj hf
          exact ab_U.ret rfl rfl ⟨rfl, rfl⟩
        · rw [if_neg b16] at hf
          refine ab_U.run 2 (S' := (42, [some (.ref 232), some (.int x0), some (.int x1), some (.int q14.1)], [.int (-4), .int q14.1], hp X G q14.2)) rfl ?_
          refine ab_U.ic_ne rfl (fun b17 => ?_) (fun b17 => ?_)
          · rw [if_pos b17] at hf
            refine ab_U.run 4 (S' := (54, [some (.ref 232), some (.int x0), some (.int x1), some (.int q14.1)], [.int q14.1, .int (x1 - 10)], hp X G q14.2)) rfl ?_
            refine ab_U.ic_ge rfl (fun b18 => ?_) (fun b18 => ?_)
            · rw [if_pos b18] at hf
              refine ab_U.run 1 (S' := (71, [some (.ref 232), some (.int x0), some (.int x1), some (.int q14.1)], [.int (-4)], hp X G q14.2)) rfl ?_
              obtain rfl := Option.some.inj hf
              exact ab_U.ret rfl rfl ⟨rfl, rfl⟩
            · rw [if_neg b18] at hf
              refine ab_U.run 5 (S' := (65, [some (.ref 232), some (.int x0), some (.int x1), some (.int q14.1)], [.int (x1 - 10), .ref 243], hp X G q14.2)) rfl ?_
              obtain ⟨c19, hf⟩ := ab_ifs hf
              refine ab_U.iald (n := 5) rfl ⟨by decide, rfl⟩ c19 ?_
              show ab_U _ _ _ (66, [some (.ref 232), some (.int x0), some (.int x1), some (.int q14.1)], [.int (q14.2.2.1 243 (x1 - 10).toNatClampNeg)], hp X G q14.2) _
              refine ab_U.run 1 (S' := (71, [some (.ref 232), some (.int x0), some (.int x1), some (.int q14.1)], [.int (q14.2.2.1 243 (x1 - 10).toNatClampNeg)], hp X G q14.2)) rfl ?_
              obtain rfl := Option.some.inj hf
              exact ab_U.ret rfl rfl ⟨rfl, rfl⟩
          · rw [if_neg b17] at hf
            refine ab_U.run 2 (S' := (71, [some (.ref 232), some (.int x0), some (.int x1), some (.int q14.1)], [.int q14.1], hp X G q14.2)) rfl ?_
            obtain rfl := Option.some.inj hf
            exact ab_U.ret rfl rfl ⟨rfl, rfl⟩
      · rw [if_neg b13] at hf
        refine ab_U.run 1 (S' := (27, [some (.ref 232), some (.int x0), some (.int x1), none], [.int (-1)], hp X G q11.2)) rfl ?_
        obtain rfl := Option.some.inj hf
        exact ab_U.ret rfl rfl ⟨rfl, rfl⟩
set_option maxRecDepth 20000 in
def b_X9_laysOrder_15 (F : Nat)  (gg : Nat → Int32 → Int32 → Int32 → Int32 → fm_M → Option (Int32 × fm_M)) (l2 : Int32) (l3 : Int32) (l4 : Int32) (l5 : Int32) (μ : fm_M) : Option (Int32 × fm_M) := (if l5 < 0 then (if l4 = 0 ∨ l4 = 1 then some (l4, μ) else none) else (if ab_in l5 4 = true then (Option.bind (some (fm_sA μ 244 (upd (μ.2.1 244) l5.toNatClampNeg (l2 - l2 / 4 * 4)))) (fun m4 => (if l4 = 0 then (if ab_in l5 4 = true then gg 15 (l2 / 4) (l3 ||| (1 <<< ((m4.2.1 244 l5.toNatClampNeg) &&& 31))) 0 (l5 + (-1)) m4 else none) else (if ab_in l5 4 = true then (if (m4.1 232 3) ≤ (m4.2.1 244 l5.toNatClampNeg) then (if ab_in l5 4 = true then gg 15 (l2 / 4) (l3 ||| (1 <<< ((m4.2.1 244 l5.toNatClampNeg) &&& 31))) 0 (l5 + (-1)) m4 else none) else (if ab_in l5 4 = true then (if ¬ ((l3 >>> ((m4.2.1 244 l5.toNatClampNeg) &&& 31)) &&& 1) = 0 then (if ab_in l5 4 = true then gg 15 (l2 / 4) (l3 ||| (1 <<< ((m4.2.1 244 l5.toNatClampNeg) &&& 31))) 0 (l5 + (-1)) m4 else none) else (if ab_in l5 4 = true then gg 15 (l2 / 4) (l3 ||| (1 <<< ((m4.2.1 244 l5.toNatClampNeg) &&& 31))) 1 (l5 + (-1)) m4 else none)) else none)) else none)))) else none))
def g_X9_laysOrder (F : Nat)  : Nat → Nat → Int32 → Int32 → Int32 → Int32 → fm_M → Option (Int32 × fm_M)
  | 0, _, _, _, _, _, _ => none
  | n + 1, pc, l2, l3, l4, l5, μ => if pc = 15 then b_X9_laysOrder_15 F  (g_X9_laysOrder F  n) l2 l3 l4 l5 μ else none
set_option maxRecDepth 20000 in
theorem t_X9_laysOrder_g {X : Nat × (Nat → Int32)} {G : Nat → Nat → Option Nat} (hG : fm_Gok G) {F : Nat}    : ∀ n : Nat, (∀ (l2 : Int32) (l3 : Int32) (l4 : Int32) (l5 : Int32) (μ : fm_M) (r : Int32 × fm_M), g_X9_laysOrder F  n 15 l2 l3 l4 l5 μ = some r → ab_U 0 (some .boolean) kX9_laysOrder (15, [some (.ref 232), none, some (.int l2), some (.int l3), some (.int l4), some (.int l5)], [], hp X G μ) (fun r9 h9 => r9 = some (.int r.1) ∧ h9 = hp X G r.2))
  | 0 => by
    intros
    rename_i h
    cases h
  | n + 1 => by
    have ih := t_X9_laysOrder_g (X := X) hG (F := F)   n
    · intro l2 l3 l4 l5 μ r hf
      have hf : b_X9_laysOrder_15 F  (g_X9_laysOrder F  n) l2 l3 l4 l5 μ = some r := hf
      unfold b_X9_laysOrder_15 at hf
      refine ab_U.run 1 (S' := (17, [some (.ref 232), none, some (.int l2), some (.int l3), some (.int l4), some (.int l5)], [.int l5], hp X G μ)) rfl ?_
      refine ab_U.if_lt rfl (fun b1 => ?_) (fun b1 => ?_)
      · rw [if_pos b1] at hf
        refine ab_U.run 1 (S' := (94, [some (.ref 232), none, some (.int l2), some (.int l3), some (.int l4), some (.int l5)], [.int l4], hp X G μ)) rfl ?_
        obtain ⟨c2, hf⟩ := ab_ifs hf
        obtain rfl := Option.some.inj hf
        exact ab_U.retZ rfl c2 ⟨rfl, rfl⟩
      · rw [if_neg b1] at hf
        refine ab_U.run 6 (S' := (29, [some (.ref 232), none, some (.int l2), some (.int l3), some (.int l4), some (.int l5)], [.int (l2 - l2 / 4 * 4), .int l5, .ref 244], hp X G μ)) rfl ?_
        obtain ⟨c3, hf⟩ := ab_ifs hf
        obtain ⟨m4, e5, hf⟩ := ab_bnd hf
        have e5 := Option.some.inj e5
        refine ab_U.iast (n := 4) rfl ⟨by decide, rfl⟩ c3 ?_
        show ab_U _ _ _ (30, [some (.ref 232), none, some (.int l2), some (.int l3), some (.int l4), some (.int l5)], [], hp X G (fm_sA μ 244 (upd (μ.2.1 244) l5.toNatClampNeg (l2 - l2 / 4 * 4)))) _
        rw [e5]
        refine ab_U.run 5 (S' := (36, [some (.ref 232), none, some (.int (l2 / 4)), some (.int l3), some (.int l4), some (.int l5)], [.int l4], hp X G m4)) rfl ?_
        refine ab_U.if_eq rfl (fun b6 => ?_) (fun b6 => ?_)
        · rw [if_pos b6] at hf
          refine ab_U.run 7 (S' := (82, [some (.ref 232), none, some (.int (l2 / 4)), some (.int l3), some (.int 0), some (.int l5)], [.int l5, .ref 244, .int 1, .int l3], hp X G m4)) rfl ?_
          obtain ⟨c7, hf⟩ := ab_ifs hf
          refine ab_U.iald (n := 4) rfl ⟨by decide, rfl⟩ c7 ?_
          show ab_U _ _ _ (83, [some (.ref 232), none, some (.int (l2 / 4)), some (.int l3), some (.int 0), some (.int l5)], [.int (m4.2.1 244 l5.toNatClampNeg), .int 1, .int l3], hp X G m4) _
          refine ab_U.run 5 (S' := (15, [some (.ref 232), none, some (.int (l2 / 4)), some (.int (l3 ||| (1 <<< ((m4.2.1 244 l5.toNatClampNeg) &&& 31)))), some (.int 0), some (.int (l5 + (-1)))], [], hp X G m4)) rfl ?_
          exact ab_U.weak (ih _ _ _ _ _ _ hf) (ab_leL.of ⟨rfl, ⟨rfl, ⟨rfl, ⟨rfl, ⟨rfl, trivial⟩⟩⟩⟩⟩)
        · rw [if_neg b6] at hf
          refine ab_U.run 3 (S' := (45, [some (.ref 232), none, some (.int (l2 / 4)), some (.int l3), some (.int l4), some (.int l5)], [.int l5, .ref 244], hp X G m4)) rfl ?_
          obtain ⟨c8, hf⟩ := ab_ifs hf
          refine ab_U.iald (n := 4) rfl ⟨by decide, rfl⟩ c8 ?_
          show ab_U _ _ _ (46, [some (.ref 232), none, some (.int (l2 / 4)), some (.int l3), some (.int l4), some (.int l5)], [.int (m4.2.1 244 l5.toNatClampNeg)], hp X G m4) _
          refine ab_U.run 2 (S' := (50, [some (.ref 232), none, some (.int (l2 / 4)), some (.int l3), some (.int l4), some (.int l5)], [.int (m4.1 232 3), .int (m4.2.1 244 l5.toNatClampNeg)], hp X G m4)) rfl ?_
          refine ab_U.ic_ge rfl (fun b9 => ?_) (fun b9 => ?_)
          · rw [if_pos b9] at hf
            refine ab_U.run 7 (S' := (82, [some (.ref 232), none, some (.int (l2 / 4)), some (.int l3), some (.int 0), some (.int l5)], [.int l5, .ref 244, .int 1, .int l3], hp X G m4)) rfl ?_
            obtain ⟨c10, hf⟩ := ab_ifs hf
            refine ab_U.iald (n := 4) rfl ⟨by decide, rfl⟩ c10 ?_
            show ab_U _ _ _ (83, [some (.ref 232), none, some (.int (l2 / 4)), some (.int l3), some (.int 0), some (.int l5)], [.int (m4.2.1 244 l5.toNatClampNeg), .int 1, .int l3], hp X G m4) _
            refine ab_U.run 5 (S' := (15, [some (.ref 232), none, some (.int (l2 / 4)), some (.int (l3 ||| (1 <<< ((m4.2.1 244 l5.toNatClampNeg) &&& 31)))), some (.int 0), some (.int (l5 + (-1)))], [], hp X G m4)) rfl ?_
            exact ab_U.weak (ih _ _ _ _ _ _ hf) (ab_leL.of ⟨rfl, ⟨rfl, ⟨rfl, ⟨rfl, ⟨rfl, trivial⟩⟩⟩⟩⟩)
          · rw [if_neg b9] at hf
            refine ab_U.run 4 (S' := (60, [some (.ref 232), none, some (.int (l2 / 4)), some (.int l3), some (.int l4), some (.int l5)], [.int l5, .ref 244, .int l3], hp X G m4)) rfl ?_
            obtain ⟨c11, hf⟩ := ab_ifs hf
            refine ab_U.iald (n := 4) rfl ⟨by decide, rfl⟩ c11 ?_
            show ab_U _ _ _ (61, [some (.ref 232), none, some (.int (l2 / 4)), some (.int l3), some (.int l4), some (.int l5)], [.int (m4.2.1 244 l5.toNatClampNeg), .int l3], hp X G m4) _
            refine ab_U.run 3 (S' := (64, [some (.ref 232), none, some (.int (l2 / 4)), some (.int l3), some (.int l4), some (.int l5)], [.int ((l3 >>> ((m4.2.1 244 l5.toNatClampNeg) &&& 31)) &&& 1)], hp X G m4)) rfl ?_
            refine ab_U.if_ne rfl (fun b12 => ?_) (fun b12 => ?_)
            · rw [if_pos b12] at hf
              refine ab_U.run 7 (S' := (82, [some (.ref 232), none, some (.int (l2 / 4)), some (.int l3), some (.int 0), some (.int l5)], [.int l5, .ref 244, .int 1, .int l3], hp X G m4)) rfl ?_
              obtain ⟨c13, hf⟩ := ab_ifs hf
              refine ab_U.iald (n := 4) rfl ⟨by decide, rfl⟩ c13 ?_
              show ab_U _ _ _ (83, [some (.ref 232), none, some (.int (l2 / 4)), some (.int l3), some (.int 0), some (.int l5)], [.int (m4.2.1 244 l5.toNatClampNeg), .int 1, .int l3], hp X G m4) _
              refine ab_U.run 5 (S' := (15, [some (.ref 232), none, some (.int (l2 / 4)), some (.int (l3 ||| (1 <<< ((m4.2.1 244 l5.toNatClampNeg) &&& 31)))), some (.int 0), some (.int (l5 + (-1)))], [], hp X G m4)) rfl ?_
              exact ab_U.weak (ih _ _ _ _ _ _ hf) (ab_leL.of ⟨rfl, ⟨rfl, ⟨rfl, ⟨rfl, ⟨rfl, trivial⟩⟩⟩⟩⟩)
            · rw [if_neg b12] at hf
              refine ab_U.run 8 (S' := (82, [some (.ref 232), none, some (.int (l2 / 4)), some (.int l3), some (.int 1), some (.int l5)], [.int l5, .ref 244, .int 1, .int l3], hp X G m4)) rfl ?_
              obtain ⟨c14, hf⟩ := ab_ifs hf
              refine ab_U.iald (n := 4) rfl ⟨by decide, rfl⟩ c14 ?_
              show ab_U _ _ _ (83, [some (.ref 232), none, some (.int (l2 / 4)), some (.int l3), some (.int 1), some (.int l5)], [.int (m4.2.1 244 l5.toNatClampNeg), .int 1, .int l3], hp X G m4) _
              refine ab_U.run 5 (S' := (15, [some (.ref 232), none, some (.int (l2 / 4)), some (.int (l3 ||| (1 <<< ((m4.2.1 244 l5.toNatClampNeg) &&& 31)))), some (.int 1), some (.int (l5 + (-1)))], [], hp X G m4)) rfl ?_
              exact ab_U.weak (ih _ _ _ _ _ _ hf) (ab_leL.of ⟨rfl, ⟨rfl, ⟨rfl, ⟨rfl, ⟨rfl, trivial⟩⟩⟩⟩⟩)
set_option maxRecDepth 20000 in
def f_X9_laysOrder (F : Nat)  (x0 : Int32) (μ : fm_M) : Option (Int32 × fm_M) := g_X9_laysOrder F  F 15 x0 0 1 ((μ.1 232 3) - 1) μ
set_option maxRecDepth 20000 in
theorem t_X9_laysOrder {X : Nat × (Nat → Int32)} {G : Nat → Nat → Option Nat} (hG : fm_Gok G) {F : Nat}   {x0 : Int32} {μ : fm_M} {r : Int32 × fm_M} (hf : f_X9_laysOrder F x0 μ = some r) : ab_F 1 189 [.ref 232, .int x0] (hp X G μ) (some (.int r.1)) (hp X G r.2) := by
  unfold f_X9_laysOrder at hf
  refine ab_T.of (d := 0) rfl (Nat.le_of_ble_eq_true rfl) ?_
  show ab_U _ _ kX9_laysOrder (0, [some (.ref 232), some (.int x0), none, none, none, none], [], hp X G μ) _
  refine ab_U.run 11 (S' := (15, [some (.ref 232), some (.int x0), some (.int x0), some (.int 0), some (.int 1), some (.int ((μ.1 232 3) - 1))], [], hp X G μ)) rfl ?_
  exact ab_U.weak ((t_X9_laysOrder_g (X := X) hG   F) _ _ _ _ _ _ hf) (ab_leL.of ⟨rfl, ⟨rfl, ⟨rfl, ⟨rfl, ⟨rfl, trivial⟩⟩⟩⟩⟩)
set_option maxRecDepth 20000 in
def b_X9_settled_10 (F : Nat)  (gg : Nat → Int32 → Int32 → Int32 → fm_M → Option (Int32 × fm_M)) (l1 : Int32) (l2 : Int32) (l3 : Int32) (μ : fm_M) : Option (Int32 × fm_M) := (if (μ.1 232 3) ≤ l1 then gg 84 0 0 0 μ else (if ab_in l1 4 = true then (Option.bind (f_X9_fewestFrom F 190 (μ.2.1 244 l1.toNatClampNeg) μ) (fun q3 => gg 34 l1 q3.1 0 q3.2)) else none))
set_option maxRecDepth 20000 in
def b_X9_settled_34 (F : Nat)  (gg : Nat → Int32 → Int32 → Int32 → fm_M → Option (Int32 × fm_M)) (l1 : Int32) (l2 : Int32) (l3 : Int32) (μ : fm_M) : Option (Int32 × fm_M) := (if l2 ≤ l3 then gg 10 (l1 + 1) 0 0 μ else (if ab_in l3 5 = true then (if ab_in l1 4 = true then (if ab_in ((2 * (μ.2.1 244 l1.toNatClampNeg)) + 1) 8 = true then (Option.bind (f_X9_paysOn F 190 (μ.2.1 243 l3.toNatClampNeg) (μ.2.1 234 ((2 * (μ.2.1 244 l1.toNatClampNeg)) + 1).toNatClampNeg) μ) (fun q9 => gg 34 l1 l2 (l3 + 1) q9.2)) else none) else none) else none))
set_option maxRecDepth 20000 in
def b_X9_settled_84 (F : Nat)  (gg : Nat → Int32 → Int32 → Int32 → fm_M → Option (Int32 × fm_M)) (l1 : Int32) (l2 : Int32) (l3 : Int32) (μ : fm_M) : Option (Int32 × fm_M) := (if (μ.1 232 3) ≤ l2 then some (l1, μ) else (if ab_in (33 + l2) 228 = true then (if (μ.2.1 233 (33 + l2).toNatClampNeg) ≤ 0 then gg 84 (l1 + 0) (l2 + 1) 0 μ else (if ab_in (223 + l2) 228 = true then (if ¬ (μ.2.1 233 (223 + l2).toNatClampNeg) = 0 then gg 84 (l1 + 0) (l2 + 1) 0 μ else gg 84 (l1 + 1) (l2 + 1) 0 μ) else none)) else none))
def g_X9_settled (F : Nat)  : Nat → Nat → Int32 → Int32 → Int32 → fm_M → Option (Int32 × fm_M)
  | 0, _, _, _, _, _ => none
  | n + 1, pc, l1, l2, l3, μ => if pc = 10 then b_X9_settled_10 F  (g_X9_settled F  n) l1 l2 l3 μ else if pc = 34 then b_X9_settled_34 F  (g_X9_settled F  n) l1 l2 l3 μ else if pc = 84 then b_X9_settled_84 F  (g_X9_settled F  n) l1 l2 l3 μ else none
set_option maxRecDepth 20000 in
theorem t_X9_settled_g {X : Nat × (Nat → Int32)} {G : Nat → Nat → Option Nat} (hG : fm_Gok G) {F : Nat}    : ∀ n : Nat, (∀ (l1 : Int32) (l2 : Int32) (l3 : Int32) (μ : fm_M) (r : Int32 × fm_M), g_X9_settled F  n 10 l1 l2 l3 μ = some r → ab_U 6 (some .int) kX9_settled (10, [some (.ref 232), some (.int l1), none, none], [], hp X G μ) (fun r9 h9 => r9 = some (.int r.1) ∧ h9 = hp X G r.2)) ∧ (∀ (l1 : Int32) (l2 : Int32) (l3 : Int32) (μ : fm_M) (r : Int32 × fm_M), g_X9_settled F  n 34 l1 l2 l3 μ = some r → ab_U 6 (some .int) kX9_settled (34, [some (.ref 232), some (.int l1), some (.int l2), some (.int l3)], [], hp X G μ) (fun r9 h9 => r9 = some (.int r.1) ∧ h9 = hp X G r.2)) ∧ (∀ (l1 : Int32) (l2 : Int32) (l3 : Int32) (μ : fm_M) (r : Int32 × fm_M), g_X9_settled F  n 84 l1 l2 l3 μ = some r → ab_U 6 (some .int) kX9_settled (84, [some (.ref 232), some (.int l1), some (.int l2), none], [], hp X G μ) (fun r9 h9 => r9 = some (.int r.1) ∧ h9 = hp X G r.2))
  | 0 => by
    refine ⟨?_, ?_, ?_⟩
    all_goals (intros; rename_i h; cases h)
  | n + 1 => by
    have ih := t_X9_settled_g (X := X) hG (F := F)   n
    refine ⟨?_, ?_, ?_⟩
    · intro l1 l2 l3 μ r hf
      have hf : b_X9_settled_10 F  (g_X9_settled F  n) l1 l2 l3 μ = some r := hf
      unfold b_X9_settled_10 at hf
      refine ab_U.run 3 (S' := (15, [some (.ref 232), some (.int l1), none, none], [.int (μ.1 232 3), .int l1], hp X G μ)) rfl ?_
      refine ab_U.ic_ge rfl (fun b1 => ?_) (fun b1 => ?_)
      · rw [if_pos b1] at hf
        refine ab_U.run 4 (S' := (84, [some (.ref 232), some (.int 0), some (.int 0), none], [], hp X G μ)) rfl ?_
        exact ab_U.weak (ih.2.2 _ _ _ _ _ hf) (ab_leL.of ⟨rfl, ⟨rfl, ⟨rfl, trivial⟩⟩⟩)
      · rw [if_neg b1] at hf
        refine ab_U.run 5 (S' := (27, [some (.ref 232), some (.int l1), none, none], [.int l1, .ref 244, .int 190, .ref 232], hp X G μ)) rfl ?_
        obtain ⟨c2, hf⟩ := ab_ifs hf
        refine ab_U.iald (n := 4) rfl ⟨by decide, rfl⟩ c2 ?_
        show ab_U _ _ _ (28, [some (.ref 232), some (.int l1), none, none], [.int (μ.2.1 244 l1.toNatClampNeg), .int 190, .ref 232], hp X G μ) _
        obtain ⟨q3, h4, hf⟩ := ab_bnd hf
        refine ab_U.fn rfl rfl (t_X9_fewestFrom (X := X) hG h4) (by omega) ?_
        show ab_U _ _ _ (31, [some (.ref 232), some (.int l1), none, none], [.int q3.1], hp X G q3.2) _
        refine ab_U.run 3 (S' := (34, [some (.ref 232), some (.int l1), some (.int q3.1), some (.int 0)], [], hp X G q3.2)) rfl ?_
        exact ab_U.weak (ih.2.1 _ _ _ _ _ hf) (ab_leL.of ⟨rfl, ⟨rfl, ⟨rfl, ⟨rfl, trivial⟩⟩⟩⟩)
    · intro l1 l2 l3 μ r hf
      have hf : b_X9_settled_34 F  (g_X9_settled F  n) l1 l2 l3 μ = some r := hf
      unfold b_X9_settled_34 at hf
      refine ab_U.run 2 (S' := (36, [some (.ref 232), some (.int l1), some (.int l2), some (.int l3)], [.int l2, .int l3], hp X G μ)) rfl ?_
      refine ab_U.ic_ge rfl (fun b5 => ?_) (fun b5 => ?_)
      · rw [if_pos b5] at hf
        refine ab_U.run 2 (S' := (10, [some (.ref 232), some (.int (l1 + 1)), some (.int l2), some (.int l3)], [], hp X G μ)) rfl ?_
        exact ab_U.weak (ih.1 _ _ _ _ _ hf) (ab_leL.of ⟨rfl, ⟨rfl, trivial⟩⟩)
      · rw [if_neg b5] at hf
        refine ab_U.run 5 (S' := (48, [some (.ref 232), some (.int l1), some (.int l2), some (.int l3)], [.int l3, .ref 243, .int 190, .ref 232], hp X G μ)) rfl ?_
        obtain ⟨c6, hf⟩ := ab_ifs hf
        refine ab_U.iald (n := 5) rfl ⟨by decide, rfl⟩ c6 ?_
        show ab_U _ _ _ (49, [some (.ref 232), some (.int l1), some (.int l2), some (.int l3)], [.int (μ.2.1 243 l3.toNatClampNeg), .int 190, .ref 232], hp X G μ) _
        refine ab_U.run 6 (S' := (59, [some (.ref 232), some (.int l1), some (.int l2), some (.int l3)], [.int l1, .ref 244, .int 2, .ref 234, .int (μ.2.1 243 l3.toNatClampNeg), .int 190, .ref 232], hp X G μ)) rfl ?_
        obtain ⟨c7, hf⟩ := ab_ifs hf
        refine ab_U.iald (n := 4) rfl ⟨by decide, rfl⟩ c7 ?_
        show ab_U _ _ _ (60, [some (.ref 232), some (.int l1), some (.int l2), some (.int l3)], [.int (μ.2.1 244 l1.toNatClampNeg), .int 2, .ref 234, .int (μ.2.1 243 l3.toNatClampNeg), .int 190, .ref 232], hp X G μ) _
        refine ab_U.run 3 (S' := (63, [some (.ref 232), some (.int l1), some (.int l2), some (.int l3)], [.int ((2 * (μ.2.1 244 l1.toNatClampNeg)) + 1), .ref 234, .int (μ.2.1 243 l3.toNatClampNeg), .int 190, .ref 232], hp X G μ)) rfl ?_
        obtain ⟨c8, hf⟩ := ab_ifs hf
        refine ab_U.iald (n := 8) rfl ⟨by decide, rfl⟩ c8 ?_
        show ab_U _ _ _ (64, [some (.ref 232), some (.int l1), some (.int l2), some (.int l3)], [.int (μ.2.1 234 ((2 * (μ.2.1 244 l1.toNatClampNeg)) + 1).toNatClampNeg), .int (μ.2.1 243 l3.toNatClampNeg), .int 190, .ref 232], hp X G μ) _
        obtain ⟨q9, h10, hf⟩ := ab_bnd hf
        refine ab_U.fn rfl rfl (t_X9_paysOn (X := X) hG h10) (by omega) ?_
        show ab_U _ _ _ (67, [some (.ref 232), some (.int l1), some (.int l2), some (.int l3)], [.int q9.1], hp X G q9.2) _
        refine ab_U.run 3 (S' := (34, [some (.ref 232), some (.int l1), some (.int l2), some (.int (l3 + 1))], [], hp X G q9.2)) rfl ?_
        exact ab_U.weak (ih.2.1 _ _ _ _ _ hf) (ab_leL.of ⟨rfl, ⟨rfl, ⟨rfl, ⟨rfl, trivial⟩⟩⟩⟩)
    · intro l1 l2 l3 μ r hf
      have hf : b_X9_settled_84 F  (g_X9_settled F  n) l1 l2 l3 μ = some r := hf
      unfold b_X9_settled_84 at hf
      refine ab_U.run 3 (S' := (89, [some (.ref 232), some (.int l1), some (.int l2), none], [.int (μ.1 232 3), .int l2], hp X G μ)) rfl ?_
      refine ab_U.ic_ge rfl (fun b11 => ?_) (fun b11 => ?_)
      · rw [if_pos b11] at hf
        refine ab_U.run 1 (S' := (132, [some (.ref 232), some (.int l1), some (.int l2), none], [.int l1], hp X G μ)) rfl ?_
        obtain rfl := Option.some.inj hf
        exact ab_U.ret rfl rfl ⟨rfl, rfl⟩
      · rw [if_neg b11] at hf
        refine ab_U.run 6 (S' := (101, [some (.ref 232), some (.int l1), some (.int l2), none], [.int (33 + l2), .ref 233, .int l1], hp X G μ)) rfl ?_
        obtain ⟨c12, hf⟩ := ab_ifs hf
        refine ab_U.iald (n := 228) rfl ⟨by decide, rfl⟩ c12 ?_
        show ab_U _ _ _ (102, [some (.ref 232), some (.int l1), some (.int l2), none], [.int (μ.2.1 233 (33 + l2).toNatClampNeg), .int l1], hp X G μ) _
        refine ab_U.if_le rfl (fun b13 => ?_) (fun b13 => ?_)
        · rw [if_pos b13] at hf
          refine ab_U.run 5 (S' := (84, [some (.ref 232), some (.int (l1 + 0)), some (.int (l2 + 1)), none], [], hp X G μ)) rfl ?_
          exact ab_U.weak (ih.2.2 _ _ _ _ _ hf) (ab_leL.of ⟨rfl, ⟨rfl, ⟨rfl, trivial⟩⟩⟩)
        · rw [if_neg b13] at hf
          refine ab_U.run 5 (S' := (114, [some (.ref 232), some (.int l1), some (.int l2), none], [.int (223 + l2), .ref 233, .int l1], hp X G μ)) rfl ?_
          obtain ⟨c14, hf⟩ := ab_ifs hf
          refine ab_U.iald (n := 228) rfl ⟨by decide, rfl⟩ c14 ?_
          show ab_U _ _ _ (115, [some (.ref 232), some (.int l1), some (.int l2), none], [.int (μ.2.1 233 (223 + l2).toNatClampNeg), .int l1], hp X G μ) _
          refine ab_U.if_ne rfl (fun b15 => ?_) (fun b15 => ?_)
          · rw [if_pos b15] at hf
            refine ab_U.run 5 (S' := (84, [some (.ref 232), some (.int (l1 + 0)), some (.int (l2 + 1)), none], [], hp X G μ)) rfl ?_
            exact ab_U.weak (ih.2.2 _ _ _ _ _ hf) (ab_leL.of ⟨rfl, ⟨rfl, ⟨rfl, trivial⟩⟩⟩)
          · rw [if_neg b15] at hf
            refine ab_U.run 6 (S' := (84, [some (.ref 232), some (.int (l1 + 1)), some (.int (l2 + 1)), none], [], hp X G μ)) rfl ?_
            exact ab_U.weak (ih.2.2 _ _ _ _ _ hf) (ab_leL.of ⟨rfl, ⟨rfl, ⟨rfl, trivial⟩⟩⟩)
set_option maxRecDepth 20000 in
def f_X9_settled (F : Nat)   (μ : fm_M) : Option (Int32 × fm_M) := (Option.bind (f_X9_copies F 0 190 μ) (fun q16 => g_X9_settled F  F 10 0 0 0 q16.2))
set_option maxRecDepth 20000 in
theorem t_X9_settled {X : Nat × (Nat → Int32)} {G : Nat → Nat → Option Nat} (hG : fm_Gok G) {F : Nat}    {μ : fm_M} {r : Int32 × fm_M} (hf : f_X9_settled F  μ = some r) : ab_F 7 190 [.ref 232] (hp X G μ) (some (.int r.1)) (hp X G r.2) := by
  unfold f_X9_settled at hf
  refine ab_T.of (d := 6) rfl (Nat.le_of_ble_eq_true rfl) ?_
  show ab_U _ _ kX9_settled (0, [some (.ref 232), none, none, none], [], hp X G μ) _
  refine ab_U.run 3 (S' := (5, [some (.ref 232), none, none, none], [.int 190, .int 0, .ref 232], hp X G μ)) rfl ?_
  obtain ⟨q16, h17, hf⟩ := ab_bnd hf
  refine ab_U.fn rfl rfl (t_X9_copies (X := X) hG h17) (by omega) ?_
  show ab_U _ _ _ (8, [some (.ref 232), none, none, none], [], hp X G q16.2) _
  refine ab_U.run 2 (S' := (10, [some (.ref 232), some (.int 0), none, none], [], hp X G q16.2)) rfl ?_
  exact ab_U.weak ((t_X9_settled_g (X := X) hG   F).1 _ _ _ _ _ hf) (ab_leL.of ⟨rfl, ⟨rfl, trivial⟩⟩)
