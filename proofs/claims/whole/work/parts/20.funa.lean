/-! by program: each method as a function over the memory, and that our machine does it -/
set_option maxRecDepth 20000 in
def b_X7_stonesOf_4 (F : Nat) (w : Nat) (gg : Nat → Int32 → Int32 → Int32 → fm_M → Option (Int32 × fm_M)) (l1 : Int32) (l2 : Int32) (l3 : Int32) (μ : fm_M) : Option (Int32 × fm_M) := (if (μ.1 w 3) ≤ l3 then some (l2, μ) else (if ab_in l3 5 = true then (if ¬ (μ.2.1 ((w + 5)) l3.toNatClampNeg) = l1 then gg 4 l1 l2 (l3 + 1) μ else gg 4 l1 (l2 ||| (1 <<< (l3 &&& 31))) (l3 + 1) μ) else none))
def g_X7_stonesOf (F : Nat) (w : Nat) : Nat → Nat → Int32 → Int32 → Int32 → fm_M → Option (Int32 × fm_M)
  | 0, _, _, _, _, _ => none
  | n + 1, pc, l1, l2, l3, μ => if pc = 4 then b_X7_stonesOf_4 F w (g_X7_stonesOf F w n) l1 l2 l3 μ else none
set_option maxRecDepth 20000 in
theorem t_X7_stonesOf_g {X : Nat × (Nat → Int32)} {G : Nat → Nat → Option Nat} (hG : fm_Gok G) {F : Nat}  {w : Nat} (hw : fm_isW w = true) : ∀ n : Nat, (∀ (l1 : Int32) (l2 : Int32) (l3 : Int32) (μ : fm_M) (r : Int32 × fm_M), g_X7_stonesOf F w n 4 l1 l2 l3 μ = some r → ab_U 0 (some .int) kX7_stonesOf (4, [some (.ref w), some (.int l1), some (.int l2), some (.int l3)], [], hp X G μ) (fun r9 h9 => r9 = some (.int r.1) ∧ h9 = hp X G r.2))
  | 0 => by
    intros
    rename_i h
    cases h
  | n + 1 => by
    have ih := t_X7_stonesOf_g (X := X) hG (F := F)  hw n
    · intro l1 l2 l3 μ r hf
      have hf : b_X7_stonesOf_4 F w (g_X7_stonesOf F w n) l1 l2 l3 μ = some r := hf
      unfold b_X7_stonesOf_4 at hf
      refine ab_U.run 2 (S' := (6, [some (.ref w), some (.int l1), some (.int l2), some (.int l3)], [.ref w, .int l3], hp X G μ)) rfl ?_
      refine ab_U.gfI (ci := 7) (k9 := 3) rfl (fm_WO hw) ⟨rfl, rfl, by decide, rfl⟩ ?_
      show ab_U _ _ _ (9, [some (.ref w), some (.int l1), some (.int l2), some (.int l3)], [.int (μ.1 w 3), .int l3], hp X G μ) _
      refine ab_U.ic_ge rfl (fun b1 => ?_) (fun b1 => ?_)
      · rw [if_pos b1] at hf
        refine ab_U.run 1 (S' := (35, [some (.ref w), some (.int l1), some (.int l2), some (.int l3)], [.int l2], hp X G μ)) rfl ?_
        obtain rfl := Option.some.inj hf
        exact ab_U.ret rfl rfl ⟨rfl, rfl⟩
      · rw [if_neg b1] at hf
        refine ab_U.run 1 (S' := (13, [some (.ref w), some (.int l1), some (.int l2), some (.int l3)], [.ref w], hp X G μ)) rfl ?_
        refine ab_U.gfW (k9 := 6) rfl hw ⟨rfl, rfl, by decide, rfl⟩ ?_
        show ab_U _ _ _ (16, [some (.ref w), some (.int l1), some (.int l2), some (.int l3)], [.ref (w + 5)], hp X G μ) _
        refine ab_U.run 1 (S' := (17, [some (.ref w), some (.int l1), some (.int l2), some (.int l3)], [.int l3, .ref (w + 5)], hp X G μ)) rfl ?_
        obtain ⟨c2, hf⟩ := ab_ifs hf
        refine ab_U.iald (n := 5) rfl (fm_WA hw).2.2.2.2.1 c2 ?_
        show ab_U _ _ _ (18, [some (.ref w), some (.int l1), some (.int l2), some (.int l3)], [.int (μ.2.1 ((w + 5)) l3.toNatClampNeg)], hp X G μ) _
        refine ab_U.run 1 (S' := (19, [some (.ref w), some (.int l1), some (.int l2), some (.int l3)], [.int l1, .int (μ.2.1 ((w + 5)) l3.toNatClampNeg)], hp X G μ)) rfl ?_
        refine ab_U.ic_ne rfl (fun b3 => ?_) (fun b3 => ?_)
        · rw [if_pos b3] at hf
          refine ab_U.run 2 (S' := (4, [some (.ref w), some (.int l1), some (.int l2), some (.int (l3 + 1))], [], hp X G μ)) rfl ?_
          exact ab_U.weak (ih _ _ _ _ _ hf) (ab_leL.of ⟨rfl, ⟨rfl, ⟨rfl, ⟨rfl, trivial⟩⟩⟩⟩)
        · rw [if_neg b3] at hf
          refine ab_U.run 8 (S' := (4, [some (.ref w), some (.int l1), some (.int (l2 ||| (1 <<< (l3 &&& 31)))), some (.int (l3 + 1))], [], hp X G μ)) rfl ?_
          exact ab_U.weak (ih _ _ _ _ _ hf) (ab_leL.of ⟨rfl, ⟨rfl, ⟨rfl, ⟨rfl, trivial⟩⟩⟩⟩)
set_option maxRecDepth 20000 in
def f_X7_stonesOf (F : Nat) (w : Nat) (x0 : Int32) (μ : fm_M) : Option (Int32 × fm_M) := g_X7_stonesOf F w F 4 x0 0 0 μ
set_option maxRecDepth 20000 in
theorem t_X7_stonesOf {X : Nat × (Nat → Int32)} {G : Nat → Nat → Option Nat} (hG : fm_Gok G) {F : Nat} {w : Nat} (hw : fm_isW w = true) {x0 : Int32} {μ : fm_M} {r : Int32 × fm_M} (hf : f_X7_stonesOf F w x0 μ = some r) : ab_F 1 62 [.ref w, .int x0] (hp X G μ) (some (.int r.1)) (hp X G r.2) := by
  unfold f_X7_stonesOf at hf
  refine ab_T.of (d := 0) rfl (Nat.le_of_ble_eq_true rfl) ?_
  show ab_U _ _ kX7_stonesOf (0, [some (.ref w), some (.int x0), none, none], [], hp X G μ) _
  refine ab_U.run 4 (S' := (4, [some (.ref w), some (.int x0), some (.int 0), some (.int 0)], [], hp X G μ)) rfl ?_
  exact ab_U.weak ((t_X7_stonesOf_g (X := X) hG  hw F) _ _ _ _ _ hf) (ab_leL.of ⟨rfl, ⟨rfl, ⟨rfl, ⟨rfl, trivial⟩⟩⟩⟩)
set_option maxRecDepth 20000 in
def f_J9_abs_0f7a4 (F : Nat)  (x0 : Int32) (μ : fm_M) : Option (Int32 × fm_M) := (if 0 ≤ x0 then some (x0, μ) else some ((-x0), μ))
set_option maxRecDepth 20000 in
theorem t_J9_abs_0f7a4 {X : Nat × (Nat → Int32)} {G : Nat → Nat → Option Nat} (hG : fm_Gok G) {F : Nat}   {x0 : Int32} {μ : fm_M} {r : Int32 × fm_M} (hf : f_J9_abs_0f7a4 F x0 μ = some r) : ab_F 1 219 [.int x0] (hp X G μ) (some (.int r.1)) (hp X G r.2) := by
  unfold f_J9_abs_0f7a4 at hf
  refine ab_T.of (d := 0) rfl (Nat.le_of_ble_eq_true rfl) ?_
  show ab_U _ _ kJ9_abs_0f7a4 (0, [some (.int x0)], [], hp X G μ) _
  refine ab_U.run 1 (S' := (1, [some (.int x0)], [.int x0], hp X G μ)) rfl ?_
  refine ab_U.if_ge rfl (fun b1 => ?_) (fun b1 => ?_)
  · rw [if_pos b1] at hf
    refine ab_U.run 1 (S' := (10, [some (.int x0)], [.int x0], hp X G μ)) rfl ?_
    obtain rfl := Option.some.inj hf
    exact ab_U.ret rfl rfl ⟨rfl, rfl⟩
  · rw [if_neg b1] at hf
    refine ab_U.run 3 (S' := (10, [some (.int x0)], [.int (-x0)], hp X G μ)) rfl ?_
    obtain rfl := Option.some.inj hf
    exact ab_U.ret rfl rfl ⟨rfl, rfl⟩
set_option maxRecDepth 20000 in
def f_X7_minutesBetween (F : Nat) (w : Nat) (x0 : Int32) (x1 : Int32) (μ : fm_M) : Option (Int32 × fm_M) := (if ab_in x0 4 = true then (if ab_in x1 4 = true then (Option.bind (f_J9_abs_0f7a4 F ((μ.2.1 ((w + 2)) x0.toNatClampNeg) - (μ.2.1 ((w + 2)) x1.toNatClampNeg)) μ) (fun q3 => some ((q3.1 + 1), q3.2))) else none) else none)
set_option maxRecDepth 20000 in
theorem t_X7_minutesBetween {X : Nat × (Nat → Int32)} {G : Nat → Nat → Option Nat} (hG : fm_Gok G) {F : Nat} {w : Nat} (hw : fm_isW w = true) {x0 : Int32} {x1 : Int32} {μ : fm_M} {r : Int32 × fm_M} (hf : f_X7_minutesBetween F w x0 x1 μ = some r) : ab_F 2 70 [.ref w, .int x0, .int x1] (hp X G μ) (some (.int r.1)) (hp X G r.2) := by
  unfold f_X7_minutesBetween at hf
  refine ab_T.of (d := 1) rfl (Nat.le_of_ble_eq_true rfl) ?_
  show ab_U _ _ kX7_minutesBetween (0, [some (.ref w), some (.int x0), some (.int x1)], [], hp X G μ) _
  refine ab_U.run 1 (S' := (1, [some (.ref w), some (.int x0), some (.int x1)], [.ref w], hp X G μ)) rfl ?_
  refine ab_U.gfW (k9 := 2) rfl hw ⟨rfl, rfl, by decide, rfl⟩ ?_
  show ab_U _ _ _ (4, [some (.ref w), some (.int x0), some (.int x1)], [.ref (w + 2)], hp X G μ) _
  refine ab_U.run 1 (S' := (5, [some (.ref w), some (.int x0), some (.int x1)], [.int x0, .ref (w + 2)], hp X G μ)) rfl ?_
  obtain ⟨c1, hf⟩ := ab_ifs hf
  refine ab_U.iald (n := 4) rfl (fm_WA hw).2.1 c1 ?_
  show ab_U _ _ _ (6, [some (.ref w), some (.int x0), some (.int x1)], [.int (μ.2.1 ((w + 2)) x0.toNatClampNeg)], hp X G μ) _
  refine ab_U.run 1 (S' := (7, [some (.ref w), some (.int x0), some (.int x1)], [.ref w, .int (μ.2.1 ((w + 2)) x0.toNatClampNeg)], hp X G μ)) rfl ?_
  refine ab_U.gfW (k9 := 2) rfl hw ⟨rfl, rfl, by decide, rfl⟩ ?_
  show ab_U _ _ _ (10, [some (.ref w), some (.int x0), some (.int x1)], [.ref (w + 2), .int (μ.2.1 ((w + 2)) x0.toNatClampNeg)], hp X G μ) _
  refine ab_U.run 1 (S' := (11, [some (.ref w), some (.int x0), some (.int x1)], [.int x1, .ref (w + 2), .int (μ.2.1 ((w + 2)) x0.toNatClampNeg)], hp X G μ)) rfl ?_
  obtain ⟨c2, hf⟩ := ab_ifs hf
  refine ab_U.iald (n := 4) rfl (fm_WA hw).2.1 c2 ?_
  show ab_U _ _ _ (12, [some (.ref w), some (.int x0), some (.int x1)], [.int (μ.2.1 ((w + 2)) x1.toNatClampNeg), .int (μ.2.1 ((w + 2)) x0.toNatClampNeg)], hp X G μ) _
  refine ab_U.run 1 (S' := (13, [some (.ref w), some (.int x0), some (.int x1)], [.int ((μ.2.1 ((w + 2)) x0.toNatClampNeg) - (μ.2.1 ((w + 2)) x1.toNatClampNeg))], hp X G μ)) rfl ?_
  obtain ⟨q3, h4, hf⟩ := ab_bnd hf
  refine ab_U.fn rfl rfl (t_J9_abs_0f7a4 (X := X) hG h4) (by omega) ?_
  show ab_U _ _ _ (16, [some (.ref w), some (.int x0), some (.int x1)], [.int q3.1], hp X G q3.2) _
  refine ab_U.run 2 (S' := (18, [some (.ref w), some (.int x0), some (.int x1)], [.int (q3.1 + 1)], hp X G q3.2)) rfl ?_
  obtain rfl := Option.some.inj hf
  exact ab_U.ret rfl rfl ⟨rfl, rfl⟩
set_option maxRecDepth 20000 in
def f_J9_max_7cf53 (F : Nat)  (x0 : Int32) (x1 : Int32) (μ : fm_M) : Option (Int32 × fm_M) := (if x0 < x1 then some (x1, μ) else some (x0, μ))
set_option maxRecDepth 20000 in
theorem t_J9_max_7cf53 {X : Nat × (Nat → Int32)} {G : Nat → Nat → Option Nat} (hG : fm_Gok G) {F : Nat}   {x0 : Int32} {x1 : Int32} {μ : fm_M} {r : Int32 × fm_M} (hf : f_J9_max_7cf53 F x0 x1 μ = some r) : ab_F 1 220 [.int x0, .int x1] (hp X G μ) (some (.int r.1)) (hp X G r.2) := by
  unfold f_J9_max_7cf53 at hf
  refine ab_T.of (d := 0) rfl (Nat.le_of_ble_eq_true rfl) ?_
  show ab_U _ _ kJ9_max_7cf53 (0, [some (.int x0), some (.int x1)], [], hp X G μ) _
  refine ab_U.run 2 (S' := (2, [some (.int x0), some (.int x1)], [.int x1, .int x0], hp X G μ)) rfl ?_
  refine ab_U.ic_lt rfl (fun b1 => ?_) (fun b1 => ?_)
  · rw [if_pos b1] at hf
    refine ab_U.run 1 (S' := (10, [some (.int x0), some (.int x1)], [.int x1], hp X G μ)) rfl ?_
    obtain rfl := Option.some.inj hf
    exact ab_U.ret rfl rfl ⟨rfl, rfl⟩
  · rw [if_neg b1] at hf
    refine ab_U.run 2 (S' := (10, [some (.int x0), some (.int x1)], [.int x0], hp X G μ)) rfl ?_
    obtain rfl := Option.some.inj hf
    exact ab_U.ret rfl rfl ⟨rfl, rfl⟩
set_option maxRecDepth 20000 in
def f_X8_rate (F : Nat)  (x0 : Int32) (x1 : Int32) (μ : fm_M) : Option (Int32 × fm_M) := (if ab_in x0 4 = true then (Option.bind (f_J9_max_7cf53 F 1 ((ab_bas.getD x0.toNatClampNeg 0) - x1) μ) (fun q2 => some (q2.1, q2.2))) else none)
set_option maxRecDepth 20000 in
theorem t_X8_rate {X : Nat × (Nat → Int32)} {G : Nat → Nat → Option Nat} (hG : fm_Gok G) {F : Nat}   {x0 : Int32} {x1 : Int32} {μ : fm_M} {r : Int32 × fm_M} (hf : f_X8_rate F x0 x1 μ = some r) : ab_F 2 125 [.int x0, .int x1] (hp X G μ) (some (.int r.1)) (hp X G r.2) := by
  unfold f_X8_rate at hf
  refine ab_T.of (d := 1) rfl (Nat.le_of_ble_eq_true rfl) ?_
  show ab_U _ _ kX8_rate (0, [some (.int x0), some (.int x1)], [], hp X G μ) _
  refine ab_U.run 3 (S' := (5, [some (.int x0), some (.int x1)], [.int x0, .ref 1, .int 1], hp X G μ)) rfl ?_
  obtain ⟨c1, hf⟩ := ab_ifs hf
  refine ab_U.bases rfl c1 ?_
  show ab_U _ _ _ (6, [some (.int x0), some (.int x1)], [.int (ab_bas.getD x0.toNatClampNeg 0), .int 1], hp X G μ) _
  refine ab_U.run 2 (S' := (8, [some (.int x0), some (.int x1)], [.int ((ab_bas.getD x0.toNatClampNeg 0) - x1), .int 1], hp X G μ)) rfl ?_
  obtain ⟨q2, h3, hf⟩ := ab_bnd hf
  refine ab_U.fn rfl rfl (t_J9_max_7cf53 (X := X) hG h3) (by omega) ?_
  show ab_U _ _ _ (11, [some (.int x0), some (.int x1)], [.int q2.1], hp X G q2.2) _
  obtain rfl := Option.some.inj hf
  exact ab_U.ret rfl rfl ⟨rfl, rfl⟩
set_option maxRecDepth 20000 in
def f_X7_rateOf (F : Nat) (w : Nat) (x0 : Int32) (μ : fm_M) : Option (Int32 × fm_M) := (if ab_in x0 5 = true then (if ab_in x0 5 = true then (if ab_in (μ.2.1 ((w + 5)) x0.toNatClampNeg) 4 = true then (Option.bind (f_X8_rate F (μ.2.1 ((w + 3)) x0.toNatClampNeg) (μ.2.1 ((w + 1)) (μ.2.1 ((w + 5)) x0.toNatClampNeg).toNatClampNeg) μ) (fun q4 => some (q4.1, q4.2))) else none) else none) else none)
set_option maxRecDepth 20000 in
theorem t_X7_rateOf {X : Nat × (Nat → Int32)} {G : Nat → Nat → Option Nat} (hG : fm_Gok G) {F : Nat} {w : Nat} (hw : fm_isW w = true) {x0 : Int32} {μ : fm_M} {r : Int32 × fm_M} (hf : f_X7_rateOf F w x0 μ = some r) : ab_F 3 67 [.ref w, .int x0] (hp X G μ) (some (.int r.1)) (hp X G r.2) := by
  unfold f_X7_rateOf at hf
  refine ab_T.of (d := 2) rfl (Nat.le_of_ble_eq_true rfl) ?_
  show ab_U _ _ kX7_rateOf (0, [some (.ref w), some (.int x0)], [], hp X G μ) _
  refine ab_U.run 1 (S' := (1, [some (.ref w), some (.int x0)], [.ref w], hp X G μ)) rfl ?_
  refine ab_U.gfW (k9 := 4) rfl hw ⟨rfl, rfl, by decide, rfl⟩ ?_
  show ab_U _ _ _ (4, [some (.ref w), some (.int x0)], [.ref (w + 3)], hp X G μ) _
  refine ab_U.run 1 (S' := (5, [some (.ref w), some (.int x0)], [.int x0, .ref (w + 3)], hp X G μ)) rfl ?_
  obtain ⟨c1, hf⟩ := ab_ifs hf
  refine ab_U.iald (n := 5) rfl (fm_WA hw).2.2.1 c1 ?_
  show ab_U _ _ _ (6, [some (.ref w), some (.int x0)], [.int (μ.2.1 ((w + 3)) x0.toNatClampNeg)], hp X G μ) _
  refine ab_U.run 1 (S' := (7, [some (.ref w), some (.int x0)], [.ref w, .int (μ.2.1 ((w + 3)) x0.toNatClampNeg)], hp X G μ)) rfl ?_
  refine ab_U.gfW (k9 := 1) rfl hw ⟨rfl, rfl, by decide, rfl⟩ ?_
  show ab_U _ _ _ (10, [some (.ref w), some (.int x0)], [.ref (w + 1), .int (μ.2.1 ((w + 3)) x0.toNatClampNeg)], hp X G μ) _
  refine ab_U.run 1 (S' := (11, [some (.ref w), some (.int x0)], [.ref w, .ref (w + 1), .int (μ.2.1 ((w + 3)) x0.toNatClampNeg)], hp X G μ)) rfl ?_
  refine ab_U.gfW (k9 := 6) rfl hw ⟨rfl, rfl, by decide, rfl⟩ ?_
  show ab_U _ _ _ (14, [some (.ref w), some (.int x0)], [.ref (w + 5), .ref (w + 1), .int (μ.2.1 ((w + 3)) x0.toNatClampNeg)], hp X G μ) _
  refine ab_U.run 1 (S' := (15, [some (.ref w), some (.int x0)], [.int x0, .ref (w + 5), .ref (w + 1), .int (μ.2.1 ((w + 3)) x0.toNatClampNeg)], hp X G μ)) rfl ?_
  obtain ⟨c2, hf⟩ := ab_ifs hf
  refine ab_U.iald (n := 5) rfl (fm_WA hw).2.2.2.2.1 c2 ?_
  show ab_U _ _ _ (16, [some (.ref w), some (.int x0)], [.int (μ.2.1 ((w + 5)) x0.toNatClampNeg), .ref (w + 1), .int (μ.2.1 ((w + 3)) x0.toNatClampNeg)], hp X G μ) _
  obtain ⟨c3, hf⟩ := ab_ifs hf
  refine ab_U.iald (n := 4) rfl (fm_WA hw).1 c3 ?_
  show ab_U _ _ _ (17, [some (.ref w), some (.int x0)], [.int (μ.2.1 ((w + 1)) (μ.2.1 ((w + 5)) x0.toNatClampNeg).toNatClampNeg), .int (μ.2.1 ((w + 3)) x0.toNatClampNeg)], hp X G μ) _
  obtain ⟨q4, h5, hf⟩ := ab_bnd hf
  refine ab_U.fn rfl rfl (t_X8_rate (X := X) hG h5) (by omega) ?_
  show ab_U _ _ _ (20, [some (.ref w), some (.int x0)], [.int q4.1], hp X G q4.2) _
  obtain rfl := Option.some.inj hf
  exact ab_U.ret rfl rfl ⟨rfl, rfl⟩
set_option maxRecDepth 20000 in
def f_X8_cooled (F : Nat)  (x0 : Int32) (x1 : Int32) (μ : fm_M) : Option (Int32 × fm_M) := (Option.bind (f_J9_max_7cf53 F 0 ((x0 - 1) - ((x0 * x1) / 20)) μ) (fun q1 => some (q1.1, q1.2)))
set_option maxRecDepth 20000 in
theorem t_X8_cooled {X : Nat × (Nat → Int32)} {G : Nat → Nat → Option Nat} (hG : fm_Gok G) {F : Nat}   {x0 : Int32} {x1 : Int32} {μ : fm_M} {r : Int32 × fm_M} (hf : f_X8_cooled F x0 x1 μ = some r) : ab_F 2 126 [.int x0, .int x1] (hp X G μ) (some (.int r.1)) (hp X G r.2) := by
  unfold f_X8_cooled at hf
  refine ab_T.of (d := 1) rfl (Nat.le_of_ble_eq_true rfl) ?_
  show ab_U _ _ kX8_cooled (0, [some (.int x0), some (.int x1)], [], hp X G μ) _
  refine ab_U.run 10 (S' := (11, [some (.int x0), some (.int x1)], [.int ((x0 - 1) - ((x0 * x1) / 20)), .int 0], hp X G μ)) rfl ?_
  obtain ⟨q1, h2, hf⟩ := ab_bnd hf
  refine ab_U.fn rfl rfl (t_J9_max_7cf53 (X := X) hG h2) (by omega) ?_
  show ab_U _ _ _ (14, [some (.int x0), some (.int x1)], [.int q1.1], hp X G q1.2) _
  obtain rfl := Option.some.inj hf
  exact ab_U.ret rfl rfl ⟨rfl, rfl⟩
set_option maxRecDepth 20000 in
def b_X8_cooledFor_5 (F : Nat)  (gg : Nat → Int32 → Int32 → Int32 → Int32 → fm_M → Option (Int32 × fm_M)) (l1 : Int32) (l2 : Int32) (l3 : Int32) (l4 : Int32) (μ : fm_M) : Option (Int32 × fm_M) := (if l2 ≤ l4 then some (l3, μ) else (Option.bind (f_X8_cooled F l3 l1 μ) (fun q2 => gg 5 l1 l2 q2.1 (l4 + 1) q2.2)))
def g_X8_cooledFor (F : Nat)  : Nat → Nat → Int32 → Int32 → Int32 → Int32 → fm_M → Option (Int32 × fm_M)
  | 0, _, _, _, _, _, _ => none
  | n + 1, pc, l1, l2, l3, l4, μ => if pc = 5 then b_X8_cooledFor_5 F  (g_X8_cooledFor F  n) l1 l2 l3 l4 μ else none
set_option maxRecDepth 20000 in
theorem t_X8_cooledFor_g {X : Nat × (Nat → Int32)} {G : Nat → Nat → Option Nat} (hG : fm_Gok G) {F : Nat}    : ∀ n : Nat, (∀ (l1 : Int32) (l2 : Int32) (l3 : Int32) (l4 : Int32) (μ : fm_M) (r : Int32 × fm_M), g_X8_cooledFor F  n 5 l1 l2 l3 l4 μ = some r → ab_U 2 (some .int) kX8_cooledFor (5, [none, some (.int l1), some (.int l2), some (.int l3), some (.int l4)], [], hp X G μ) (fun r9 h9 => r9 = some (.int r.1) ∧ h9 = hp X G r.2))
  | 0 => by
    intros
    rename_i h
    cases h
  | n + 1 => by
    have ih := t_X8_cooledFor_g (X := X) hG (F := F)   n
    · intro l1 l2 l3 l4 μ r hf
      have hf : b_X8_cooledFor_5 F  (g_X8_cooledFor F  n) l1 l2 l3 l4 μ = some r := hf
      unfold b_X8_cooledFor_5 at hf
      refine ab_U.run 2 (S' := (8, [none, some (.int l1), some (.int l2), some (.int l3), some (.int l4)], [.int l2, .int l4], hp X G μ)) rfl ?_
      refine ab_U.ic_ge rfl (fun b1 => ?_) (fun b1 => ?_)
      · rw [if_pos b1] at hf
        refine ab_U.run 1 (S' := (24, [none, some (.int l1), some (.int l2), some (.int l3), some (.int l4)], [.int l3], hp X G μ)) rfl ?_
        obtain rfl := Option.some.inj hf
        exact ab_U.ret rfl rfl ⟨rfl, rfl⟩
      · rw [if_neg b1] at hf
        refine ab_U.run 2 (S' := (13, [none, some (.int l1), some (.int l2), some (.int l3), some (.int l4)], [.int l1, .int l3], hp X G μ)) rfl ?_
        obtain ⟨q2, h3, hf⟩ := ab_bnd hf
        refine ab_U.fn rfl rfl (t_X8_cooled (X := X) hG h3) (by omega) ?_
        show ab_U _ _ _ (16, [none, some (.int l1), some (.int l2), some (.int l3), some (.int l4)], [.int q2.1], hp X G q2.2) _
        refine ab_U.run 3 (S' := (5, [none, some (.int l1), some (.int l2), some (.int q2.1), some (.int (l4 + 1))], [], hp X G q2.2)) rfl ?_
        exact ab_U.weak (ih _ _ _ _ _ _ hf) (ab_leL.of ⟨rfl, ⟨rfl, ⟨rfl, ⟨rfl, trivial⟩⟩⟩⟩)
set_option maxRecDepth 20000 in
def f_X8_cooledFor (F : Nat)  (x0 : Int32) (x1 : Int32) (x2 : Int32) (μ : fm_M) : Option (Int32 × fm_M) := g_X8_cooledFor F  F 5 x1 x2 x0 0 μ
set_option maxRecDepth 20000 in
theorem t_X8_cooledFor {X : Nat × (Nat → Int32)} {G : Nat → Nat → Option Nat} (hG : fm_Gok G) {F : Nat}   {x0 : Int32} {x1 : Int32} {x2 : Int32} {μ : fm_M} {r : Int32 × fm_M} (hf : f_X8_cooledFor F x0 x1 x2 μ = some r) : ab_F 3 127 [.int x0, .int x1, .int x2] (hp X G μ) (some (.int r.1)) (hp X G r.2) := by
  unfold f_X8_cooledFor at hf
  refine ab_T.of (d := 2) rfl (Nat.le_of_ble_eq_true rfl) ?_
  show ab_U _ _ kX8_cooledFor (0, [some (.int x0), some (.int x1), some (.int x2), none, none], [], hp X G μ) _
  refine ab_U.run 4 (S' := (5, [some (.int x0), some (.int x1), some (.int x2), some (.int x0), some (.int 0)], [], hp X G μ)) rfl ?_
  exact ab_U.weak ((t_X8_cooledFor_g (X := X) hG   F) _ _ _ _ _ _ hf) (ab_leL.of ⟨rfl, ⟨rfl, ⟨rfl, ⟨rfl, trivial⟩⟩⟩⟩)
set_option maxRecDepth 20000 in
def b_X0_foresee_26 (F : Nat) (w : Nat) (gg : Nat → Int32 → Int32 → Int32 → Int32 → Int32 → fm_M → Option (Unit × fm_M)) (l2 : Int32) (l3 : Int32) (l4 : Int32) (l5 : Int32) (l6 : Int32) (μ : fm_M) : Option (Unit × fm_M) := (if (μ.1 w 3) ≤ l4 then some ((), μ) else (if ((l2 >>> (l4 &&& 31)) &&& 1) = 0 then gg 26 l2 l3 (l4 + 1) 0 0 μ else (if ab_in l4 5 = true then gg 56 l2 l3 l4 (μ.2.1 ((w + 4)) l4.toNatClampNeg) 0 μ else none)))
set_option maxRecDepth 20000 in
def b_X0_foresee_56 (F : Nat) (w : Nat) (gg : Nat → Int32 → Int32 → Int32 → Int32 → Int32 → fm_M → Option (Unit × fm_M)) (l2 : Int32) (l3 : Int32) (l4 : Int32) (l5 : Int32) (l6 : Int32) (μ : fm_M) : Option (Unit × fm_M) := (if 5 ≤ l6 then gg 26 l2 l3 (l4 + 1) 0 0 μ else (Option.bind (f_X7_rateOf F w l4 μ) (fun q5 => (Option.bind (f_X8_cooledFor F l5 q5.1 l3 q5.2) (fun q7 => (if ab_in l4 5 = true then (if fm_inA ((135 + l4.toNatClampNeg)) l6 = true then (Option.bind (some (fm_sA q7.2 ((135 + l4.toNatClampNeg)) (upd (q7.2.2.1 ((135 + l4.toNatClampNeg))) l6.toNatClampNeg q7.1))) (fun m11 => gg 56 l2 l3 l4 q7.1 (l6 + 1) m11)) else none) else none))))))
def g_X0_foresee (F : Nat) (w : Nat) : Nat → Nat → Int32 → Int32 → Int32 → Int32 → Int32 → fm_M → Option (Unit × fm_M)
  | 0, _, _, _, _, _, _, _ => none
  | n + 1, pc, l2, l3, l4, l5, l6, μ => if pc = 26 then b_X0_foresee_26 F w (g_X0_foresee F w n) l2 l3 l4 l5 l6 μ else if pc = 56 then b_X0_foresee_56 F w (g_X0_foresee F w n) l2 l3 l4 l5 l6 μ else none
set_option maxRecDepth 20000 in
theorem t_X0_foresee_g {X : Nat × (Nat → Int32)} {G : Nat → Nat → Option Nat} (hG : fm_Gok G) {F : Nat}  {w : Nat} (hw : fm_isW w = true) : ∀ n : Nat, (∀ (l2 : Int32) (l3 : Int32) (l4 : Int32) (l5 : Int32) (l6 : Int32) (μ : fm_M) (r : Unit × fm_M), g_X0_foresee F w n 26 l2 l3 l4 l5 l6 μ = some r → ab_U 3 (none) kX0_foresee (26, [some (.ref 132), some (.ref w), some (.int l2), some (.int l3), some (.int l4), none, none], [], hp X G μ) (fun r9 h9 => r9 = none ∧ h9 = hp X G r.2)) ∧ (∀ (l2 : Int32) (l3 : Int32) (l4 : Int32) (l5 : Int32) (l6 : Int32) (μ : fm_M) (r : Unit × fm_M), g_X0_foresee F w n 56 l2 l3 l4 l5 l6 μ = some r → ab_U 3 (none) kX0_foresee (56, [some (.ref 132), some (.ref w), some (.int l2), some (.int l3), some (.int l4), some (.int l5), some (.int l6)], [], hp X G μ) (fun r9 h9 => r9 = none ∧ h9 = hp X G r.2))
  | 0 => by
    refine ⟨?_, ?_⟩
    all_goals (intros; rename_i h; cases h)
  | n + 1 => by
    have ih := t_X0_foresee_g (X := X) hG (F := F)  hw n
    refine ⟨?_, ?_⟩
    · intro l2 l3 l4 l5 l6 μ r hf
      have hf : b_X0_foresee_26 F w (g_X0_foresee F w n) l2 l3 l4 l5 l6 μ = some r := hf
      unfold b_X0_foresee_26 at hf
      refine ab_U.run 2 (S' := (29, [some (.ref 132), some (.ref w), some (.int l2), some (.int l3), some (.int l4), none, none], [.ref w, .int l4], hp X G μ)) rfl ?_
      refine ab_U.gfI (ci := 7) (k9 := 3) rfl (fm_WO hw) ⟨rfl, rfl, by decide, rfl⟩ ?_
      show ab_U _ _ _ (32, [some (.ref 132), some (.ref w), some (.int l2), some (.int l3), some (.int l4), none, none], [.int (μ.1 w 3), .int l4], hp X G μ) _
      refine ab_U.ic_ge rfl (fun b1 => ?_) (fun b1 => ?_)
      · rw [if_pos b1] at hf
        obtain rfl := Option.some.inj hf
        exact ab_U.ret rfl rfl ⟨rfl, rfl⟩
      · rw [if_neg b1] at hf
        refine ab_U.run 5 (S' := (41, [some (.ref 132), some (.ref w), some (.int l2), some (.int l3), some (.int l4), none, none], [.int ((l2 >>> (l4 &&& 31)) &&& 1)], hp X G μ)) rfl ?_
        refine ab_U.if_eq rfl (fun b2 => ?_) (fun b2 => ?_)
        · rw [if_pos b2] at hf
          refine ab_U.run 2 (S' := (26, [some (.ref 132), some (.ref w), some (.int l2), some (.int l3), some (.int (l4 + 1)), none, none], [], hp X G μ)) rfl ?_
          exact ab_U.weak (ih.1 _ _ _ _ _ _ _ hf) (ab_leL.of ⟨rfl, ⟨rfl, ⟨rfl, ⟨rfl, ⟨rfl, trivial⟩⟩⟩⟩⟩)
        · rw [if_neg b2] at hf
          refine ab_U.run 1 (S' := (45, [some (.ref 132), some (.ref w), some (.int l2), some (.int l3), some (.int l4), none, none], [.ref w], hp X G μ)) rfl ?_
          refine ab_U.gfW (k9 := 5) rfl hw ⟨rfl, rfl, by decide, rfl⟩ ?_
          show ab_U _ _ _ (48, [some (.ref 132), some (.ref w), some (.int l2), some (.int l3), some (.int l4), none, none], [.ref (w + 4)], hp X G μ) _
          refine ab_U.run 1 (S' := (50, [some (.ref 132), some (.ref w), some (.int l2), some (.int l3), some (.int l4), none, none], [.int l4, .ref (w + 4)], hp X G μ)) rfl ?_
          obtain ⟨c3, hf⟩ := ab_ifs hf
          refine ab_U.iald (n := 5) rfl (fm_WA hw).2.2.2.1 c3 ?_
          show ab_U _ _ _ (51, [some (.ref 132), some (.ref w), some (.int l2), some (.int l3), some (.int l4), none, none], [.int (μ.2.1 ((w + 4)) l4.toNatClampNeg)], hp X G μ) _
          refine ab_U.run 3 (S' := (56, [some (.ref 132), some (.ref w), some (.int l2), some (.int l3), some (.int l4), some (.int (μ.2.1 ((w + 4)) l4.toNatClampNeg)), some (.int 0)], [], hp X G μ)) rfl ?_
          exact ab_U.weak (ih.2 _ _ _ _ _ _ _ hf) (ab_leL.of ⟨rfl, ⟨rfl, ⟨rfl, ⟨rfl, ⟨rfl, ⟨rfl, ⟨rfl, trivial⟩⟩⟩⟩⟩⟩⟩)
    · intro l2 l3 l4 l5 l6 μ r hf
      have hf : b_X0_foresee_56 F w (g_X0_foresee F w n) l2 l3 l4 l5 l6 μ = some r := hf
      unfold b_X0_foresee_56 at hf
      refine ab_U.run 2 (S' := (59, [some (.ref 132), some (.ref w), some (.int l2), some (.int l3), some (.int l4), some (.int l5), some (.int l6)], [.int 5, .int l6], hp X G μ)) rfl ?_
      refine ab_U.ic_ge rfl (fun b4 => ?_) (fun b4 => ?_)
      · rw [if_pos b4] at hf
        refine ab_U.run 2 (S' := (26, [some (.ref 132), some (.ref w), some (.int l2), some (.int l3), some (.int (l4 + 1)), some (.int l5), some (.int l6)], [], hp X G μ)) rfl ?_
        exact ab_U.weak (ih.1 _ _ _ _ _ _ _ hf) (ab_leL.of ⟨rfl, ⟨rfl, ⟨rfl, ⟨rfl, ⟨rfl, trivial⟩⟩⟩⟩⟩)
      · rw [if_neg b4] at hf
        refine ab_U.run 3 (S' := (67, [some (.ref 132), some (.ref w), some (.int l2), some (.int l3), some (.int l4), some (.int l5), some (.int l6)], [.int l4, .ref w, .int l5], hp X G μ)) rfl ?_
        obtain ⟨q5, h6, hf⟩ := ab_bnd hf
        refine ab_U.fnV rfl rfl (fm_WO hw) rfl (t_X7_rateOf (X := X) hG hw h6) (by omega) ?_
        show ab_U _ _ _ (70, [some (.ref 132), some (.ref w), some (.int l2), some (.int l3), some (.int l4), some (.int l5), some (.int l6)], [.int q5.1, .int l5], hp X G q5.2) _
        refine ab_U.run 1 (S' := (71, [some (.ref 132), some (.ref w), some (.int l2), some (.int l3), some (.int l4), some (.int l5), some (.int l6)], [.int l3, .int q5.1, .int l5], hp X G q5.2)) rfl ?_
        obtain ⟨q7, h8, hf⟩ := ab_bnd hf
        refine ab_U.fn rfl rfl (t_X8_cooledFor (X := X) hG h8) (by omega) ?_
        show ab_U _ _ _ (74, [some (.ref 132), some (.ref w), some (.int l2), some (.int l3), some (.int l4), some (.int l5), some (.int l6)], [.int q7.1], hp X G q7.2) _
        refine ab_U.run 4 (S' := (82, [some (.ref 132), some (.ref w), some (.int l2), some (.int l3), some (.int l4), some (.int q7.1), some (.int l6)], [.int l4, .ref 134], hp X G q7.2)) rfl ?_
        obtain ⟨c9, hf⟩ := ab_ifs hf
        refine ab_U.aaldG (n := 5) (ty := .array .int) (v := (135 + l4.toNatClampNeg)) hG rfl ⟨by decide, rfl⟩ rfl c9 rfl rfl ?_
        refine ab_U.run 2 (S' := (87, [some (.ref 132), some (.ref w), some (.int l2), some (.int l3), some (.int l4), some (.int q7.1), some (.int l6)], [.int q7.1, .int l6, .ref (135 + l4.toNatClampNeg)], hp X G q7.2)) rfl ?_
        obtain ⟨c10, hf⟩ := ab_ifs hf
        obtain ⟨m11, e12, hf⟩ := ab_bnd hf
        have e12 := Option.some.inj e12
        refine ab_U.iastA rfl c10 ?_
        show ab_U _ _ _ (88, [some (.ref 132), some (.ref w), some (.int l2), some (.int l3), some (.int l4), some (.int q7.1), some (.int l6)], [], hp X G (fm_sA q7.2 ((135 + l4.toNatClampNeg)) (upd (q7.2.2.1 ((135 + l4.toNatClampNeg))) l6.toNatClampNeg q7.1))) _
        rw [e12]
        refine ab_U.run 2 (S' := (56, [some (.ref 132), some (.ref w), some (.int l2), some (.int l3), some (.int l4), some (.int q7.1), some (.int (l6 + 1))], [], hp X G m11)) rfl ?_
        exact ab_U.weak (ih.2 _ _ _ _ _ _ _ hf) (ab_leL.of ⟨rfl, ⟨rfl, ⟨rfl, ⟨rfl, ⟨rfl, ⟨rfl, ⟨rfl, trivial⟩⟩⟩⟩⟩⟩⟩)
set_option maxRecDepth 20000 in
def f_X0_foresee (F : Nat) (w : Nat) (x1 : Int32) (μ : fm_M) : Option (Unit × fm_M) := (if ab_in (μ.1 132 4) 4 = true then (if ab_in (μ.1 132 4) 4 = true then (Option.bind (f_X7_minutesBetween F w (μ.2.1 ((w + 7)) (μ.1 132 4).toNatClampNeg) (μ.2.1 ((w + 8)) (μ.1 132 4).toNatClampNeg) μ) (fun q15 => g_X0_foresee F w F 26 x1 q15.1 0 0 0 q15.2)) else none) else none)
set_option maxRecDepth 20000 in
theorem t_X0_foresee {X : Nat × (Nat → Int32)} {G : Nat → Nat → Option Nat} (hG : fm_Gok G) {F : Nat} {w : Nat} (hw : fm_isW w = true) {x1 : Int32} {μ : fm_M} {r : Unit × fm_M} (hf : f_X0_foresee F w x1 μ = some r) : ab_F 4 2 [.ref 132, .ref w, .int x1] (hp X G μ) none (hp X G r.2) := by
  unfold f_X0_foresee at hf
  refine ab_T.of (d := 3) rfl (Nat.le_of_ble_eq_true rfl) ?_
  show ab_U _ _ kX0_foresee (0, [some (.ref 132), some (.ref w), some (.int x1), none, none, none, none], [], hp X G μ) _
  refine ab_U.run 2 (S' := (2, [some (.ref 132), some (.ref w), some (.int x1), none, none, none, none], [.ref w, .ref w], hp X G μ)) rfl ?_
  refine ab_U.gfW (k9 := 12) rfl hw ⟨rfl, rfl, by decide, rfl⟩ ?_
  show ab_U _ _ _ (5, [some (.ref 132), some (.ref w), some (.int x1), none, none, none, none], [.ref (w + 7), .ref w], hp X G μ) _
  refine ab_U.run 2 (S' := (9, [some (.ref 132), some (.ref w), some (.int x1), none, none, none, none], [.int (μ.1 132 4), .ref (w + 7), .ref w], hp X G μ)) rfl ?_
  obtain ⟨c13, hf⟩ := ab_ifs hf
  refine ab_U.iald (n := 4) rfl (fm_WA hw).2.2.2.2.2.2.1 c13 ?_
  show ab_U _ _ _ (10, [some (.ref 132), some (.ref w), some (.int x1), none, none, none, none], [.int (μ.2.1 ((w + 7)) (μ.1 132 4).toNatClampNeg), .ref w], hp X G μ) _
  refine ab_U.run 1 (S' := (11, [some (.ref 132), some (.ref w), some (.int x1), none, none, none, none], [.ref w, .int (μ.2.1 ((w + 7)) (μ.1 132 4).toNatClampNeg), .ref w], hp X G μ)) rfl ?_
  refine ab_U.gfW (k9 := 13) rfl hw ⟨rfl, rfl, by decide, rfl⟩ ?_
  show ab_U _ _ _ (14, [some (.ref 132), some (.ref w), some (.int x1), none, none, none, none], [.ref (w + 8), .int (μ.2.1 ((w + 7)) (μ.1 132 4).toNatClampNeg), .ref w], hp X G μ) _
  refine ab_U.run 2 (S' := (18, [some (.ref 132), some (.ref w), some (.int x1), none, none, none, none], [.int (μ.1 132 4), .ref (w + 8), .int (μ.2.1 ((w + 7)) (μ.1 132 4).toNatClampNeg), .ref w], hp X G μ)) rfl ?_
  obtain ⟨c14, hf⟩ := ab_ifs hf
  refine ab_U.iald (n := 4) rfl (fm_WA hw).2.2.2.2.2.2.2.1 c14 ?_
  show ab_U _ _ _ (19, [some (.ref 132), some (.ref w), some (.int x1), none, none, none, none], [.int (μ.2.1 ((w + 8)) (μ.1 132 4).toNatClampNeg), .int (μ.2.1 ((w + 7)) (μ.1 132 4).toNatClampNeg), .ref w], hp X G μ) _
  obtain ⟨q15, h16, hf⟩ := ab_bnd hf
  refine ab_U.fnV rfl rfl (fm_WO hw) rfl (t_X7_minutesBetween (X := X) hG hw h16) (by omega) ?_
  show ab_U _ _ _ (22, [some (.ref 132), some (.ref w), some (.int x1), none, none, none, none], [.int q15.1], hp X G q15.2) _
  refine ab_U.run 3 (S' := (26, [some (.ref 132), some (.ref w), some (.int x1), some (.int q15.1), some (.int 0), none, none], [], hp X G q15.2)) rfl ?_
  exact ab_U.weak ((t_X0_foresee_g (X := X) hG  hw F).1 _ _ _ _ _ _ _ hf) (ab_leL.of ⟨rfl, ⟨rfl, ⟨rfl, ⟨rfl, ⟨rfl, trivial⟩⟩⟩⟩⟩)
set_option maxRecDepth 20000 in
def f_J6_bitCount_0f7a4 (F : Nat)  (x0 : Int32) (μ : fm_M) : Option (Int32 × fm_M) := (Option.bind (some (x0 - ((((x0).toUInt32 >>> ((1 : Int32).toUInt32 &&& Int32.toUInt32 31)).toInt32) &&& 1431655765))) (fun v1 => (Option.bind (some ((v1 &&& 858993459) + ((((v1).toUInt32 >>> ((2 : Int32).toUInt32 &&& Int32.toUInt32 31)).toInt32) &&& 858993459))) (fun v3 => (Option.bind (some ((v3 + (((v3).toUInt32 >>> ((4 : Int32).toUInt32 &&& Int32.toUInt32 31)).toInt32)) &&& 252645135)) (fun v5 => (Option.bind (some (v5 + (((v5).toUInt32 >>> ((8 : Int32).toUInt32 &&& Int32.toUInt32 31)).toInt32))) (fun v7 => (Option.bind (some (v7 + (((v7).toUInt32 >>> ((16 : Int32).toUInt32 &&& Int32.toUInt32 31)).toInt32))) (fun v9 => some ((v9 &&& 63), μ)))))))))))
set_option maxRecDepth 20000 in
theorem t_J6_bitCount_0f7a4 {X : Nat × (Nat → Int32)} {G : Nat → Nat → Option Nat} (hG : fm_Gok G) {F : Nat}   {x0 : Int32} {μ : fm_M} {r : Int32 × fm_M} (hf : f_J6_bitCount_0f7a4 F x0 μ = some r) : ab_F 1 218 [.int x0] (hp X G μ) (some (.int r.1)) (hp X G r.2) := by
  unfold f_J6_bitCount_0f7a4 at hf
  refine ab_T.of (d := 0) rfl (Nat.le_of_ble_eq_true rfl) ?_
  show ab_U _ _ kJ6_bitCount_0f7a4 (0, [some (.int x0)], [], hp X G μ) _
  refine ab_U.run 8 (S' := (10, [some (.int (x0 - ((((x0).toUInt32 >>> ((1 : Int32).toUInt32 &&& Int32.toUInt32 31)).toInt32) &&& 1431655765)))], [], hp X G μ)) rfl ?_
  obtain ⟨v1, e2, hf⟩ := ab_bnd hf
  have e2 := Option.some.inj e2
  rw [e2]
  show ab_U _ _ _ (10, [some (.int v1)], [], hp X G μ) _
  refine ab_U.run 10 (S' := (24, [some (.int ((v1 &&& 858993459) + ((((v1).toUInt32 >>> ((2 : Int32).toUInt32 &&& Int32.toUInt32 31)).toInt32) &&& 858993459)))], [], hp X G μ)) rfl ?_
  obtain ⟨v3, e4, hf⟩ := ab_bnd hf
  have e4 := Option.some.inj e4
  rw [e4]
  show ab_U _ _ _ (24, [some (.int v3)], [], hp X G μ) _
  refine ab_U.run 8 (S' := (34, [some (.int ((v3 + (((v3).toUInt32 >>> ((4 : Int32).toUInt32 &&& Int32.toUInt32 31)).toInt32)) &&& 252645135))], [], hp X G μ)) rfl ?_
  obtain ⟨v5, e6, hf⟩ := ab_bnd hf
  have e6 := Option.some.inj e6
  rw [e6]
  show ab_U _ _ _ (34, [some (.int v5)], [], hp X G μ) _
  refine ab_U.run 6 (S' := (41, [some (.int (v5 + (((v5).toUInt32 >>> ((8 : Int32).toUInt32 &&& Int32.toUInt32 31)).toInt32)))], [], hp X G μ)) rfl ?_
  obtain ⟨v7, e8, hf⟩ := ab_bnd hf
  have e8 := Option.some.inj e8
  rw [e8]
  show ab_U _ _ _ (41, [some (.int v7)], [], hp X G μ) _
  refine ab_U.run 6 (S' := (48, [some (.int (v7 + (((v7).toUInt32 >>> ((16 : Int32).toUInt32 &&& Int32.toUInt32 31)).toInt32)))], [], hp X G μ)) rfl ?_
  obtain ⟨v9, e10, hf⟩ := ab_bnd hf
  have e10 := Option.some.inj e10
  rw [e10]
  show ab_U _ _ _ (48, [some (.int v9)], [], hp X G μ) _
  refine ab_U.run 3 (S' := (52, [some (.int v9)], [.int (v9 &&& 63)], hp X G μ)) rfl ?_
  obtain rfl := Option.some.inj hf
  exact ab_U.ret rfl rfl ⟨rfl, rfl⟩
set_option maxRecDepth 20000 in
def b_X7_firstOwed_3 (F : Nat) (w : Nat) (a : Nat) (gg : Nat → Int32 → Int32 → Int32 → fm_M → Option (Int32 × fm_M)) (l2 : Int32) (l3 : Int32) (l4 : Int32) (μ : fm_M) : Option (Int32 × fm_M) := (if (μ.1 w 11) ≤ l4 then some ((-4), μ) else (if ab_in l4 4 = true then (if ¬ (μ.2.1 ((w + 7)) l4.toNatClampNeg) = l2 then gg 3 l2 l3 (l4 + 1) μ else (if ab_in l4 4 = true then (if ¬ (μ.2.1 ((w + 8)) l4.toNatClampNeg) = l3 then gg 3 l2 l3 (l4 + 1) μ else (if fm_inA a l4 = true then (if (μ.2.1 a l4.toNatClampNeg) = 0 then gg 3 l2 l3 (l4 + 1) μ else some (l4, μ)) else none)) else none)) else none))
def g_X7_firstOwed (F : Nat) (w : Nat) (a : Nat) : Nat → Nat → Int32 → Int32 → Int32 → fm_M → Option (Int32 × fm_M)
  | 0, _, _, _, _, _ => none
  | n + 1, pc, l2, l3, l4, μ => if pc = 3 then b_X7_firstOwed_3 F w a (g_X7_firstOwed F w a n) l2 l3 l4 μ else none
set_option maxRecDepth 20000 in
theorem t_X7_firstOwed_g {X : Nat × (Nat → Int32)} {G : Nat → Nat → Option Nat} (hG : fm_Gok G) {F : Nat}  {w : Nat} {a : Nat} (hw : fm_isW w = true) : ∀ n : Nat, (∀ (l2 : Int32) (l3 : Int32) (l4 : Int32) (μ : fm_M) (r : Int32 × fm_M), g_X7_firstOwed F w a n 3 l2 l3 l4 μ = some r → ab_U 0 (some .int) kX7_firstOwed (3, [some (.ref w), some (.ref a), some (.int l2), some (.int l3), some (.int l4)], [], hp X G μ) (fun r9 h9 => r9 = some (.int r.1) ∧ h9 = hp X G r.2))
  | 0 => by
    intros
    rename_i h
    cases h
  | n + 1 => by
    have ih := t_X7_firstOwed_g (X := X) hG (F := F) (a := a) hw n
    · intro l2 l3 l4 μ r hf
      have hf : b_X7_firstOwed_3 F w a (g_X7_firstOwed F w a n) l2 l3 l4 μ = some r := hf
      unfold b_X7_firstOwed_3 at hf
      refine ab_U.run 2 (S' := (6, [some (.ref w), some (.ref a), some (.int l2), some (.int l3), some (.int l4)], [.ref w, .int l4], hp X G μ)) rfl ?_
      refine ab_U.gfI (ci := 7) (k9 := 11) rfl (fm_WO hw) ⟨rfl, rfl, by decide, rfl⟩ ?_
      show ab_U _ _ _ (9, [some (.ref w), some (.ref a), some (.int l2), some (.int l3), some (.int l4)], [.int (μ.1 w 11), .int l4], hp X G μ) _
      refine ab_U.ic_ge rfl (fun b1 => ?_) (fun b1 => ?_)
      · rw [if_pos b1] at hf
        refine ab_U.run 1 (S' := (52, [some (.ref w), some (.ref a), some (.int l2), some (.int l3), some (.int l4)], [.int (-4)], hp X G μ)) rfl ?_
        obtain rfl := Option.some.inj hf
        exact ab_U.ret rfl rfl ⟨rfl, rfl⟩
      · rw [if_neg b1] at hf
        refine ab_U.run 1 (S' := (13, [some (.ref w), some (.ref a), some (.int l2), some (.int l3), some (.int l4)], [.ref w], hp X G μ)) rfl ?_
        refine ab_U.gfW (k9 := 12) rfl hw ⟨rfl, rfl, by decide, rfl⟩ ?_
        show ab_U _ _ _ (16, [some (.ref w), some (.ref a), some (.int l2), some (.int l3), some (.int l4)], [.ref (w + 7)], hp X G μ) _
        refine ab_U.run 1 (S' := (18, [some (.ref w), some (.ref a), some (.int l2), some (.int l3), some (.int l4)], [.int l4, .ref (w + 7)], hp X G μ)) rfl ?_
        obtain ⟨c2, hf⟩ := ab_ifs hf
        refine ab_U.iald (n := 4) rfl (fm_WA hw).2.2.2.2.2.2.1 c2 ?_
        show ab_U _ _ _ (19, [some (.ref w), some (.ref a), some (.int l2), some (.int l3), some (.int l4)], [.int (μ.2.1 ((w + 7)) l4.toNatClampNeg)], hp X G μ) _
        refine ab_U.run 1 (S' := (20, [some (.ref w), some (.ref a), some (.int l2), some (.int l3), some (.int l4)], [.int l2, .int (μ.2.1 ((w + 7)) l4.toNatClampNeg)], hp X G μ)) rfl ?_
        refine ab_U.ic_ne rfl (fun b3 => ?_) (fun b3 => ?_)
        · rw [if_pos b3] at hf
          refine ab_U.run 2 (S' := (3, [some (.ref w), some (.ref a), some (.int l2), some (.int l3), some (.int (l4 + 1))], [], hp X G μ)) rfl ?_
          exact ab_U.weak (ih _ _ _ _ _ hf) (ab_leL.of ⟨rfl, ⟨rfl, ⟨rfl, ⟨rfl, ⟨rfl, trivial⟩⟩⟩⟩⟩)
        · rw [if_neg b3] at hf
          refine ab_U.run 1 (S' := (24, [some (.ref w), some (.ref a), some (.int l2), some (.int l3), some (.int l4)], [.ref w], hp X G μ)) rfl ?_
          refine ab_U.gfW (k9 := 13) rfl hw ⟨rfl, rfl, by decide, rfl⟩ ?_
          show ab_U _ _ _ (27, [some (.ref w), some (.ref a), some (.int l2), some (.int l3), some (.int l4)], [.ref (w + 8)], hp X G μ) _
          refine ab_U.run 1 (S' := (29, [some (.ref w), some (.ref a), some (.int l2), some (.int l3), some (.int l4)], [.int l4, .ref (w + 8)], hp X G μ)) rfl ?_
          obtain ⟨c4, hf⟩ := ab_ifs hf
          refine ab_U.iald (n := 4) rfl (fm_WA hw).2.2.2.2.2.2.2.1 c4 ?_
          show ab_U _ _ _ (30, [some (.ref w), some (.ref a), some (.int l2), some (.int l3), some (.int l4)], [.int (μ.2.1 ((w + 8)) l4.toNatClampNeg)], hp X G μ) _
          refine ab_U.run 1 (S' := (31, [some (.ref w), some (.ref a), some (.int l2), some (.int l3), some (.int l4)], [.int l3, .int (μ.2.1 ((w + 8)) l4.toNatClampNeg)], hp X G μ)) rfl ?_
          refine ab_U.ic_ne rfl (fun b5 => ?_) (fun b5 => ?_)
          · rw [if_pos b5] at hf
            refine ab_U.run 2 (S' := (3, [some (.ref w), some (.ref a), some (.int l2), some (.int l3), some (.int (l4 + 1))], [], hp X G μ)) rfl ?_
            exact ab_U.weak (ih _ _ _ _ _ hf) (ab_leL.of ⟨rfl, ⟨rfl, ⟨rfl, ⟨rfl, ⟨rfl, trivial⟩⟩⟩⟩⟩)
          · rw [if_neg b5] at hf
            refine ab_U.run 2 (S' := (37, [some (.ref w), some (.ref a), some (.int l2), some (.int l3), some (.int l4)], [.int l4, .ref a], hp X G μ)) rfl ?_
            obtain ⟨c6, hf⟩ := ab_ifs hf
            refine ab_U.ialdA rfl c6 ?_
            show ab_U _ _ _ (38, [some (.ref w), some (.ref a), some (.int l2), some (.int l3), some (.int l4)], [.int (μ.2.1 a l4.toNatClampNeg)], hp X G μ) _
            refine ab_U.if_eq rfl (fun b7 => ?_) (fun b7 => ?_)
            · rw [if_pos b7] at hf
              refine ab_U.run 2 (S' := (3, [some (.ref w), some (.ref a), some (.int l2), some (.int l3), some (.int (l4 + 1))], [], hp X G μ)) rfl ?_
              exact ab_U.weak (ih _ _ _ _ _ hf) (ab_leL.of ⟨rfl, ⟨rfl, ⟨rfl, ⟨rfl, ⟨rfl, trivial⟩⟩⟩⟩⟩)
            · rw [if_neg b7] at hf
              refine ab_U.run 1 (S' := (43, [some (.ref w), some (.ref a), some (.int l2), some (.int l3), some (.int l4)], [.int l4], hp X G μ)) rfl ?_
              obtain rfl := Option.some.inj hf
              exact ab_U.ret rfl rfl ⟨rfl, rfl⟩
set_option maxRecDepth 20000 in
def f_X7_firstOwed (F : Nat) (w : Nat) (a : Nat) (x1 : Int32) (x2 : Int32) (μ : fm_M) : Option (Int32 × fm_M) := g_X7_firstOwed F w a F 3 x1 x2 0 μ
set_option maxRecDepth 20000 in
theorem t_X7_firstOwed {X : Nat × (Nat → Int32)} {G : Nat → Nat → Option Nat} (hG : fm_Gok G) {F : Nat} {w : Nat} {a : Nat} (hw : fm_isW w = true) {x1 : Int32} {x2 : Int32} {μ : fm_M} {r : Int32 × fm_M} (hf : f_X7_firstOwed F w a x1 x2 μ = some r) : ab_F 1 75 [.ref w, .ref a, .int x1, .int x2] (hp X G μ) (some (.int r.1)) (hp X G r.2) := by
  unfold f_X7_firstOwed at hf
  refine ab_T.of (d := 0) rfl (Nat.le_of_ble_eq_true rfl) ?_
  show ab_U _ _ kX7_firstOwed (0, [some (.ref w), some (.ref a), some (.int x1), some (.int x2), none], [], hp X G μ) _
  refine ab_U.run 2 (S' := (3, [some (.ref w), some (.ref a), some (.int x1), some (.int x2), some (.int 0)], [], hp X G μ)) rfl ?_
  exact ab_U.weak ((t_X7_firstOwed_g (X := X) hG (a := a) hw F) _ _ _ _ _ hf) (ab_leL.of ⟨rfl, ⟨rfl, ⟨rfl, ⟨rfl, ⟨rfl, trivial⟩⟩⟩⟩⟩)
set_option maxRecDepth 20000 in
def f_X8_isWarm (F : Nat)  (x0 : Int32) (μ : fm_M) : Option (Int32 × fm_M) := (if x0 < 5 then some (0, μ) else some (1, μ))
set_option maxRecDepth 20000 in
theorem t_X8_isWarm {X : Nat × (Nat → Int32)} {G : Nat → Nat → Option Nat} (hG : fm_Gok G) {F : Nat}   {x0 : Int32} {μ : fm_M} {r : Int32 × fm_M} (hf : f_X8_isWarm F x0 μ = some r) : ab_F 1 124 [.int x0] (hp X G μ) (some (.int r.1)) (hp X G r.2) := by
  unfold f_X8_isWarm at hf
  refine ab_T.of (d := 0) rfl (Nat.le_of_ble_eq_true rfl) ?_
  show ab_U _ _ kX8_isWarm (0, [some (.int x0)], [], hp X G μ) _
  refine ab_U.run 2 (S' := (2, [some (.int x0)], [.int 5, .int x0], hp X G μ)) rfl ?_
  refine ab_U.ic_lt rfl (fun b1 => ?_) (fun b1 => ?_)
  · rw [if_pos b1] at hf
    refine ab_U.run 1 (S' := (10, [some (.int x0)], [.int 0], hp X G μ)) rfl ?_
    obtain rfl := Option.some.inj hf
    exact ab_U.ret rfl rfl ⟨rfl, rfl⟩
  · rw [if_neg b1] at hf
    refine ab_U.run 2 (S' := (10, [some (.int x0)], [.int 1], hp X G μ)) rfl ?_
    obtain rfl := Option.some.inj hf
    exact ab_U.ret rfl rfl ⟨rfl, rfl⟩
set_option maxRecDepth 20000 in
def f_X7_lessened (F : Nat)  (x0 : Int32) (x1 : Int32) (μ : fm_M) : Option (Int32 × fm_M) := (Option.bind (f_X8_isWarm F x1 μ) (fun q1 => (if q1.1 = 0 then some (x0, q1.2) else (Option.bind (f_J9_max_7cf53 F 0 (x0 - x1) q1.2) (fun q4 => some (q4.1, q4.2))))))
set_option maxRecDepth 20000 in
theorem t_X7_lessened {X : Nat × (Nat → Int32)} {G : Nat → Nat → Option Nat} (hG : fm_Gok G) {F : Nat}   {x0 : Int32} {x1 : Int32} {μ : fm_M} {r : Int32 × fm_M} (hf : f_X7_lessened F x0 x1 μ = some r) : ab_F 2 76 [.int x0, .int x1] (hp X G μ) (some (.int r.1)) (hp X G r.2) := by
  unfold f_X7_lessened at hf
  refine ab_T.of (d := 1) rfl (Nat.le_of_ble_eq_true rfl) ?_
  show ab_U _ _ kX7_lessened (0, [some (.int x0), some (.int x1)], [], hp X G μ) _
  refine ab_U.run 1 (S' := (1, [some (.int x0), some (.int x1)], [.int x1], hp X G μ)) rfl ?_
  obtain ⟨q1, h2, hf⟩ := ab_bnd hf
  refine ab_U.fn rfl rfl (t_X8_isWarm (X := X) hG h2) (by omega) ?_
  show ab_U _ _ _ (4, [some (.int x0), some (.int x1)], [.int q1.1], hp X G q1.2) _
  refine ab_U.if_eq rfl (fun b3 => ?_) (fun b3 => ?_)
  · rw [if_pos b3] at hf
    refine ab_U.run 1 (S' := (18, [some (.int x0), some (.int x1)], [.int x0], hp X G q1.2)) rfl ?_
    obtain rfl := Option.some.inj hf
    exact ab_U.ret rfl rfl ⟨rfl, rfl⟩
  · rw [if_neg b3] at hf
    refine ab_U.run 4 (S' := (11, [some (.int x0), some (.int x1)], [.int (x0 - x1), .int 0], hp X G q1.2)) rfl ?_
    obtain ⟨q4, h5, hf⟩ := ab_bnd hf
    refine ab_U.fn rfl rfl (t_J9_max_7cf53 (X := X) hG h5) (by omega) ?_
    show ab_U _ _ _ (14, [some (.int x0), some (.int x1)], [.int q4.1], hp X G q4.2) _
    refine ab_U.run 1 (S' := (18, [some (.int x0), some (.int x1)], [.int q4.1], hp X G q4.2)) rfl ?_
    obtain rfl := Option.some.inj hf
    exact ab_U.ret rfl rfl ⟨rfl, rfl⟩
set_option maxRecDepth 20000 in
def f_X0_lessen (F : Nat) (w : Nat) (x1 : Int32) (x2 : Int32) (μ : fm_M) : Option (Unit × fm_M) := (if ab_in (x1 + 1) 6 = true then (if ab_in x1 6 = true then (if fm_isR ((141 + x1.toNatClampNeg)) 4 = true then (if fm_isR ((141 + (x1 + 1).toNatClampNeg)) 4 = true then (Option.bind (some (fm_sA μ ((141 + (x1 + 1).toNatClampNeg)) (va_cpy (μ.2.1 ((141 + x1.toNatClampNeg))) (μ.2.1 ((141 + (x1 + 1).toNatClampNeg))) (0 : Int32).toNatClampNeg (0 : Int32).toNatClampNeg (4 : Int32).toNatClampNeg))) (fun m5 => (if ab_in (m5.1 132 4) 4 = true then (if ab_in (m5.1 132 4) 4 = true then (Option.bind (f_X7_firstOwed F w ((141 + (x1 + 1).toNatClampNeg)) (m5.2.1 ((w + 7)) (m5.1 132 4).toNatClampNeg) (m5.2.1 ((w + 8)) (m5.1 132 4).toNatClampNeg) m5) (fun q9 => (if q9.1 < 0 then some ((), q9.2) else (if fm_inA ((141 + (x1 + 1).toNatClampNeg)) q9.1 = true then (Option.bind (f_X7_lessened F (q9.2.2.1 ((141 + (x1 + 1).toNatClampNeg)) q9.1.toNatClampNeg) x2 q9.2) (fun q13 => (if fm_inA ((141 + (x1 + 1).toNatClampNeg)) q9.1 = true then (Option.bind (some (fm_sA q13.2 ((141 + (x1 + 1).toNatClampNeg)) (upd (q13.2.2.1 ((141 + (x1 + 1).toNatClampNeg))) q9.1.toNatClampNeg q13.1))) (fun m16 => some ((), m16))) else none))) else none)))) else none) else none))) else none) else none) else none) else none)
set_option maxRecDepth 20000 in
theorem t_X0_lessen {X : Nat × (Nat → Int32)} {G : Nat → Nat → Option Nat} (hG : fm_Gok G) {F : Nat} {w : Nat} (hw : fm_isW w = true) {x1 : Int32} {x2 : Int32} {μ : fm_M} {r : Unit × fm_M} (hf : f_X0_lessen F w x1 x2 μ = some r) : ab_F 3 4 [.ref 132, .ref w, .int x1, .int x2] (hp X G μ) none (hp X G r.2) := by
  unfold f_X0_lessen at hf
  refine ab_T.of (d := 2) rfl (Nat.le_of_ble_eq_true rfl) ?_
  show ab_U _ _ kX0_lessen (0, [some (.ref 132), some (.ref w), some (.int x1), some (.int x2), none, none], [], hp X G μ) _
  refine ab_U.run 5 (S' := (7, [some (.ref 132), some (.ref w), some (.int x1), some (.int x2), none, none], [.int (x1 + 1), .ref 140], hp X G μ)) rfl ?_
  obtain ⟨c1, hf⟩ := ab_ifs hf
  refine ab_U.aaldG (n := 6) (ty := .array .int) (v := (141 + (x1 + 1).toNatClampNeg)) hG rfl ⟨by decide, rfl⟩ rfl c1 rfl rfl ?_
  refine ab_U.run 4 (S' := (15, [some (.ref 132), some (.ref w), some (.int x1), some (.int x2), some (.ref (141 + (x1 + 1).toNatClampNeg)), none], [.int x1, .ref 140], hp X G μ)) rfl ?_
  obtain ⟨c2, hf⟩ := ab_ifs hf
  refine ab_U.aaldG (n := 6) (ty := .array .int) (v := (141 + x1.toNatClampNeg)) hG rfl ⟨by decide, rfl⟩ rfl c2 rfl rfl ?_
  refine ab_U.run 4 (S' := (21, [some (.ref 132), some (.ref w), some (.int x1), some (.int x2), some (.ref (141 + (x1 + 1).toNatClampNeg)), none], [.int 4, .int 0, .ref (141 + (x1 + 1).toNatClampNeg), .int 0, .ref (141 + x1.toNatClampNeg)], hp X G μ)) rfl ?_
  obtain ⟨c3, hf⟩ := ab_ifs hf
  obtain ⟨c4, hf⟩ := ab_ifs hf
  obtain ⟨m5, e6, hf⟩ := ab_bnd hf
  have e6 := Option.some.inj e6
  refine ab_U.acp (n0 := 4) (n := 4) rfl (fm_isR_of c3) (fm_isR_of c4) ⟨⟨by decide, by decide, by decide⟩, by decide, by decide, Nat.le_of_ble_eq_true rfl⟩ ?_
  show ab_U _ _ _ (24, [some (.ref 132), some (.ref w), some (.int x1), some (.int x2), some (.ref (141 + (x1 + 1).toNatClampNeg)), none], [], hp X G (fm_sA μ ((141 + (x1 + 1).toNatClampNeg)) (va_cpy (μ.2.1 ((141 + x1.toNatClampNeg))) (μ.2.1 ((141 + (x1 + 1).toNatClampNeg))) (0 : Int32).toNatClampNeg (0 : Int32).toNatClampNeg (4 : Int32).toNatClampNeg))) _
  rw [e6]
  refine ab_U.run 3 (S' := (28, [some (.ref 132), some (.ref w), some (.int x1), some (.int x2), some (.ref (141 + (x1 + 1).toNatClampNeg)), none], [.ref w, .ref (141 + (x1 + 1).toNatClampNeg), .ref w], hp X G m5)) rfl ?_
  refine ab_U.gfW (k9 := 12) rfl hw ⟨rfl, rfl, by decide, rfl⟩ ?_
  show ab_U _ _ _ (31, [some (.ref 132), some (.ref w), some (.int x1), some (.int x2), some (.ref (141 + (x1 + 1).toNatClampNeg)), none], [.ref (w + 7), .ref (141 + (x1 + 1).toNatClampNeg), .ref w], hp X G m5) _
  refine ab_U.run 2 (S' := (35, [some (.ref 132), some (.ref w), some (.int x1), some (.int x2), some (.ref (141 + (x1 + 1).toNatClampNeg)), none], [.int (m5.1 132 4), .ref (w + 7), .ref (141 + (x1 + 1).toNatClampNeg), .ref w], hp X G m5)) rfl ?_
  obtain ⟨c7, hf⟩ := ab_ifs hf
  refine ab_U.iald (n := 4) rfl (fm_WA hw).2.2.2.2.2.2.1 c7 ?_
  show ab_U _ _ _ (36, [some (.ref 132), some (.ref w), some (.int x1), some (.int x2), some (.ref (141 + (x1 + 1).toNatClampNeg)), none], [.int (m5.2.1 ((w + 7)) (m5.1 132 4).toNatClampNeg), .ref (141 + (x1 + 1).toNatClampNeg), .ref w], hp X G m5) _
  refine ab_U.run 1 (S' := (37, [some (.ref 132), some (.ref w), some (.int x1), some (.int x2), some (.ref (141 + (x1 + 1).toNatClampNeg)), none], [.ref w, .int (m5.2.1 ((w + 7)) (m5.1 132 4).toNatClampNeg), .ref (141 + (x1 + 1).toNatClampNeg), .ref w], hp X G m5)) rfl ?_
  refine ab_U.gfW (k9 := 13) rfl hw ⟨rfl, rfl, by decide, rfl⟩ ?_
  show ab_U _ _ _ (40, [some (.ref 132), some (.ref w), some (.int x1), some (.int x2), some (.ref (141 + (x1 + 1).toNatClampNeg)), none], [.ref (w + 8), .int (m5.2.1 ((w + 7)) (m5.1 132 4).toNatClampNeg), .ref (141 + (x1 + 1).toNatClampNeg), .ref w], hp X G m5) _
  refine ab_U.run 2 (S' := (44, [some (.ref 132), some (.ref w), some (.int x1), some (.int x2), some (.ref (141 + (x1 + 1).toNatClampNeg)), none], [.int (m5.1 132 4), .ref (w + 8), .int (m5.2.1 ((w + 7)) (m5.1 132 4).toNatClampNeg), .ref (141 + (x1 + 1).toNatClampNeg), .ref w], hp X G m5)) rfl ?_
  obtain ⟨c8, hf⟩ := ab_ifs hf
  refine ab_U.iald (n := 4) rfl (fm_WA hw).2.2.2.2.2.2.2.1 c8 ?_
  show ab_U _ _ _ (45, [some (.ref 132), some (.ref w), some (.int x1), some (.int x2), some (.ref (141 + (x1 + 1).toNatClampNeg)), none], [.int (m5.2.1 ((w + 8)) (m5.1 132 4).toNatClampNeg), .int (m5.2.1 ((w + 7)) (m5.1 132 4).toNatClampNeg), .ref (141 + (x1 + 1).toNatClampNeg), .ref w], hp X G m5) _
  obtain ⟨q9, h10, hf⟩ := ab_bnd hf
  refine ab_U.fnV rfl rfl (fm_WO hw) rfl (t_X7_firstOwed (X := X) hG hw h10) (by omega) ?_
  show ab_U _ _ _ (48, [some (.ref 132), some (.ref w), some (.int x1), some (.int x2), some (.ref (141 + (x1 + 1).toNatClampNeg)), none], [.int q9.1], hp X G q9.2) _
  refine ab_U.run 2 (S' := (52, [some (.ref 132), some (.ref w), some (.int x1), some (.int x2), some (.ref (141 + (x1 + 1).toNatClampNeg)), some (.int q9.1)], [.int q9.1], hp X G q9.2)) rfl ?_
  refine ab_U.if_lt rfl (fun b11 => ?_) (fun b11 => ?_)
  · rw [if_pos b11] at hf
    obtain rfl := Option.some.inj hf
    exact ab_U.ret rfl rfl ⟨rfl, rfl⟩
  · rw [if_neg b11] at hf
    refine ab_U.run 4 (S' := (63, [some (.ref 132), some (.ref w), some (.int x1), some (.int x2), some (.ref (141 + (x1 + 1).toNatClampNeg)), some (.int q9.1)], [.int q9.1, .ref (141 + (x1 + 1).toNatClampNeg), .int q9.1, .ref (141 + (x1 + 1).toNatClampNeg)], hp X G q9.2)) rfl ?_
    obtain ⟨c12, hf⟩ := ab_ifs hf
    refine ab_U.ialdA rfl c12 ?_
    show ab_U _ _ _ (64, [some (.ref 132), some (.ref w), some (.int x1), some (.int x2), some (.ref (141 + (x1 + 1).toNatClampNeg)), some (.int q9.1)], [.int (q9.2.2.1 ((141 + (x1 + 1).toNatClampNeg)) q9.1.toNatClampNeg), .int q9.1, .ref (141 + (x1 + 1).toNatClampNeg)], hp X G q9.2) _
    refine ab_U.run 1 (S' := (65, [some (.ref 132), some (.ref w), some (.int x1), some (.int x2), some (.ref (141 + (x1 + 1).toNatClampNeg)), some (.int q9.1)], [.int x2, .int (q9.2.2.1 ((141 + (x1 + 1).toNatClampNeg)) q9.1.toNatClampNeg), .int q9.1, .ref (141 + (x1 + 1).toNatClampNeg)], hp X G q9.2)) rfl ?_
    obtain ⟨q13, h14, hf⟩ := ab_bnd hf
    refine ab_U.fn rfl rfl (t_X7_lessened (X := X) hG h14) (by omega) ?_
    show ab_U _ _ _ (68, [some (.ref 132), some (.ref w), some (.int x1), some (.int x2), some (.ref (141 + (x1 + 1).toNatClampNeg)), some (.int q9.1)], [.int q13.1, .int q9.1, .ref (141 + (x1 + 1).toNatClampNeg)], hp X G q13.2) _
    obtain ⟨c15, hf⟩ := ab_ifs hf
    obtain ⟨m16, e17, hf⟩ := ab_bnd hf
    have e17 := Option.some.inj e17
    refine ab_U.iastA rfl c15 ?_
    show ab_U _ _ _ (69, [some (.ref 132), some (.ref w), some (.int x1), some (.int x2), some (.ref (141 + (x1 + 1).toNatClampNeg)), some (.int q9.1)], [], hp X G (fm_sA q13.2 ((141 + (x1 + 1).toNatClampNeg)) (upd (q13.2.2.1 ((141 + (x1 + 1).toNatClampNeg))) q9.1.toNatClampNeg q13.1))) _
    rw [e17]
    obtain rfl := Option.some.inj hf
    exact ab_U.ret rfl rfl ⟨rfl, rfl⟩
set_option maxRecDepth 20000 in
def b_X0_choose_33 (F : Nat) (rec : Nat → Int32 → Int32 → Int32 → fm_M → Option (Int32 × fm_M)) (w : Nat) (gg : Nat → Int32 → Int32 → Int32 → Int32 → fm_M → Option (Int32 × fm_M)) (l2 : Int32) (l3 : Int32) (l4 : Int32) (l5 : Int32) (μ : fm_M) : Option (Int32 × fm_M) := (if (μ.1 w 3) ≤ l5 then some (0, μ) else (if ((l4 >>> (l5 &&& 31)) &&& 1) = 0 then gg 33 l2 l3 l4 (l5 + 1) μ else (if ab_in l2 5 = true then (Option.bind (some (fm_sA μ 133 (upd (μ.2.1 133) l2.toNatClampNeg l5))) (fun m4 => (if ab_in l5 5 = true then (if fm_inA ((135 + l5.toNatClampNeg)) l2 = true then (Option.bind (f_X0_lessen F w l2 (m4.2.1 ((135 + l5.toNatClampNeg)) l2.toNatClampNeg) m4) (fun q8 => (Option.bind (rec w (l2 + 1) l3 (l4 &&& ((1 <<< (l5 &&& 31)) ^^^ (-1))) q8.2) (fun q10 => (if q10.1 = 0 then gg 33 l2 l3 l4 (l5 + 1) q10.2 else some (1, q10.2)))))) else none) else none))) else none)))
def g_X0_choose (F : Nat) (rec : Nat → Int32 → Int32 → Int32 → fm_M → Option (Int32 × fm_M)) (w : Nat) : Nat → Nat → Int32 → Int32 → Int32 → Int32 → fm_M → Option (Int32 × fm_M)
  | 0, _, _, _, _, _, _ => none
  | n + 1, pc, l2, l3, l4, l5, μ => if pc = 33 then b_X0_choose_33 F rec w (g_X0_choose F rec w n) l2 l3 l4 l5 μ else none
set_option maxRecDepth 20000 in
theorem t_X0_choose_g {X : Nat × (Nat → Int32)} {G : Nat → Nat → Option Nat} (hG : fm_Gok G) {F : Nat} {rec : Nat → Int32 → Int32 → Int32 → fm_M → Option (Int32 × fm_M)} {dr : Nat} (hrec : ∀ {w : Nat} {x1 : Int32} {x2 : Int32} {x3 : Int32} {μ : fm_M} {r : Int32 × fm_M}, fm_isW w = true → rec w x1 x2 x3 μ = some r → ab_F dr 3 [.ref 132, .ref w, .int x1, .int x2, .int x3] (hp X G μ) (some (.int r.1)) (hp X G r.2)) {w : Nat} (hw : fm_isW w = true) : ∀ n : Nat, (∀ (l2 : Int32) (l3 : Int32) (l4 : Int32) (l5 : Int32) (μ : fm_M) (r : Int32 × fm_M), g_X0_choose F rec w n 33 l2 l3 l4 l5 μ = some r → ab_U (dr + 4) (some .boolean) kX0_choose (33, [some (.ref 132), some (.ref w), some (.int l2), some (.int l3), some (.int l4), some (.int l5)], [], hp X G μ) (fun r9 h9 => r9 = some (.int r.1) ∧ h9 = hp X G r.2))
  | 0 => by
    intros
    rename_i h
    cases h
  | n + 1 => by
    have ih := t_X0_choose_g (X := X) hG (F := F)  hrec hw n
    · intro l2 l3 l4 l5 μ r hf
      have hf : b_X0_choose_33 F rec w (g_X0_choose F rec w n) l2 l3 l4 l5 μ = some r := hf
      unfold b_X0_choose_33 at hf
      refine ab_U.run 2 (S' := (36, [some (.ref 132), some (.ref w), some (.int l2), some (.int l3), some (.int l4), some (.int l5)], [.ref w, .int l5], hp X G μ)) rfl ?_
      refine ab_U.gfI (ci := 7) (k9 := 3) rfl (fm_WO hw) ⟨rfl, rfl, by decide, rfl⟩ ?_
      show ab_U _ _ _ (39, [some (.ref 132), some (.ref w), some (.int l2), some (.int l3), some (.int l4), some (.int l5)], [.int (μ.1 w 3), .int l5], hp X G μ) _
      refine ab_U.ic_ge rfl (fun b1 => ?_) (fun b1 => ?_)
      · rw [if_pos b1] at hf
        refine ab_U.run 1 (S' := (105, [some (.ref 132), some (.ref w), some (.int l2), some (.int l3), some (.int l4), some (.int l5)], [.int 0], hp X G μ)) rfl ?_
        obtain rfl := Option.some.inj hf
        exact ab_U.ret rfl rfl ⟨rfl, rfl⟩
      · rw [if_neg b1] at hf
        refine ab_U.run 5 (S' := (49, [some (.ref 132), some (.ref w), some (.int l2), some (.int l3), some (.int l4), some (.int l5)], [.int ((l4 >>> (l5 &&& 31)) &&& 1)], hp X G μ)) rfl ?_
        refine ab_U.if_eq rfl (fun b2 => ?_) (fun b2 => ?_)
        · rw [if_pos b2] at hf
          refine ab_U.run 2 (S' := (33, [some (.ref 132), some (.ref w), some (.int l2), some (.int l3), some (.int l4), some (.int (l5 + 1))], [], hp X G μ)) rfl ?_
          exact ab_U.weak (ih _ _ _ _ _ _ hf) (ab_leL.of ⟨rfl, ⟨rfl, ⟨rfl, ⟨rfl, ⟨rfl, ⟨rfl, trivial⟩⟩⟩⟩⟩⟩)
        · rw [if_neg b2] at hf
          refine ab_U.run 4 (S' := (59, [some (.ref 132), some (.ref w), some (.int l2), some (.int l3), some (.int l4), some (.int l5)], [.int l5, .int l2, .ref 133], hp X G μ)) rfl ?_
          obtain ⟨c3, hf⟩ := ab_ifs hf
          obtain ⟨m4, e5, hf⟩ := ab_bnd hf
          have e5 := Option.some.inj e5
          refine ab_U.iast (n := 5) rfl ⟨by decide, rfl⟩ c3 ?_
          show ab_U _ _ _ (60, [some (.ref 132), some (.ref w), some (.int l2), some (.int l3), some (.int l4), some (.int l5)], [], hp X G (fm_sA μ 133 (upd (μ.2.1 133) l2.toNatClampNeg l5))) _
          rw [e5]
          refine ab_U.run 6 (S' := (69, [some (.ref 132), some (.ref w), some (.int l2), some (.int l3), some (.int l4), some (.int l5)], [.int l5, .ref 134, .int l2, .ref w, .ref 132], hp X G m4)) rfl ?_
          obtain ⟨c6, hf⟩ := ab_ifs hf
          refine ab_U.aaldG (n := 5) (ty := .array .int) (v := (135 + l5.toNatClampNeg)) hG rfl ⟨by decide, rfl⟩ rfl c6 rfl rfl ?_
          refine ab_U.run 1 (S' := (71, [some (.ref 132), some (.ref w), some (.int l2), some (.int l3), some (.int l4), some (.int l5)], [.int l2, .ref (135 + l5.toNatClampNeg), .int l2, .ref w, .ref 132], hp X G m4)) rfl ?_
          obtain ⟨c7, hf⟩ := ab_ifs hf
          refine ab_U.ialdA rfl c7 ?_
          show ab_U _ _ _ (72, [some (.ref 132), some (.ref w), some (.int l2), some (.int l3), some (.int l4), some (.int l5)], [.int (m4.2.1 ((135 + l5.toNatClampNeg)) l2.toNatClampNeg), .int l2, .ref w, .ref 132], hp X G m4) _
          obtain ⟨q8, h9, hf⟩ := ab_bnd hf
          refine ab_U.fn rfl rfl (t_X0_lessen (X := X) hG hw h9) (by omega) ?_
          show ab_U _ _ _ (75, [some (.ref 132), some (.ref w), some (.int l2), some (.int l3), some (.int l4), some (.int l5)], [], hp X G q8.2) _
          refine ab_U.run 12 (S' := (89, [some (.ref 132), some (.ref w), some (.int l2), some (.int l3), some (.int l4), some (.int l5)], [.int ((1 <<< (l5 &&& 31)) ^^^ (-1)), .int l4, .int l3, .int (l2 + 1), .ref w, .ref 132], hp X G q8.2)) rfl ?_
          refine ab_U.run 1 (S' := (90, [some (.ref 132), some (.ref w), some (.int l2), some (.int l3), some (.int l4), some (.int l5)], [.int (l4 &&& ((1 <<< (l5 &&& 31)) ^^^ (-1))), .int l3, .int (l2 + 1), .ref w, .ref 132], hp X G q8.2)) rfl ?_
          obtain ⟨q10, h11, hf⟩ := ab_bnd hf
          refine ab_U.fn rfl rfl (hrec hw h11) (by omega) ?_
          show ab_U _ _ _ (93, [some (.ref 132), some (.ref w), some (.int l2), some (.int l3), some (.int l4), some (.int l5)], [.int q10.1], hp X G q10.2) _
          refine ab_U.if_eq rfl (fun b12 => ?_) (fun b12 => ?_)
          · rw [if_pos b12] at hf
            refine ab_U.run 2 (S' := (33, [some (.ref 132), some (.ref w), some (.int l2), some (.int l3), some (.int l4), some (.int (l5 + 1))], [], hp X G q10.2)) rfl ?_
            exact ab_U.weak (ih _ _ _ _ _ _ hf) (ab_leL.of ⟨rfl, ⟨rfl, ⟨rfl, ⟨rfl, ⟨rfl, ⟨rfl, trivial⟩⟩⟩⟩⟩⟩)
          · rw [if_neg b12] at hf
            refine ab_U.run 1 (S' := (97, [some (.ref 132), some (.ref w), some (.int l2), some (.int l3), some (.int l4), some (.int l5)], [.int 1], hp X G q10.2)) rfl ?_
            obtain rfl := Option.some.inj hf
            exact ab_U.ret rfl rfl ⟨rfl, rfl⟩
set_option maxRecDepth 20000 in
def f0_X0_choose (F : Nat) (rec : Nat → Int32 → Int32 → Int32 → fm_M → Option (Int32 × fm_M)) (w : Nat) (x1 : Int32) (x2 : Int32) (x3 : Int32) (μ : fm_M) : Option (Int32 × fm_M) := (if x2 ≤ x1 then (if ab_in x1 6 = true then (if fm_inA ((141 + x1.toNatClampNeg)) (μ.1 132 4) = true then (if ¬ (μ.2.1 ((141 + x1.toNatClampNeg)) (μ.1 132 4).toNatClampNeg) = 0 then some (0, μ) else some (1, μ)) else none) else none) else (if x1 < 5 then g_X0_choose F rec w F 33 x1 x2 x3 0 μ else (if ab_in x1 6 = true then (if fm_inA ((141 + x1.toNatClampNeg)) (μ.1 132 4) = true then (if ¬ (μ.2.1 ((141 + x1.toNatClampNeg)) (μ.1 132 4).toNatClampNeg) = 0 then some (0, μ) else some (1, μ)) else none) else none)))
def f_X0_choose (F : Nat) : Nat → Nat → Int32 → Int32 → Int32 → fm_M → Option (Int32 × fm_M)
  | 0, _, _, _, _, _ => none
  | e + 1, w, x1, x2, x3, μ => f0_X0_choose F (f_X0_choose F e) w x1 x2 x3 μ
set_option maxRecDepth 20000 in
theorem t0_X0_choose {X : Nat × (Nat → Int32)} {G : Nat → Nat → Option Nat} (hG : fm_Gok G) {F dr : Nat} {rec : Nat → Int32 → Int32 → Int32 → fm_M → Option (Int32 × fm_M)} (hrec : ∀ {w : Nat} {x1 : Int32} {x2 : Int32} {x3 : Int32} {μ : fm_M} {r : Int32 × fm_M}, fm_isW w = true → rec w x1 x2 x3 μ = some r → ab_F dr 3 [.ref 132, .ref w, .int x1, .int x2, .int x3] (hp X G μ) (some (.int r.1)) (hp X G r.2)) {w : Nat} (hw : fm_isW w = true) {x1 : Int32} {x2 : Int32} {x3 : Int32} {μ : fm_M} {r : Int32 × fm_M} (hf : f0_X0_choose F rec w x1 x2 x3 μ = some r) : ab_F (dr + 5) 3 [.ref 132, .ref w, .int x1, .int x2, .int x3] (hp X G μ) (some (.int r.1)) (hp X G r.2) := by
  unfold f0_X0_choose at hf
  refine ab_T.of (d := dr + 4) rfl (Nat.le_of_ble_eq_true rfl) ?_
  show ab_U _ _ kX0_choose (0, [some (.ref 132), some (.ref w), some (.int x1), some (.int x2), some (.int x3), none], [], hp X G μ) _
  refine ab_U.run 2 (S' := (2, [some (.ref 132), some (.ref w), some (.int x1), some (.int x2), some (.int x3), none], [.int x2, .int x1], hp X G μ)) rfl ?_
  refine ab_U.ic_ge rfl (fun b13 => ?_) (fun b13 => ?_)
  · rw [if_pos b13] at hf
    refine ab_U.run 3 (S' := (15, [some (.ref 132), some (.ref w), some (.int x1), some (.int x2), some (.int x3), none], [.int x1, .ref 140], hp X G μ)) rfl ?_
    obtain ⟨c14, hf⟩ := ab_ifs hf
    refine ab_U.aaldG (n := 6) (ty := .array .int) (v := (141 + x1.toNatClampNeg)) hG rfl ⟨by decide, rfl⟩ rfl c14 rfl rfl ?_
    refine ab_U.run 2 (S' := (20, [some (.ref 132), some (.ref w), some (.int x1), some (.int x2), some (.int x3), none], [.int (μ.1 132 4), .ref (141 + x1.toNatClampNeg)], hp X G μ)) rfl ?_
    obtain ⟨c15, hf⟩ := ab_ifs hf
    refine ab_U.ialdA rfl c15 ?_
    show ab_U _ _ _ (21, [some (.ref 132), some (.ref w), some (.int x1), some (.int x2), some (.int x3), none], [.int (μ.2.1 ((141 + x1.toNatClampNeg)) (μ.1 132 4).toNatClampNeg)], hp X G μ) _
    refine ab_U.if_ne rfl (fun b16 => ?_) (fun b16 => ?_)
    · rw [if_pos b16] at hf
      refine ab_U.run 1 (S' := (29, [some (.ref 132), some (.ref w), some (.int x1), some (.int x2), some (.int x3), none], [.int 0], hp X G μ)) rfl ?_
      obtain rfl := Option.some.inj hf
      exact ab_U.ret rfl rfl ⟨rfl, rfl⟩
    · rw [if_neg b16] at hf
      refine ab_U.run 2 (S' := (29, [some (.ref 132), some (.ref w), some (.int x1), some (.int x2), some (.int x3), none], [.int 1], hp X G μ)) rfl ?_
      obtain rfl := Option.some.inj hf
      exact ab_U.ret rfl rfl ⟨rfl, rfl⟩
  · rw [if_neg b13] at hf
    refine ab_U.run 2 (S' := (7, [some (.ref 132), some (.ref w), some (.int x1), some (.int x2), some (.int x3), none], [.int 5, .int x1], hp X G μ)) rfl ?_
    refine ab_U.ic_lt rfl (fun b17 => ?_) (fun b17 => ?_)
    · rw [if_pos b17] at hf
      refine ab_U.run 2 (S' := (33, [some (.ref 132), some (.ref w), some (.int x1), some (.int x2), some (.int x3), some (.int 0)], [], hp X G μ)) rfl ?_
      exact ab_U.weak ((t_X0_choose_g (X := X) hG  hrec hw F) _ _ _ _ _ _ hf) (ab_leL.of ⟨rfl, ⟨rfl, ⟨rfl, ⟨rfl, ⟨rfl, ⟨rfl, trivial⟩⟩⟩⟩⟩⟩)
    · rw [if_neg b17] at hf
      refine ab_U.run 3 (S' := (15, [some (.ref 132), some (.ref w), some (.int x1), some (.int x2), some (.int x3), none], [.int x1, .ref 140], hp X G μ)) rfl ?_
      obtain ⟨c18, hf⟩ := ab_ifs hf
      refine ab_U.aaldG (n := 6) (ty := .array .int) (v := (141 + x1.toNatClampNeg)) hG rfl ⟨by decide, rfl⟩ rfl c18 rfl rfl ?_
      refine ab_U.run 2 (S' := (20, [some (.ref 132), some (.ref w), some (.int x1), some (.int x2), some (.int x3), none], [.int (μ.1 132 4), .ref (141 + x1.toNatClampNeg)], hp X G μ)) rfl ?_
      obtain ⟨c19, hf⟩ := ab_ifs hf
      refine ab_U.ialdA rfl c19 ?_
      show ab_U _ _ _ (21, [some (.ref 132), some (.ref w), some (.int x1), some (.int x2), some (.int x3), none], [.int (μ.2.1 ((141 + x1.toNatClampNeg)) (μ.1 132 4).toNatClampNeg)], hp X G μ) _
      refine ab_U.if_ne rfl (fun b20 => ?_) (fun b20 => ?_)
      · rw [if_pos b20] at hf
        refine ab_U.run 1 (S' := (29, [some (.ref 132), some (.ref w), some (.int x1), some (.int x2), some (.int x3), none], [.int 0], hp X G μ)) rfl ?_
        obtain rfl := Option.some.inj hf
        exact ab_U.ret rfl rfl ⟨rfl, rfl⟩
      · rw [if_neg b20] at hf
        refine ab_U.run 2 (S' := (29, [some (.ref 132), some (.ref w), some (.int x1), some (.int x2), some (.int x3), none], [.int 1], hp X G μ)) rfl ?_
        obtain rfl := Option.some.inj hf
        exact ab_U.ret rfl rfl ⟨rfl, rfl⟩
theorem t_X0_choose {X : Nat × (Nat → Int32)} {G : Nat → Nat → Option Nat} (hG : fm_Gok G) {F e : Nat} {w : Nat} (hw : fm_isW w = true) {x1 : Int32} {x2 : Int32} {x3 : Int32} {μ : fm_M} {r : Int32 × fm_M} (hf : f_X0_choose F e w x1 x2 x3 μ = some r) : ab_F (5 * e) 3 [.ref 132, .ref w, .int x1, .int x2, .int x3] (hp X G μ) (some (.int r.1)) (hp X G r.2) := by
  induction e generalizing w x1 x2 x3 μ r with
  | zero => cases hf
  | succ e ih => exact t0_X0_choose (X := X) hG (dr := 5 * e) (rec := f_X0_choose F e) (fun hw h9 => ih hw h9) hw hf
set_option maxRecDepth 20000 in
def b_X0_find_41 (F : Nat) (w : Nat) (gg : Nat → Int32 → Int32 → fm_M → Option (Int32 × fm_M)) (l3 : Int32) (l4 : Int32) (μ : fm_M) : Option (Int32 × fm_M) := (Option.bind (f_J6_bitCount_0f7a4 F l3 μ) (fun q1 => (if q1.1 < l4 then some (0, q1.2) else (Option.bind (f_X0_choose F 8 w 0 l4 l3 q1.2) (fun q4 => (if q4.1 = 0 then gg 41 l3 (l4 + 1) q4.2 else (Option.bind (some (fm_sI q4.2 132 0 l4)) (fun m7 => some (1, m7)))))))))
def g_X0_find (F : Nat) (w : Nat) : Nat → Nat → Int32 → Int32 → fm_M → Option (Int32 × fm_M)
  | 0, _, _, _, _ => none
  | n + 1, pc, l3, l4, μ => if pc = 41 then b_X0_find_41 F w (g_X0_find F w n) l3 l4 μ else none
set_option maxRecDepth 20000 in
theorem t_X0_find_g {X : Nat × (Nat → Int32)} {G : Nat → Nat → Option Nat} (hG : fm_Gok G) {F : Nat}  {w : Nat} (hw : fm_isW w = true) : ∀ n : Nat, (∀ (l3 : Int32) (l4 : Int32) (μ : fm_M) (r : Int32 × fm_M), g_X0_find F w n 41 l3 l4 μ = some r → ab_U 40 (some .boolean) kX0_find (41, [some (.ref 132), some (.ref w), none, some (.int l3), some (.int l4)], [], hp X G μ) (fun r9 h9 => r9 = some (.int r.1) ∧ h9 = hp X G r.2))
  | 0 => by
    intros
    rename_i h
    cases h
  | n + 1 => by
    have ih := t_X0_find_g (X := X) hG (F := F)  hw n
    · intro l3 l4 μ r hf
      have hf : b_X0_find_41 F w (g_X0_find F w n) l3 l4 μ = some r := hf
      unfold b_X0_find_41 at hf
      refine ab_U.run 2 (S' := (44, [some (.ref 132), some (.ref w), none, some (.int l3), some (.int l4)], [.int l3, .int l4], hp X G μ)) rfl ?_
      obtain ⟨q1, h2, hf⟩ := ab_bnd hf
      refine ab_U.fn rfl rfl (t_J6_bitCount_0f7a4 (X := X) hG h2) (by omega) ?_
      show ab_U _ _ _ (47, [some (.ref 132), some (.ref w), none, some (.int l3), some (.int l4)], [.int q1.1, .int l4], hp X G q1.2) _
      refine ab_U.ic_gt rfl (fun b3 => ?_) (fun b3 => ?_)
      · rw [if_pos b3] at hf
        refine ab_U.run 1 (S' := (77, [some (.ref 132), some (.ref w), none, some (.int l3), some (.int l4)], [.int 0], hp X G q1.2)) rfl ?_
        obtain rfl := Option.some.inj hf
        exact ab_U.ret rfl rfl ⟨rfl, rfl⟩
      · rw [if_neg b3] at hf
        refine ab_U.run 5 (S' := (56, [some (.ref 132), some (.ref w), none, some (.int l3), some (.int l4)], [.int l3, .int l4, .int 0, .ref w, .ref 132], hp X G q1.2)) rfl ?_
        obtain ⟨q4, h5, hf⟩ := ab_bnd hf
        refine ab_U.fn rfl rfl (t_X0_choose (X := X) hG hw h5) (by omega) ?_
        show ab_U _ _ _ (59, [some (.ref 132), some (.ref w), none, some (.int l3), some (.int l4)], [.int q4.1], hp X G q4.2) _
        refine ab_U.if_eq rfl (fun b6 => ?_) (fun b6 => ?_)
        · rw [if_pos b6] at hf
          refine ab_U.run 2 (S' := (41, [some (.ref 132), some (.ref w), none, some (.int l3), some (.int (l4 + 1))], [], hp X G q4.2)) rfl ?_
          exact ab_U.weak (ih _ _ _ _ hf) (ab_leL.of ⟨rfl, ⟨rfl, ⟨rfl, ⟨rfl, trivial⟩⟩⟩⟩)
        · rw [if_neg b6] at hf
          refine ab_U.run 2 (S' := (65, [some (.ref 132), some (.ref w), none, some (.int l3), some (.int l4)], [.int l4, .ref 132], hp X G q4.2)) rfl ?_
          obtain ⟨m7, e8, hf⟩ := ab_bnd hf
          have e8 := Option.some.inj e8
          refine ab_U.pfI (ci := 0) (k9 := 0) rfl ⟨by decide, rfl⟩ ⟨rfl, rfl, by decide, rfl⟩ rfl ?_
          show ab_U _ _ _ (68, [some (.ref 132), some (.ref w), none, some (.int l3), some (.int l4)], [], hp X G (fm_sI q4.2 132 0 l4)) _
          rw [e8]
          refine ab_U.run 1 (S' := (69, [some (.ref 132), some (.ref w), none, some (.int l3), some (.int l4)], [.int 1], hp X G m7)) rfl ?_
          obtain rfl := Option.some.inj hf
          exact ab_U.ret rfl rfl ⟨rfl, rfl⟩
set_option maxRecDepth 20000 in
def f_X0_find (F : Nat) (w : Nat) (x1 : Int32) (μ : fm_M) : Option (Int32 × fm_M) := (Option.bind (some (fm_sI μ 132 4 x1)) (fun m9 => (if ab_in 0 6 = true then (Option.bind (some (fm_sA m9 141 (va_cpy (m9.2.1 ((w + 9))) (m9.2.1 141) (0 : Int32).toNatClampNeg (0 : Int32).toNatClampNeg (4 : Int32).toNatClampNeg))) (fun m12 => (if ab_in x1 4 = true then (Option.bind (f_X7_stonesOf F w (m12.2.1 ((w + 7)) x1.toNatClampNeg) m12) (fun q15 => (Option.bind (f_X0_foresee F w q15.1 q15.2) (fun q17 => g_X0_find F w F 41 q15.1 0 q17.2)))) else none))) else none)))
set_option maxRecDepth 20000 in
theorem t_X0_find {X : Nat × (Nat → Int32)} {G : Nat → Nat → Option Nat} (hG : fm_Gok G) {F : Nat} {w : Nat} (hw : fm_isW w = true) {x1 : Int32} {μ : fm_M} {r : Int32 × fm_M} (hf : f_X0_find F w x1 μ = some r) : ab_F 41 1 [.ref 132, .ref w, .int x1] (hp X G μ) (some (.int r.1)) (hp X G r.2) := by
  unfold f_X0_find at hf
  refine ab_T.of (d := 40) rfl (Nat.le_of_ble_eq_true rfl) ?_
  show ab_U _ _ kX0_find (0, [some (.ref 132), some (.ref w), some (.int x1), none, none], [], hp X G μ) _
  refine ab_U.run 2 (S' := (2, [some (.ref 132), some (.ref w), some (.int x1), none, none], [.int x1, .ref 132], hp X G μ)) rfl ?_
  obtain ⟨m9, e10, hf⟩ := ab_bnd hf
  have e10 := Option.some.inj e10
  refine ab_U.pfI (ci := 0) (k9 := 4) rfl ⟨by decide, rfl⟩ ⟨rfl, rfl, by decide, rfl⟩ rfl ?_
  show ab_U _ _ _ (5, [some (.ref 132), some (.ref w), some (.int x1), none, none], [], hp X G (fm_sI μ 132 4 x1)) _
  rw [e10]
  refine ab_U.run 1 (S' := (6, [some (.ref 132), some (.ref w), some (.int x1), none, none], [.ref w], hp X G m9)) rfl ?_
  refine ab_U.gfW (k9 := 14) rfl hw ⟨rfl, rfl, by decide, rfl⟩ ?_
  show ab_U _ _ _ (9, [some (.ref 132), some (.ref w), some (.int x1), none, none], [.ref (w + 9)], hp X G m9) _
  refine ab_U.run 4 (S' := (15, [some (.ref 132), some (.ref w), some (.int x1), none, none], [.int 0, .ref 140, .int 0, .ref (w + 9)], hp X G m9)) rfl ?_
  obtain ⟨c11, hf⟩ := ab_ifs hf
  refine ab_U.aaldG (n := 6) (ty := .array .int) (v := 141) hG rfl ⟨by decide, rfl⟩ rfl c11 rfl rfl ?_
  refine ab_U.run 2 (S' := (18, [some (.ref 132), some (.ref w), some (.int x1), none, none], [.int 4, .int 0, .ref 141, .int 0, .ref (w + 9)], hp X G m9)) rfl ?_
  obtain ⟨m12, e13, hf⟩ := ab_bnd hf
  have e13 := Option.some.inj e13
  refine ab_U.acp (n0 := 4) (n := 4) rfl (fm_WA hw).2.2.2.2.2.2.2.2 ⟨by decide, rfl⟩ ⟨⟨by decide, by decide, by decide⟩, by decide, by decide, Nat.le_of_ble_eq_true rfl⟩ ?_
  show ab_U _ _ _ (21, [some (.ref 132), some (.ref w), some (.int x1), none, none], [], hp X G (fm_sA m9 141 (va_cpy (m9.2.1 ((w + 9))) (m9.2.1 141) (0 : Int32).toNatClampNeg (0 : Int32).toNatClampNeg (4 : Int32).toNatClampNeg))) _
  rw [e13]
  refine ab_U.run 2 (S' := (23, [some (.ref 132), some (.ref w), some (.int x1), none, none], [.ref w, .ref w], hp X G m12)) rfl ?_
  refine ab_U.gfW (k9 := 12) rfl hw ⟨rfl, rfl, by decide, rfl⟩ ?_
  show ab_U _ _ _ (26, [some (.ref 132), some (.ref w), some (.int x1), none, none], [.ref (w + 7), .ref w], hp X G m12) _
  refine ab_U.run 1 (S' := (27, [some (.ref 132), some (.ref w), some (.int x1), none, none], [.int x1, .ref (w + 7), .ref w], hp X G m12)) rfl ?_
  obtain ⟨c14, hf⟩ := ab_ifs hf
  refine ab_U.iald (n := 4) rfl (fm_WA hw).2.2.2.2.2.2.1 c14 ?_
  show ab_U _ _ _ (28, [some (.ref 132), some (.ref w), some (.int x1), none, none], [.int (m12.2.1 ((w + 7)) x1.toNatClampNeg), .ref w], hp X G m12) _
  obtain ⟨q15, h16, hf⟩ := ab_bnd hf
  refine ab_U.fnV rfl rfl (fm_WO hw) rfl (t_X7_stonesOf (X := X) hG hw h16) (by omega) ?_
  show ab_U _ _ _ (31, [some (.ref 132), some (.ref w), some (.int x1), none, none], [.int q15.1], hp X G q15.2) _
  refine ab_U.run 4 (S' := (35, [some (.ref 132), some (.ref w), some (.int x1), some (.int q15.1), none], [.int q15.1, .ref w, .ref 132], hp X G q15.2)) rfl ?_
  obtain ⟨q17, h18, hf⟩ := ab_bnd hf
  refine ab_U.fn rfl rfl (t_X0_foresee (X := X) hG hw h18) (by omega) ?_
  show ab_U _ _ _ (38, [some (.ref 132), some (.ref w), some (.int x1), some (.int q15.1), none], [], hp X G q17.2) _
  refine ab_U.run 2 (S' := (41, [some (.ref 132), some (.ref w), some (.int x1), some (.int q15.1), some (.int 0)], [], hp X G q17.2)) rfl ?_
  exact ab_U.weak ((t_X0_find_g (X := X) hG  hw F) _ _ _ _ hf) (ab_leL.of ⟨rfl, ⟨rfl, ⟨rfl, ⟨rfl, trivial⟩⟩⟩⟩)
set_option maxRecDepth 20000 in
def f_X1_judge (F : Nat)  (x0 : Int32) (x1 : Int32) (x2 : Int32) (μ : fm_M) : Option (Unit × fm_M) := (if (μ.1 129 3) < x1 then (Option.bind (some (fm_sI μ 129 2 x0)) (fun m2 => (Option.bind (some (fm_sI m2 129 3 x1)) (fun m4 => (Option.bind (some (fm_sI m4 129 4 x2)) (fun m6 => (Option.bind (some (fm_sA m6 131 (va_cpy (m6.2.1 130) (m6.2.1 131) (0 : Int32).toNatClampNeg (0 : Int32).toNatClampNeg (4 : Int32).toNatClampNeg))) (fun m8 => some ((), m8))))))))) else (if ¬ x1 = (μ.1 129 3) then some ((), μ) else (if (μ.1 129 2) ≤ x0 then some ((), μ) else (Option.bind (some (fm_sI μ 129 2 x0)) (fun m12 => (Option.bind (some (fm_sI m12 129 3 x1)) (fun m14 => (Option.bind (some (fm_sI m14 129 4 x2)) (fun m16 => (Option.bind (some (fm_sA m16 131 (va_cpy (m16.2.1 130) (m16.2.1 131) (0 : Int32).toNatClampNeg (0 : Int32).toNatClampNeg (4 : Int32).toNatClampNeg))) (fun m18 => some ((), m18))))))))))))
set_option maxRecDepth 20000 in
theorem t_X1_judge {X : Nat × (Nat → Int32)} {G : Nat → Nat → Option Nat} (hG : fm_Gok G) {F : Nat}   {x0 : Int32} {x1 : Int32} {x2 : Int32} {μ : fm_M} {r : Unit × fm_M} (hf : f_X1_judge F x0 x1 x2 μ = some r) : ab_F 1 8 [.ref 129, .int x0, .int x1, .int x2] (hp X G μ) none (hp X G r.2) := by
  unfold f_X1_judge at hf
  refine ab_T.of (d := 0) rfl (Nat.le_of_ble_eq_true rfl) ?_
  show ab_U _ _ kX1_judge (0, [some (.ref 129), some (.int x0), some (.int x1), some (.int x2)], [], hp X G μ) _
  refine ab_U.run 3 (S' := (5, [some (.ref 129), some (.int x0), some (.int x1), some (.int x2)], [.int (μ.1 129 3), .int x1], hp X G μ)) rfl ?_
  refine ab_U.ic_gt rfl (fun b1 => ?_) (fun b1 => ?_)
  · rw [if_pos b1] at hf
    refine ab_U.run 2 (S' := (26, [some (.ref 129), some (.int x0), some (.int x1), some (.int x2)], [.int x0, .ref 129], hp X G μ)) rfl ?_
    obtain ⟨m2, e3, hf⟩ := ab_bnd hf
    have e3 := Option.some.inj e3
    refine ab_U.pfI (ci := 1) (k9 := 2) rfl ⟨by decide, rfl⟩ ⟨rfl, rfl, by decide, rfl⟩ rfl ?_
    show ab_U _ _ _ (29, [some (.ref 129), some (.int x0), some (.int x1), some (.int x2)], [], hp X G (fm_sI μ 129 2 x0)) _
    rw [e3]
    refine ab_U.run 2 (S' := (31, [some (.ref 129), some (.int x0), some (.int x1), some (.int x2)], [.int x1, .ref 129], hp X G m2)) rfl ?_
    obtain ⟨m4, e5, hf⟩ := ab_bnd hf
    have e5 := Option.some.inj e5
    refine ab_U.pfI (ci := 1) (k9 := 3) rfl ⟨by decide, rfl⟩ ⟨rfl, rfl, by decide, rfl⟩ rfl ?_
    show ab_U _ _ _ (34, [some (.ref 129), some (.int x0), some (.int x1), some (.int x2)], [], hp X G (fm_sI m2 129 3 x1)) _
    rw [e5]
    refine ab_U.run 2 (S' := (36, [some (.ref 129), some (.int x0), some (.int x1), some (.int x2)], [.int x2, .ref 129], hp X G m4)) rfl ?_
    obtain ⟨m6, e7, hf⟩ := ab_bnd hf
    have e7 := Option.some.inj e7
    refine ab_U.pfI (ci := 1) (k9 := 4) rfl ⟨by decide, rfl⟩ ⟨rfl, rfl, by decide, rfl⟩ rfl ?_
    show ab_U _ _ _ (39, [some (.ref 129), some (.int x0), some (.int x1), some (.int x2)], [], hp X G (fm_sI m4 129 4 x2)) _
    rw [e7]
    refine ab_U.run 7 (S' := (50, [some (.ref 129), some (.int x0), some (.int x1), some (.int x2)], [.int 4, .int 0, .ref 131, .int 0, .ref 130], hp X G m6)) rfl ?_
    obtain ⟨m8, e9, hf⟩ := ab_bnd hf
    have e9 := Option.some.inj e9
    refine ab_U.acp (n0 := 4) (n := 4) rfl ⟨by decide, rfl⟩ ⟨by decide, rfl⟩ ⟨⟨by decide, by decide, by decide⟩, by decide, by decide, Nat.le_of_ble_eq_true rfl⟩ ?_
    show ab_U _ _ _ (53, [some (.ref 129), some (.int x0), some (.int x1), some (.int x2)], [], hp X G (fm_sA m6 131 (va_cpy (m6.2.1 130) (m6.2.1 131) (0 : Int32).toNatClampNeg (0 : Int32).toNatClampNeg (4 : Int32).toNatClampNeg))) _
    rw [e9]
    obtain rfl := Option.some.inj hf
    exact ab_U.ret rfl rfl ⟨rfl, rfl⟩
  · rw [if_neg b1] at hf
    refine ab_U.run 3 (S' := (13, [some (.ref 129), some (.int x0), some (.int x1), some (.int x2)], [.int (μ.1 129 3), .int x1], hp X G μ)) rfl ?_
    refine ab_U.ic_ne rfl (fun b10 => ?_) (fun b10 => ?_)
    · rw [if_pos b10] at hf
      obtain rfl := Option.some.inj hf
      exact ab_U.ret rfl rfl ⟨rfl, rfl⟩
    · rw [if_neg b10] at hf
      refine ab_U.run 3 (S' := (21, [some (.ref 129), some (.int x0), some (.int x1), some (.int x2)], [.int (μ.1 129 2), .int x0], hp X G μ)) rfl ?_
      refine ab_U.ic_ge rfl (fun b11 => ?_) (fun b11 => ?_)
      · rw [if_pos b11] at hf
        obtain rfl := Option.some.inj hf
        exact ab_U.ret rfl rfl ⟨rfl, rfl⟩
      · rw [if_neg b11] at hf
        refine ab_U.run 2 (S' := (26, [some (.ref 129), some (.int x0), some (.int x1), some (.int x2)], [.int x0, .ref 129], hp X G μ)) rfl ?_
        obtain ⟨m12, e13, hf⟩ := ab_bnd hf
        have e13 := Option.some.inj e13
        refine ab_U.pfI (ci := 1) (k9 := 2) rfl ⟨by decide, rfl⟩ ⟨rfl, rfl, by decide, rfl⟩ rfl ?_
        show ab_U _ _ _ (29, [some (.ref 129), some (.int x0), some (.int x1), some (.int x2)], [], hp X G (fm_sI μ 129 2 x0)) _
        rw [e13]
        refine ab_U.run 2 (S' := (31, [some (.ref 129), some (.int x0), some (.int x1), some (.int x2)], [.int x1, .ref 129], hp X G m12)) rfl ?_
        obtain ⟨m14, e15, hf⟩ := ab_bnd hf
        have e15 := Option.some.inj e15
        refine ab_U.pfI (ci := 1) (k9 := 3) rfl ⟨by decide, rfl⟩ ⟨rfl, rfl, by decide, rfl⟩ rfl ?_
        show ab_U _ _ _ (34, [some (.ref 129), some (.int x0), some (.int x1), some (.int x2)], [], hp X G (fm_sI m12 129 3 x1)) _
        rw [e15]
        refine ab_U.run 2 (S' := (36, [some (.ref 129), some (.int x0), some (.int x1), some (.int x2)], [.int x2, .ref 129], hp X G m14)) rfl ?_
        obtain ⟨m16, e17, hf⟩ := ab_bnd hf
        have e17 := Option.some.inj e17
        refine ab_U.pfI (ci := 1) (k9 := 4) rfl ⟨by decide, rfl⟩ ⟨rfl, rfl, by decide, rfl⟩ rfl ?_
        show ab_U _ _ _ (39, [some (.ref 129), some (.int x0), some (.int x1), some (.int x2)], [], hp X G (fm_sI m14 129 4 x2)) _
        rw [e17]
        refine ab_U.run 7 (S' := (50, [some (.ref 129), some (.int x0), some (.int x1), some (.int x2)], [.int 4, .int 0, .ref 131, .int 0, .ref 130], hp X G m16)) rfl ?_
        obtain ⟨m18, e19, hf⟩ := ab_bnd hf
        have e19 := Option.some.inj e19
        refine ab_U.acp (n0 := 4) (n := 4) rfl ⟨by decide, rfl⟩ ⟨by decide, rfl⟩ ⟨⟨by decide, by decide, by decide⟩, by decide, by decide, Nat.le_of_ble_eq_true rfl⟩ ?_
        show ab_U _ _ _ (53, [some (.ref 129), some (.int x0), some (.int x1), some (.int x2)], [], hp X G (fm_sA m16 131 (va_cpy (m16.2.1 130) (m16.2.1 131) (0 : Int32).toNatClampNeg (0 : Int32).toNatClampNeg (4 : Int32).toNatClampNeg))) _
        rw [e19]
        obtain rfl := Option.some.inj hf
        exact ab_U.ret rfl rfl ⟨rfl, rfl⟩
set_option maxRecDepth 20000 in
def b_X1_step_27 (F : Nat) (rec : Int32 → Int32 → Int32 → Int32 → Int32 → fm_M → Option (Unit × fm_M))  (gg : Nat → Int32 → Int32 → Int32 → Int32 → Int32 → Int32 → fm_M → Option (Unit × fm_M)) (l2 : Int32) (l3 : Int32) (l4 : Int32) (l5 : Int32) (l6 : Int32) (l7 : Int32) (μ : fm_M) : Option (Unit × fm_M) := (if (μ.1 101 0) ≤ l7 then some ((), μ) else (if ¬ ((l6 >>> (l7 &&& 31)) &&& 1) = 0 then gg 27 l2 l3 l4 l5 l6 (l7 + 1) μ else (Option.bind (f_X7_minutesBetween F 101 l3 l7 μ) (fun q3 => (if ab_in l3 4 = true then (Option.bind (f_X8_rate F (q3.2.1 129 5) (q3.2.2.1 102 l3.toNatClampNeg) q3.2) (fun q6 => (Option.bind (f_X8_cooledFor F l4 q6.1 q3.1 q6.2) (fun q8 => (if ab_in l2 4 = true then (Option.bind (some (fm_sA q8.2 130 (upd (q8.2.2.1 130) l2.toNatClampNeg l7))) (fun m11 => (Option.bind (rec (l2 + 1) l7 q8.1 (l5 + q3.1) (l6 ||| (1 <<< (l7 &&& 31))) m11) (fun q13 => gg 27 l2 l3 l4 l5 l6 (l7 + 1) q13.2)))) else none))))) else none)))))
def g_X1_step (F : Nat) (rec : Int32 → Int32 → Int32 → Int32 → Int32 → fm_M → Option (Unit × fm_M))  : Nat → Nat → Int32 → Int32 → Int32 → Int32 → Int32 → Int32 → fm_M → Option (Unit × fm_M)
  | 0, _, _, _, _, _, _, _, _ => none
  | n + 1, pc, l2, l3, l4, l5, l6, l7, μ => if pc = 27 then b_X1_step_27 F rec  (g_X1_step F rec  n) l2 l3 l4 l5 l6 l7 μ else none
set_option maxRecDepth 20000 in
theorem t_X1_step_g {X : Nat × (Nat → Int32)} {G : Nat → Nat → Option Nat} (hG : fm_Gok G) {F : Nat} {rec : Int32 → Int32 → Int32 → Int32 → Int32 → fm_M → Option (Unit × fm_M)} {dr : Nat} (hrec : ∀  {x1 : Int32} {x2 : Int32} {x3 : Int32} {x4 : Int32} {x5 : Int32} {μ : fm_M} {r : Unit × fm_M}, rec x1 x2 x3 x4 x5 μ = some r → ab_F dr 7 [.ref 129, .ref 101, .int x1, .int x2, .int x3, .int x4, .int x5] (hp X G μ) none (hp X G r.2))   : ∀ n : Nat, (∀ (l2 : Int32) (l3 : Int32) (l4 : Int32) (l5 : Int32) (l6 : Int32) (l7 : Int32) (μ : fm_M) (r : Unit × fm_M), g_X1_step F rec  n 27 l2 l3 l4 l5 l6 l7 μ = some r → ab_U (dr + 4) (none) kX1_step (27, [some (.ref 129), some (.ref 101), some (.int l2), some (.int l3), some (.int l4), some (.int l5), some (.int l6), some (.int l7), none, none], [], hp X G μ) (fun r9 h9 => r9 = none ∧ h9 = hp X G r.2))
  | 0 => by
    intros
    rename_i h
    cases h
  | n + 1 => by
    have ih := t_X1_step_g (X := X) hG (F := F)  hrec  n
    · intro l2 l3 l4 l5 l6 l7 μ r hf
      have hf : b_X1_step_27 F rec  (g_X1_step F rec  n) l2 l3 l4 l5 l6 l7 μ = some r := hf
      unfold b_X1_step_27 at hf
      refine ab_U.run 3 (S' := (33, [some (.ref 129), some (.ref 101), some (.int l2), some (.int l3), some (.int l4), some (.int l5), some (.int l6), some (.int l7), none, none], [.int (μ.1 101 0), .int l7], hp X G μ)) rfl ?_
      refine ab_U.ic_ge rfl (fun b1 => ?_) (fun b1 => ?_)
      · rw [if_pos b1] at hf
        obtain rfl := Option.some.inj hf
        exact ab_U.ret rfl rfl ⟨rfl, rfl⟩
      · rw [if_neg b1] at hf
        refine ab_U.run 5 (S' := (43, [some (.ref 129), some (.ref 101), some (.int l2), some (.int l3), some (.int l4), some (.int l5), some (.int l6), some (.int l7), none, none], [.int ((l6 >>> (l7 &&& 31)) &&& 1)], hp X G μ)) rfl ?_
        refine ab_U.if_ne rfl (fun b2 => ?_) (fun b2 => ?_)
        · rw [if_pos b2] at hf
          refine ab_U.run 2 (S' := (27, [some (.ref 129), some (.ref 101), some (.int l2), some (.int l3), some (.int l4), some (.int l5), some (.int l6), some (.int (l7 + 1)), none, none], [], hp X G μ)) rfl ?_
          exact ab_U.weak (ih _ _ _ _ _ _ _ _ hf) (ab_leL.of ⟨rfl, ⟨rfl, ⟨rfl, ⟨rfl, ⟨rfl, ⟨rfl, ⟨rfl, ⟨rfl, trivial⟩⟩⟩⟩⟩⟩⟩⟩)
        · rw [if_neg b2] at hf
          refine ab_U.run 3 (S' := (50, [some (.ref 129), some (.ref 101), some (.int l2), some (.int l3), some (.int l4), some (.int l5), some (.int l6), some (.int l7), none, none], [.int l7, .int l3, .ref 101], hp X G μ)) rfl ?_
          obtain ⟨q3, h4, hf⟩ := ab_bnd hf
          refine ab_U.fn rfl rfl (t_X7_minutesBetween (X := X) hG (by decide) h4) (by omega) ?_
          show ab_U _ _ _ (53, [some (.ref 129), some (.ref 101), some (.int l2), some (.int l3), some (.int l4), some (.int l5), some (.int l6), some (.int l7), none, none], [.int q3.1], hp X G q3.2) _
          refine ab_U.run 7 (S' := (66, [some (.ref 129), some (.ref 101), some (.int l2), some (.int l3), some (.int l4), some (.int l5), some (.int l6), some (.int l7), some (.int q3.1), none], [.int l3, .ref 102, .int (q3.2.1 129 5), .int l4], hp X G q3.2)) rfl ?_
          obtain ⟨c5, hf⟩ := ab_ifs hf
          refine ab_U.iald (n := 4) rfl ⟨by decide, rfl⟩ c5 ?_
          show ab_U _ _ _ (67, [some (.ref 129), some (.ref 101), some (.int l2), some (.int l3), some (.int l4), some (.int l5), some (.int l6), some (.int l7), some (.int q3.1), none], [.int (q3.2.2.1 102 l3.toNatClampNeg), .int (q3.2.1 129 5), .int l4], hp X G q3.2) _
          obtain ⟨q6, h7, hf⟩ := ab_bnd hf
          refine ab_U.fn rfl rfl (t_X8_rate (X := X) hG h7) (by omega) ?_
          show ab_U _ _ _ (70, [some (.ref 129), some (.ref 101), some (.int l2), some (.int l3), some (.int l4), some (.int l5), some (.int l6), some (.int l7), some (.int q3.1), none], [.int q6.1, .int l4], hp X G q6.2) _
          refine ab_U.run 1 (S' := (72, [some (.ref 129), some (.ref 101), some (.int l2), some (.int l3), some (.int l4), some (.int l5), some (.int l6), some (.int l7), some (.int q3.1), none], [.int q3.1, .int q6.1, .int l4], hp X G q6.2)) rfl ?_
          obtain ⟨q8, h9, hf⟩ := ab_bnd hf
          refine ab_U.fn rfl rfl (t_X8_cooledFor (X := X) hG h9) (by omega) ?_
          show ab_U _ _ _ (75, [some (.ref 129), some (.ref 101), some (.int l2), some (.int l3), some (.int l4), some (.int l5), some (.int l6), some (.int l7), some (.int q3.1), none], [.int q8.1], hp X G q8.2) _
          refine ab_U.run 5 (S' := (84, [some (.ref 129), some (.ref 101), some (.int l2), some (.int l3), some (.int l4), some (.int l5), some (.int l6), some (.int l7), some (.int q3.1), some (.int q8.1)], [.int l7, .int l2, .ref 130], hp X G q8.2)) rfl ?_
          obtain ⟨c10, hf⟩ := ab_ifs hf
          obtain ⟨m11, e12, hf⟩ := ab_bnd hf
          have e12 := Option.some.inj e12
          refine ab_U.iast (n := 4) rfl ⟨by decide, rfl⟩ c10 ?_
          show ab_U _ _ _ (85, [some (.ref 129), some (.ref 101), some (.int l2), some (.int l3), some (.int l4), some (.int l5), some (.int l6), some (.int l7), some (.int q3.1), some (.int q8.1)], [], hp X G (fm_sA q8.2 130 (upd (q8.2.2.1 130) l2.toNatClampNeg l7))) _
          rw [e12]
          refine ab_U.run 12 (S' := (102, [some (.ref 129), some (.ref 101), some (.int l2), some (.int l3), some (.int l4), some (.int l5), some (.int l6), some (.int l7), some (.int q3.1), some (.int q8.1)], [.int 1, .int l6, .int (l5 + q3.1), .int q8.1, .int l7, .int (l2 + 1), .ref 101, .ref 129], hp X G m11)) rfl ?_
          refine ab_U.run 3 (S' := (106, [some (.ref 129), some (.ref 101), some (.int l2), some (.int l3), some (.int l4), some (.int l5), some (.int l6), some (.int l7), some (.int q3.1), some (.int q8.1)], [.int (l6 ||| (1 <<< (l7 &&& 31))), .int (l5 + q3.1), .int q8.1, .int l7, .int (l2 + 1), .ref 101, .ref 129], hp X G m11)) rfl ?_
          obtain ⟨q13, h14, hf⟩ := ab_bnd hf
          refine ab_U.fn rfl rfl (hrec h14) (by omega) ?_
          show ab_U _ _ _ (109, [some (.ref 129), some (.ref 101), some (.int l2), some (.int l3), some (.int l4), some (.int l5), some (.int l6), some (.int l7), some (.int q3.1), some (.int q8.1)], [], hp X G q13.2) _
          refine ab_U.run 2 (S' := (27, [some (.ref 129), some (.ref 101), some (.int l2), some (.int l3), some (.int l4), some (.int l5), some (.int l6), some (.int (l7 + 1)), some (.int q3.1), some (.int q8.1)], [], hp X G q13.2)) rfl ?_
          exact ab_U.weak (ih _ _ _ _ _ _ _ _ hf) (ab_leL.of ⟨rfl, ⟨rfl, ⟨rfl, ⟨rfl, ⟨rfl, ⟨rfl, ⟨rfl, ⟨rfl, trivial⟩⟩⟩⟩⟩⟩⟩⟩)
set_option maxRecDepth 20000 in
def f0_X1_step (F : Nat) (rec : Int32 → Int32 → Int32 → Int32 → Int32 → fm_M → Option (Unit × fm_M))  (x1 : Int32) (x2 : Int32) (x3 : Int32) (x4 : Int32) (x5 : Int32) (μ : fm_M) : Option (Unit × fm_M) := (if ¬ x2 = (μ.1 129 6) then (if x1 < 4 then g_X1_step F rec  F 27 x1 x2 x3 x4 x5 0 μ else some ((), μ)) else (Option.bind (f_X1_judge F x1 x3 x4 μ) (fun q17 => some ((), q17.2))))
def f_X1_step (F : Nat) : Nat → Int32 → Int32 → Int32 → Int32 → Int32 → fm_M → Option (Unit × fm_M)
  | 0, _, _, _, _, _, _ => none
  | e + 1, x1, x2, x3, x4, x5, μ => f0_X1_step F (f_X1_step F e) x1 x2 x3 x4 x5 μ
set_option maxRecDepth 20000 in
theorem t0_X1_step {X : Nat × (Nat → Int32)} {G : Nat → Nat → Option Nat} (hG : fm_Gok G) {F dr : Nat} {rec : Int32 → Int32 → Int32 → Int32 → Int32 → fm_M → Option (Unit × fm_M)} (hrec : ∀  {x1 : Int32} {x2 : Int32} {x3 : Int32} {x4 : Int32} {x5 : Int32} {μ : fm_M} {r : Unit × fm_M}, rec x1 x2 x3 x4 x5 μ = some r → ab_F dr 7 [.ref 129, .ref 101, .int x1, .int x2, .int x3, .int x4, .int x5] (hp X G μ) none (hp X G r.2))   {x1 : Int32} {x2 : Int32} {x3 : Int32} {x4 : Int32} {x5 : Int32} {μ : fm_M} {r : Unit × fm_M} (hf : f0_X1_step F rec x1 x2 x3 x4 x5 μ = some r) : ab_F (dr + 5) 7 [.ref 129, .ref 101, .int x1, .int x2, .int x3, .int x4, .int x5] (hp X G μ) none (hp X G r.2) := by
  unfold f0_X1_step at hf
  refine ab_T.of (d := dr + 4) rfl (Nat.le_of_ble_eq_true rfl) ?_
  show ab_U _ _ kX1_step (0, [some (.ref 129), some (.ref 101), some (.int x1), some (.int x2), some (.int x3), some (.int x4), some (.int x5), none, none, none], [], hp X G μ) _
  refine ab_U.run 3 (S' := (5, [some (.ref 129), some (.ref 101), some (.int x1), some (.int x2), some (.int x3), some (.int x4), some (.int x5), none, none, none], [.int (μ.1 129 6), .int x2], hp X G μ)) rfl ?_
  refine ab_U.ic_ne rfl (fun b15 => ?_) (fun b15 => ?_)
  · rw [if_pos b15] at hf
    refine ab_U.run 2 (S' := (20, [some (.ref 129), some (.ref 101), some (.int x1), some (.int x2), some (.int x3), some (.int x4), some (.int x5), none, none, none], [.int 4, .int x1], hp X G μ)) rfl ?_
    refine ab_U.ic_lt rfl (fun b16 => ?_) (fun b16 => ?_)
    · rw [if_pos b16] at hf
      refine ab_U.run 2 (S' := (27, [some (.ref 129), some (.ref 101), some (.int x1), some (.int x2), some (.int x3), some (.int x4), some (.int x5), some (.int 0), none, none], [], hp X G μ)) rfl ?_
      exact ab_U.weak ((t_X1_step_g (X := X) hG  hrec  F) _ _ _ _ _ _ _ _ hf) (ab_leL.of ⟨rfl, ⟨rfl, ⟨rfl, ⟨rfl, ⟨rfl, ⟨rfl, ⟨rfl, ⟨rfl, trivial⟩⟩⟩⟩⟩⟩⟩⟩)
    · rw [if_neg b16] at hf
      obtain rfl := Option.some.inj hf
      exact ab_U.ret rfl rfl ⟨rfl, rfl⟩
  · rw [if_neg b15] at hf
    refine ab_U.run 4 (S' := (14, [some (.ref 129), some (.ref 101), some (.int x1), some (.int x2), some (.int x3), some (.int x4), some (.int x5), none, none, none], [.int x4, .int x3, .int x1, .ref 129], hp X G μ)) rfl ?_
    obtain ⟨q17, h18, hf⟩ := ab_bnd hf
    refine ab_U.fn rfl rfl (t_X1_judge (X := X) hG h18) (by omega) ?_
    show ab_U _ _ _ (17, [some (.ref 129), some (.ref 101), some (.int x1), some (.int x2), some (.int x3), some (.int x4), some (.int x5), none, none, none], [], hp X G q17.2) _
    obtain rfl := Option.some.inj hf
    exact ab_U.ret rfl rfl ⟨rfl, rfl⟩
theorem t_X1_step {X : Nat × (Nat → Int32)} {G : Nat → Nat → Option Nat} (hG : fm_Gok G) {F e : Nat}   {x1 : Int32} {x2 : Int32} {x3 : Int32} {x4 : Int32} {x5 : Int32} {μ : fm_M} {r : Unit × fm_M} (hf : f_X1_step F e x1 x2 x3 x4 x5 μ = some r) : ab_F (5 * e) 7 [.ref 129, .ref 101, .int x1, .int x2, .int x3, .int x4, .int x5] (hp X G μ) none (hp X G r.2) := by
  induction e generalizing x1 x2 x3 x4 x5 μ r with
  | zero => cases hf
  | succ e ih => exact t0_X1_step (X := X) hG (dr := 5 * e) (rec := f_X1_step F e) (fun  h9 => ih  h9)  hf
set_option maxRecDepth 20000 in
def f_X1_find (F : Nat)  (x1 : Int32) (x2 : Int32) (μ : fm_M) : Option (Unit × fm_M) := (if ab_in x1 5 = true then (Option.bind (some (fm_sI μ 129 5 (μ.2.1 104 x1.toNatClampNeg))) (fun m2 => (Option.bind (some (fm_sI m2 129 6 x2)) (fun m4 => (Option.bind (some (fm_sI m4 129 2 0)) (fun m6 => (Option.bind (some (fm_sI m6 129 3 (-1))) (fun m8 => (Option.bind (some (fm_sI m8 129 4 0)) (fun m10 => (if ab_in x1 5 = true then (if ab_in x1 5 = true then (if ab_in x1 5 = true then (Option.bind (f_X1_step F 8 0 (m10.2.1 106 x1.toNatClampNeg) (m10.2.1 105 x1.toNatClampNeg) 0 (1 <<< ((m10.2.1 106 x1.toNatClampNeg) &&& 31)) m10) (fun q15 => some ((), q15.2))) else none) else none) else none))))))))))) else none)
set_option maxRecDepth 20000 in
theorem t_X1_find {X : Nat × (Nat → Int32)} {G : Nat → Nat → Option Nat} (hG : fm_Gok G) {F : Nat}   {x1 : Int32} {x2 : Int32} {μ : fm_M} {r : Unit × fm_M} (hf : f_X1_find F x1 x2 μ = some r) : ab_F 41 6 [.ref 129, .ref 101, .int x1, .int x2] (hp X G μ) none (hp X G r.2) := by
  unfold f_X1_find at hf
  refine ab_T.of (d := 40) rfl (Nat.le_of_ble_eq_true rfl) ?_
  show ab_U _ _ kX1_find (0, [some (.ref 129), some (.ref 101), some (.int x1), some (.int x2)], [], hp X G μ) _
  refine ab_U.run 4 (S' := (6, [some (.ref 129), some (.ref 101), some (.int x1), some (.int x2)], [.int x1, .ref 104, .ref 129], hp X G μ)) rfl ?_
  obtain ⟨c1, hf⟩ := ab_ifs hf
  refine ab_U.iald (n := 5) rfl ⟨by decide, rfl⟩ c1 ?_
  show ab_U _ _ _ (7, [some (.ref 129), some (.ref 101), some (.int x1), some (.int x2)], [.int (μ.2.1 104 x1.toNatClampNeg), .ref 129], hp X G μ) _
  obtain ⟨m2, e3, hf⟩ := ab_bnd hf
  have e3 := Option.some.inj e3
  refine ab_U.pfI (ci := 1) (k9 := 5) rfl ⟨by decide, rfl⟩ ⟨rfl, rfl, by decide, rfl⟩ rfl ?_
  show ab_U _ _ _ (10, [some (.ref 129), some (.ref 101), some (.int x1), some (.int x2)], [], hp X G (fm_sI μ 129 5 (μ.2.1 104 x1.toNatClampNeg))) _
  rw [e3]
  refine ab_U.run 2 (S' := (12, [some (.ref 129), some (.ref 101), some (.int x1), some (.int x2)], [.int x2, .ref 129], hp X G m2)) rfl ?_
  obtain ⟨m4, e5, hf⟩ := ab_bnd hf
  have e5 := Option.some.inj e5
  refine ab_U.pfI (ci := 1) (k9 := 6) rfl ⟨by decide, rfl⟩ ⟨rfl, rfl, by decide, rfl⟩ rfl ?_
  show ab_U _ _ _ (15, [some (.ref 129), some (.ref 101), some (.int x1), some (.int x2)], [], hp X G (fm_sI m2 129 6 x2)) _
  rw [e5]
  refine ab_U.run 2 (S' := (17, [some (.ref 129), some (.ref 101), some (.int x1), some (.int x2)], [.int 0, .ref 129], hp X G m4)) rfl ?_
  obtain ⟨m6, e7, hf⟩ := ab_bnd hf
  have e7 := Option.some.inj e7
  refine ab_U.pfI (ci := 1) (k9 := 2) rfl ⟨by decide, rfl⟩ ⟨rfl, rfl, by decide, rfl⟩ rfl ?_
  show ab_U _ _ _ (20, [some (.ref 129), some (.ref 101), some (.int x1), some (.int x2)], [], hp X G (fm_sI m4 129 2 0)) _
  rw [e7]
  refine ab_U.run 2 (S' := (22, [some (.ref 129), some (.ref 101), some (.int x1), some (.int x2)], [.int (-1), .ref 129], hp X G m6)) rfl ?_
  obtain ⟨m8, e9, hf⟩ := ab_bnd hf
  have e9 := Option.some.inj e9
  refine ab_U.pfI (ci := 1) (k9 := 3) rfl ⟨by decide, rfl⟩ ⟨rfl, rfl, by decide, rfl⟩ rfl ?_
  show ab_U _ _ _ (25, [some (.ref 129), some (.ref 101), some (.int x1), some (.int x2)], [], hp X G (fm_sI m6 129 3 (-1))) _
  rw [e9]
  refine ab_U.run 2 (S' := (27, [some (.ref 129), some (.ref 101), some (.int x1), some (.int x2)], [.int 0, .ref 129], hp X G m8)) rfl ?_
  obtain ⟨m10, e11, hf⟩ := ab_bnd hf
  have e11 := Option.some.inj e11
  refine ab_U.pfI (ci := 1) (k9 := 4) rfl ⟨by decide, rfl⟩ ⟨rfl, rfl, by decide, rfl⟩ rfl ?_
  show ab_U _ _ _ (30, [some (.ref 129), some (.ref 101), some (.int x1), some (.int x2)], [], hp X G (fm_sI m8 129 4 0)) _
  rw [e11]
  refine ab_U.run 6 (S' := (38, [some (.ref 129), some (.ref 101), some (.int x1), some (.int x2)], [.int x1, .ref 106, .int 0, .ref 101, .ref 129], hp X G m10)) rfl ?_
  obtain ⟨c12, hf⟩ := ab_ifs hf
  refine ab_U.iald (n := 5) rfl ⟨by decide, rfl⟩ c12 ?_
  show ab_U _ _ _ (39, [some (.ref 129), some (.ref 101), some (.int x1), some (.int x2)], [.int (m10.2.1 106 x1.toNatClampNeg), .int 0, .ref 101, .ref 129], hp X G m10) _
  refine ab_U.run 3 (S' := (44, [some (.ref 129), some (.ref 101), some (.int x1), some (.int x2)], [.int x1, .ref 105, .int (m10.2.1 106 x1.toNatClampNeg), .int 0, .ref 101, .ref 129], hp X G m10)) rfl ?_
  obtain ⟨c13, hf⟩ := ab_ifs hf
  refine ab_U.iald (n := 5) rfl ⟨by decide, rfl⟩ c13 ?_
  show ab_U _ _ _ (45, [some (.ref 129), some (.ref 101), some (.int x1), some (.int x2)], [.int (m10.2.1 105 x1.toNatClampNeg), .int (m10.2.1 106 x1.toNatClampNeg), .int 0, .ref 101, .ref 129], hp X G m10) _
  refine ab_U.run 5 (S' := (52, [some (.ref 129), some (.ref 101), some (.int x1), some (.int x2)], [.int x1, .ref 106, .int 1, .int 0, .int (m10.2.1 105 x1.toNatClampNeg), .int (m10.2.1 106 x1.toNatClampNeg), .int 0, .ref 101, .ref 129], hp X G m10)) rfl ?_
  obtain ⟨c14, hf⟩ := ab_ifs hf
  refine ab_U.iald (n := 5) rfl ⟨by decide, rfl⟩ c14 ?_
  show ab_U _ _ _ (53, [some (.ref 129), some (.ref 101), some (.int x1), some (.int x2)], [.int (m10.2.1 106 x1.toNatClampNeg), .int 1, .int 0, .int (m10.2.1 105 x1.toNatClampNeg), .int (m10.2.1 106 x1.toNatClampNeg), .int 0, .ref 101, .ref 129], hp X G m10) _
  refine ab_U.run 1 (S' := (54, [some (.ref 129), some (.ref 101), some (.int x1), some (.int x2)], [.int (1 <<< ((m10.2.1 106 x1.toNatClampNeg) &&& 31)), .int 0, .int (m10.2.1 105 x1.toNatClampNeg), .int (m10.2.1 106 x1.toNatClampNeg), .int 0, .ref 101, .ref 129], hp X G m10)) rfl ?_
  obtain ⟨q15, h16, hf⟩ := ab_bnd hf
  refine ab_U.fn rfl rfl (t_X1_step (X := X) hG h16) (by omega) ?_
  show ab_U _ _ _ (57, [some (.ref 129), some (.ref 101), some (.int x1), some (.int x2)], [], hp X G q15.2) _
  obtain rfl := Option.some.inj hf
  exact ab_U.ret rfl rfl ⟨rfl, rfl⟩
set_option maxRecDepth 20000 in
def f_X7_copyFrom (F : Nat) (w : Nat) (w2 : Nat)  (μ : fm_M) : Option (Unit × fm_M) := (Option.bind (some (fm_sI μ w 0 (μ.1 w2 0))) (fun m1 => (Option.bind (some (fm_sA m1 ((w + 1)) (va_cpy (m1.2.1 ((w2 + 1))) (m1.2.1 ((w + 1))) (0 : Int32).toNatClampNeg (0 : Int32).toNatClampNeg (4 : Int32).toNatClampNeg))) (fun m3 => (Option.bind (some (fm_sA m3 ((w + 2)) (va_cpy (m3.2.1 ((w2 + 2))) (m3.2.1 ((w + 2))) (0 : Int32).toNatClampNeg (0 : Int32).toNatClampNeg (4 : Int32).toNatClampNeg))) (fun m5 => (Option.bind (some (fm_sI m5 w 3 (m5.1 w2 3))) (fun m7 => (Option.bind (some (fm_sA m7 ((w + 3)) (va_cpy (m7.2.1 ((w2 + 3))) (m7.2.1 ((w + 3))) (0 : Int32).toNatClampNeg (0 : Int32).toNatClampNeg (5 : Int32).toNatClampNeg))) (fun m9 => (Option.bind (some (fm_sA m9 ((w + 4)) (va_cpy (m9.2.1 ((w2 + 4))) (m9.2.1 ((w + 4))) (0 : Int32).toNatClampNeg (0 : Int32).toNatClampNeg (5 : Int32).toNatClampNeg))) (fun m11 => (Option.bind (some (fm_sA m11 ((w + 5)) (va_cpy (m11.2.1 ((w2 + 5))) (m11.2.1 ((w + 5))) (0 : Int32).toNatClampNeg (0 : Int32).toNatClampNeg (5 : Int32).toNatClampNeg))) (fun m13 => (Option.bind (some (fm_sI m13 w 7 (m13.1 w2 7))) (fun m15 => (Option.bind (some (fm_sI m15 w 8 (m15.1 w2 8))) (fun m17 => (Option.bind (some (fm_sI m17 w 9 (m17.1 w2 9))) (fun m19 => (Option.bind (some (fm_sA m19 ((w + 6)) (va_cpy (m19.2.1 ((w2 + 6))) (m19.2.1 ((w + 6))) (0 : Int32).toNatClampNeg (0 : Int32).toNatClampNeg (6 : Int32).toNatClampNeg))) (fun m21 => (Option.bind (some (fm_sI m21 w 11 (m21.1 w2 11))) (fun m23 => (Option.bind (some (fm_sA m23 ((w + 7)) (va_cpy (m23.2.1 ((w2 + 7))) (m23.2.1 ((w + 7))) (0 : Int32).toNatClampNeg (0 : Int32).toNatClampNeg (4 : Int32).toNatClampNeg))) (fun m25 => (Option.bind (some (fm_sA m25 ((w + 8)) (va_cpy (m25.2.1 ((w2 + 8))) (m25.2.1 ((w + 8))) (0 : Int32).toNatClampNeg (0 : Int32).toNatClampNeg (4 : Int32).toNatClampNeg))) (fun m27 => (Option.bind (some (fm_sA m27 ((w + 9)) (va_cpy (m27.2.1 ((w2 + 9))) (m27.2.1 ((w + 9))) (0 : Int32).toNatClampNeg (0 : Int32).toNatClampNeg (4 : Int32).toNatClampNeg))) (fun m29 => (Option.bind (some (fm_sI m29 w 15 (m29.1 w2 15))) (fun m31 => some ((), m31)))))))))))))))))))))))))))))))))
set_option maxRecDepth 20000 in
theorem t_X7_copyFrom {X : Nat × (Nat → Int32)} {G : Nat → Nat → Option Nat} (hG : fm_Gok G) {F : Nat} {w : Nat} {w2 : Nat} (hw : fm_isW w = true) (hw2 : fm_isW w2 = true)  {μ : fm_M} {r : Unit × fm_M} (hf : f_X7_copyFrom F w w2 μ = some r) : ab_F 1 54 [.ref w, .ref w2] (hp X G μ) none (hp X G r.2) := by
  unfold f_X7_copyFrom at hf
  refine ab_T.of (d := 0) rfl (Nat.le_of_ble_eq_true rfl) ?_
  show ab_U _ _ kX7_copyFrom (0, [some (.ref w), some (.ref w2)], [], hp X G μ) _
  refine ab_U.run 2 (S' := (2, [some (.ref w), some (.ref w2)], [.ref w2, .ref w], hp X G μ)) rfl ?_
  refine ab_U.gfI (ci := 7) (k9 := 0) rfl (fm_WO hw2) ⟨rfl, rfl, by decide, rfl⟩ ?_
  show ab_U _ _ _ (5, [some (.ref w), some (.ref w2)], [.int (μ.1 w2 0), .ref w], hp X G μ) _
  obtain ⟨m1, e2, hf⟩ := ab_bnd hf
  have e2 := Option.some.inj e2
  refine ab_U.pfI (ci := 7) (k9 := 0) rfl (fm_WO hw) ⟨rfl, rfl, by decide, rfl⟩ rfl ?_
  show ab_U _ _ _ (8, [some (.ref w), some (.ref w2)], [], hp X G (fm_sI μ w 0 (μ.1 w2 0))) _
  rw [e2]
  refine ab_U.run 1 (S' := (9, [some (.ref w), some (.ref w2)], [.ref w2], hp X G m1)) rfl ?_
  refine ab_U.gfW (k9 := 1) rfl hw2 ⟨rfl, rfl, by decide, rfl⟩ ?_
  show ab_U _ _ _ (12, [some (.ref w), some (.ref w2)], [.ref (w2 + 1)], hp X G m1) _
  refine ab_U.run 2 (S' := (14, [some (.ref w), some (.ref w2)], [.ref w, .int 0, .ref (w2 + 1)], hp X G m1)) rfl ?_
  refine ab_U.gfW (k9 := 1) rfl hw ⟨rfl, rfl, by decide, rfl⟩ ?_
  show ab_U _ _ _ (17, [some (.ref w), some (.ref w2)], [.ref (w + 1), .int 0, .ref (w2 + 1)], hp X G m1) _
  refine ab_U.run 2 (S' := (19, [some (.ref w), some (.ref w2)], [.int 4, .int 0, .ref (w + 1), .int 0, .ref (w2 + 1)], hp X G m1)) rfl ?_
  obtain ⟨m3, e4, hf⟩ := ab_bnd hf
  have e4 := Option.some.inj e4
  refine ab_U.acp (n0 := 4) (n := 4) rfl (fm_WA hw2).1 (fm_WA hw).1 ⟨⟨by decide, by decide, by decide⟩, by decide, by decide, Nat.le_of_ble_eq_true rfl⟩ ?_
  show ab_U _ _ _ (22, [some (.ref w), some (.ref w2)], [], hp X G (fm_sA m1 ((w + 1)) (va_cpy (m1.2.1 ((w2 + 1))) (m1.2.1 ((w + 1))) (0 : Int32).toNatClampNeg (0 : Int32).toNatClampNeg (4 : Int32).toNatClampNeg))) _
  rw [e4]
  refine ab_U.run 1 (S' := (23, [some (.ref w), some (.ref w2)], [.ref w2], hp X G m3)) rfl ?_
  refine ab_U.gfW (k9 := 2) rfl hw2 ⟨rfl, rfl, by decide, rfl⟩ ?_
  show ab_U _ _ _ (26, [some (.ref w), some (.ref w2)], [.ref (w2 + 2)], hp X G m3) _
  refine ab_U.run 2 (S' := (28, [some (.ref w), some (.ref w2)], [.ref w, .int 0, .ref (w2 + 2)], hp X G m3)) rfl ?_
  refine ab_U.gfW (k9 := 2) rfl hw ⟨rfl, rfl, by decide, rfl⟩ ?_
  show ab_U _ _ _ (31, [some (.ref w), some (.ref w2)], [.ref (w + 2), .int 0, .ref (w2 + 2)], hp X G m3) _
  refine ab_U.run 2 (S' := (33, [some (.ref w), some (.ref w2)], [.int 4, .int 0, .ref (w + 2), .int 0, .ref (w2 + 2)], hp X G m3)) rfl ?_
  obtain ⟨m5, e6, hf⟩ := ab_bnd hf
  have e6 := Option.some.inj e6
  refine ab_U.acp (n0 := 4) (n := 4) rfl (fm_WA hw2).2.1 (fm_WA hw).2.1 ⟨⟨by decide, by decide, by decide⟩, by decide, by decide, Nat.le_of_ble_eq_true rfl⟩ ?_
  show ab_U _ _ _ (36, [some (.ref w), some (.ref w2)], [], hp X G (fm_sA m3 ((w + 2)) (va_cpy (m3.2.1 ((w2 + 2))) (m3.2.1 ((w + 2))) (0 : Int32).toNatClampNeg (0 : Int32).toNatClampNeg (4 : Int32).toNatClampNeg))) _
  rw [e6]
  refine ab_U.run 2 (S' := (38, [some (.ref w), some (.ref w2)], [.ref w2, .ref w], hp X G m5)) rfl ?_
  refine ab_U.gfI (ci := 7) (k9 := 3) rfl (fm_WO hw2) ⟨rfl, rfl, by decide, rfl⟩ ?_
  show ab_U _ _ _ (41, [some (.ref w), some (.ref w2)], [.int (m5.1 w2 3), .ref w], hp X G m5) _
  obtain ⟨m7, e8, hf⟩ := ab_bnd hf
  have e8 := Option.some.inj e8
  refine ab_U.pfI (ci := 7) (k9 := 3) rfl (fm_WO hw) ⟨rfl, rfl, by decide, rfl⟩ rfl ?_
  show ab_U _ _ _ (44, [some (.ref w), some (.ref w2)], [], hp X G (fm_sI m5 w 3 (m5.1 w2 3))) _
  rw [e8]
  refine ab_U.run 1 (S' := (45, [some (.ref w), some (.ref w2)], [.ref w2], hp X G m7)) rfl ?_
  refine ab_U.gfW (k9 := 4) rfl hw2 ⟨rfl, rfl, by decide, rfl⟩ ?_
  show ab_U _ _ _ (48, [some (.ref w), some (.ref w2)], [.ref (w2 + 3)], hp X G m7) _
  refine ab_U.run 2 (S' := (50, [some (.ref w), some (.ref w2)], [.ref w, .int 0, .ref (w2 + 3)], hp X G m7)) rfl ?_
  refine ab_U.gfW (k9 := 4) rfl hw ⟨rfl, rfl, by decide, rfl⟩ ?_
  show ab_U _ _ _ (53, [some (.ref w), some (.ref w2)], [.ref (w + 3), .int 0, .ref (w2 + 3)], hp X G m7) _
  refine ab_U.run 2 (S' := (55, [some (.ref w), some (.ref w2)], [.int 5, .int 0, .ref (w + 3), .int 0, .ref (w2 + 3)], hp X G m7)) rfl ?_
  obtain ⟨m9, e10, hf⟩ := ab_bnd hf
  have e10 := Option.some.inj e10
  refine ab_U.acp (n0 := 5) (n := 5) rfl (fm_WA hw2).2.2.1 (fm_WA hw).2.2.1 ⟨⟨by decide, by decide, by decide⟩, by decide, by decide, Nat.le_of_ble_eq_true rfl⟩ ?_
  show ab_U _ _ _ (58, [some (.ref w), some (.ref w2)], [], hp X G (fm_sA m7 ((w + 3)) (va_cpy (m7.2.1 ((w2 + 3))) (m7.2.1 ((w + 3))) (0 : Int32).toNatClampNeg (0 : Int32).toNatClampNeg (5 : Int32).toNatClampNeg))) _
  rw [e10]
  refine ab_U.run 1 (S' := (59, [some (.ref w), some (.ref w2)], [.ref w2], hp X G m9)) rfl ?_
  refine ab_U.gfW (k9 := 5) rfl hw2 ⟨rfl, rfl, by decide, rfl⟩ ?_
  show ab_U _ _ _ (62, [some (.ref w), some (.ref w2)], [.ref (w2 + 4)], hp X G m9) _
  refine ab_U.run 2 (S' := (64, [some (.ref w), some (.ref w2)], [.ref w, .int 0, .ref (w2 + 4)], hp X G m9)) rfl ?_
  refine ab_U.gfW (k9 := 5) rfl hw ⟨rfl, rfl, by decide, rfl⟩ ?_
  show ab_U _ _ _ (67, [some (.ref w), some (.ref w2)], [.ref (w + 4), .int 0, .ref (w2 + 4)], hp X G m9) _
  refine ab_U.run 2 (S' := (69, [some (.ref w), some (.ref w2)], [.int 5, .int 0, .ref (w + 4), .int 0, .ref (w2 + 4)], hp X G m9)) rfl ?_
  obtain ⟨m11, e12, hf⟩ := ab_bnd hf
  have e12 := Option.some.inj e12
  refine ab_U.acp (n0 := 5) (n := 5) rfl (fm_WA hw2).2.2.2.1 (fm_WA hw).2.2.2.1 ⟨⟨by decide, by decide, by decide⟩, by decide, by decide, Nat.le_of_ble_eq_true rfl⟩ ?_
  show ab_U _ _ _ (72, [some (.ref w), some (.ref w2)], [], hp X G (fm_sA m9 ((w + 4)) (va_cpy (m9.2.1 ((w2 + 4))) (m9.2.1 ((w + 4))) (0 : Int32).toNatClampNeg (0 : Int32).toNatClampNeg (5 : Int32).toNatClampNeg))) _
  rw [e12]
  refine ab_U.run 1 (S' := (73, [some (.ref w), some (.ref w2)], [.ref w2], hp X G m11)) rfl ?_
  refine ab_U.gfW (k9 := 6) rfl hw2 ⟨rfl, rfl, by decide, rfl⟩ ?_
  show ab_U _ _ _ (76, [some (.ref w), some (.ref w2)], [.ref (w2 + 5)], hp X G m11) _
  refine ab_U.run 2 (S' := (78, [some (.ref w), some (.ref w2)], [.ref w, .int 0, .ref (w2 + 5)], hp X G m11)) rfl ?_
  refine ab_U.gfW (k9 := 6) rfl hw ⟨rfl, rfl, by decide, rfl⟩ ?_
  show ab_U _ _ _ (81, [some (.ref w), some (.ref w2)], [.ref (w + 5), .int 0, .ref (w2 + 5)], hp X G m11) _
  refine ab_U.run 2 (S' := (83, [some (.ref w), some (.ref w2)], [.int 5, .int 0, .ref (w + 5), .int 0, .ref (w2 + 5)], hp X G m11)) rfl ?_
  obtain ⟨m13, e14, hf⟩ := ab_bnd hf
  have e14 := Option.some.inj e14
  refine ab_U.acp (n0 := 5) (n := 5) rfl (fm_WA hw2).2.2.2.2.1 (fm_WA hw).2.2.2.2.1 ⟨⟨by decide, by decide, by decide⟩, by decide, by decide, Nat.le_of_ble_eq_true rfl⟩ ?_
  show ab_U _ _ _ (86, [some (.ref w), some (.ref w2)], [], hp X G (fm_sA m11 ((w + 5)) (va_cpy (m11.2.1 ((w2 + 5))) (m11.2.1 ((w + 5))) (0 : Int32).toNatClampNeg (0 : Int32).toNatClampNeg (5 : Int32).toNatClampNeg))) _
  rw [e14]
  refine ab_U.run 2 (S' := (88, [some (.ref w), some (.ref w2)], [.ref w2, .ref w], hp X G m13)) rfl ?_
  refine ab_U.gfI (ci := 7) (k9 := 7) rfl (fm_WO hw2) ⟨rfl, rfl, by decide, rfl⟩ ?_
  show ab_U _ _ _ (91, [some (.ref w), some (.ref w2)], [.int (m13.1 w2 7), .ref w], hp X G m13) _
  obtain ⟨m15, e16, hf⟩ := ab_bnd hf
  have e16 := Option.some.inj e16
  refine ab_U.pfI (ci := 7) (k9 := 7) rfl (fm_WO hw) ⟨rfl, rfl, by decide, rfl⟩ rfl ?_
  show ab_U _ _ _ (94, [some (.ref w), some (.ref w2)], [], hp X G (fm_sI m13 w 7 (m13.1 w2 7))) _
  rw [e16]
  refine ab_U.run 2 (S' := (96, [some (.ref w), some (.ref w2)], [.ref w2, .ref w], hp X G m15)) rfl ?_
  refine ab_U.gfI (ci := 7) (k9 := 8) rfl (fm_WO hw2) ⟨rfl, rfl, by decide, rfl⟩ ?_
  show ab_U _ _ _ (99, [some (.ref w), some (.ref w2)], [.int (m15.1 w2 8), .ref w], hp X G m15) _
  obtain ⟨m17, e18, hf⟩ := ab_bnd hf
  have e18 := Option.some.inj e18
  refine ab_U.pfI (ci := 7) (k9 := 8) rfl (fm_WO hw) ⟨rfl, rfl, by decide, rfl⟩ rfl ?_
  show ab_U _ _ _ (102, [some (.ref w), some (.ref w2)], [], hp X G (fm_sI m15 w 8 (m15.1 w2 8))) _
  rw [e18]
  refine ab_U.run 2 (S' := (104, [some (.ref w), some (.ref w2)], [.ref w2, .ref w], hp X G m17)) rfl ?_
  refine ab_U.gfI (ci := 7) (k9 := 9) rfl (fm_WO hw2) ⟨rfl, rfl, by decide, rfl⟩ ?_
  show ab_U _ _ _ (107, [some (.ref w), some (.ref w2)], [.int (m17.1 w2 9), .ref w], hp X G m17) _
  obtain ⟨m19, e20, hf⟩ := ab_bnd hf
  have e20 := Option.some.inj e20
  refine ab_U.pfI (ci := 7) (k9 := 9) rfl (fm_WO hw) ⟨rfl, rfl, by decide, rfl⟩ rfl ?_
  show ab_U _ _ _ (110, [some (.ref w), some (.ref w2)], [], hp X G (fm_sI m17 w 9 (m17.1 w2 9))) _
  rw [e20]
  refine ab_U.run 1 (S' := (111, [some (.ref w), some (.ref w2)], [.ref w2], hp X G m19)) rfl ?_
  refine ab_U.gfW (k9 := 10) rfl hw2 ⟨rfl, rfl, by decide, rfl⟩ ?_
  show ab_U _ _ _ (114, [some (.ref w), some (.ref w2)], [.ref (w2 + 6)], hp X G m19) _
  refine ab_U.run 2 (S' := (116, [some (.ref w), some (.ref w2)], [.ref w, .int 0, .ref (w2 + 6)], hp X G m19)) rfl ?_
  refine ab_U.gfW (k9 := 10) rfl hw ⟨rfl, rfl, by decide, rfl⟩ ?_
  show ab_U _ _ _ (119, [some (.ref w), some (.ref w2)], [.ref (w + 6), .int 0, .ref (w2 + 6)], hp X G m19) _
  refine ab_U.run 2 (S' := (122, [some (.ref w), some (.ref w2)], [.int 6, .int 0, .ref (w + 6), .int 0, .ref (w2 + 6)], hp X G m19)) rfl ?_
  obtain ⟨m21, e22, hf⟩ := ab_bnd hf
  have e22 := Option.some.inj e22
  refine ab_U.acp (n0 := 6) (n := 6) rfl (fm_WA hw2).2.2.2.2.2.1 (fm_WA hw).2.2.2.2.2.1 ⟨⟨by decide, by decide, by decide⟩, by decide, by decide, Nat.le_of_ble_eq_true rfl⟩ ?_
  show ab_U _ _ _ (125, [some (.ref w), some (.ref w2)], [], hp X G (fm_sA m19 ((w + 6)) (va_cpy (m19.2.1 ((w2 + 6))) (m19.2.1 ((w + 6))) (0 : Int32).toNatClampNeg (0 : Int32).toNatClampNeg (6 : Int32).toNatClampNeg))) _
  rw [e22]
  refine ab_U.run 2 (S' := (127, [some (.ref w), some (.ref w2)], [.ref w2, .ref w], hp X G m21)) rfl ?_
  refine ab_U.gfI (ci := 7) (k9 := 11) rfl (fm_WO hw2) ⟨rfl, rfl, by decide, rfl⟩ ?_
  show ab_U _ _ _ (130, [some (.ref w), some (.ref w2)], [.int (m21.1 w2 11), .ref w], hp X G m21) _
  obtain ⟨m23, e24, hf⟩ := ab_bnd hf
  have e24 := Option.some.inj e24
  refine ab_U.pfI (ci := 7) (k9 := 11) rfl (fm_WO hw) ⟨rfl, rfl, by decide, rfl⟩ rfl ?_
  show ab_U _ _ _ (133, [some (.ref w), some (.ref w2)], [], hp X G (fm_sI m21 w 11 (m21.1 w2 11))) _
  rw [e24]
  refine ab_U.run 1 (S' := (134, [some (.ref w), some (.ref w2)], [.ref w2], hp X G m23)) rfl ?_
  refine ab_U.gfW (k9 := 12) rfl hw2 ⟨rfl, rfl, by decide, rfl⟩ ?_
  show ab_U _ _ _ (137, [some (.ref w), some (.ref w2)], [.ref (w2 + 7)], hp X G m23) _
  refine ab_U.run 2 (S' := (139, [some (.ref w), some (.ref w2)], [.ref w, .int 0, .ref (w2 + 7)], hp X G m23)) rfl ?_
  refine ab_U.gfW (k9 := 12) rfl hw ⟨rfl, rfl, by decide, rfl⟩ ?_
  show ab_U _ _ _ (142, [some (.ref w), some (.ref w2)], [.ref (w + 7), .int 0, .ref (w2 + 7)], hp X G m23) _
  refine ab_U.run 2 (S' := (144, [some (.ref w), some (.ref w2)], [.int 4, .int 0, .ref (w + 7), .int 0, .ref (w2 + 7)], hp X G m23)) rfl ?_
  obtain ⟨m25, e26, hf⟩ := ab_bnd hf
  have e26 := Option.some.inj e26
  refine ab_U.acp (n0 := 4) (n := 4) rfl (fm_WA hw2).2.2.2.2.2.2.1 (fm_WA hw).2.2.2.2.2.2.1 ⟨⟨by decide, by decide, by decide⟩, by decide, by decide, Nat.le_of_ble_eq_true rfl⟩ ?_
  show ab_U _ _ _ (147, [some (.ref w), some (.ref w2)], [], hp X G (fm_sA m23 ((w + 7)) (va_cpy (m23.2.1 ((w2 + 7))) (m23.2.1 ((w + 7))) (0 : Int32).toNatClampNeg (0 : Int32).toNatClampNeg (4 : Int32).toNatClampNeg))) _
  rw [e26]
  refine ab_U.run 1 (S' := (148, [some (.ref w), some (.ref w2)], [.ref w2], hp X G m25)) rfl ?_
  refine ab_U.gfW (k9 := 13) rfl hw2 ⟨rfl, rfl, by decide, rfl⟩ ?_
  show ab_U _ _ _ (151, [some (.ref w), some (.ref w2)], [.ref (w2 + 8)], hp X G m25) _
  refine ab_U.run 2 (S' := (153, [some (.ref w), some (.ref w2)], [.ref w, .int 0, .ref (w2 + 8)], hp X G m25)) rfl ?_
  refine ab_U.gfW (k9 := 13) rfl hw ⟨rfl, rfl, by decide, rfl⟩ ?_
  show ab_U _ _ _ (156, [some (.ref w), some (.ref w2)], [.ref (w + 8), .int 0, .ref (w2 + 8)], hp X G m25) _
  refine ab_U.run 2 (S' := (158, [some (.ref w), some (.ref w2)], [.int 4, .int 0, .ref (w + 8), .int 0, .ref (w2 + 8)], hp X G m25)) rfl ?_
  obtain ⟨m27, e28, hf⟩ := ab_bnd hf
  have e28 := Option.some.inj e28
  refine ab_U.acp (n0 := 4) (n := 4) rfl (fm_WA hw2).2.2.2.2.2.2.2.1 (fm_WA hw).2.2.2.2.2.2.2.1 ⟨⟨by decide, by decide, by decide⟩, by decide, by decide, Nat.le_of_ble_eq_true rfl⟩ ?_
  show ab_U _ _ _ (161, [some (.ref w), some (.ref w2)], [], hp X G (fm_sA m25 ((w + 8)) (va_cpy (m25.2.1 ((w2 + 8))) (m25.2.1 ((w + 8))) (0 : Int32).toNatClampNeg (0 : Int32).toNatClampNeg (4 : Int32).toNatClampNeg))) _
  rw [e28]
  refine ab_U.run 1 (S' := (162, [some (.ref w), some (.ref w2)], [.ref w2], hp X G m27)) rfl ?_
  refine ab_U.gfW (k9 := 14) rfl hw2 ⟨rfl, rfl, by decide, rfl⟩ ?_
  show ab_U _ _ _ (165, [some (.ref w), some (.ref w2)], [.ref (w2 + 9)], hp X G m27) _
  refine ab_U.run 2 (S' := (167, [some (.ref w), some (.ref w2)], [.ref w, .int 0, .ref (w2 + 9)], hp X G m27)) rfl ?_
  refine ab_U.gfW (k9 := 14) rfl hw ⟨rfl, rfl, by decide, rfl⟩ ?_
  show ab_U _ _ _ (170, [some (.ref w), some (.ref w2)], [.ref (w + 9), .int 0, .ref (w2 + 9)], hp X G m27) _
  refine ab_U.run 2 (S' := (172, [some (.ref w), some (.ref w2)], [.int 4, .int 0, .ref (w + 9), .int 0, .ref (w2 + 9)], hp X G m27)) rfl ?_
  obtain ⟨m29, e30, hf⟩ := ab_bnd hf
  have e30 := Option.some.inj e30
  refine ab_U.acp (n0 := 4) (n := 4) rfl (fm_WA hw2).2.2.2.2.2.2.2.2 (fm_WA hw).2.2.2.2.2.2.2.2 ⟨⟨by decide, by decide, by decide⟩, by decide, by decide, Nat.le_of_ble_eq_true rfl⟩ ?_
  show ab_U _ _ _ (175, [some (.ref w), some (.ref w2)], [], hp X G (fm_sA m27 ((w + 9)) (va_cpy (m27.2.1 ((w2 + 9))) (m27.2.1 ((w + 9))) (0 : Int32).toNatClampNeg (0 : Int32).toNatClampNeg (4 : Int32).toNatClampNeg))) _
  rw [e30]
  refine ab_U.run 2 (S' := (177, [some (.ref w), some (.ref w2)], [.ref w2, .ref w], hp X G m29)) rfl ?_
  refine ab_U.gfI (ci := 7) (k9 := 15) rfl (fm_WO hw2) ⟨rfl, rfl, by decide, rfl⟩ ?_
  show ab_U _ _ _ (180, [some (.ref w), some (.ref w2)], [.int (m29.1 w2 15), .ref w], hp X G m29) _
  obtain ⟨m31, e32, hf⟩ := ab_bnd hf
  have e32 := Option.some.inj e32
  refine ab_U.pfI (ci := 7) (k9 := 15) rfl (fm_WO hw) ⟨rfl, rfl, by decide, rfl⟩ rfl ?_
  show ab_U _ _ _ (183, [some (.ref w), some (.ref w2)], [], hp X G (fm_sI m29 w 15 (m29.1 w2 15))) _
  rw [e32]
  obtain rfl := Option.some.inj hf
  exact ab_U.ret rfl rfl ⟨rfl, rfl⟩
set_option maxRecDepth 20000 in
def b_X2_judge_4 (F : Nat) (w : Nat) (gg : Nat → Int32 → Int32 → fm_M → Option (Unit × fm_M)) (l2 : Int32) (l3 : Int32) (μ : fm_M) : Option (Unit × fm_M) := (if (μ.1 w 11) ≤ l3 then (if l2 ≤ (μ.1 147 0) then some ((), μ) else (Option.bind (some (fm_sI μ 147 0 l2)) (fun m3 => (Option.bind (some (fm_sA m3 148 (va_cpy (m3.2.1 149) (m3.2.1 148) (0 : Int32).toNatClampNeg (0 : Int32).toNatClampNeg (4 : Int32).toNatClampNeg))) (fun m5 => some ((), m5)))))) else (if ab_in 0 5 = true then (if ab_in l3 4 = true then (if (μ.2.1 160 l3.toNatClampNeg) = 0 then gg 4 l2 (l3 + 1) μ else (if ab_in l3 4 = true then (if ¬ (μ.2.1 ((w + 9)) l3.toNatClampNeg) = 0 then gg 4 l2 (l3 + 1) μ else gg 4 (l2 + 1) (l3 + 1) μ) else none)) else none) else none))
def g_X2_judge (F : Nat) (w : Nat) : Nat → Nat → Int32 → Int32 → fm_M → Option (Unit × fm_M)
  | 0, _, _, _, _ => none
  | n + 1, pc, l2, l3, μ => if pc = 4 then b_X2_judge_4 F w (g_X2_judge F w n) l2 l3 μ else none
set_option maxRecDepth 20000 in
theorem t_X2_judge_g {X : Nat × (Nat → Int32)} {G : Nat → Nat → Option Nat} (hG : fm_Gok G) {F : Nat}  {w : Nat} (hw : fm_isW w = true) : ∀ n : Nat, (∀ (l2 : Int32) (l3 : Int32) (μ : fm_M) (r : Unit × fm_M), g_X2_judge F w n 4 l2 l3 μ = some r → ab_U 0 (none) kX2_judge (4, [some (.ref 147), some (.ref w), some (.int l2), some (.int l3)], [], hp X G μ) (fun r9 h9 => r9 = none ∧ h9 = hp X G r.2))
  | 0 => by
    intros
    rename_i h
    cases h
  | n + 1 => by
    have ih := t_X2_judge_g (X := X) hG (F := F)  hw n
    · intro l2 l3 μ r hf
      have hf : b_X2_judge_4 F w (g_X2_judge F w n) l2 l3 μ = some r := hf
      unfold b_X2_judge_4 at hf
      refine ab_U.run 2 (S' := (6, [some (.ref 147), some (.ref w), some (.int l2), some (.int l3)], [.ref w, .int l3], hp X G μ)) rfl ?_
      refine ab_U.gfI (ci := 7) (k9 := 11) rfl (fm_WO hw) ⟨rfl, rfl, by decide, rfl⟩ ?_
      show ab_U _ _ _ (9, [some (.ref 147), some (.ref w), some (.int l2), some (.int l3)], [.int (μ.1 w 11), .int l3], hp X G μ) _
      refine ab_U.ic_ge rfl (fun b1 => ?_) (fun b1 => ?_)
      · rw [if_pos b1] at hf
        refine ab_U.run 3 (S' := (49, [some (.ref 147), some (.ref w), some (.int l2), some (.int l3)], [.int (μ.1 147 0), .int l2], hp X G μ)) rfl ?_
        refine ab_U.ic_le rfl (fun b2 => ?_) (fun b2 => ?_)
        · rw [if_pos b2] at hf
          obtain rfl := Option.some.inj hf
          exact ab_U.ret rfl rfl ⟨rfl, rfl⟩
        · rw [if_neg b2] at hf
          refine ab_U.run 2 (S' := (54, [some (.ref 147), some (.ref w), some (.int l2), some (.int l3)], [.int l2, .ref 147], hp X G μ)) rfl ?_
          obtain ⟨m3, e4, hf⟩ := ab_bnd hf
          have e4 := Option.some.inj e4
          refine ab_U.pfI (ci := 2) (k9 := 0) rfl ⟨by decide, rfl⟩ ⟨rfl, rfl, by decide, rfl⟩ rfl ?_
          show ab_U _ _ _ (57, [some (.ref 147), some (.ref w), some (.int l2), some (.int l3)], [], hp X G (fm_sI μ 147 0 l2)) _
          rw [e4]
          refine ab_U.run 7 (S' := (68, [some (.ref 147), some (.ref w), some (.int l2), some (.int l3)], [.int 4, .int 0, .ref 148, .int 0, .ref 149], hp X G m3)) rfl ?_
          obtain ⟨m5, e6, hf⟩ := ab_bnd hf
          have e6 := Option.some.inj e6
          refine ab_U.acp (n0 := 4) (n := 4) rfl ⟨by decide, rfl⟩ ⟨by decide, rfl⟩ ⟨⟨by decide, by decide, by decide⟩, by decide, by decide, Nat.le_of_ble_eq_true rfl⟩ ?_
          show ab_U _ _ _ (71, [some (.ref 147), some (.ref w), some (.int l2), some (.int l3)], [], hp X G (fm_sA m3 148 (va_cpy (m3.2.1 149) (m3.2.1 148) (0 : Int32).toNatClampNeg (0 : Int32).toNatClampNeg (4 : Int32).toNatClampNeg))) _
          rw [e6]
          obtain rfl := Option.some.inj hf
          exact ab_U.ret rfl rfl ⟨rfl, rfl⟩
      · rw [if_neg b1] at hf
        refine ab_U.run 3 (S' := (17, [some (.ref 147), some (.ref w), some (.int l2), some (.int l3)], [.int 0, .ref 150], hp X G μ)) rfl ?_
        obtain ⟨c7, hf⟩ := ab_ifs hf
        refine ab_U.aaldG (n := 5) (ty := .object "TepidPurse$World") (v := 151) hG rfl ⟨by decide, rfl⟩ rfl c7 rfl rfl ?_
        refine ab_U.run 2 (S' := (22, [some (.ref 147), some (.ref w), some (.int l2), some (.int l3)], [.int l3, .ref 160], hp X G μ)) rfl ?_
        obtain ⟨c8, hf⟩ := ab_ifs hf
        refine ab_U.iald (n := 4) rfl ⟨by decide, rfl⟩ c8 ?_
        show ab_U _ _ _ (23, [some (.ref 147), some (.ref w), some (.int l2), some (.int l3)], [.int (μ.2.1 160 l3.toNatClampNeg)], hp X G μ) _
        refine ab_U.if_eq rfl (fun b9 => ?_) (fun b9 => ?_)
        · rw [if_pos b9] at hf
          refine ab_U.run 2 (S' := (4, [some (.ref 147), some (.ref w), some (.int l2), some (.int (l3 + 1))], [], hp X G μ)) rfl ?_
          exact ab_U.weak (ih _ _ _ _ hf) (ab_leL.of ⟨rfl, ⟨rfl, ⟨rfl, ⟨rfl, trivial⟩⟩⟩⟩)
        · rw [if_neg b9] at hf
          refine ab_U.run 1 (S' := (27, [some (.ref 147), some (.ref w), some (.int l2), some (.int l3)], [.ref w], hp X G μ)) rfl ?_
          refine ab_U.gfW (k9 := 14) rfl hw ⟨rfl, rfl, by decide, rfl⟩ ?_
          show ab_U _ _ _ (30, [some (.ref 147), some (.ref w), some (.int l2), some (.int l3)], [.ref (w + 9)], hp X G μ) _
          refine ab_U.run 1 (S' := (31, [some (.ref 147), some (.ref w), some (.int l2), some (.int l3)], [.int l3, .ref (w + 9)], hp X G μ)) rfl ?_
          obtain ⟨c10, hf⟩ := ab_ifs hf
          refine ab_U.iald (n := 4) rfl (fm_WA hw).2.2.2.2.2.2.2.2 c10 ?_
          show ab_U _ _ _ (32, [some (.ref 147), some (.ref w), some (.int l2), some (.int l3)], [.int (μ.2.1 ((w + 9)) l3.toNatClampNeg)], hp X G μ) _
          refine ab_U.if_ne rfl (fun b11 => ?_) (fun b11 => ?_)
          · rw [if_pos b11] at hf
            refine ab_U.run 2 (S' := (4, [some (.ref 147), some (.ref w), some (.int l2), some (.int (l3 + 1))], [], hp X G μ)) rfl ?_
            exact ab_U.weak (ih _ _ _ _ hf) (ab_leL.of ⟨rfl, ⟨rfl, ⟨rfl, ⟨rfl, trivial⟩⟩⟩⟩)
          · rw [if_neg b11] at hf
            refine ab_U.run 3 (S' := (4, [some (.ref 147), some (.ref w), some (.int (l2 + 1)), some (.int (l3 + 1))], [], hp X G μ)) rfl ?_
            exact ab_U.weak (ih _ _ _ _ hf) (ab_leL.of ⟨rfl, ⟨rfl, ⟨rfl, ⟨rfl, trivial⟩⟩⟩⟩)
set_option maxRecDepth 20000 in
def f_X2_judge (F : Nat) (w : Nat)  (μ : fm_M) : Option (Unit × fm_M) := g_X2_judge F w F 4 0 0 μ
set_option maxRecDepth 20000 in
theorem t_X2_judge {X : Nat × (Nat → Int32)} {G : Nat → Nat → Option Nat} (hG : fm_Gok G) {F : Nat} {w : Nat} (hw : fm_isW w = true)  {μ : fm_M} {r : Unit × fm_M} (hf : f_X2_judge F w μ = some r) : ab_F 1 12 [.ref 147, .ref w] (hp X G μ) none (hp X G r.2) := by
  unfold f_X2_judge at hf
  refine ab_T.of (d := 0) rfl (Nat.le_of_ble_eq_true rfl) ?_
  show ab_U _ _ kX2_judge (0, [some (.ref 147), some (.ref w), none, none], [], hp X G μ) _
  refine ab_U.run 4 (S' := (4, [some (.ref 147), some (.ref w), some (.int 0), some (.int 0)], [], hp X G μ)) rfl ?_
  exact ab_U.weak ((t_X2_judge_g (X := X) hG  hw F) _ _ _ _ hf) (ab_leL.of ⟨rfl, ⟨rfl, ⟨rfl, ⟨rfl, trivial⟩⟩⟩⟩)
set_option maxRecDepth 20000 in
def b_X7_letPass_2 (F : Nat) (w : Nat) (gg : Nat → Int32 → Int32 → fm_M → Option (Unit × fm_M)) (l1 : Int32) (l2 : Int32) (μ : fm_M) : Option (Unit × fm_M) := (if (μ.1 w 3) ≤ l2 then (Option.bind (some (fm_sI μ w 15 ((μ.1 w 15) + l1))) (fun m2 => some ((), m2))) else (if ab_in l2 5 = true then (Option.bind (f_X7_rateOf F w l2 μ) (fun q5 => (Option.bind (f_X8_cooledFor F (μ.2.1 ((w + 4)) l2.toNatClampNeg) q5.1 l1 q5.2) (fun q7 => (if ab_in l2 5 = true then (Option.bind (some (fm_sA q7.2 ((w + 4)) (upd (q7.2.2.1 ((w + 4))) l2.toNatClampNeg q7.1))) (fun m10 => gg 2 l1 (l2 + 1) m10)) else none))))) else none))
def g_X7_letPass (F : Nat) (w : Nat) : Nat → Nat → Int32 → Int32 → fm_M → Option (Unit × fm_M)
  | 0, _, _, _, _ => none
  | n + 1, pc, l1, l2, μ => if pc = 2 then b_X7_letPass_2 F w (g_X7_letPass F w n) l1 l2 μ else none
set_option maxRecDepth 20000 in
theorem t_X7_letPass_g {X : Nat × (Nat → Int32)} {G : Nat → Nat → Option Nat} (hG : fm_Gok G) {F : Nat}  {w : Nat} (hw : fm_isW w = true) : ∀ n : Nat, (∀ (l1 : Int32) (l2 : Int32) (μ : fm_M) (r : Unit × fm_M), g_X7_letPass F w n 2 l1 l2 μ = some r → ab_U 3 (none) kX7_letPass (2, [some (.ref w), some (.int l1), some (.int l2)], [], hp X G μ) (fun r9 h9 => r9 = none ∧ h9 = hp X G r.2))
  | 0 => by
    intros
    rename_i h
    cases h
  | n + 1 => by
    have ih := t_X7_letPass_g (X := X) hG (F := F)  hw n
    · intro l1 l2 μ r hf
      have hf : b_X7_letPass_2 F w (g_X7_letPass F w n) l1 l2 μ = some r := hf
      unfold b_X7_letPass_2 at hf
      refine ab_U.run 2 (S' := (4, [some (.ref w), some (.int l1), some (.int l2)], [.ref w, .int l2], hp X G μ)) rfl ?_
      refine ab_U.gfI (ci := 7) (k9 := 3) rfl (fm_WO hw) ⟨rfl, rfl, by decide, rfl⟩ ?_
      show ab_U _ _ _ (7, [some (.ref w), some (.int l1), some (.int l2)], [.int (μ.1 w 3), .int l2], hp X G μ) _
      refine ab_U.ic_ge rfl (fun b1 => ?_) (fun b1 => ?_)
      · rw [if_pos b1] at hf
        refine ab_U.run 2 (S' := (39, [some (.ref w), some (.int l1), some (.int l2)], [.ref w, .ref w], hp X G μ)) rfl ?_
        refine ab_U.gfI (ci := 7) (k9 := 15) rfl (fm_WO hw) ⟨rfl, rfl, by decide, rfl⟩ ?_
        show ab_U _ _ _ (42, [some (.ref w), some (.int l1), some (.int l2)], [.int (μ.1 w 15), .ref w], hp X G μ) _
        refine ab_U.run 2 (S' := (44, [some (.ref w), some (.int l1), some (.int l2)], [.int ((μ.1 w 15) + l1), .ref w], hp X G μ)) rfl ?_
        obtain ⟨m2, e3, hf⟩ := ab_bnd hf
        have e3 := Option.some.inj e3
        refine ab_U.pfI (ci := 7) (k9 := 15) rfl (fm_WO hw) ⟨rfl, rfl, by decide, rfl⟩ rfl ?_
        show ab_U _ _ _ (47, [some (.ref w), some (.int l1), some (.int l2)], [], hp X G (fm_sI μ w 15 ((μ.1 w 15) + l1))) _
        rw [e3]
        obtain rfl := Option.some.inj hf
        exact ab_U.ret rfl rfl ⟨rfl, rfl⟩
      · rw [if_neg b1] at hf
        refine ab_U.run 1 (S' := (11, [some (.ref w), some (.int l1), some (.int l2)], [.ref w], hp X G μ)) rfl ?_
        refine ab_U.gfW (k9 := 5) rfl hw ⟨rfl, rfl, by decide, rfl⟩ ?_
        show ab_U _ _ _ (14, [some (.ref w), some (.int l1), some (.int l2)], [.ref (w + 4)], hp X G μ) _
        refine ab_U.run 2 (S' := (16, [some (.ref w), some (.int l1), some (.int l2)], [.ref w, .int l2, .ref (w + 4)], hp X G μ)) rfl ?_
        refine ab_U.gfW (k9 := 5) rfl hw ⟨rfl, rfl, by decide, rfl⟩ ?_
        show ab_U _ _ _ (19, [some (.ref w), some (.int l1), some (.int l2)], [.ref (w + 4), .int l2, .ref (w + 4)], hp X G μ) _
        refine ab_U.run 1 (S' := (20, [some (.ref w), some (.int l1), some (.int l2)], [.int l2, .ref (w + 4), .int l2, .ref (w + 4)], hp X G μ)) rfl ?_
        obtain ⟨c4, hf⟩ := ab_ifs hf
        refine ab_U.iald (n := 5) rfl (fm_WA hw).2.2.2.1 c4 ?_
        show ab_U _ _ _ (21, [some (.ref w), some (.int l1), some (.int l2)], [.int (μ.2.1 ((w + 4)) l2.toNatClampNeg), .int l2, .ref (w + 4)], hp X G μ) _
        refine ab_U.run 2 (S' := (23, [some (.ref w), some (.int l1), some (.int l2)], [.int l2, .ref w, .int (μ.2.1 ((w + 4)) l2.toNatClampNeg), .int l2, .ref (w + 4)], hp X G μ)) rfl ?_
        obtain ⟨q5, h6, hf⟩ := ab_bnd hf
        refine ab_U.fnV rfl rfl (fm_WO hw) rfl (t_X7_rateOf (X := X) hG hw h6) (by omega) ?_
        show ab_U _ _ _ (26, [some (.ref w), some (.int l1), some (.int l2)], [.int q5.1, .int (μ.2.1 ((w + 4)) l2.toNatClampNeg), .int l2, .ref (w + 4)], hp X G q5.2) _
        refine ab_U.run 1 (S' := (27, [some (.ref w), some (.int l1), some (.int l2)], [.int l1, .int q5.1, .int (μ.2.1 ((w + 4)) l2.toNatClampNeg), .int l2, .ref (w + 4)], hp X G q5.2)) rfl ?_
        obtain ⟨q7, h8, hf⟩ := ab_bnd hf
        refine ab_U.fn rfl rfl (t_X8_cooledFor (X := X) hG h8) (by omega) ?_
        show ab_U _ _ _ (30, [some (.ref w), some (.int l1), some (.int l2)], [.int q7.1, .int l2, .ref (w + 4)], hp X G q7.2) _
        obtain ⟨c9, hf⟩ := ab_ifs hf
        obtain ⟨m10, e11, hf⟩ := ab_bnd hf
        have e11 := Option.some.inj e11
        refine ab_U.iast (n := 5) rfl (fm_WA hw).2.2.2.1 c9 ?_
        show ab_U _ _ _ (31, [some (.ref w), some (.int l1), some (.int l2)], [], hp X G (fm_sA q7.2 ((w + 4)) (upd (q7.2.2.1 ((w + 4))) l2.toNatClampNeg q7.1))) _
        rw [e11]
        refine ab_U.run 2 (S' := (2, [some (.ref w), some (.int l1), some (.int (l2 + 1))], [], hp X G m10)) rfl ?_
        exact ab_U.weak (ih _ _ _ _ hf) (ab_leL.of ⟨rfl, ⟨rfl, ⟨rfl, trivial⟩⟩⟩)
set_option maxRecDepth 20000 in
def f_X7_letPass (F : Nat) (w : Nat) (x0 : Int32) (μ : fm_M) : Option (Unit × fm_M) := g_X7_letPass F w F 2 x0 0 μ
set_option maxRecDepth 20000 in
theorem t_X7_letPass {X : Nat × (Nat → Int32)} {G : Nat → Nat → Option Nat} (hG : fm_Gok G) {F : Nat} {w : Nat} (hw : fm_isW w = true) {x0 : Int32} {μ : fm_M} {r : Unit × fm_M} (hf : f_X7_letPass F w x0 μ = some r) : ab_F 4 71 [.ref w, .int x0] (hp X G μ) none (hp X G r.2) := by
  unfold f_X7_letPass at hf
  refine ab_T.of (d := 3) rfl (Nat.le_of_ble_eq_true rfl) ?_
  show ab_U _ _ kX7_letPass (0, [some (.ref w), some (.int x0), none], [], hp X G μ) _
  refine ab_U.run 2 (S' := (2, [some (.ref w), some (.int x0), some (.int 0)], [], hp X G μ)) rfl ?_
  exact ab_U.weak ((t_X7_letPass_g (X := X) hG  hw F) _ _ _ _ hf) (ab_leL.of ⟨rfl, ⟨rfl, ⟨rfl, trivial⟩⟩⟩)
set_option maxRecDepth 20000 in
def f_X7_handOver (F : Nat) (w : Nat) (x0 : Int32) (x1 : Int32) (μ : fm_M) : Option (Int32 × fm_M) := (if ab_in x0 5 = true then (Option.bind (f_X7_minutesBetween F w (μ.2.1 ((w + 5)) x0.toNatClampNeg) x1 μ) (fun q2 => (Option.bind (f_X7_letPass F w q2.1 q2.2) (fun q4 => (if ab_in x0 5 = true then (Option.bind (some (fm_sA q4.2 ((w + 5)) (upd (q4.2.2.1 ((w + 5))) x0.toNatClampNeg x1))) (fun m7 => (Option.bind (f_X7_firstOwed F w ((w + 9)) (μ.2.1 ((w + 5)) x0.toNatClampNeg) x1 m7) (fun q9 => (if q9.1 < 0 then (if ab_in x0 5 = true then some ((q9.2.2.1 ((w + 4)) x0.toNatClampNeg), q9.2) else none) else (if ab_in q9.1 4 = true then (if ab_in x0 5 = true then (Option.bind (f_X7_lessened F (q9.2.2.1 ((w + 9)) q9.1.toNatClampNeg) (q9.2.2.1 ((w + 4)) x0.toNatClampNeg) q9.2) (fun q15 => (if ab_in q9.1 4 = true then (Option.bind (some (fm_sA q15.2 ((w + 9)) (upd (q15.2.2.1 ((w + 9))) q9.1.toNatClampNeg q15.1))) (fun m18 => (if ab_in x0 5 = true then some ((m18.2.1 ((w + 4)) x0.toNatClampNeg), m18) else none))) else none))) else none) else none)))))) else none))))) else none)
set_option maxRecDepth 20000 in
theorem t_X7_handOver {X : Nat × (Nat → Int32)} {G : Nat → Nat → Option Nat} (hG : fm_Gok G) {F : Nat} {w : Nat} (hw : fm_isW w = true) {x0 : Int32} {x1 : Int32} {μ : fm_M} {r : Int32 × fm_M} (hf : f_X7_handOver F w x0 x1 μ = some r) : ab_F 5 74 [.ref w, .int x0, .int x1] (hp X G μ) (some (.int r.1)) (hp X G r.2) := by
  unfold f_X7_handOver at hf
  refine ab_T.of (d := 4) rfl (Nat.le_of_ble_eq_true rfl) ?_
  show ab_U _ _ kX7_handOver (0, [some (.ref w), some (.int x0), some (.int x1), none, none], [], hp X G μ) _
  refine ab_U.run 1 (S' := (1, [some (.ref w), some (.int x0), some (.int x1), none, none], [.ref w], hp X G μ)) rfl ?_
  refine ab_U.gfW (k9 := 6) rfl hw ⟨rfl, rfl, by decide, rfl⟩ ?_
  show ab_U _ _ _ (4, [some (.ref w), some (.int x0), some (.int x1), none, none], [.ref (w + 5)], hp X G μ) _
  refine ab_U.run 1 (S' := (5, [some (.ref w), some (.int x0), some (.int x1), none, none], [.int x0, .ref (w + 5)], hp X G μ)) rfl ?_
  obtain ⟨c1, hf⟩ := ab_ifs hf
  refine ab_U.iald (n := 5) rfl (fm_WA hw).2.2.2.2.1 c1 ?_
  show ab_U _ _ _ (6, [some (.ref w), some (.int x0), some (.int x1), none, none], [.int (μ.2.1 ((w + 5)) x0.toNatClampNeg)], hp X G μ) _
  refine ab_U.run 5 (S' := (11, [some (.ref w), some (.int x0), some (.int x1), some (.int (μ.2.1 ((w + 5)) x0.toNatClampNeg)), none], [.int x1, .int (μ.2.1 ((w + 5)) x0.toNatClampNeg), .ref w, .ref w], hp X G μ)) rfl ?_
  obtain ⟨q2, h3, hf⟩ := ab_bnd hf
  refine ab_U.fnV rfl rfl (fm_WO hw) rfl (t_X7_minutesBetween (X := X) hG hw h3) (by omega) ?_
  show ab_U _ _ _ (14, [some (.ref w), some (.int x0), some (.int x1), some (.int (μ.2.1 ((w + 5)) x0.toNatClampNeg)), none], [.int q2.1, .ref w], hp X G q2.2) _
  obtain ⟨q4, h5, hf⟩ := ab_bnd hf
  refine ab_U.fnV rfl rfl (fm_WO hw) rfl (t_X7_letPass (X := X) hG hw h5) (by omega) ?_
  show ab_U _ _ _ (17, [some (.ref w), some (.int x0), some (.int x1), some (.int (μ.2.1 ((w + 5)) x0.toNatClampNeg)), none], [], hp X G q4.2) _
  refine ab_U.run 1 (S' := (18, [some (.ref w), some (.int x0), some (.int x1), some (.int (μ.2.1 ((w + 5)) x0.toNatClampNeg)), none], [.ref w], hp X G q4.2)) rfl ?_
  refine ab_U.gfW (k9 := 6) rfl hw ⟨rfl, rfl, by decide, rfl⟩ ?_
  show ab_U _ _ _ (21, [some (.ref w), some (.int x0), some (.int x1), some (.int (μ.2.1 ((w + 5)) x0.toNatClampNeg)), none], [.ref (w + 5)], hp X G q4.2) _
  refine ab_U.run 2 (S' := (23, [some (.ref w), some (.int x0), some (.int x1), some (.int (μ.2.1 ((w + 5)) x0.toNatClampNeg)), none], [.int x1, .int x0, .ref (w + 5)], hp X G q4.2)) rfl ?_
  obtain ⟨c6, hf⟩ := ab_ifs hf
  obtain ⟨m7, e8, hf⟩ := ab_bnd hf
  have e8 := Option.some.inj e8
  refine ab_U.iast (n := 5) rfl (fm_WA hw).2.2.2.2.1 c6 ?_
  show ab_U _ _ _ (24, [some (.ref w), some (.int x0), some (.int x1), some (.int (μ.2.1 ((w + 5)) x0.toNatClampNeg)), none], [], hp X G (fm_sA q4.2 ((w + 5)) (upd (q4.2.2.1 ((w + 5))) x0.toNatClampNeg x1))) _
  rw [e8]
  refine ab_U.run 2 (S' := (26, [some (.ref w), some (.int x0), some (.int x1), some (.int (μ.2.1 ((w + 5)) x0.toNatClampNeg)), none], [.ref w, .ref w], hp X G m7)) rfl ?_
  refine ab_U.gfW (k9 := 14) rfl hw ⟨rfl, rfl, by decide, rfl⟩ ?_
  show ab_U _ _ _ (29, [some (.ref w), some (.int x0), some (.int x1), some (.int (μ.2.1 ((w + 5)) x0.toNatClampNeg)), none], [.ref (w + 9), .ref w], hp X G m7) _
  refine ab_U.run 2 (S' := (31, [some (.ref w), some (.int x0), some (.int x1), some (.int (μ.2.1 ((w + 5)) x0.toNatClampNeg)), none], [.int x1, .int (μ.2.1 ((w + 5)) x0.toNatClampNeg), .ref (w + 9), .ref w], hp X G m7)) rfl ?_
  obtain ⟨q9, h10, hf⟩ := ab_bnd hf
  refine ab_U.fnV rfl rfl (fm_WO hw) rfl (t_X7_firstOwed (X := X) hG hw h10) (by omega) ?_
  show ab_U _ _ _ (34, [some (.ref w), some (.int x0), some (.int x1), some (.int (μ.2.1 ((w + 5)) x0.toNatClampNeg)), none], [.int q9.1], hp X G q9.2) _
  refine ab_U.run 2 (S' := (38, [some (.ref w), some (.int x0), some (.int x1), some (.int (μ.2.1 ((w + 5)) x0.toNatClampNeg)), some (.int q9.1)], [.int q9.1], hp X G q9.2)) rfl ?_
  refine ab_U.if_lt rfl (fun b11 => ?_) (fun b11 => ?_)
  · rw [if_pos b11] at hf
    refine ab_U.run 1 (S' := (65, [some (.ref w), some (.int x0), some (.int x1), some (.int (μ.2.1 ((w + 5)) x0.toNatClampNeg)), some (.int q9.1)], [.ref w], hp X G q9.2)) rfl ?_
    refine ab_U.gfW (k9 := 5) rfl hw ⟨rfl, rfl, by decide, rfl⟩ ?_
    show ab_U _ _ _ (68, [some (.ref w), some (.int x0), some (.int x1), some (.int (μ.2.1 ((w + 5)) x0.toNatClampNeg)), some (.int q9.1)], [.ref (w + 4)], hp X G q9.2) _
    refine ab_U.run 1 (S' := (69, [some (.ref w), some (.int x0), some (.int x1), some (.int (μ.2.1 ((w + 5)) x0.toNatClampNeg)), some (.int q9.1)], [.int x0, .ref (w + 4)], hp X G q9.2)) rfl ?_
    obtain ⟨c12, hf⟩ := ab_ifs hf
    refine ab_U.iald (n := 5) rfl (fm_WA hw).2.2.2.1 c12 ?_
    show ab_U _ _ _ (70, [some (.ref w), some (.int x0), some (.int x1), some (.int (μ.2.1 ((w + 5)) x0.toNatClampNeg)), some (.int q9.1)], [.int (q9.2.2.1 ((w + 4)) x0.toNatClampNeg)], hp X G q9.2) _
    obtain rfl := Option.some.inj hf
    exact ab_U.ret rfl rfl ⟨rfl, rfl⟩
  · rw [if_neg b11] at hf
    refine ab_U.run 1 (S' := (42, [some (.ref w), some (.int x0), some (.int x1), some (.int (μ.2.1 ((w + 5)) x0.toNatClampNeg)), some (.int q9.1)], [.ref w], hp X G q9.2)) rfl ?_
    refine ab_U.gfW (k9 := 14) rfl hw ⟨rfl, rfl, by decide, rfl⟩ ?_
    show ab_U _ _ _ (45, [some (.ref w), some (.int x0), some (.int x1), some (.int (μ.2.1 ((w + 5)) x0.toNatClampNeg)), some (.int q9.1)], [.ref (w + 9)], hp X G q9.2) _
    refine ab_U.run 2 (S' := (48, [some (.ref w), some (.int x0), some (.int x1), some (.int (μ.2.1 ((w + 5)) x0.toNatClampNeg)), some (.int q9.1)], [.ref w, .int q9.1, .ref (w + 9)], hp X G q9.2)) rfl ?_
    refine ab_U.gfW (k9 := 14) rfl hw ⟨rfl, rfl, by decide, rfl⟩ ?_
    show ab_U _ _ _ (51, [some (.ref w), some (.int x0), some (.int x1), some (.int (μ.2.1 ((w + 5)) x0.toNatClampNeg)), some (.int q9.1)], [.ref (w + 9), .int q9.1, .ref (w + 9)], hp X G q9.2) _
    refine ab_U.run 1 (S' := (53, [some (.ref w), some (.int x0), some (.int x1), some (.int (μ.2.1 ((w + 5)) x0.toNatClampNeg)), some (.int q9.1)], [.int q9.1, .ref (w + 9), .int q9.1, .ref (w + 9)], hp X G q9.2)) rfl ?_
    obtain ⟨c13, hf⟩ := ab_ifs hf
    refine ab_U.iald (n := 4) rfl (fm_WA hw).2.2.2.2.2.2.2.2 c13 ?_
    show ab_U _ _ _ (54, [some (.ref w), some (.int x0), some (.int x1), some (.int (μ.2.1 ((w + 5)) x0.toNatClampNeg)), some (.int q9.1)], [.int (q9.2.2.1 ((w + 9)) q9.1.toNatClampNeg), .int q9.1, .ref (w + 9)], hp X G q9.2) _
    refine ab_U.run 1 (S' := (55, [some (.ref w), some (.int x0), some (.int x1), some (.int (μ.2.1 ((w + 5)) x0.toNatClampNeg)), some (.int q9.1)], [.ref w, .int (q9.2.2.1 ((w + 9)) q9.1.toNatClampNeg), .int q9.1, .ref (w + 9)], hp X G q9.2)) rfl ?_
    refine ab_U.gfW (k9 := 5) rfl hw ⟨rfl, rfl, by decide, rfl⟩ ?_
    show ab_U _ _ _ (58, [some (.ref w), some (.int x0), some (.int x1), some (.int (μ.2.1 ((w + 5)) x0.toNatClampNeg)), some (.int q9.1)], [.ref (w + 4), .int (q9.2.2.1 ((w + 9)) q9.1.toNatClampNeg), .int q9.1, .ref (w + 9)], hp X G q9.2) _
    refine ab_U.run 1 (S' := (59, [some (.ref w), some (.int x0), some (.int x1), some (.int (μ.2.1 ((w + 5)) x0.toNatClampNeg)), some (.int q9.1)], [.int x0, .ref (w + 4), .int (q9.2.2.1 ((w + 9)) q9.1.toNatClampNeg), .int q9.1, .ref (w + 9)], hp X G q9.2)) rfl ?_
    obtain ⟨c14, hf⟩ := ab_ifs hf
    refine ab_U.iald (n := 5) rfl (fm_WA hw).2.2.2.1 c14 ?_
    show ab_U _ _ _ (60, [some (.ref w), some (.int x0), some (.int x1), some (.int (μ.2.1 ((w + 5)) x0.toNatClampNeg)), some (.int q9.1)], [.int (q9.2.2.1 ((w + 4)) x0.toNatClampNeg), .int (q9.2.2.1 ((w + 9)) q9.1.toNatClampNeg), .int q9.1, .ref (w + 9)], hp X G q9.2) _
    obtain ⟨q15, h16, hf⟩ := ab_bnd hf
    refine ab_U.fn rfl rfl (t_X7_lessened (X := X) hG h16) (by omega) ?_
    show ab_U _ _ _ (63, [some (.ref w), some (.int x0), some (.int x1), some (.int (μ.2.1 ((w + 5)) x0.toNatClampNeg)), some (.int q9.1)], [.int q15.1, .int q9.1, .ref (w + 9)], hp X G q15.2) _
    obtain ⟨c17, hf⟩ := ab_ifs hf
    obtain ⟨m18, e19, hf⟩ := ab_bnd hf
    have e19 := Option.some.inj e19
    refine ab_U.iast (n := 4) rfl (fm_WA hw).2.2.2.2.2.2.2.2 c17 ?_
    show ab_U _ _ _ (64, [some (.ref w), some (.int x0), some (.int x1), some (.int (μ.2.1 ((w + 5)) x0.toNatClampNeg)), some (.int q9.1)], [], hp X G (fm_sA q15.2 ((w + 9)) (upd (q15.2.2.1 ((w + 9))) q9.1.toNatClampNeg q15.1))) _
    rw [e19]
    refine ab_U.run 1 (S' := (65, [some (.ref w), some (.int x0), some (.int x1), some (.int (μ.2.1 ((w + 5)) x0.toNatClampNeg)), some (.int q9.1)], [.ref w], hp X G m18)) rfl ?_
    refine ab_U.gfW (k9 := 5) rfl hw ⟨rfl, rfl, by decide, rfl⟩ ?_
    show ab_U _ _ _ (68, [some (.ref w), some (.int x0), some (.int x1), some (.int (μ.2.1 ((w + 5)) x0.toNatClampNeg)), some (.int q9.1)], [.ref (w + 4)], hp X G m18) _
    refine ab_U.run 1 (S' := (69, [some (.ref w), some (.int x0), some (.int x1), some (.int (μ.2.1 ((w + 5)) x0.toNatClampNeg)), some (.int q9.1)], [.int x0, .ref (w + 4)], hp X G m18)) rfl ?_
    obtain ⟨c20, hf⟩ := ab_ifs hf
    refine ab_U.iald (n := 5) rfl (fm_WA hw).2.2.2.1 c20 ?_
    show ab_U _ _ _ (70, [some (.ref w), some (.int x0), some (.int x1), some (.int (μ.2.1 ((w + 5)) x0.toNatClampNeg)), some (.int q9.1)], [.int (m18.2.1 ((w + 4)) x0.toNatClampNeg)], hp X G m18) _
    obtain rfl := Option.some.inj hf
    exact ab_U.ret rfl rfl ⟨rfl, rfl⟩
