/-! by program: each method as a function over the memory, and that our machine does it -/
set_option maxRecDepth 20000 in
def b_X9_buys_28 (F : Nat)  (gg : Nat → Int32 → Int32 → Int32 → Int32 → Int32 → fm_M → Option (Int32 × fm_M)) (l1 : Int32) (l2 : Int32) (l3 : Int32) (l4 : Int32) (l5 : Int32) (μ : fm_M) : Option (Int32 × fm_M) := (if 6 ≤ l5 then (if ¬ l2 = 0 then some (l3, μ) else some (l4, μ)) else (if ab_in (13 + l1) 228 = true then (Option.bind (f_X9_rateOn F 0 l1 μ) (fun q4 => (Option.bind (f_X9_afterOf F (μ.2.1 233 (13 + l1).toNatClampNeg) q4.1 l5 q4.2) (fun q6 => (Option.bind (f_X9_bought F q6.1 l5 q6.2) (fun q8 => (if q8.1 ≤ l3 then (if q8.1 ≤ l3 then gg 28 l1 l2 l3 l4 (l5 + 1) q8.2 else gg 28 l1 l2 q8.1 l4 (l5 + 1) q8.2) else (if q8.1 ≤ l3 then gg 28 l1 l2 l3 l5 (l5 + 1) q8.2 else gg 28 l1 l2 q8.1 l5 (l5 + 1) q8.2)))))))) else none))
def g_X9_buys (F : Nat)  : Nat → Nat → Int32 → Int32 → Int32 → Int32 → Int32 → fm_M → Option (Int32 × fm_M)
  | 0, _, _, _, _, _, _, _ => none
  | n + 1, pc, l1, l2, l3, l4, l5, μ => if pc = 28 then b_X9_buys_28 F  (g_X9_buys F  n) l1 l2 l3 l4 l5 μ else none
set_option maxRecDepth 20000 in
theorem t_X9_buys_g {X : Nat × (Nat → Int32)} {G : Nat → Nat → Option Nat} (hG : fm_Gok G) {F : Nat}    : ∀ n : Nat, (∀ (l1 : Int32) (l2 : Int32) (l3 : Int32) (l4 : Int32) (l5 : Int32) (μ : fm_M) (r : Int32 × fm_M), g_X9_buys F  n 28 l1 l2 l3 l4 l5 μ = some r → ab_U 2 (some .int) kX9_buys (28, [some (.ref 232), some (.int l1), some (.int l2), some (.int l3), some (.int l4), some (.int l5), none], [], hp X G μ) (fun r9 h9 => r9 = some (.int r.1) ∧ h9 = hp X G r.2))
  | 0 => by
    intros
    rename_i h
    cases h
  | n + 1 => by
    have ih := t_X9_buys_g (X := X) hG (F := F)   n
    · intro l1 l2 l3 l4 l5 μ r hf
      have hf : b_X9_buys_28 F  (g_X9_buys F  n) l1 l2 l3 l4 l5 μ = some r := hf
      unfold b_X9_buys_28 at hf
      refine ab_U.run 2 (S' := (32, [some (.ref 232), some (.int l1), some (.int l2), some (.int l3), some (.int l4), some (.int l5), none], [.int 6, .int l5], hp X G μ)) rfl ?_
      refine ab_U.ic_ge rfl (fun b1 => ?_) (fun b1 => ?_)
      · rw [if_pos b1] at hf
        refine ab_U.run 1 (S' := (99, [some (.ref 232), some (.int l1), some (.int l2), some (.int l3), some (.int l4), some (.int l5), none], [.int l2], hp X G μ)) rfl ?_
        refine ab_U.if_ne rfl (fun b2 => ?_) (fun b2 => ?_)
        · rw [if_pos b2] at hf
          refine ab_U.run 1 (S' := (108, [some (.ref 232), some (.int l1), some (.int l2), some (.int l3), some (.int l4), some (.int l5), none], [.int l3], hp X G μ)) rfl ?_
          obtain rfl := Option.some.inj hf
          exact ab_U.ret rfl rfl ⟨rfl, rfl⟩
        · rw [if_neg b2] at hf
          refine ab_U.run 2 (S' := (108, [some (.ref 232), some (.int l1), some (.int l2), some (.int l3), some (.int l4), some (.int l5), none], [.int l4], hp X G μ)) rfl ?_
          obtain rfl := Option.some.inj hf
          exact ab_U.ret rfl rfl ⟨rfl, rfl⟩
      · rw [if_neg b1] at hf
        refine ab_U.run 7 (S' := (45, [some (.ref 232), some (.int l1), some (.int l2), some (.int l3), some (.int l4), some (.int l5), none], [.int (13 + l1), .ref 233, .ref 232, .ref 232], hp X G μ)) rfl ?_
        obtain ⟨c3, hf⟩ := ab_ifs hf
        refine ab_U.iald (n := 228) rfl ⟨by decide, rfl⟩ c3 ?_
        show ab_U _ _ _ (46, [some (.ref 232), some (.int l1), some (.int l2), some (.int l3), some (.int l4), some (.int l5), none], [.int (μ.2.1 233 (13 + l1).toNatClampNeg), .ref 232, .ref 232], hp X G μ) _
        refine ab_U.run 3 (S' := (49, [some (.ref 232), some (.int l1), some (.int l2), some (.int l3), some (.int l4), some (.int l5), none], [.int l1, .int 0, .ref 232, .int (μ.2.1 233 (13 + l1).toNatClampNeg), .ref 232, .ref 232], hp X G μ)) rfl ?_
        obtain ⟨q4, h5, hf⟩ := ab_bnd hf
        refine ab_U.fn rfl rfl (t_X9_rateOn (X := X) hG h5) (by omega) ?_
        show ab_U _ _ _ (52, [some (.ref 232), some (.int l1), some (.int l2), some (.int l3), some (.int l4), some (.int l5), none], [.int q4.1, .int (μ.2.1 233 (13 + l1).toNatClampNeg), .ref 232, .ref 232], hp X G q4.2) _
        refine ab_U.run 1 (S' := (54, [some (.ref 232), some (.int l1), some (.int l2), some (.int l3), some (.int l4), some (.int l5), none], [.int l5, .int q4.1, .int (μ.2.1 233 (13 + l1).toNatClampNeg), .ref 232, .ref 232], hp X G q4.2)) rfl ?_
        obtain ⟨q6, h7, hf⟩ := ab_bnd hf
        refine ab_U.fn rfl rfl (t_X9_afterOf (X := X) hG h7) (by omega) ?_
        show ab_U _ _ _ (57, [some (.ref 232), some (.int l1), some (.int l2), some (.int l3), some (.int l4), some (.int l5), none], [.int q6.1, .ref 232], hp X G q6.2) _
        refine ab_U.run 1 (S' := (59, [some (.ref 232), some (.int l1), some (.int l2), some (.int l3), some (.int l4), some (.int l5), none], [.int l5, .int q6.1, .ref 232], hp X G q6.2)) rfl ?_
        obtain ⟨q8, h9, hf⟩ := ab_bnd hf
        refine ab_U.fn rfl rfl (t_X9_bought (X := X) hG h9) (by omega) ?_
        show ab_U _ _ _ (62, [some (.ref 232), some (.int l1), some (.int l2), some (.int l3), some (.int l4), some (.int l5), none], [.int q8.1], hp X G q8.2) _
        refine ab_U.run 3 (S' := (67, [some (.ref 232), some (.int l1), some (.int l2), some (.int l3), some (.int l4), some (.int l5), some (.int q8.1)], [.int l3, .int q8.1], hp X G q8.2)) rfl ?_
        refine ab_U.ic_le rfl (fun b10 => ?_) (fun b10 => ?_)
        · rw [if_pos b10] at hf
          refine ab_U.run 4 (S' := (82, [some (.ref 232), some (.int l1), some (.int l2), some (.int l3), some (.int l4), some (.int l5), some (.int q8.1)], [.int l3, .int q8.1], hp X G q8.2)) rfl ?_
          refine ab_U.ic_le rfl (fun b11 => ?_) (fun b11 => ?_)
          · rw [if_pos b11] at hf
            refine ab_U.run 4 (S' := (28, [some (.ref 232), some (.int l1), some (.int l2), some (.int l3), some (.int l4), some (.int (l5 + 1)), some (.int q8.1)], [], hp X G q8.2)) rfl ?_
            exact ab_U.weak (ih _ _ _ _ _ _ _ hf) (ab_leL.of ⟨rfl, ⟨rfl, ⟨rfl, ⟨rfl, ⟨rfl, ⟨rfl, trivial⟩⟩⟩⟩⟩⟩)
          · rw [if_neg b11] at hf
            refine ab_U.run 5 (S' := (28, [some (.ref 232), some (.int l1), some (.int l2), some (.int q8.1), some (.int l4), some (.int (l5 + 1)), some (.int q8.1)], [], hp X G q8.2)) rfl ?_
            exact ab_U.weak (ih _ _ _ _ _ _ _ hf) (ab_leL.of ⟨rfl, ⟨rfl, ⟨rfl, ⟨rfl, ⟨rfl, ⟨rfl, trivial⟩⟩⟩⟩⟩⟩)
        · rw [if_neg b10] at hf
          refine ab_U.run 5 (S' := (82, [some (.ref 232), some (.int l1), some (.int l2), some (.int l3), some (.int l5), some (.int l5), some (.int q8.1)], [.int l3, .int q8.1], hp X G q8.2)) rfl ?_
          refine ab_U.ic_le rfl (fun b12 => ?_) (fun b12 => ?_)
          · rw [if_pos b12] at hf
            refine ab_U.run 4 (S' := (28, [some (.ref 232), some (.int l1), some (.int l2), some (.int l3), some (.int l5), some (.int (l5 + 1)), some (.int q8.1)], [], hp X G q8.2)) rfl ?_
            exact ab_U.weak (ih _ _ _ _ _ _ _ hf) (ab_leL.of ⟨rfl, ⟨rfl, ⟨rfl, ⟨rfl, ⟨rfl, ⟨rfl, trivial⟩⟩⟩⟩⟩⟩)
          · rw [if_neg b12] at hf
            refine ab_U.run 5 (S' := (28, [some (.ref 232), some (.int l1), some (.int l2), some (.int q8.1), some (.int l5), some (.int (l5 + 1)), some (.int q8.1)], [], hp X G q8.2)) rfl ?_
            exact ab_U.weak (ih _ _ _ _ _ _ _ hf) (ab_leL.of ⟨rfl, ⟨rfl, ⟨rfl, ⟨rfl, ⟨rfl, ⟨rfl, trivial⟩⟩⟩⟩⟩⟩)
set_option maxRecDepth 20000 in
def f_X9_buys (F : Nat)  (x0 : Int32) (x1 : Int32) (μ : fm_M) : Option (Int32 × fm_M) := (Option.bind (f_X9_isStone F x0 μ) (fun q13 => (if q13.1 = 0 then some ((-1), q13.2) else (Option.bind (f_X9_in F ((x1).toInt64) (Int64.ofNat 0) (Int64.ofNat 1) q13.2) (fun q16 => (if ¬ q16.1 = 0 then g_X9_buys F  F 28 x0 x1 (-1) 0 0 q16.2 else some ((-1), q16.2)))))))
set_option maxRecDepth 20000 in
theorem t_X9_buys {X : Nat × (Nat → Int32)} {G : Nat → Nat → Option Nat} (hG : fm_Gok G) {F : Nat}   {x0 : Int32} {x1 : Int32} {μ : fm_M} {r : Int32 × fm_M} (hf : f_X9_buys F x0 x1 μ = some r) : ab_F 3 197 [.ref 232, .int x0, .int x1] (hp X G μ) (some (.int r.1)) (hp X G r.2) := by
  unfold f_X9_buys at hf
  refine ab_T.of (d := 2) rfl (Nat.le_of_ble_eq_true rfl) ?_
  show ab_U _ _ kX9_buys (0, [some (.ref 232), some (.int x0), some (.int x1), none, none, none, none], [], hp X G μ) _
  refine ab_U.run 2 (S' := (2, [some (.ref 232), some (.int x0), some (.int x1), none, none, none, none], [.int x0, .ref 232], hp X G μ)) rfl ?_
  obtain ⟨q13, h14, hf⟩ := ab_bnd hf
  refine ab_U.fn rfl rfl (t_X9_isStone (X := X) hG h14) (by omega) ?_
  show ab_U _ _ _ (5, [some (.ref 232), some (.int x0), some (.int x1), none, none, none, none], [.int q13.1], hp X G q13.2) _
  refine ab_U.if_eq rfl (fun b15 => ?_) (fun b15 => ?_)
  · rw [if_pos b15] at hf
    refine ab_U.run 1 (S' := (19, [some (.ref 232), some (.int x0), some (.int x1), none, none, none, none], [.int (-1)], hp X G q13.2)) rfl ?_
    obtain rfl := Option.some.inj hf
    exact ab_U.ret rfl rfl ⟨rfl, rfl⟩
  · rw [if_neg b15] at hf
    refine ab_U.run 4 (S' := (12, [some (.ref 232), some (.int x0), some (.int x1), none, none, none, none], [.long (Int64.ofNat 1), .long (Int64.ofNat 0), .long (x1).toInt64], hp X G q13.2)) rfl ?_
    obtain ⟨q16, h17, hf⟩ := ab_bnd hf
    refine ab_U.fn rfl rfl (t_X9_in (X := X) hG h17) (by omega) ?_
    show ab_U _ _ _ (15, [some (.ref 232), some (.int x0), some (.int x1), none, none, none, none], [.int q16.1], hp X G q16.2) _
    refine ab_U.if_ne rfl (fun b18 => ?_) (fun b18 => ?_)
    · rw [if_pos b18] at hf
      refine ab_U.run 6 (S' := (28, [some (.ref 232), some (.int x0), some (.int x1), some (.int (-1)), some (.int 0), some (.int 0), none], [], hp X G q16.2)) rfl ?_
      exact ab_U.weak ((t_X9_buys_g (X := X) hG   F) _ _ _ _ _ _ _ hf) (ab_leL.of ⟨rfl, ⟨rfl, ⟨rfl, ⟨rfl, ⟨rfl, ⟨rfl, trivial⟩⟩⟩⟩⟩⟩)
    · rw [if_neg b18] at hf
      refine ab_U.run 1 (S' := (19, [some (.ref 232), some (.int x0), some (.int x1), none, none, none, none], [.int (-1)], hp X G q16.2)) rfl ?_
      obtain rfl := Option.some.inj hf
      exact ab_U.ret rfl rfl ⟨rfl, rfl⟩
set_option maxRecDepth 20000 in
def b_X9_lowest_6 (F : Nat)  (gg : Nat → Int64 → Int64 → Int32 → Int64 → Int64 → fm_M → Option (Int64 × fm_M)) (l0 : Int64) (l2 : Int64) (l4 : Int32) (l5 : Int64) (l7 : Int64) (μ : fm_M) : Option (Int64 × fm_M) := (if (lg_cmp l7 (Int64.ofNat 0)) = 0 then (if ¬ l4 = 0 then (if ¬ l5 = 0 then some ((l2 / l5), μ) else none) else (if ¬ l5 = 0 then some ((l0 / l5), μ) else none)) else (if ¬ l7 = 0 then gg 6 l0 l2 l4 l7 (l5 - l5 / l7 * l7) μ else none))
def g_X9_lowest (F : Nat)  : Nat → Nat → Int64 → Int64 → Int32 → Int64 → Int64 → fm_M → Option (Int64 × fm_M)
  | 0, _, _, _, _, _, _, _ => none
  | n + 1, pc, l0, l2, l4, l5, l7, μ => if pc = 6 then b_X9_lowest_6 F  (g_X9_lowest F  n) l0 l2 l4 l5 l7 μ else none
set_option maxRecDepth 20000 in
theorem t_X9_lowest_g {X : Nat × (Nat → Int32)} {G : Nat → Nat → Option Nat} (hG : fm_Gok G) {F : Nat}    : ∀ n : Nat, (∀ (l0 : Int64) (l2 : Int64) (l4 : Int32) (l5 : Int64) (l7 : Int64) (μ : fm_M) (r : Int64 × fm_M), g_X9_lowest F  n 6 l0 l2 l4 l5 l7 μ = some r → ab_U 0 (some .long) kX9_lowest (6, [some (.long l0), none, some (.long l2), none, some (.int l4), some (.long l5), none, some (.long l7), none, none, none], [], hp X G μ) (fun r9 h9 => r9 = some (.long r.1) ∧ h9 = hp X G r.2))
  | 0 => by
    intros
    rename_i h
    cases h
  | n + 1 => by
    have ih := t_X9_lowest_g (X := X) hG (F := F)   n
    · intro l0 l2 l4 l5 l7 μ r hf
      have hf : b_X9_lowest_6 F  (g_X9_lowest F  n) l0 l2 l4 l5 l7 μ = some r := hf
      unfold b_X9_lowest_6 at hf
      refine ab_U.run 3 (S' := (10, [some (.long l0), none, some (.long l2), none, some (.int l4), some (.long l5), none, some (.long l7), none, none, none], [.int (lg_cmp l7 (Int64.ofNat 0))], hp X G μ)) rfl ?_
      refine ab_U.if_eq rfl (fun b1 => ?_) (fun b1 => ?_)
      · rw [if_pos b1] at hf
        refine ab_U.run 1 (S' := (33, [some (.long l0), none, some (.long l2), none, some (.int l4), some (.long l5), none, some (.long l7), none, none, none], [.int l4], hp X G μ)) rfl ?_
        refine ab_U.if_ne rfl (fun b2 => ?_) (fun b2 => ?_)
        · rw [if_pos b2] at hf
          refine ab_U.run 2 (S' := (43, [some (.long l0), none, some (.long l2), none, some (.int l4), some (.long l5), none, some (.long l7), none, none, none], [.long l5, .long l2], hp X G μ)) rfl ?_
          obtain ⟨c3, hf⟩ := ab_ifs hf
          refine ab_U.ldv rfl c3 ?_
          obtain rfl := Option.some.inj hf
          exact ab_U.ret rfl rfl ⟨rfl, rfl⟩
        · rw [if_neg b2] at hf
          refine ab_U.run 3 (S' := (43, [some (.long l0), none, some (.long l2), none, some (.int l4), some (.long l5), none, some (.long l7), none, none, none], [.long l5, .long l0], hp X G μ)) rfl ?_
          obtain ⟨c4, hf⟩ := ab_ifs hf
          refine ab_U.ldv rfl c4 ?_
          obtain rfl := Option.some.inj hf
          exact ab_U.ret rfl rfl ⟨rfl, rfl⟩
      · rw [if_neg b1] at hf
        refine ab_U.run 2 (S' := (17, [some (.long l0), none, some (.long l2), none, some (.int l4), some (.long l5), none, some (.long l7), none, none, none], [.long l7, .long l5], hp X G μ)) rfl ?_
        obtain ⟨c5, hf⟩ := ab_ifs hf
        refine ab_U.lrm rfl c5 ?_
        refine ab_U.run 6 (S' := (6, [some (.long l0), none, some (.long l2), none, some (.int l4), some (.long l7), none, some (.long (l5 - l5 / l7 * l7)), none, some (.long (l5 - l5 / l7 * l7)), none], [], hp X G μ)) rfl ?_
        exact ab_U.weak (ih _ _ _ _ _ _ _ hf) (ab_leL.of ⟨rfl, ⟨rfl, ⟨rfl, ⟨rfl, ⟨rfl, trivial⟩⟩⟩⟩⟩)
set_option maxRecDepth 20000 in
def f_X9_lowest (F : Nat)  (x0 : Int64) (x1 : Int64) (x2 : Int32) (μ : fm_M) : Option (Int64 × fm_M) := g_X9_lowest F  F 6 x0 x1 x2 x0 x1 μ
set_option maxRecDepth 20000 in
theorem t_X9_lowest {X : Nat × (Nat → Int32)} {G : Nat → Nat → Option Nat} (hG : fm_Gok G) {F : Nat}   {x0 : Int64} {x1 : Int64} {x2 : Int32} {μ : fm_M} {r : Int64 × fm_M} (hf : f_X9_lowest F x0 x1 x2 μ = some r) : ab_F 1 198 [.long x0, .long x1, .int x2] (hp X G μ) (some (.long r.1)) (hp X G r.2) := by
  unfold f_X9_lowest at hf
  refine ab_T.of (d := 0) rfl (Nat.le_of_ble_eq_true rfl) ?_
  show ab_U _ _ kX9_lowest (0, [some (.long x0), none, some (.long x1), none, some (.int x2), none, none, none, none, none, none], [], hp X G μ) _
  refine ab_U.run 4 (S' := (6, [some (.long x0), none, some (.long x1), none, some (.int x2), some (.long x0), none, some (.long x1), none, none, none], [], hp X G μ)) rfl ?_
  exact ab_U.weak ((t_X9_lowest_g (X := X) hG   F) _ _ _ _ _ _ _ hf) (ab_leL.of ⟨rfl, ⟨rfl, ⟨rfl, ⟨rfl, ⟨rfl, trivial⟩⟩⟩⟩⟩)
set_option maxRecDepth 20000 in
def f_X9_windy (F : Nat)  (x0 : Int32) (x1 : Int32) (μ : fm_M) : Option (Int32 × fm_M) := (Option.bind (f_X9_cooled F x0 x1 μ) (fun q1 => (Option.bind (f_X9_cooled F q1.1 x1 q1.2) (fun q3 => some (q3.1, q3.2)))))
set_option maxRecDepth 20000 in
theorem t_X9_windy {X : Nat × (Nat → Int32)} {G : Nat → Nat → Option Nat} (hG : fm_Gok G) {F : Nat}   {x0 : Int32} {x1 : Int32} {μ : fm_M} {r : Int32 × fm_M} (hf : f_X9_windy F x0 x1 μ = some r) : ab_F 2 199 [.ref 232, .int x0, .int x1] (hp X G μ) (some (.int r.1)) (hp X G r.2) := by
  unfold f_X9_windy at hf
  refine ab_T.of (d := 1) rfl (Nat.le_of_ble_eq_true rfl) ?_
  show ab_U _ _ kX9_windy (0, [some (.ref 232), some (.int x0), some (.int x1)], [], hp X G μ) _
  refine ab_U.run 2 (S' := (2, [some (.ref 232), some (.int x0), some (.int x1)], [.int x1, .int x0], hp X G μ)) rfl ?_
  obtain ⟨q1, h2, hf⟩ := ab_bnd hf
  refine ab_U.fn rfl rfl (t_X9_cooled (X := X) hG h2) (by omega) ?_
  show ab_U _ _ _ (5, [some (.ref 232), some (.int x0), some (.int x1)], [.int q1.1], hp X G q1.2) _
  refine ab_U.run 1 (S' := (6, [some (.ref 232), some (.int x0), some (.int x1)], [.int x1, .int q1.1], hp X G q1.2)) rfl ?_
  obtain ⟨q3, h4, hf⟩ := ab_bnd hf
  refine ab_U.fn rfl rfl (t_X9_cooled (X := X) hG h4) (by omega) ?_
  show ab_U _ _ _ (9, [some (.ref 232), some (.int x0), some (.int x1)], [.int q3.1], hp X G q3.2) _
  obtain rfl := Option.some.inj hf
  exact ab_U.ret rfl rfl ⟨rfl, rfl⟩
set_option maxRecDepth 20000 in
def b_X9_byWind_28 (F : Nat)  (gg : Nat → Int32 → Int32 → Int32 → Int32 → Int32 → Int32 → Int64 → Int64 → Int32 → Int32 → Int64 → Int32 → fm_M → Option (Int64 × fm_M)) (l1 : Int32) (l2 : Int32) (l3 : Int32) (l4 : Int32) (l5 : Int32) (l6 : Int32) (l7 : Int64) (l9 : Int64) (l11 : Int32) (l12 : Int32) (l13 : Int64) (l15 : Int32) (μ : fm_M) : Option (Int64 × fm_M) := (if l2 ≤ l11 then gg 51 l1 l2 l3 l4 l5 l6 l7 l9 0 0 0 0 μ else gg 28 l1 l2 l3 l4 l5 l6 l7 (l9 * (Int64.ofNat 10)) (l11 + 1) 0 0 0 μ)
set_option maxRecDepth 20000 in
def b_X9_byWind_51 (F : Nat)  (gg : Nat → Int32 → Int32 → Int32 → Int32 → Int32 → Int32 → Int64 → Int64 → Int32 → Int32 → Int64 → Int32 → fm_M → Option (Int64 × fm_M)) (l1 : Int32) (l2 : Int32) (l3 : Int32) (l4 : Int32) (l5 : Int32) (l6 : Int32) (l7 : Int64) (l9 : Int64) (l11 : Int32) (l12 : Int32) (l13 : Int64) (l15 : Int32) (μ : fm_M) : Option (Int64 × fm_M) := (if (1 <<< (l2 &&& 31)) ≤ l11 then (Option.bind (f_X9_lowest F l7 l9 l4 μ) (fun q3 => some (q3.1, q3.2))) else (if ab_in (13 + l1) 228 = true then gg 76 l1 l2 l3 l4 l5 l6 l7 l9 l11 (μ.2.1 233 (13 + l1).toNatClampNeg) (Int64.ofNat 1) 0 μ else none))
set_option maxRecDepth 20000 in
def b_X9_byWind_76 (F : Nat)  (gg : Nat → Int32 → Int32 → Int32 → Int32 → Int32 → Int32 → Int64 → Int64 → Int32 → Int32 → Int64 → Int32 → fm_M → Option (Int64 × fm_M)) (l1 : Int32) (l2 : Int32) (l3 : Int32) (l4 : Int32) (l5 : Int32) (l6 : Int32) (l7 : Int64) (l9 : Int64) (l11 : Int32) (l12 : Int32) (l13 : Int64) (l15 : Int32) (μ : fm_M) : Option (Int64 × fm_M) := (if l2 ≤ l15 then (if l3 = 0 then (if l12 < 5 then gg 51 l1 l2 l3 l4 l5 l6 (l7 + (l13 * (0 : Int32).toInt64)) l9 (l11 + 1) 0 0 0 μ else gg 51 l1 l2 l3 l4 l5 l6 (l7 + (l13 * (1 : Int32).toInt64)) l9 (l11 + 1) 0 0 0 μ) else gg 51 l1 l2 l3 l4 l5 l6 (l7 + (l13 * (l12).toInt64)) l9 (l11 + 1) 0 0 0 μ) else (if ¬ ((l11 >>> (l15 &&& 31)) &&& 1) = 1 then (Option.bind (f_X9_cooled F l12 l5 μ) (fun q10 => gg 76 l1 l2 l3 l4 l5 l6 l7 l9 l11 q10.1 (l13 * ((10 - l6)).toInt64) (l15 + 1) q10.2)) else (Option.bind (f_X9_windy F l12 l5 μ) (fun q12 => gg 76 l1 l2 l3 l4 l5 l6 l7 l9 l11 q12.1 (l13 * (l6).toInt64) (l15 + 1) q12.2))))
def g_X9_byWind (F : Nat)  : Nat → Nat → Int32 → Int32 → Int32 → Int32 → Int32 → Int32 → Int64 → Int64 → Int32 → Int32 → Int64 → Int32 → fm_M → Option (Int64 × fm_M)
  | 0, _, _, _, _, _, _, _, _, _, _, _, _, _, _ => none
  | n + 1, pc, l1, l2, l3, l4, l5, l6, l7, l9, l11, l12, l13, l15, μ => if pc = 28 then b_X9_byWind_28 F  (g_X9_byWind F  n) l1 l2 l3 l4 l5 l6 l7 l9 l11 l12 l13 l15 μ else if pc = 51 then b_X9_byWind_51 F  (g_X9_byWind F  n) l1 l2 l3 l4 l5 l6 l7 l9 l11 l12 l13 l15 μ else if pc = 76 then b_X9_byWind_76 F  (g_X9_byWind F  n) l1 l2 l3 l4 l5 l6 l7 l9 l11 l12 l13 l15 μ else none
set_option maxRecDepth 20000 in
theorem t_X9_byWind_g {X : Nat × (Nat → Int32)} {G : Nat → Nat → Option Nat} (hG : fm_Gok G) {F : Nat}    : ∀ n : Nat, (∀ (l1 : Int32) (l2 : Int32) (l3 : Int32) (l4 : Int32) (l5 : Int32) (l6 : Int32) (l7 : Int64) (l9 : Int64) (l11 : Int32) (l12 : Int32) (l13 : Int64) (l15 : Int32) (μ : fm_M) (r : Int64 × fm_M), g_X9_byWind F  n 28 l1 l2 l3 l4 l5 l6 l7 l9 l11 l12 l13 l15 μ = some r → ab_U 2 (some .long) kX9_byWind (28, [some (.ref 232), some (.int l1), some (.int l2), some (.int l3), some (.int l4), some (.int l5), some (.int l6), some (.long l7), none, some (.long l9), none, some (.int l11), none, none, none, none, none], [], hp X G μ) (fun r9 h9 => r9 = some (.long r.1) ∧ h9 = hp X G r.2)) ∧ (∀ (l1 : Int32) (l2 : Int32) (l3 : Int32) (l4 : Int32) (l5 : Int32) (l6 : Int32) (l7 : Int64) (l9 : Int64) (l11 : Int32) (l12 : Int32) (l13 : Int64) (l15 : Int32) (μ : fm_M) (r : Int64 × fm_M), g_X9_byWind F  n 51 l1 l2 l3 l4 l5 l6 l7 l9 l11 l12 l13 l15 μ = some r → ab_U 2 (some .long) kX9_byWind (51, [some (.ref 232), some (.int l1), some (.int l2), some (.int l3), some (.int l4), some (.int l5), some (.int l6), some (.long l7), none, some (.long l9), none, some (.int l11), none, none, none, none, none], [], hp X G μ) (fun r9 h9 => r9 = some (.long r.1) ∧ h9 = hp X G r.2)) ∧ (∀ (l1 : Int32) (l2 : Int32) (l3 : Int32) (l4 : Int32) (l5 : Int32) (l6 : Int32) (l7 : Int64) (l9 : Int64) (l11 : Int32) (l12 : Int32) (l13 : Int64) (l15 : Int32) (μ : fm_M) (r : Int64 × fm_M), g_X9_byWind F  n 76 l1 l2 l3 l4 l5 l6 l7 l9 l11 l12 l13 l15 μ = some r → ab_U 2 (some .long) kX9_byWind (76, [some (.ref 232), some (.int l1), some (.int l2), some (.int l3), some (.int l4), some (.int l5), some (.int l6), some (.long l7), none, some (.long l9), none, some (.int l11), some (.int l12), some (.long l13), none, some (.int l15), none], [], hp X G μ) (fun r9 h9 => r9 = some (.long r.1) ∧ h9 = hp X G r.2))
  | 0 => by
    refine ⟨?_, ?_, ?_⟩
    all_goals (intros; rename_i h; cases h)
  | n + 1 => by
    have ih := t_X9_byWind_g (X := X) hG (F := F)   n
    refine ⟨?_, ?_, ?_⟩
    · intro l1 l2 l3 l4 l5 l6 l7 l9 l11 l12 l13 l15 μ r hf
      have hf : b_X9_byWind_28 F  (g_X9_byWind F  n) l1 l2 l3 l4 l5 l6 l7 l9 l11 l12 l13 l15 μ = some r := hf
      unfold b_X9_byWind_28 at hf
      refine ab_U.run 2 (S' := (31, [some (.ref 232), some (.int l1), some (.int l2), some (.int l3), some (.int l4), some (.int l5), some (.int l6), some (.long l7), none, some (.long l9), none, some (.int l11), none, none, none, none, none], [.int l2, .int l11], hp X G μ)) rfl ?_
      refine ab_U.ic_ge rfl (fun b1 => ?_) (fun b1 => ?_)
      · rw [if_pos b1] at hf
        refine ab_U.run 2 (S' := (51, [some (.ref 232), some (.int l1), some (.int l2), some (.int l3), some (.int l4), some (.int l5), some (.int l6), some (.long l7), none, some (.long l9), none, some (.int 0), none, none, none, none, none], [], hp X G μ)) rfl ?_
        exact ab_U.weak (ih.2.1 _ _ _ _ _ _ _ _ _ _ _ _ _ _ hf) (ab_leL.of ⟨rfl, ⟨rfl, ⟨rfl, ⟨rfl, ⟨rfl, ⟨rfl, ⟨rfl, ⟨rfl, ⟨rfl, ⟨rfl, trivial⟩⟩⟩⟩⟩⟩⟩⟩⟩⟩)
      · rw [if_neg b1] at hf
        refine ab_U.run 6 (S' := (28, [some (.ref 232), some (.int l1), some (.int l2), some (.int l3), some (.int l4), some (.int l5), some (.int l6), some (.long l7), none, some (.long (l9 * (Int64.ofNat 10))), none, some (.int (l11 + 1)), none, none, none, none, none], [], hp X G μ)) rfl ?_
        exact ab_U.weak (ih.1 _ _ _ _ _ _ _ _ _ _ _ _ _ _ hf) (ab_leL.of ⟨rfl, ⟨rfl, ⟨rfl, ⟨rfl, ⟨rfl, ⟨rfl, ⟨rfl, ⟨rfl, ⟨rfl, ⟨rfl, trivial⟩⟩⟩⟩⟩⟩⟩⟩⟩⟩)
    · intro l1 l2 l3 l4 l5 l6 l7 l9 l11 l12 l13 l15 μ r hf
      have hf : b_X9_byWind_51 F  (g_X9_byWind F  n) l1 l2 l3 l4 l5 l6 l7 l9 l11 l12 l13 l15 μ = some r := hf
      unfold b_X9_byWind_51 at hf
      refine ab_U.run 4 (S' := (56, [some (.ref 232), some (.int l1), some (.int l2), some (.int l3), some (.int l4), some (.int l5), some (.int l6), some (.long l7), none, some (.long l9), none, some (.int l11), none, none, none, none, none], [.int (1 <<< (l2 &&& 31)), .int l11], hp X G μ)) rfl ?_
      refine ab_U.ic_ge rfl (fun b2 => ?_) (fun b2 => ?_)
      · rw [if_pos b2] at hf
        refine ab_U.run 3 (S' := (194, [some (.ref 232), some (.int l1), some (.int l2), some (.int l3), some (.int l4), some (.int l5), some (.int l6), some (.long l7), none, some (.long l9), none, some (.int l11), none, none, none, none, none], [.int l4, .long l9, .long l7], hp X G μ)) rfl ?_
        obtain ⟨q3, h4, hf⟩ := ab_bnd hf
        refine ab_U.fn rfl rfl (t_X9_lowest (X := X) hG h4) (by omega) ?_
        show ab_U _ _ _ (197, [some (.ref 232), some (.int l1), some (.int l2), some (.int l3), some (.int l4), some (.int l5), some (.int l6), some (.long l7), none, some (.long l9), none, some (.int l11), none, none, none, none, none], [.long q3.1], hp X G q3.2) _
        obtain rfl := Option.some.inj hf
        exact ab_U.ret rfl rfl ⟨rfl, rfl⟩
      · rw [if_neg b2] at hf
        refine ab_U.run 5 (S' := (67, [some (.ref 232), some (.int l1), some (.int l2), some (.int l3), some (.int l4), some (.int l5), some (.int l6), some (.long l7), none, some (.long l9), none, some (.int l11), none, none, none, none, none], [.int (13 + l1), .ref 233], hp X G μ)) rfl ?_
        obtain ⟨c5, hf⟩ := ab_ifs hf
        refine ab_U.iald (n := 228) rfl ⟨by decide, rfl⟩ c5 ?_
        show ab_U _ _ _ (68, [some (.ref 232), some (.int l1), some (.int l2), some (.int l3), some (.int l4), some (.int l5), some (.int l6), some (.long l7), none, some (.long l9), none, some (.int l11), none, none, none, none, none], [.int (μ.2.1 233 (13 + l1).toNatClampNeg)], hp X G μ) _
        refine ab_U.run 5 (S' := (76, [some (.ref 232), some (.int l1), some (.int l2), some (.int l3), some (.int l4), some (.int l5), some (.int l6), some (.long l7), none, some (.long l9), none, some (.int l11), some (.int (μ.2.1 233 (13 + l1).toNatClampNeg)), some (.long (Int64.ofNat 1)), none, some (.int 0), none], [], hp X G μ)) rfl ?_
        exact ab_U.weak (ih.2.2 _ _ _ _ _ _ _ _ _ _ _ _ _ _ hf) (ab_leL.of ⟨rfl, ⟨rfl, ⟨rfl, ⟨rfl, ⟨rfl, ⟨rfl, ⟨rfl, ⟨rfl, ⟨rfl, ⟨rfl, ⟨rfl, ⟨rfl, ⟨rfl, trivial⟩⟩⟩⟩⟩⟩⟩⟩⟩⟩⟩⟩⟩)
    · intro l1 l2 l3 l4 l5 l6 l7 l9 l11 l12 l13 l15 μ r hf
      have hf : b_X9_byWind_76 F  (g_X9_byWind F  n) l1 l2 l3 l4 l5 l6 l7 l9 l11 l12 l13 l15 μ = some r := hf
      unfold b_X9_byWind_76 at hf
      refine ab_U.run 2 (S' := (79, [some (.ref 232), some (.int l1), some (.int l2), some (.int l3), some (.int l4), some (.int l5), some (.int l6), some (.long l7), none, some (.long l9), none, some (.int l11), some (.int l12), some (.long l13), none, some (.int l15), none], [.int l2, .int l15], hp X G μ)) rfl ?_
      refine ab_U.ic_ge rfl (fun b6 => ?_) (fun b6 => ?_)
      · rw [if_pos b6] at hf
        refine ab_U.run 3 (S' := (158, [some (.ref 232), some (.int l1), some (.int l2), some (.int l3), some (.int l4), some (.int l5), some (.int l6), some (.long l7), none, some (.long l9), none, some (.int l11), some (.int l12), some (.long l13), none, some (.int l15), none], [.int l3, .long l13, .long l7], hp X G μ)) rfl ?_
        refine ab_U.if_eq rfl (fun b7 => ?_) (fun b7 => ?_)
        · rw [if_pos b7] at hf
          refine ab_U.run 2 (S' := (169, [some (.ref 232), some (.int l1), some (.int l2), some (.int l3), some (.int l4), some (.int l5), some (.int l6), some (.long l7), none, some (.long l9), none, some (.int l11), some (.int l12), some (.long l13), none, some (.int l15), none], [.int 5, .int l12, .long l13, .long l7], hp X G μ)) rfl ?_
          refine ab_U.ic_lt rfl (fun b8 => ?_) (fun b8 => ?_)
          · rw [if_pos b8] at hf
            refine ab_U.run 7 (S' := (51, [some (.ref 232), some (.int l1), some (.int l2), some (.int l3), some (.int l4), some (.int l5), some (.int l6), some (.long (l7 + (l13 * (0 : Int32).toInt64))), none, some (.long l9), none, some (.int (l11 + 1)), some (.int l12), some (.long l13), none, some (.int l15), none], [], hp X G μ)) rfl ?_
            exact ab_U.weak (ih.2.1 _ _ _ _ _ _ _ _ _ _ _ _ _ _ hf) (ab_leL.of ⟨rfl, ⟨rfl, ⟨rfl, ⟨rfl, ⟨rfl, ⟨rfl, ⟨rfl, ⟨rfl, ⟨rfl, ⟨rfl, trivial⟩⟩⟩⟩⟩⟩⟩⟩⟩⟩)
          · rw [if_neg b8] at hf
            refine ab_U.run 8 (S' := (51, [some (.ref 232), some (.int l1), some (.int l2), some (.int l3), some (.int l4), some (.int l5), some (.int l6), some (.long (l7 + (l13 * (1 : Int32).toInt64))), none, some (.long l9), none, some (.int (l11 + 1)), some (.int l12), some (.long l13), none, some (.int l15), none], [], hp X G μ)) rfl ?_
            exact ab_U.weak (ih.2.1 _ _ _ _ _ _ _ _ _ _ _ _ _ _ hf) (ab_leL.of ⟨rfl, ⟨rfl, ⟨rfl, ⟨rfl, ⟨rfl, ⟨rfl, ⟨rfl, ⟨rfl, ⟨rfl, ⟨rfl, trivial⟩⟩⟩⟩⟩⟩⟩⟩⟩⟩)
        · rw [if_neg b7] at hf
          refine ab_U.run 8 (S' := (51, [some (.ref 232), some (.int l1), some (.int l2), some (.int l3), some (.int l4), some (.int l5), some (.int l6), some (.long (l7 + (l13 * (l12).toInt64))), none, some (.long l9), none, some (.int (l11 + 1)), some (.int l12), some (.long l13), none, some (.int l15), none], [], hp X G μ)) rfl ?_
          exact ab_U.weak (ih.2.1 _ _ _ _ _ _ _ _ _ _ _ _ _ _ hf) (ab_leL.of ⟨rfl, ⟨rfl, ⟨rfl, ⟨rfl, ⟨rfl, ⟨rfl, ⟨rfl, ⟨rfl, ⟨rfl, ⟨rfl, trivial⟩⟩⟩⟩⟩⟩⟩⟩⟩⟩)
      · rw [if_neg b6] at hf
        refine ab_U.run 6 (S' := (90, [some (.ref 232), some (.int l1), some (.int l2), some (.int l3), some (.int l4), some (.int l5), some (.int l6), some (.long l7), none, some (.long l9), none, some (.int l11), some (.int l12), some (.long l13), none, some (.int l15), none], [.int 1, .int ((l11 >>> (l15 &&& 31)) &&& 1)], hp X G μ)) rfl ?_
        refine ab_U.ic_ne rfl (fun b9 => ?_) (fun b9 => ?_)
        · rw [if_pos b9] at hf
          refine ab_U.run 6 (S' := (120, [some (.ref 232), some (.int l1), some (.int l2), some (.int l3), some (.int l4), some (.int l5), some (.int l6), some (.long l7), none, some (.long l9), none, some (.int l11), some (.int l12), some (.long l13), none, some (.int l15), some (.int 0)], [.int l5, .int l12], hp X G μ)) rfl ?_
          obtain ⟨q10, h11, hf⟩ := ab_bnd hf
          refine ab_U.fn rfl rfl (t_X9_cooled (X := X) hG h11) (by omega) ?_
          show ab_U _ _ _ (123, [some (.ref 232), some (.int l1), some (.int l2), some (.int l3), some (.int l4), some (.int l5), some (.int l6), some (.long l7), none, some (.long l9), none, some (.int l11), some (.int l12), some (.long l13), none, some (.int l15), some (.int 0)], [.int q10.1], hp X G q10.2) _
          refine ab_U.run 12 (S' := (76, [some (.ref 232), some (.int l1), some (.int l2), some (.int l3), some (.int l4), some (.int l5), some (.int l6), some (.long l7), none, some (.long l9), none, some (.int l11), some (.int q10.1), some (.long (l13 * ((10 - l6)).toInt64)), none, some (.int (l15 + 1)), some (.int 0)], [], hp X G q10.2)) rfl ?_
          exact ab_U.weak (ih.2.2 _ _ _ _ _ _ _ _ _ _ _ _ _ _ hf) (ab_leL.of ⟨rfl, ⟨rfl, ⟨rfl, ⟨rfl, ⟨rfl, ⟨rfl, ⟨rfl, ⟨rfl, ⟨rfl, ⟨rfl, ⟨rfl, ⟨rfl, ⟨rfl, trivial⟩⟩⟩⟩⟩⟩⟩⟩⟩⟩⟩⟩⟩)
        · rw [if_neg b9] at hf
          refine ab_U.run 8 (S' := (110, [some (.ref 232), some (.int l1), some (.int l2), some (.int l3), some (.int l4), some (.int l5), some (.int l6), some (.long l7), none, some (.long l9), none, some (.int l11), some (.int l12), some (.long l13), none, some (.int l15), some (.int 1)], [.int l5, .int l12, .ref 232], hp X G μ)) rfl ?_
          obtain ⟨q12, h13, hf⟩ := ab_bnd hf
          refine ab_U.fn rfl rfl (t_X9_windy (X := X) hG h13) (by omega) ?_
          show ab_U _ _ _ (113, [some (.ref 232), some (.int l1), some (.int l2), some (.int l3), some (.int l4), some (.int l5), some (.int l6), some (.long l7), none, some (.long l9), none, some (.int l11), some (.int l12), some (.long l13), none, some (.int l15), some (.int 1)], [.int q12.1], hp X G q12.2) _
          refine ab_U.run 12 (S' := (76, [some (.ref 232), some (.int l1), some (.int l2), some (.int l3), some (.int l4), some (.int l5), some (.int l6), some (.long l7), none, some (.long l9), none, some (.int l11), some (.int q12.1), some (.long (l13 * (l6).toInt64)), none, some (.int (l15 + 1)), some (.int 1)], [], hp X G q12.2)) rfl ?_
          exact ab_U.weak (ih.2.2 _ _ _ _ _ _ _ _ _ _ _ _ _ _ hf) (ab_leL.of ⟨rfl, ⟨rfl, ⟨rfl, ⟨rfl, ⟨rfl, ⟨rfl, ⟨rfl, ⟨rfl, ⟨rfl, ⟨rfl, ⟨rfl, ⟨rfl, ⟨rfl, trivial⟩⟩⟩⟩⟩⟩⟩⟩⟩⟩⟩⟩⟩)
set_option maxRecDepth 20000 in
def f_X9_byWind (F : Nat)  (x0 : Int32) (x1 : Int32) (x2 : Int32) (x3 : Int32) (μ : fm_M) : Option (Int64 × fm_M) := (Option.bind (f_X9_rateOn F 0 x0 μ) (fun q14 => (if ab_in 26 228 = true then g_X9_byWind F  F 28 x0 x1 x2 x3 q14.1 ((q14.2.2.1 233 (26 : Int32).toNatClampNeg) + 2) (Int64.ofNat 0) (Int64.ofNat 1) 0 0 0 0 q14.2 else none)))
set_option maxRecDepth 20000 in
theorem t_X9_byWind {X : Nat × (Nat → Int32)} {G : Nat → Nat → Option Nat} (hG : fm_Gok G) {F : Nat}   {x0 : Int32} {x1 : Int32} {x2 : Int32} {x3 : Int32} {μ : fm_M} {r : Int64 × fm_M} (hf : f_X9_byWind F x0 x1 x2 x3 μ = some r) : ab_F 3 200 [.ref 232, .int x0, .int x1, .int x2, .int x3] (hp X G μ) (some (.long r.1)) (hp X G r.2) := by
  unfold f_X9_byWind at hf
  refine ab_T.of (d := 2) rfl (Nat.le_of_ble_eq_true rfl) ?_
  show ab_U _ _ kX9_byWind (0, [some (.ref 232), some (.int x0), some (.int x1), some (.int x2), some (.int x3), none, none, none, none, none, none, none, none, none, none, none, none], [], hp X G μ) _
  refine ab_U.run 3 (S' := (3, [some (.ref 232), some (.int x0), some (.int x1), some (.int x2), some (.int x3), none, none, none, none, none, none, none, none, none, none, none, none], [.int x0, .int 0, .ref 232], hp X G μ)) rfl ?_
  obtain ⟨q14, h15, hf⟩ := ab_bnd hf
  refine ab_U.fn rfl rfl (t_X9_rateOn (X := X) hG h15) (by omega) ?_
  show ab_U _ _ _ (6, [some (.ref 232), some (.int x0), some (.int x1), some (.int x2), some (.int x3), none, none, none, none, none, none, none, none, none, none, none, none], [.int q14.1], hp X G q14.2) _
  refine ab_U.run 4 (S' := (14, [some (.ref 232), some (.int x0), some (.int x1), some (.int x2), some (.int x3), some (.int q14.1), none, none, none, none, none, none, none, none, none, none, none], [.int 26, .ref 233], hp X G q14.2)) rfl ?_
  obtain ⟨c16, hf⟩ := ab_ifs hf
  refine ab_U.iald (n := 228) rfl ⟨by decide, rfl⟩ c16 ?_
  show ab_U _ _ _ (15, [some (.ref 232), some (.int x0), some (.int x1), some (.int x2), some (.int x3), some (.int q14.1), none, none, none, none, none, none, none, none, none, none, none], [.int (q14.2.2.1 233 (26 : Int32).toNatClampNeg)], hp X G q14.2) _
  refine ab_U.run 9 (S' := (28, [some (.ref 232), some (.int x0), some (.int x1), some (.int x2), some (.int x3), some (.int q14.1), some (.int ((q14.2.2.1 233 (26 : Int32).toNatClampNeg) + 2)), some (.long (Int64.ofNat 0)), none, some (.long (Int64.ofNat 1)), none, some (.int 0), none, none, none, none, none], [], hp X G q14.2)) rfl ?_
  exact ab_U.weak ((t_X9_byWind_g (X := X) hG   F).1 _ _ _ _ _ _ _ _ _ _ _ _ _ _ hf) (ab_leL.of ⟨rfl, ⟨rfl, ⟨rfl, ⟨rfl, ⟨rfl, ⟨rfl, ⟨rfl, ⟨rfl, ⟨rfl, ⟨rfl, trivial⟩⟩⟩⟩⟩⟩⟩⟩⟩⟩)
set_option maxRecDepth 20000 in
def f_X9_lasts (F : Nat)  (x0 : Int32) (x1 : Int32) (x2 : Int32) (μ : fm_M) : Option (Int64 × fm_M) := (Option.bind (f_X9_isStone F x0 μ) (fun q1 => (if q1.1 = 0 then some ((Int64.ofNat 18446744073709551615), q1.2) else (Option.bind (f_X9_in F ((x1).toInt64) (Int64.ofNat 0) (Int64.ofNat 6) q1.2) (fun q4 => (if q4.1 = 0 then some ((Int64.ofNat 18446744073709551615), q4.2) else (Option.bind (f_X9_in F ((x2).toInt64) (Int64.ofNat 0) (Int64.ofNat 1) q4.2) (fun q7 => (if q7.1 = 0 then some ((Int64.ofNat 18446744073709551615), q7.2) else (Option.bind (f_X9_byWind F x0 x1 0 x2 q7.2) (fun q10 => some (q10.1, q10.2))))))))))))
set_option maxRecDepth 20000 in
theorem t_X9_lasts {X : Nat × (Nat → Int32)} {G : Nat → Nat → Option Nat} (hG : fm_Gok G) {F : Nat}   {x0 : Int32} {x1 : Int32} {x2 : Int32} {μ : fm_M} {r : Int64 × fm_M} (hf : f_X9_lasts F x0 x1 x2 μ = some r) : ab_F 4 201 [.ref 232, .int x0, .int x1, .int x2] (hp X G μ) (some (.long r.1)) (hp X G r.2) := by
  unfold f_X9_lasts at hf
  refine ab_T.of (d := 3) rfl (Nat.le_of_ble_eq_true rfl) ?_
  show ab_U _ _ kX9_lasts (0, [some (.ref 232), some (.int x0), some (.int x1), some (.int x2)], [], hp X G μ) _
  refine ab_U.run 2 (S' := (2, [some (.ref 232), some (.int x0), some (.int x1), some (.int x2)], [.int x0, .ref 232], hp X G μ)) rfl ?_
  obtain ⟨q1, h2, hf⟩ := ab_bnd hf
  refine ab_U.fn rfl rfl (t_X9_isStone (X := X) hG h2) (by omega) ?_
  show ab_U _ _ _ (5, [some (.ref 232), some (.int x0), some (.int x1), some (.int x2)], [.int q1.1], hp X G q1.2) _
  refine ab_U.if_eq rfl (fun b3 => ?_) (fun b3 => ?_)
  · rw [if_pos b3] at hf
    refine ab_U.run 1 (S' := (44, [some (.ref 232), some (.int x0), some (.int x1), some (.int x2)], [.long (Int64.ofNat 18446744073709551615)], hp X G q1.2)) rfl ?_
    obtain rfl := Option.some.inj hf
    exact ab_U.ret rfl rfl ⟨rfl, rfl⟩
  · rw [if_neg b3] at hf
    refine ab_U.run 4 (S' := (14, [some (.ref 232), some (.int x0), some (.int x1), some (.int x2)], [.long (Int64.ofNat 6), .long (Int64.ofNat 0), .long (x1).toInt64], hp X G q1.2)) rfl ?_
    obtain ⟨q4, h5, hf⟩ := ab_bnd hf
    refine ab_U.fn rfl rfl (t_X9_in (X := X) hG h5) (by omega) ?_
    show ab_U _ _ _ (17, [some (.ref 232), some (.int x0), some (.int x1), some (.int x2)], [.int q4.1], hp X G q4.2) _
    refine ab_U.if_eq rfl (fun b6 => ?_) (fun b6 => ?_)
    · rw [if_pos b6] at hf
      refine ab_U.run 1 (S' := (44, [some (.ref 232), some (.int x0), some (.int x1), some (.int x2)], [.long (Int64.ofNat 18446744073709551615)], hp X G q4.2)) rfl ?_
      obtain rfl := Option.some.inj hf
      exact ab_U.ret rfl rfl ⟨rfl, rfl⟩
    · rw [if_neg b6] at hf
      refine ab_U.run 4 (S' := (24, [some (.ref 232), some (.int x0), some (.int x1), some (.int x2)], [.long (Int64.ofNat 1), .long (Int64.ofNat 0), .long (x2).toInt64], hp X G q4.2)) rfl ?_
      obtain ⟨q7, h8, hf⟩ := ab_bnd hf
      refine ab_U.fn rfl rfl (t_X9_in (X := X) hG h8) (by omega) ?_
      show ab_U _ _ _ (27, [some (.ref 232), some (.int x0), some (.int x1), some (.int x2)], [.int q7.1], hp X G q7.2) _
      refine ab_U.if_eq rfl (fun b9 => ?_) (fun b9 => ?_)
      · rw [if_pos b9] at hf
        refine ab_U.run 1 (S' := (44, [some (.ref 232), some (.int x0), some (.int x1), some (.int x2)], [.long (Int64.ofNat 18446744073709551615)], hp X G q7.2)) rfl ?_
        obtain rfl := Option.some.inj hf
        exact ab_U.ret rfl rfl ⟨rfl, rfl⟩
      · rw [if_neg b9] at hf
        refine ab_U.run 5 (S' := (35, [some (.ref 232), some (.int x0), some (.int x1), some (.int x2)], [.int x2, .int 0, .int x1, .int x0, .ref 232], hp X G q7.2)) rfl ?_
        obtain ⟨q10, h11, hf⟩ := ab_bnd hf
        refine ab_U.fn rfl rfl (t_X9_byWind (X := X) hG h11) (by omega) ?_
        show ab_U _ _ _ (38, [some (.ref 232), some (.int x0), some (.int x1), some (.int x2)], [.long q10.1], hp X G q10.2) _
        refine ab_U.run 1 (S' := (44, [some (.ref 232), some (.int x0), some (.int x1), some (.int x2)], [.long q10.1], hp X G q10.2)) rfl ?_
        obtain rfl := Option.some.inj hf
        exact ab_U.ret rfl rfl ⟨rfl, rfl⟩
set_option maxRecDepth 20000 in
def f_X9_mean (F : Nat)  (x0 : Int32) (x1 : Int32) (x2 : Int32) (μ : fm_M) : Option (Int64 × fm_M) := (Option.bind (f_X9_isStone F x0 μ) (fun q1 => (if q1.1 = 0 then some ((Int64.ofNat 18446744073709551615), q1.2) else (Option.bind (f_X9_in F ((x1).toInt64) (Int64.ofNat 0) (Int64.ofNat 6) q1.2) (fun q4 => (if q4.1 = 0 then some ((Int64.ofNat 18446744073709551615), q4.2) else (Option.bind (f_X9_in F ((x2).toInt64) (Int64.ofNat 0) (Int64.ofNat 1) q4.2) (fun q7 => (if q7.1 = 0 then some ((Int64.ofNat 18446744073709551615), q7.2) else (Option.bind (f_X9_byWind F x0 x1 1 x2 q7.2) (fun q10 => some (q10.1, q10.2))))))))))))
set_option maxRecDepth 20000 in
theorem t_X9_mean {X : Nat × (Nat → Int32)} {G : Nat → Nat → Option Nat} (hG : fm_Gok G) {F : Nat}   {x0 : Int32} {x1 : Int32} {x2 : Int32} {μ : fm_M} {r : Int64 × fm_M} (hf : f_X9_mean F x0 x1 x2 μ = some r) : ab_F 4 202 [.ref 232, .int x0, .int x1, .int x2] (hp X G μ) (some (.long r.1)) (hp X G r.2) := by
  unfold f_X9_mean at hf
  refine ab_T.of (d := 3) rfl (Nat.le_of_ble_eq_true rfl) ?_
  show ab_U _ _ kX9_mean (0, [some (.ref 232), some (.int x0), some (.int x1), some (.int x2)], [], hp X G μ) _
  refine ab_U.run 2 (S' := (2, [some (.ref 232), some (.int x0), some (.int x1), some (.int x2)], [.int x0, .ref 232], hp X G μ)) rfl ?_
  obtain ⟨q1, h2, hf⟩ := ab_bnd hf
  refine ab_U.fn rfl rfl (t_X9_isStone (X := X) hG h2) (by omega) ?_
  show ab_U _ _ _ (5, [some (.ref 232), some (.int x0), some (.int x1), some (.int x2)], [.int q1.1], hp X G q1.2) _
  refine ab_U.if_eq rfl (fun b3 => ?_) (fun b3 => ?_)
  · rw [if_pos b3] at hf
    refine ab_U.run 1 (S' := (44, [some (.ref 232), some (.int x0), some (.int x1), some (.int x2)], [.long (Int64.ofNat 18446744073709551615)], hp X G q1.2)) rfl ?_
    obtain rfl := Option.some.inj hf
    exact ab_U.ret rfl rfl ⟨rfl, rfl⟩
  · rw [if_neg b3] at hf
    refine ab_U.run 4 (S' := (14, [some (.ref 232), some (.int x0), some (.int x1), some (.int x2)], [.long (Int64.ofNat 6), .long (Int64.ofNat 0), .long (x1).toInt64], hp X G q1.2)) rfl ?_
    obtain ⟨q4, h5, hf⟩ := ab_bnd hf
    refine ab_U.fn rfl rfl (t_X9_in (X := X) hG h5) (by omega) ?_
    show ab_U _ _ _ (17, [some (.ref 232), some (.int x0), some (.int x1), some (.int x2)], [.int q4.1], hp X G q4.2) _
    refine ab_U.if_eq rfl (fun b6 => ?_) (fun b6 => ?_)
    · rw [if_pos b6] at hf
      refine ab_U.run 1 (S' := (44, [some (.ref 232), some (.int x0), some (.int x1), some (.int x2)], [.long (Int64.ofNat 18446744073709551615)], hp X G q4.2)) rfl ?_
      obtain rfl := Option.some.inj hf
      exact ab_U.ret rfl rfl ⟨rfl, rfl⟩
    · rw [if_neg b6] at hf
      refine ab_U.run 4 (S' := (24, [some (.ref 232), some (.int x0), some (.int x1), some (.int x2)], [.long (Int64.ofNat 1), .long (Int64.ofNat 0), .long (x2).toInt64], hp X G q4.2)) rfl ?_
      obtain ⟨q7, h8, hf⟩ := ab_bnd hf
      refine ab_U.fn rfl rfl (t_X9_in (X := X) hG h8) (by omega) ?_
      show ab_U _ _ _ (27, [some (.ref 232), some (.int x0), some (.int x1), some (.int x2)], [.int q7.1], hp X G q7.2) _
      refine ab_U.if_eq rfl (fun b9 => ?_) (fun b9 => ?_)
      · rw [if_pos b9] at hf
        refine ab_U.run 1 (S' := (44, [some (.ref 232), some (.int x0), some (.int x1), some (.int x2)], [.long (Int64.ofNat 18446744073709551615)], hp X G q7.2)) rfl ?_
        obtain rfl := Option.some.inj hf
        exact ab_U.ret rfl rfl ⟨rfl, rfl⟩
      · rw [if_neg b9] at hf
        refine ab_U.run 5 (S' := (35, [some (.ref 232), some (.int x0), some (.int x1), some (.int x2)], [.int x2, .int 1, .int x1, .int x0, .ref 232], hp X G q7.2)) rfl ?_
        obtain ⟨q10, h11, hf⟩ := ab_bnd hf
        refine ab_U.fn rfl rfl (t_X9_byWind (X := X) hG h11) (by omega) ?_
        show ab_U _ _ _ (38, [some (.ref 232), some (.int x0), some (.int x1), some (.int x2)], [.long q10.1], hp X G q10.2) _
        refine ab_U.run 1 (S' := (44, [some (.ref 232), some (.int x0), some (.int x1), some (.int x2)], [.long q10.1], hp X G q10.2)) rfl ?_
        obtain rfl := Option.some.inj hf
        exact ab_U.ret rfl rfl ⟨rfl, rfl⟩
set_option maxRecDepth 20000 in
def b_X9_spent_28 (F : Nat)  (gg : Nat → Int32 → Int32 → Int32 → Int64 → Int32 → Int32 → fm_M → Option (Int64 × fm_M)) (l1 : Int32) (l2 : Int32) (l3 : Int32) (l4 : Int64) (l6 : Int32) (l7 : Int32) (μ : fm_M) : Option (Int64 × fm_M) := (if l6 < 0 then (if ab_in (13 + l1) 228 = true then (if ab_in (μ.2.1 233 (13 + l1).toNatClampNeg) 100 = true then some ((μ.2.2.1 246 (μ.2.1 233 (13 + l1).toNatClampNeg).toNatClampNeg), μ) else none) else none) else gg 36 l1 l2 l3 l4 l6 0 μ)
set_option maxRecDepth 20000 in
def b_X9_spent_36 (F : Nat)  (gg : Nat → Int32 → Int32 → Int32 → Int64 → Int32 → Int32 → fm_M → Option (Int64 × fm_M)) (l1 : Int32) (l2 : Int32) (l3 : Int32) (l4 : Int64) (l6 : Int32) (l7 : Int32) (μ : fm_M) : Option (Int64 × fm_M) := (if 100 ≤ l7 then gg 173 l1 l2 l3 l4 l6 0 μ else (Option.bind (f_X9_bought F l7 l6 μ) (fun q5 => (if ¬ l6 = 5 then (Option.bind (f_X9_windy F l7 l2 q5.2) (fun q8 => (if ab_in q8.1 100 = true then (Option.bind (f_X9_cooled F l7 l2 q8.2) (fun q11 => (if ab_in q11.1 100 = true then (Option.bind (some (((l3).toInt64 * (q8.2.2.2.1 246 q8.1.toNatClampNeg)) + (((10 - l3)).toInt64 * (q11.2.2.2.1 246 q11.1.toNatClampNeg)))) (fun v14 => (if ab_in (13 + l1) 228 = true then (if ¬ l7 = (q11.2.2.1 233 (13 + l1).toNatClampNeg) then (if (q11.2.1 232 31) = 0 ∨ (q11.2.1 232 31) = 1 then (Option.bind (some (fm_sI q11.2 232 31 (q11.2.1 232 31))) (fun m19 => (if (lg_cmp (l4 * (q5.1).toInt64) v14) < 0 then (if ab_in l7 100 = true then (Option.bind (some (fm_sJ m19 247 (vp_updL (m19.2.2.1 247) l7.toNatClampNeg v14))) (fun m23 => gg 36 l1 l2 l3 l4 l6 (l7 + 1) m23)) else none) else (if ab_in l7 100 = true then (Option.bind (some (fm_sJ m19 247 (vp_updL (m19.2.2.1 247) l7.toNatClampNeg (l4 * (q5.1).toInt64)))) (fun m26 => gg 36 l1 l2 l3 l4 l6 (l7 + 1) m26)) else none)))) else none) else (if (lg_cmp (l4 * (q5.1).toInt64) v14) < 0 then (Option.bind (some (fm_sI q11.2 232 31 0)) (fun m29 => (if (lg_cmp (l4 * (q5.1).toInt64) v14) < 0 then (if ab_in l7 100 = true then (Option.bind (some (fm_sJ m29 247 (vp_updL (m29.2.2.1 247) l7.toNatClampNeg v14))) (fun m33 => gg 36 l1 l2 l3 l4 l6 (l7 + 1) m33)) else none) else (if ab_in l7 100 = true then (Option.bind (some (fm_sJ m29 247 (vp_updL (m29.2.2.1 247) l7.toNatClampNeg (l4 * (q5.1).toInt64)))) (fun m36 => gg 36 l1 l2 l3 l4 l6 (l7 + 1) m36)) else none)))) else (Option.bind (some (fm_sI q11.2 232 31 1)) (fun m38 => (if (lg_cmp (l4 * (q5.1).toInt64) v14) < 0 then (if ab_in l7 100 = true then (Option.bind (some (fm_sJ m38 247 (vp_updL (m38.2.2.1 247) l7.toNatClampNeg v14))) (fun m42 => gg 36 l1 l2 l3 l4 l6 (l7 + 1) m42)) else none) else (if ab_in l7 100 = true then (Option.bind (some (fm_sJ m38 247 (vp_updL (m38.2.2.1 247) l7.toNatClampNeg (l4 * (q5.1).toInt64)))) (fun m45 => gg 36 l1 l2 l3 l4 l6 (l7 + 1) m45)) else none)))))) else none))) else none))) else none))) else (if ab_in (13 + l1) 228 = true then (if ¬ l7 = (q5.2.2.1 233 (13 + l1).toNatClampNeg) then (if (q5.2.1 232 31) = 0 ∨ (q5.2.1 232 31) = 1 then (Option.bind (some (fm_sI q5.2 232 31 (q5.2.1 232 31))) (fun m50 => (if (lg_cmp (l4 * (q5.1).toInt64) (Int64.ofNat 18446744073709551615)) < 0 then (if ab_in l7 100 = true then (Option.bind (some (fm_sJ m50 247 (vp_updL (m50.2.2.1 247) l7.toNatClampNeg (Int64.ofNat 18446744073709551615)))) (fun m54 => gg 36 l1 l2 l3 l4 l6 (l7 + 1) m54)) else none) else (if ab_in l7 100 = true then (Option.bind (some (fm_sJ m50 247 (vp_updL (m50.2.2.1 247) l7.toNatClampNeg (l4 * (q5.1).toInt64)))) (fun m57 => gg 36 l1 l2 l3 l4 l6 (l7 + 1) m57)) else none)))) else none) else (if (lg_cmp (l4 * (q5.1).toInt64) (Int64.ofNat 18446744073709551615)) < 0 then (Option.bind (some (fm_sI q5.2 232 31 0)) (fun m60 => (if (lg_cmp (l4 * (q5.1).toInt64) (Int64.ofNat 18446744073709551615)) < 0 then (if ab_in l7 100 = true then (Option.bind (some (fm_sJ m60 247 (vp_updL (m60.2.2.1 247) l7.toNatClampNeg (Int64.ofNat 18446744073709551615)))) (fun m64 => gg 36 l1 l2 l3 l4 l6 (l7 + 1) m64)) else none) else (if ab_in l7 100 = true then (Option.bind (some (fm_sJ m60 247 (vp_updL (m60.2.2.1 247) l7.toNatClampNeg (l4 * (q5.1).toInt64)))) (fun m67 => gg 36 l1 l2 l3 l4 l6 (l7 + 1) m67)) else none)))) else (Option.bind (some (fm_sI q5.2 232 31 1)) (fun m69 => (if (lg_cmp (l4 * (q5.1).toInt64) (Int64.ofNat 18446744073709551615)) < 0 then (if ab_in l7 100 = true then (Option.bind (some (fm_sJ m69 247 (vp_updL (m69.2.2.1 247) l7.toNatClampNeg (Int64.ofNat 18446744073709551615)))) (fun m73 => gg 36 l1 l2 l3 l4 l6 (l7 + 1) m73)) else none) else (if ab_in l7 100 = true then (Option.bind (some (fm_sJ m69 247 (vp_updL (m69.2.2.1 247) l7.toNatClampNeg (l4 * (q5.1).toInt64)))) (fun m76 => gg 36 l1 l2 l3 l4 l6 (l7 + 1) m76)) else none)))))) else none)))))
set_option maxRecDepth 20000 in
def b_X9_spent_173 (F : Nat)  (gg : Nat → Int32 → Int32 → Int32 → Int64 → Int32 → Int32 → fm_M → Option (Int64 × fm_M)) (l1 : Int32) (l2 : Int32) (l3 : Int32) (l4 : Int64) (l6 : Int32) (l7 : Int32) (μ : fm_M) : Option (Int64 × fm_M) := (if 100 ≤ l7 then gg 28 l1 l2 l3 (l4 * (Int64.ofNat 10)) (l6 + (-1)) 0 μ else (if ab_in l7 100 = true then (if ab_in l7 100 = true then (Option.bind (some (fm_sJ μ 246 (vp_updL (μ.2.2.1 246) l7.toNatClampNeg (μ.2.2.1 247 l7.toNatClampNeg)))) (fun m81 => gg 173 l1 l2 l3 l4 l6 (l7 + 1) m81)) else none) else none))
def g_X9_spent (F : Nat)  : Nat → Nat → Int32 → Int32 → Int32 → Int64 → Int32 → Int32 → fm_M → Option (Int64 × fm_M)
  | 0, _, _, _, _, _, _, _, _ => none
  | n + 1, pc, l1, l2, l3, l4, l6, l7, μ => if pc = 28 then b_X9_spent_28 F  (g_X9_spent F  n) l1 l2 l3 l4 l6 l7 μ else if pc = 36 then b_X9_spent_36 F  (g_X9_spent F  n) l1 l2 l3 l4 l6 l7 μ else if pc = 173 then b_X9_spent_173 F  (g_X9_spent F  n) l1 l2 l3 l4 l6 l7 μ else none
set_option maxRecDepth 20000 in
theorem t_X9_spent_g {X : Nat × (Nat → Int32)} {G : Nat → Nat → Option Nat} (hG : fm_Gok G) {F : Nat}    : ∀ n : Nat, (∀ (l1 : Int32) (l2 : Int32) (l3 : Int32) (l4 : Int64) (l6 : Int32) (l7 : Int32) (μ : fm_M) (r : Int64 × fm_M), g_X9_spent F  n 28 l1 l2 l3 l4 l6 l7 μ = some r → ab_U 2 (some .long) kX9_spent (28, [some (.ref 232), some (.int l1), some (.int l2), some (.int l3), some (.long l4), none, some (.int l6), none, none, none, none, none], [], hp X G μ) (fun r9 h9 => r9 = some (.long r.1) ∧ h9 = hp X G r.2)) ∧ (∀ (l1 : Int32) (l2 : Int32) (l3 : Int32) (l4 : Int64) (l6 : Int32) (l7 : Int32) (μ : fm_M) (r : Int64 × fm_M), g_X9_spent F  n 36 l1 l2 l3 l4 l6 l7 μ = some r → ab_U 2 (some .long) kX9_spent (36, [some (.ref 232), some (.int l1), some (.int l2), some (.int l3), some (.long l4), none, some (.int l6), some (.int l7), none, none, none, none], [], hp X G μ) (fun r9 h9 => r9 = some (.long r.1) ∧ h9 = hp X G r.2)) ∧ (∀ (l1 : Int32) (l2 : Int32) (l3 : Int32) (l4 : Int64) (l6 : Int32) (l7 : Int32) (μ : fm_M) (r : Int64 × fm_M), g_X9_spent F  n 173 l1 l2 l3 l4 l6 l7 μ = some r → ab_U 2 (some .long) kX9_spent (173, [some (.ref 232), some (.int l1), some (.int l2), some (.int l3), some (.long l4), none, some (.int l6), some (.int l7), none, none, none, none], [], hp X G μ) (fun r9 h9 => r9 = some (.long r.1) ∧ h9 = hp X G r.2))
  | 0 => by
    refine ⟨?_, ?_, ?_⟩
    all_goals (intros; rename_i h; cases h)
  | n + 1 => by
    have ih := t_X9_spent_g (X := X) hG (F := F)   n
    refine ⟨?_, ?_, ?_⟩
    · intro l1 l2 l3 l4 l6 l7 μ r hf
      have hf : b_X9_spent_28 F  (g_X9_spent F  n) l1 l2 l3 l4 l6 l7 μ = some r := hf
      unfold b_X9_spent_28 at hf
      refine ab_U.run 1 (S' := (30, [some (.ref 232), some (.int l1), some (.int l2), some (.int l3), some (.long l4), none, some (.int l6), none, none, none, none, none], [.int l6], hp X G μ)) rfl ?_
      refine ab_U.if_lt rfl (fun b1 => ?_) (fun b1 => ?_)
      · rw [if_pos b1] at hf
        refine ab_U.run 7 (S' := (226, [some (.ref 232), some (.int l1), some (.int l2), some (.int l3), some (.long l4), none, some (.int l6), none, none, none, none, none], [.int (13 + l1), .ref 233, .ref 246], hp X G μ)) rfl ?_
        obtain ⟨c2, hf⟩ := ab_ifs hf
        refine ab_U.iald (n := 228) rfl ⟨by decide, rfl⟩ c2 ?_
        show ab_U _ _ _ (227, [some (.ref 232), some (.int l1), some (.int l2), some (.int l3), some (.long l4), none, some (.int l6), none, none, none, none, none], [.int (μ.2.1 233 (13 + l1).toNatClampNeg), .ref 246], hp X G μ) _
        obtain ⟨c3, hf⟩ := ab_ifs hf
        refine ab_U.lald (n := 100) rfl ⟨by decide, rfl⟩ c3 ?_
        show ab_U _ _ _ (228, [some (.ref 232), some (.int l1), some (.int l2), some (.int l3), some (.long l4), none, some (.int l6), none, none, none, none, none], [.long (μ.2.2.1 246 (μ.2.1 233 (13 + l1).toNatClampNeg).toNatClampNeg)], hp X G μ) _
        obtain rfl := Option.some.inj hf
        exact ab_U.ret rfl rfl ⟨rfl, rfl⟩
      · rw [if_neg b1] at hf
        refine ab_U.run 2 (S' := (36, [some (.ref 232), some (.int l1), some (.int l2), some (.int l3), some (.long l4), none, some (.int l6), some (.int 0), none, none, none, none], [], hp X G μ)) rfl ?_
        exact ab_U.weak (ih.2.1 _ _ _ _ _ _ _ _ hf) (ab_leL.of ⟨rfl, ⟨rfl, ⟨rfl, ⟨rfl, ⟨rfl, ⟨rfl, ⟨rfl, trivial⟩⟩⟩⟩⟩⟩⟩)
    · intro l1 l2 l3 l4 l6 l7 μ r hf
      have hf : b_X9_spent_36 F  (g_X9_spent F  n) l1 l2 l3 l4 l6 l7 μ = some r := hf
      unfold b_X9_spent_36 at hf
      refine ab_U.run 2 (S' := (40, [some (.ref 232), some (.int l1), some (.int l2), some (.int l3), some (.long l4), none, some (.int l6), some (.int l7), none, none, none, none], [.int 100, .int l7], hp X G μ)) rfl ?_
      refine ab_U.ic_ge rfl (fun b4 => ?_) (fun b4 => ?_)
      · rw [if_pos b4] at hf
        refine ab_U.run 2 (S' := (173, [some (.ref 232), some (.int l1), some (.int l2), some (.int l3), some (.long l4), none, some (.int l6), some (.int 0), none, none, none, none], [], hp X G μ)) rfl ?_
        exact ab_U.weak (ih.2.2 _ _ _ _ _ _ _ _ hf) (ab_leL.of ⟨rfl, ⟨rfl, ⟨rfl, ⟨rfl, ⟨rfl, ⟨rfl, ⟨rfl, trivial⟩⟩⟩⟩⟩⟩⟩)
      · rw [if_neg b4] at hf
        refine ab_U.run 4 (S' := (50, [some (.ref 232), some (.int l1), some (.int l2), some (.int l3), some (.long l4), none, some (.int l6), some (.int l7), none, none, none, none], [.int l6, .int l7, .ref 232, .long l4], hp X G μ)) rfl ?_
        obtain ⟨q5, h6, hf⟩ := ab_bnd hf
        refine ab_U.fn rfl rfl (t_X9_bought (X := X) hG h6) (by omega) ?_
        show ab_U _ _ _ (53, [some (.ref 232), some (.int l1), some (.int l2), some (.int l3), some (.long l4), none, some (.int l6), some (.int l7), none, none, none, none], [.int q5.1, .long l4], hp X G q5.2) _
        refine ab_U.run 5 (S' := (60, [some (.ref 232), some (.int l1), some (.int l2), some (.int l3), some (.long l4), none, some (.int l6), some (.int l7), some (.long (l4 * (q5.1).toInt64)), none, none, none], [.int 5, .int l6], hp X G q5.2)) rfl ?_
        refine ab_U.ic_ne rfl (fun b7 => ?_) (fun b7 => ?_)
        · rw [if_pos b7] at hf
          refine ab_U.run 7 (S' := (79, [some (.ref 232), some (.int l1), some (.int l2), some (.int l3), some (.long l4), none, some (.int l6), some (.int l7), some (.long (l4 * (q5.1).toInt64)), none, none, none], [.int l2, .int l7, .ref 232, .ref 246, .long (l3).toInt64], hp X G q5.2)) rfl ?_
          obtain ⟨q8, h9, hf⟩ := ab_bnd hf
          refine ab_U.fn rfl rfl (t_X9_windy (X := X) hG h9) (by omega) ?_
          show ab_U _ _ _ (82, [some (.ref 232), some (.int l1), some (.int l2), some (.int l3), some (.long l4), none, some (.int l6), some (.int l7), some (.long (l4 * (q5.1).toInt64)), none, none, none], [.int q8.1, .ref 246, .long (l3).toInt64], hp X G q8.2) _
          obtain ⟨c10, hf⟩ := ab_ifs hf
          refine ab_U.lald (n := 100) rfl ⟨by decide, rfl⟩ c10 ?_
          show ab_U _ _ _ (83, [some (.ref 232), some (.int l1), some (.int l2), some (.int l3), some (.long l4), none, some (.int l6), some (.int l7), some (.long (l4 * (q5.1).toInt64)), none, none, none], [.long (q8.2.2.2.1 246 q8.1.toNatClampNeg), .long (l3).toInt64], hp X G q8.2) _
          refine ab_U.run 9 (S' := (96, [some (.ref 232), some (.int l1), some (.int l2), some (.int l3), some (.long l4), none, some (.int l6), some (.int l7), some (.long (l4 * (q5.1).toInt64)), none, none, none], [.int l2, .int l7, .ref 246, .long ((10 - l3)).toInt64, .long ((l3).toInt64 * (q8.2.2.2.1 246 q8.1.toNatClampNeg))], hp X G q8.2)) rfl ?_
          obtain ⟨q11, h12, hf⟩ := ab_bnd hf
          refine ab_U.fn rfl rfl (t_X9_cooled (X := X) hG h12) (by omega) ?_
          show ab_U _ _ _ (99, [some (.ref 232), some (.int l1), some (.int l2), some (.int l3), some (.long l4), none, some (.int l6), some (.int l7), some (.long (l4 * (q5.1).toInt64)), none, none, none], [.int q11.1, .ref 246, .long ((10 - l3)).toInt64, .long ((l3).toInt64 * (q8.2.2.2.1 246 q8.1.toNatClampNeg))], hp X G q11.2) _
          obtain ⟨c13, hf⟩ := ab_ifs hf
          refine ab_U.lald (n := 100) rfl ⟨by decide, rfl⟩ c13 ?_
          show ab_U _ _ _ (100, [some (.ref 232), some (.int l1), some (.int l2), some (.int l3), some (.long l4), none, some (.int l6), some (.int l7), some (.long (l4 * (q5.1).toInt64)), none, none, none], [.long (q11.2.2.2.1 246 q11.1.toNatClampNeg), .long ((10 - l3)).toInt64, .long ((l3).toInt64 * (q8.2.2.2.1 246 q8.1.toNatClampNeg))], hp X G q11.2) _
          refine ab_U.run 3 (S' := (104, [some (.ref 232), some (.int l1), some (.int l2), some (.int l3), some (.long l4), none, some (.int l6), some (.int l7), some (.long (l4 * (q5.1).toInt64)), none, some (.long (((l3).toInt64 * (q8.2.2.2.1 246 q8.1.toNatClampNeg)) + (((10 - l3)).toInt64 * (q11.2.2.2.1 246 q11.1.toNatClampNeg)))), none], [], hp X G q11.2)) rfl ?_
          obtain ⟨v14, e15, hf⟩ := ab_bnd hf
          have e15 := Option.some.inj e15
          rw [e15]
          show ab_U _ _ _ (104, [some (.ref 232), some (.int l1), some (.int l2), some (.int l3), some (.long l4), none, some (.int l6), some (.int l7), some (.long (l4 * (q5.1).toInt64)), none, some (.long v14), none], [], hp X G q11.2) _
          refine ab_U.run 7 (S' := (115, [some (.ref 232), some (.int l1), some (.int l2), some (.int l3), some (.long l4), none, some (.int l6), some (.int l7), some (.long (l4 * (q5.1).toInt64)), none, some (.long v14), none], [.int (13 + l1), .ref 233, .int l7, .ref 232], hp X G q11.2)) rfl ?_
          obtain ⟨c16, hf⟩ := ab_ifs hf
          refine ab_U.iald (n := 228) rfl ⟨by decide, rfl⟩ c16 ?_
          show ab_U _ _ _ (116, [some (.ref 232), some (.int l1), some (.int l2), some (.int l3), some (.long l4), none, some (.int l6), some (.int l7), some (.long (l4 * (q5.1).toInt64)), none, some (.long v14), none], [.int (q11.2.2.1 233 (13 + l1).toNatClampNeg), .int l7, .ref 232], hp X G q11.2) _
          refine ab_U.ic_ne rfl (fun b17 => ?_) (fun b17 => ?_)
          · rw [if_pos b17] at hf
            refine ab_U.run 2 (S' := (139, [some (.ref 232), some (.int l1), some (.int l2), some (.int l3), some (.long l4), none, some (.int l6), some (.int l7), some (.long (l4 * (q5.1).toInt64)), none, some (.long v14), none], [.int (q11.2.1 232 31), .ref 232], hp X G q11.2)) rfl ?_
            obtain ⟨c18, hf⟩ := ab_ifs hf
            obtain ⟨m19, e20, hf⟩ := ab_bnd hf
            have e20 := Option.some.inj e20
            refine ab_U.pfI (ci := 9) (k9 := 31) rfl ⟨by decide, rfl⟩ ⟨rfl, rfl, by decide, rfl⟩ (decide_eq_true c18) ?_
            show ab_U _ _ _ (142, [some (.ref 232), some (.int l1), some (.int l2), some (.int l3), some (.long l4), none, some (.int l6), some (.int l7), some (.long (l4 * (q5.1).toInt64)), none, some (.long v14), none], [], hp X G (fm_sI q11.2 232 31 (q11.2.1 232 31))) _
            rw [e20]
            refine ab_U.run 6 (S' := (153, [some (.ref 232), some (.int l1), some (.int l2), some (.int l3), some (.long l4), none, some (.int l6), some (.int l7), some (.long (l4 * (q5.1).toInt64)), none, some (.long v14), none], [.int (lg_cmp (l4 * (q5.1).toInt64) v14), .int l7, .ref 247], hp X G m19)) rfl ?_
            refine ab_U.if_lt rfl (fun b21 => ?_) (fun b21 => ?_)
            · rw [if_pos b21] at hf
              refine ab_U.run 1 (S' := (163, [some (.ref 232), some (.int l1), some (.int l2), some (.int l3), some (.long l4), none, some (.int l6), some (.int l7), some (.long (l4 * (q5.1).toInt64)), none, some (.long v14), none], [.long v14, .int l7, .ref 247], hp X G m19)) rfl ?_
              obtain ⟨c22, hf⟩ := ab_ifs hf
              obtain ⟨m23, e24, hf⟩ := ab_bnd hf
              have e24 := Option.some.inj e24
              refine ab_U.last (n := 100) rfl ⟨by decide, rfl⟩ c22 ?_
              show ab_U _ _ _ (164, [some (.ref 232), some (.int l1), some (.int l2), some (.int l3), some (.long l4), none, some (.int l6), some (.int l7), some (.long (l4 * (q5.1).toInt64)), none, some (.long v14), none], [], hp X G (fm_sJ m19 247 (vp_updL (m19.2.2.1 247) l7.toNatClampNeg v14))) _
              rw [e24]
              refine ab_U.run 2 (S' := (36, [some (.ref 232), some (.int l1), some (.int l2), some (.int l3), some (.long l4), none, some (.int l6), some (.int (l7 + 1)), some (.long (l4 * (q5.1).toInt64)), none, some (.long v14), none], [], hp X G m23)) rfl ?_
              exact ab_U.weak (ih.2.1 _ _ _ _ _ _ _ _ hf) (ab_leL.of ⟨rfl, ⟨rfl, ⟨rfl, ⟨rfl, ⟨rfl, ⟨rfl, ⟨rfl, trivial⟩⟩⟩⟩⟩⟩⟩)
            · rw [if_neg b21] at hf
              refine ab_U.run 2 (S' := (163, [some (.ref 232), some (.int l1), some (.int l2), some (.int l3), some (.long l4), none, some (.int l6), some (.int l7), some (.long (l4 * (q5.1).toInt64)), none, some (.long v14), none], [.long (l4 * (q5.1).toInt64), .int l7, .ref 247], hp X G m19)) rfl ?_
              obtain ⟨c25, hf⟩ := ab_ifs hf
              obtain ⟨m26, e27, hf⟩ := ab_bnd hf
              have e27 := Option.some.inj e27
              refine ab_U.last (n := 100) rfl ⟨by decide, rfl⟩ c25 ?_
              show ab_U _ _ _ (164, [some (.ref 232), some (.int l1), some (.int l2), some (.int l3), some (.long l4), none, some (.int l6), some (.int l7), some (.long (l4 * (q5.1).toInt64)), none, some (.long v14), none], [], hp X G (fm_sJ m19 247 (vp_updL (m19.2.2.1 247) l7.toNatClampNeg (l4 * (q5.1).toInt64)))) _
              rw [e27]
              refine ab_U.run 2 (S' := (36, [some (.ref 232), some (.int l1), some (.int l2), some (.int l3), some (.long l4), none, some (.int l6), some (.int (l7 + 1)), some (.long (l4 * (q5.1).toInt64)), none, some (.long v14), none], [], hp X G m26)) rfl ?_
              exact ab_U.weak (ih.2.1 _ _ _ _ _ _ _ _ hf) (ab_leL.of ⟨rfl, ⟨rfl, ⟨rfl, ⟨rfl, ⟨rfl, ⟨rfl, ⟨rfl, trivial⟩⟩⟩⟩⟩⟩⟩)
          · rw [if_neg b17] at hf
            refine ab_U.run 3 (S' := (124, [some (.ref 232), some (.int l1), some (.int l2), some (.int l3), some (.long l4), none, some (.int l6), some (.int l7), some (.long (l4 * (q5.1).toInt64)), none, some (.long v14), none], [.int (lg_cmp (l4 * (q5.1).toInt64) v14), .ref 232], hp X G q11.2)) rfl ?_
            refine ab_U.if_lt rfl (fun b28 => ?_) (fun b28 => ?_)
            · rw [if_pos b28] at hf
              refine ab_U.run 2 (S' := (139, [some (.ref 232), some (.int l1), some (.int l2), some (.int l3), some (.long l4), none, some (.int l6), some (.int l7), some (.long (l4 * (q5.1).toInt64)), none, some (.long v14), none], [.int 0, .ref 232], hp X G q11.2)) rfl ?_
              obtain ⟨m29, e30, hf⟩ := ab_bnd hf
              have e30 := Option.some.inj e30
              refine ab_U.pfI (ci := 9) (k9 := 31) rfl ⟨by decide, rfl⟩ ⟨rfl, rfl, by decide, rfl⟩ rfl ?_
              show ab_U _ _ _ (142, [some (.ref 232), some (.int l1), some (.int l2), some (.int l3), some (.long l4), none, some (.int l6), some (.int l7), some (.long (l4 * (q5.1).toInt64)), none, some (.long v14), none], [], hp X G (fm_sI q11.2 232 31 0)) _
              rw [e30]
              refine ab_U.run 6 (S' := (153, [some (.ref 232), some (.int l1), some (.int l2), some (.int l3), some (.long l4), none, some (.int l6), some (.int l7), some (.long (l4 * (q5.1).toInt64)), none, some (.long v14), none], [.int (lg_cmp (l4 * (q5.1).toInt64) v14), .int l7, .ref 247], hp X G m29)) rfl ?_
              refine ab_U.if_lt rfl (fun b31 => ?_) (fun b31 => ?_)
              · rw [if_pos b31] at hf
                refine ab_U.run 1 (S' := (163, [some (.ref 232), some (.int l1), some (.int l2), some (.int l3), some (.long l4), none, some (.int l6), some (.int l7), some (.long (l4 * (q5.1).toInt64)), none, some (.long v14), none], [.long v14, .int l7, .ref 247], hp X G m29)) rfl ?_
                obtain ⟨c32, hf⟩ := ab_ifs hf
                obtain ⟨m33, e34, hf⟩ := ab_bnd hf
                have e34 := Option.some.inj e34
                refine ab_U.last (n := 100) rfl ⟨by decide, rfl⟩ c32 ?_
                show ab_U _ _ _ (164, [some (.ref 232), some (.int l1), some (.int l2), some (.int l3), some (.long l4), none, some (.int l6), some (.int l7), some (.long (l4 * (q5.1).toInt64)), none, some (.long v14), none], [], hp X G (fm_sJ m29 247 (vp_updL (m29.2.2.1 247) l7.toNatClampNeg v14))) _
                rw [e34]
                refine ab_U.run 2 (S' := (36, [some (.ref 232), some (.int l1), some (.int l2), some (.int l3), some (.long l4), none, some (.int l6), some (.int (l7 + 1)), some (.long (l4 * (q5.1).toInt64)), none, some (.long v14), none], [], hp X G m33)) rfl ?_
                exact ab_U.weak (ih.2.1 _ _ _ _ _ _ _ _ hf) (ab_leL.of ⟨rfl, ⟨rfl, ⟨rfl, ⟨rfl, ⟨rfl, ⟨rfl, ⟨rfl, trivial⟩⟩⟩⟩⟩⟩⟩)
              · rw [if_neg b31] at hf
                refine ab_U.run 2 (S' := (163, [some (.ref 232), some (.int l1), some (.int l2), some (.int l3), some (.long l4), none, some (.int l6), some (.int l7), some (.long (l4 * (q5.1).toInt64)), none, some (.long v14), none], [.long (l4 * (q5.1).toInt64), .int l7, .ref 247], hp X G m29)) rfl ?_
                obtain ⟨c35, hf⟩ := ab_ifs hf
                obtain ⟨m36, e37, hf⟩ := ab_bnd hf
                have e37 := Option.some.inj e37
                refine ab_U.last (n := 100) rfl ⟨by decide, rfl⟩ c35 ?_
                show ab_U _ _ _ (164, [some (.ref 232), some (.int l1), some (.int l2), some (.int l3), some (.long l4), none, some (.int l6), some (.int l7), some (.long (l4 * (q5.1).toInt64)), none, some (.long v14), none], [], hp X G (fm_sJ m29 247 (vp_updL (m29.2.2.1 247) l7.toNatClampNeg (l4 * (q5.1).toInt64)))) _
                rw [e37]
                refine ab_U.run 2 (S' := (36, [some (.ref 232), some (.int l1), some (.int l2), some (.int l3), some (.long l4), none, some (.int l6), some (.int (l7 + 1)), some (.long (l4 * (q5.1).toInt64)), none, some (.long v14), none], [], hp X G m36)) rfl ?_
                exact ab_U.weak (ih.2.1 _ _ _ _ _ _ _ _ hf) (ab_leL.of ⟨rfl, ⟨rfl, ⟨rfl, ⟨rfl, ⟨rfl, ⟨rfl, ⟨rfl, trivial⟩⟩⟩⟩⟩⟩⟩)
            · rw [if_neg b28] at hf
              refine ab_U.run 2 (S' := (139, [some (.ref 232), some (.int l1), some (.int l2), some (.int l3), some (.long l4), none, some (.int l6), some (.int l7), some (.long (l4 * (q5.1).toInt64)), none, some (.long v14), none], [.int 1, .ref 232], hp X G q11.2)) rfl ?_
              obtain ⟨m38, e39, hf⟩ := ab_bnd hf
              have e39 := Option.some.inj e39
              refine ab_U.pfI (ci := 9) (k9 := 31) rfl ⟨by decide, rfl⟩ ⟨rfl, rfl, by decide, rfl⟩ rfl ?_
              show ab_U _ _ _ (142, [some (.ref 232), some (.int l1), some (.int l2), some (.int l3), some (.long l4), none, some (.int l6), some (.int l7), some (.long (l4 * (q5.1).toInt64)), none, some (.long v14), none], [], hp X G (fm_sI q11.2 232 31 1)) _
              rw [e39]
              refine ab_U.run 6 (S' := (153, [some (.ref 232), some (.int l1), some (.int l2), some (.int l3), some (.long l4), none, some (.int l6), some (.int l7), some (.long (l4 * (q5.1).toInt64)), none, some (.long v14), none], [.int (lg_cmp (l4 * (q5.1).toInt64) v14), .int l7, .ref 247], hp X G m38)) rfl ?_
              refine ab_U.if_lt rfl (fun b40 => ?_) (fun b40 => ?_)
              · rw [if_pos b40] at hf
                refine ab_U.run 1 (S' := (163, [some (.ref 232), some (.int l1), some (.int l2), some (.int l3), some (.long l4), none, some (.int l6), some (.int l7), some (.long (l4 * (q5.1).toInt64)), none, some (.long v14), none], [.long v14, .int l7, .ref 247], hp X G m38)) rfl ?_
                obtain ⟨c41, hf⟩ := ab_ifs hf
                obtain ⟨m42, e43, hf⟩ := ab_bnd hf
                have e43 := Option.some.inj e43
                refine ab_U.last (n := 100) rfl ⟨by decide, rfl⟩ c41 ?_
                show ab_U _ _ _ (164, [some (.ref 232), some (.int l1), some (.int l2), some (.int l3), some (.long l4), none, some (.int l6), some (.int l7), some (.long (l4 * (q5.1).toInt64)), none, some (.long v14), none], [], hp X G (fm_sJ m38 247 (vp_updL (m38.2.2.1 247) l7.toNatClampNeg v14))) _
                rw [e43]
                refine ab_U.run 2 (S' := (36, [some (.ref 232), some (.int l1), some (.int l2), some (.int l3), some (.long l4), none, some (.int l6), some (.int (l7 + 1)), some (.long (l4 * (q5.1).toInt64)), none, some (.long v14), none], [], hp X G m42)) rfl ?_
                exact ab_U.weak (ih.2.1 _ _ _ _ _ _ _ _ hf) (ab_leL.of ⟨rfl, ⟨rfl, ⟨rfl, ⟨rfl, ⟨rfl, ⟨rfl, ⟨rfl, trivial⟩⟩⟩⟩⟩⟩⟩)
              · rw [if_neg b40] at hf
                refine ab_U.run 2 (S' := (163, [some (.ref 232), some (.int l1), some (.int l2), some (.int l3), some (.long l4), none, some (.int l6), some (.int l7), some (.long (l4 * (q5.1).toInt64)), none, some (.long v14), none], [.long (l4 * (q5.1).toInt64), .int l7, .ref 247], hp X G m38)) rfl ?_
                obtain ⟨c44, hf⟩ := ab_ifs hf
                obtain ⟨m45, e46, hf⟩ := ab_bnd hf
                have e46 := Option.some.inj e46
                refine ab_U.last (n := 100) rfl ⟨by decide, rfl⟩ c44 ?_
                show ab_U _ _ _ (164, [some (.ref 232), some (.int l1), some (.int l2), some (.int l3), some (.long l4), none, some (.int l6), some (.int l7), some (.long (l4 * (q5.1).toInt64)), none, some (.long v14), none], [], hp X G (fm_sJ m38 247 (vp_updL (m38.2.2.1 247) l7.toNatClampNeg (l4 * (q5.1).toInt64)))) _
                rw [e46]
                refine ab_U.run 2 (S' := (36, [some (.ref 232), some (.int l1), some (.int l2), some (.int l3), some (.long l4), none, some (.int l6), some (.int (l7 + 1)), some (.long (l4 * (q5.1).toInt64)), none, some (.long v14), none], [], hp X G m45)) rfl ?_
                exact ab_U.weak (ih.2.1 _ _ _ _ _ _ _ _ hf) (ab_leL.of ⟨rfl, ⟨rfl, ⟨rfl, ⟨rfl, ⟨rfl, ⟨rfl, ⟨rfl, trivial⟩⟩⟩⟩⟩⟩⟩)
        · rw [if_neg b7] at hf
          refine ab_U.run 10 (S' := (115, [some (.ref 232), some (.int l1), some (.int l2), some (.int l3), some (.long l4), none, some (.int l6), some (.int l7), some (.long (l4 * (q5.1).toInt64)), none, some (.long (Int64.ofNat 18446744073709551615)), none], [.int (13 + l1), .ref 233, .int l7, .ref 232], hp X G q5.2)) rfl ?_
          obtain ⟨c47, hf⟩ := ab_ifs hf
          refine ab_U.iald (n := 228) rfl ⟨by decide, rfl⟩ c47 ?_
          show ab_U _ _ _ (116, [some (.ref 232), some (.int l1), some (.int l2), some (.int l3), some (.long l4), none, some (.int l6), some (.int l7), some (.long (l4 * (q5.1).toInt64)), none, some (.long (Int64.ofNat 18446744073709551615)), none], [.int (q5.2.2.1 233 (13 + l1).toNatClampNeg), .int l7, .ref 232], hp X G q5.2) _
          refine ab_U.ic_ne rfl (fun b48 => ?_) (fun b48 => ?_)
          · rw [if_pos b48] at hf
            refine ab_U.run 2 (S' := (139, [some (.ref 232), some (.int l1), some (.int l2), some (.int l3), some (.long l4), none, some (.int l6), some (.int l7), some (.long (l4 * (q5.1).toInt64)), none, some (.long (Int64.ofNat 18446744073709551615)), none], [.int (q5.2.1 232 31), .ref 232], hp X G q5.2)) rfl ?_
            obtain ⟨c49, hf⟩ := ab_ifs hf
            obtain ⟨m50, e51, hf⟩ := ab_bnd hf
            have e51 := Option.some.inj e51
            refine ab_U.pfI (ci := 9) (k9 := 31) rfl ⟨by decide, rfl⟩ ⟨rfl, rfl, by decide, rfl⟩ (decide_eq_true c49) ?_
            show ab_U _ _ _ (142, [some (.ref 232), some (.int l1), some (.int l2), some (.int l3), some (.long l4), none, some (.int l6), some (.int l7), some (.long (l4 * (q5.1).toInt64)), none, some (.long (Int64.ofNat 18446744073709551615)), none], [], hp X G (fm_sI q5.2 232 31 (q5.2.1 232 31))) _
            rw [e51]
            refine ab_U.run 6 (S' := (153, [some (.ref 232), some (.int l1), some (.int l2), some (.int l3), some (.long l4), none, some (.int l6), some (.int l7), some (.long (l4 * (q5.1).toInt64)), none, some (.long (Int64.ofNat 18446744073709551615)), none], [.int (lg_cmp (l4 * (q5.1).toInt64) (Int64.ofNat 18446744073709551615)), .int l7, .ref 247], hp X G m50)) rfl ?_
            refine ab_U.if_lt rfl (fun b52 => ?_) (fun b52 => ?_)
            · rw [if_pos b52] at hf
              refine ab_U.run 1 (S' := (163, [some (.ref 232), some (.int l1), some (.int l2), some (.int l3), some (.long l4), none, some (.int l6), some (.int l7), some (.long (l4 * (q5.1).toInt64)), none, some (.long (Int64.ofNat 18446744073709551615)), none], [.long (Int64.ofNat 18446744073709551615), .int l7, .ref 247], hp X G m50)) rfl ?_
              obtain ⟨c53, hf⟩ := ab_ifs hf
              obtain ⟨m54, e55, hf⟩ := ab_bnd hf
              have e55 := Option.some.inj e55
              refine ab_U.last (n := 100) rfl ⟨by decide, rfl⟩ c53 ?_
              show ab_U _ _ _ (164, [some (.ref 232), some (.int l1), some (.int l2), some (.int l3), some (.long l4), none, some (.int l6), some (.int l7), some (.long (l4 * (q5.1).toInt64)), none, some (.long (Int64.ofNat 18446744073709551615)), none], [], hp X G (fm_sJ m50 247 (vp_updL (m50.2.2.1 247) l7.toNatClampNeg (Int64.ofNat 18446744073709551615)))) _
              rw [e55]
              refine ab_U.run 2 (S' := (36, [some (.ref 232), some (.int l1), some (.int l2), some (.int l3), some (.long l4), none, some (.int l6), some (.int (l7 + 1)), some (.long (l4 * (q5.1).toInt64)), none, some (.long (Int64.ofNat 18446744073709551615)), none], [], hp X G m54)) rfl ?_
              exact ab_U.weak (ih.2.1 _ _ _ _ _ _ _ _ hf) (ab_leL.of ⟨rfl, ⟨rfl, ⟨rfl, ⟨rfl, ⟨rfl, ⟨rfl, ⟨rfl, trivial⟩⟩⟩⟩⟩⟩⟩)
            · rw [if_neg b52] at hf
              refine ab_U.run 2 (S' := (163, [some (.ref 232), some (.int l1), some (.int l2), some (.int l3), some (.long l4), none, some (.int l6), some (.int l7), some (.long (l4 * (q5.1).toInt64)), none, some (.long (Int64.ofNat 18446744073709551615)), none], [.long (l4 * (q5.1).toInt64), .int l7, .ref 247], hp X G m50)) rfl ?_
              obtain ⟨c56, hf⟩ := ab_ifs hf
              obtain ⟨m57, e58, hf⟩ := ab_bnd hf
              have e58 := Option.some.inj e58
              refine ab_U.last (n := 100) rfl ⟨by decide, rfl⟩ c56 ?_
              show ab_U _ _ _ (164, [some (.ref 232), some (.int l1), some (.int l2), some (.int l3), some (.long l4), none, some (.int l6), some (.int l7), some (.long (l4 * (q5.1).toInt64)), none, some (.long (Int64.ofNat 18446744073709551615)), none], [], hp X G (fm_sJ m50 247 (vp_updL (m50.2.2.1 247) l7.toNatClampNeg (l4 * (q5.1).toInt64)))) _
              rw [e58]
              refine ab_U.run 2 (S' := (36, [some (.ref 232), some (.int l1), some (.int l2), some (.int l3), some (.long l4), none, some (.int l6), some (.int (l7 + 1)), some (.long (l4 * (q5.1).toInt64)), none, some (.long (Int64.ofNat 18446744073709551615)), none], [], hp X G m57)) rfl ?_
              exact ab_U.weak (ih.2.1 _ _ _ _ _ _ _ _ hf) (ab_leL.of ⟨rfl, ⟨rfl, ⟨rfl, ⟨rfl, ⟨rfl, ⟨rfl, ⟨rfl, trivial⟩⟩⟩⟩⟩⟩⟩)
          · rw [if_neg b48] at hf
            refine ab_U.run 3 (S' := (124, [some (.ref 232), some (.int l1), some (.int l2), some (.int l3), some (.long l4), none, some (.int l6), some (.int l7), some (.long (l4 * (q5.1).toInt64)), none, some (.long (Int64.ofNat 18446744073709551615)), none], [.int (lg_cmp (l4 * (q5.1).toInt64) (Int64.ofNat 18446744073709551615)), .ref 232], hp X G q5.2)) rfl ?_
            refine ab_U.if_lt rfl (fun b59 => ?_) (fun b59 => ?_)
            · rw [if_pos b59] at hf
              refine ab_U.run 2 (S' := (139, [some (.ref 232), some (.int l1), some (.int l2), some (.int l3), some (.long l4), none, some (.int l6), some (.int l7), some (.long (l4 * (q5.1).toInt64)), none, some (.long (Int64.ofNat 18446744073709551615)), none], [.int 0, .ref 232], hp X G q5.2)) rfl ?_
              obtain ⟨m60, e61, hf⟩ := ab_bnd hf
              have e61 := Option.some.inj e61
              refine ab_U.pfI (ci := 9) (k9 := 31) rfl ⟨by decide, rfl⟩ ⟨rfl, rfl, by decide, rfl⟩ rfl ?_
              show ab_U _ _ _ (142, [some (.ref 232), some (.int l1), some (.int l2), some (.int l3), some (.long l4), none, some (.int l6), some (.int l7), some (.long (l4 * (q5.1).toInt64)), none, some (.long (Int64.ofNat 18446744073709551615)), none], [], hp X G (fm_sI q5.2 232 31 0)) _
              rw [e61]
              refine ab_U.run 6 (S' := (153, [some (.ref 232), some (.int l1), some (.int l2), some (.int l3), some (.long l4), none, some (.int l6), some (.int l7), some (.long (l4 * (q5.1).toInt64)), none, some (.long (Int64.ofNat 18446744073709551615)), none], [.int (lg_cmp (l4 * (q5.1).toInt64) (Int64.ofNat 18446744073709551615)), .int l7, .ref 247], hp X G m60)) rfl ?_
              refine ab_U.if_lt rfl (fun b62 => ?_) (fun b62 => ?_)
              · rw [if_pos b62] at hf
                refine ab_U.run 1 (S' := (163, [some (.ref 232), some (.int l1), some (.int l2), some (.int l3), some (.long l4), none, some (.int l6), some (.int l7), some (.long (l4 * (q5.1).toInt64)), none, some (.long (Int64.ofNat 18446744073709551615)), none], [.long (Int64.ofNat 18446744073709551615), .int l7, .ref 247], hp X G m60)) rfl ?_
                obtain ⟨c63, hf⟩ := ab_ifs hf
                obtain ⟨m64, e65, hf⟩ := ab_bnd hf
                have e65 := Option.some.inj e65
                refine ab_U.last (n := 100) rfl ⟨by decide, rfl⟩ c63 ?_
                show ab_U _ _ _ (164, [some (.ref 232), some (.int l1), some (.int l2), some (.int l3), some (.long l4), none, some (.int l6), some (.int l7), some (.long (l4 * (q5.1).toInt64)), none, some (.long (Int64.ofNat 18446744073709551615)), none], [], hp X G (fm_sJ m60 247 (vp_updL (m60.2.2.1 247) l7.toNatClampNeg (Int64.ofNat 18446744073709551615)))) _
                rw [e65]
                refine ab_U.run 2 (S' := (36, [some (.ref 232), some (.int l1), some (.int l2), some (.int l3), some (.long l4), none, some (.int l6), some (.int (l7 + 1)), some (.long (l4 * (q5.1).toInt64)), none, some (.long (Int64.ofNat 18446744073709551615)), none], [], hp X G m64)) rfl ?_
                exact ab_U.weak (ih.2.1 _ _ _ _ _ _ _ _ hf) (ab_leL.of ⟨rfl, ⟨rfl, ⟨rfl, ⟨rfl, ⟨rfl, ⟨rfl, ⟨rfl, trivial⟩⟩⟩⟩⟩⟩⟩)
              · rw [if_neg b62] at hf
                refine ab_U.run 2 (S' := (163, [some (.ref 232), some (.int l1), some (.int l2), some (.int l3), some (.long l4), none, some (.int l6), some (.int l7), some (.long (l4 * (q5.1).toInt64)), none, some (.long (Int64.ofNat 18446744073709551615)), none], [.long (l4 * (q5.1).toInt64), .int l7, .ref 247], hp X G m60)) rfl ?_
                obtain ⟨c66, hf⟩ := ab_ifs hf
                obtain ⟨m67, e68, hf⟩ := ab_bnd hf
                have e68 := Option.some.inj e68
                refine ab_U.last (n := 100) rfl ⟨by decide, rfl⟩ c66 ?_
                show ab_U _ _ _ (164, [some (.ref 232), some (.int l1), some (.int l2), some (.int l3), some (.long l4), none, some (.int l6), some (.int l7), some (.long (l4 * (q5.1).toInt64)), none, some (.long (Int64.ofNat 18446744073709551615)), none], [], hp X G (fm_sJ m60 247 (vp_updL (m60.2.2.1 247) l7.toNatClampNeg (l4 * (q5.1).toInt64)))) _
                rw [e68]
                refine ab_U.run 2 (S' := (36, [some (.ref 232), some (.int l1), some (.int l2), some (.int l3), some (.long l4), none, some (.int l6), some (.int (l7 + 1)), some (.long (l4 * (q5.1).toInt64)), none, some (.long (Int64.ofNat 18446744073709551615)), none], [], hp X G m67)) rfl ?_
                exact ab_U.weak (ih.2.1 _ _ _ _ _ _ _ _ hf) (ab_leL.of ⟨rfl, ⟨rfl, ⟨rfl, ⟨rfl, ⟨rfl, ⟨rfl, ⟨rfl, trivial⟩⟩⟩⟩⟩⟩⟩)
            · rw [if_neg b59] at hf
              refine ab_U.run 2 (S' := (139, [some (.ref 232), some (.int l1), some (.int l2), some (.int l3), some (.long l4), none, some (.int l6), some (.int l7), some (.long (l4 * (q5.1).toInt64)), none, some (.long (Int64.ofNat 18446744073709551615)), none], [.int 1, .ref 232], hp X G q5.2)) rfl ?_
              obtain ⟨m69, e70, hf⟩ := ab_bnd hf
              have e70 := Option.some.inj e70
              refine ab_U.pfI (ci := 9) (k9 := 31) rfl ⟨by decide, rfl⟩ ⟨rfl, rfl, by decide, rfl⟩ rfl ?_
              show ab_U _ _ _ (142, [some (.ref 232), some (.int l1), some (.int l2), some (.int l3), some (.long l4), none, some (.int l6), some (.int l7), some (.long (l4 * (q5.1).toInt64)), none, some (.long (Int64.ofNat 18446744073709551615)), none], [], hp X G (fm_sI q5.2 232 31 1)) _
              rw [e70]
              refine ab_U.run 6 (S' := (153, [some (.ref 232), some (.int l1), some (.int l2), some (.int l3), some (.long l4), none, some (.int l6), some (.int l7), some (.long (l4 * (q5.1).toInt64)), none, some (.long (Int64.ofNat 18446744073709551615)), none], [.int (lg_cmp (l4 * (q5.1).toInt64) (Int64.ofNat 18446744073709551615)), .int l7, .ref 247], hp X G m69)) rfl ?_
              refine ab_U.if_lt rfl (fun b71 => ?_) (fun b71 => ?_)
              · rw [if_pos b71] at hf
                refine ab_U.run 1 (S' := (163, [some (.ref 232), some (.int l1), some (.int l2), some (.int l3), some (.long l4), none, some (.int l6), some (.int l7), some (.long (l4 * (q5.1).toInt64)), none, some (.long (Int64.ofNat 18446744073709551615)), none], [.long (Int64.ofNat 18446744073709551615), .int l7, .ref 247], hp X G m69)) rfl ?_
                obtain ⟨c72, hf⟩ := ab_ifs hf
                obtain ⟨m73, e74, hf⟩ := ab_bnd hf
                have e74 := Option.some.inj e74
                refine ab_U.last (n := 100) rfl ⟨by decide, rfl⟩ c72 ?_
                show ab_U _ _ _ (164, [some (.ref 232), some (.int l1), some (.int l2), some (.int l3), some (.long l4), none, some (.int l6), some (.int l7), some (.long (l4 * (q5.1).toInt64)), none, some (.long (Int64.ofNat 18446744073709551615)), none], [], hp X G (fm_sJ m69 247 (vp_updL (m69.2.2.1 247) l7.toNatClampNeg (Int64.ofNat 18446744073709551615)))) _
                rw [e74]
                refine ab_U.run 2 (S' := (36, [some (.ref 232), some (.int l1), some (.int l2), some (.int l3), some (.long l4), none, some (.int l6), some (.int (l7 + 1)), some (.long (l4 * (q5.1).toInt64)), none, some (.long (Int64.ofNat 18446744073709551615)), none], [], hp X G m73)) rfl ?_
                exact ab_U.weak (ih.2.1 _ _ _ _ _ _ _ _ hf) (ab_leL.of ⟨rfl, ⟨rfl, ⟨rfl, ⟨rfl, ⟨rfl, ⟨rfl, ⟨rfl, trivial⟩⟩⟩⟩⟩⟩⟩)
              · rw [if_neg b71] at hf
                refine ab_U.run 2 (S' := (163, [some (.ref 232), some (.int l1), some (.int l2), some (.int l3), some (.long l4), none, some (.int l6), some (.int l7), some (.long (l4 * (q5.1).toInt64)), none, some (.long (Int64.ofNat 18446744073709551615)), none], [.long (l4 * (q5.1).toInt64), .int l7, .ref 247], hp X G m69)) rfl ?_
                obtain ⟨c75, hf⟩ := ab_ifs hf
                obtain ⟨m76, e77, hf⟩ := ab_bnd hf
                have e77 := Option.some.inj e77
                refine ab_U.last (n := 100) rfl ⟨by decide, rfl⟩ c75 ?_
                show ab_U _ _ _ (164, [some (.ref 232), some (.int l1), some (.int l2), some (.int l3), some (.long l4), none, some (.int l6), some (.int l7), some (.long (l4 * (q5.1).toInt64)), none, some (.long (Int64.ofNat 18446744073709551615)), none], [], hp X G (fm_sJ m69 247 (vp_updL (m69.2.2.1 247) l7.toNatClampNeg (l4 * (q5.1).toInt64)))) _
                rw [e77]
                refine ab_U.run 2 (S' := (36, [some (.ref 232), some (.int l1), some (.int l2), some (.int l3), some (.long l4), none, some (.int l6), some (.int (l7 + 1)), some (.long (l4 * (q5.1).toInt64)), none, some (.long (Int64.ofNat 18446744073709551615)), none], [], hp X G m76)) rfl ?_
                exact ab_U.weak (ih.2.1 _ _ _ _ _ _ _ _ hf) (ab_leL.of ⟨rfl, ⟨rfl, ⟨rfl, ⟨rfl, ⟨rfl, ⟨rfl, ⟨rfl, trivial⟩⟩⟩⟩⟩⟩⟩)
    · intro l1 l2 l3 l4 l6 l7 μ r hf
      have hf : b_X9_spent_173 F  (g_X9_spent F  n) l1 l2 l3 l4 l6 l7 μ = some r := hf
      unfold b_X9_spent_173 at hf
      refine ab_U.run 2 (S' := (177, [some (.ref 232), some (.int l1), some (.int l2), some (.int l3), some (.long l4), none, some (.int l6), some (.int l7), none, none, none, none], [.int 100, .int l7], hp X G μ)) rfl ?_
      refine ab_U.ic_ge rfl (fun b78 => ?_) (fun b78 => ?_)
      · rw [if_pos b78] at hf
        refine ab_U.run 6 (S' := (28, [some (.ref 232), some (.int l1), some (.int l2), some (.int l3), some (.long (l4 * (Int64.ofNat 10))), none, some (.int (l6 + (-1))), some (.int l7), none, none, none, none], [], hp X G μ)) rfl ?_
        exact ab_U.weak (ih.1 _ _ _ _ _ _ _ _ hf) (ab_leL.of ⟨rfl, ⟨rfl, ⟨rfl, ⟨rfl, ⟨rfl, ⟨rfl, trivial⟩⟩⟩⟩⟩⟩)
      · rw [if_neg b78] at hf
        refine ab_U.run 6 (S' := (192, [some (.ref 232), some (.int l1), some (.int l2), some (.int l3), some (.long l4), none, some (.int l6), some (.int l7), none, none, none, none], [.int l7, .ref 247, .int l7, .ref 246], hp X G μ)) rfl ?_
        obtain ⟨c79, hf⟩ := ab_ifs hf
        refine ab_U.lald (n := 100) rfl ⟨by decide, rfl⟩ c79 ?_
        show ab_U _ _ _ (193, [some (.ref 232), some (.int l1), some (.int l2), some (.int l3), some (.long l4), none, some (.int l6), some (.int l7), none, none, none, none], [.long (μ.2.2.1 247 l7.toNatClampNeg), .int l7, .ref 246], hp X G μ) _
        obtain ⟨c80, hf⟩ := ab_ifs hf
        obtain ⟨m81, e82, hf⟩ := ab_bnd hf
        have e82 := Option.some.inj e82
        refine ab_U.last (n := 100) rfl ⟨by decide, rfl⟩ c80 ?_
        show ab_U _ _ _ (194, [some (.ref 232), some (.int l1), some (.int l2), some (.int l3), some (.long l4), none, some (.int l6), some (.int l7), none, none, none, none], [], hp X G (fm_sJ μ 246 (vp_updL (μ.2.2.1 246) l7.toNatClampNeg (μ.2.2.1 247 l7.toNatClampNeg)))) _
        rw [e82]
        refine ab_U.run 2 (S' := (173, [some (.ref 232), some (.int l1), some (.int l2), some (.int l3), some (.long l4), none, some (.int l6), some (.int (l7 + 1)), none, none, none, none], [], hp X G m81)) rfl ?_
        exact ab_U.weak (ih.2.2 _ _ _ _ _ _ _ _ hf) (ab_leL.of ⟨rfl, ⟨rfl, ⟨rfl, ⟨rfl, ⟨rfl, ⟨rfl, ⟨rfl, trivial⟩⟩⟩⟩⟩⟩⟩)
set_option maxRecDepth 20000 in
def f_X9_spent (F : Nat)  (x0 : Int32) (μ : fm_M) : Option (Int64 × fm_M) := (Option.bind (f_X9_rateOn F 0 x0 μ) (fun q83 => (if ab_in 26 228 = true then (Option.bind (some (fm_sI q83.2 232 31 0)) (fun m86 => g_X9_spent F  F 28 x0 q83.1 ((q83.2.2.1 233 (26 : Int32).toNatClampNeg) + 2) (Int64.ofNat 1) 5 0 m86)) else none)))
set_option maxRecDepth 20000 in
theorem t_X9_spent {X : Nat × (Nat → Int32)} {G : Nat → Nat → Option Nat} (hG : fm_Gok G) {F : Nat}   {x0 : Int32} {μ : fm_M} {r : Int64 × fm_M} (hf : f_X9_spent F x0 μ = some r) : ab_F 3 203 [.ref 232, .int x0] (hp X G μ) (some (.long r.1)) (hp X G r.2) := by
  unfold f_X9_spent at hf
  refine ab_T.of (d := 2) rfl (Nat.le_of_ble_eq_true rfl) ?_
  show ab_U _ _ kX9_spent (0, [some (.ref 232), some (.int x0), none, none, none, none, none, none, none, none, none, none], [], hp X G μ) _
  refine ab_U.run 3 (S' := (3, [some (.ref 232), some (.int x0), none, none, none, none, none, none, none, none, none, none], [.int x0, .int 0, .ref 232], hp X G μ)) rfl ?_
  obtain ⟨q83, h84, hf⟩ := ab_bnd hf
  refine ab_U.fn rfl rfl (t_X9_rateOn (X := X) hG h84) (by omega) ?_
  show ab_U _ _ _ (6, [some (.ref 232), some (.int x0), none, none, none, none, none, none, none, none, none, none], [.int q83.1], hp X G q83.2) _
  refine ab_U.run 4 (S' := (13, [some (.ref 232), some (.int x0), some (.int q83.1), none, none, none, none, none, none, none, none, none], [.int 26, .ref 233], hp X G q83.2)) rfl ?_
  obtain ⟨c85, hf⟩ := ab_ifs hf
  refine ab_U.iald (n := 228) rfl ⟨by decide, rfl⟩ c85 ?_
  show ab_U _ _ _ (14, [some (.ref 232), some (.int x0), some (.int q83.1), none, none, none, none, none, none, none, none, none], [.int (q83.2.2.1 233 (26 : Int32).toNatClampNeg)], hp X G q83.2) _
  refine ab_U.run 7 (S' := (22, [some (.ref 232), some (.int x0), some (.int q83.1), some (.int ((q83.2.2.1 233 (26 : Int32).toNatClampNeg) + 2)), some (.long (Int64.ofNat 1)), none, none, none, none, none, none, none], [.int 0, .ref 232], hp X G q83.2)) rfl ?_
  obtain ⟨m86, e87, hf⟩ := ab_bnd hf
  have e87 := Option.some.inj e87
  refine ab_U.pfI (ci := 9) (k9 := 31) rfl ⟨by decide, rfl⟩ ⟨rfl, rfl, by decide, rfl⟩ rfl ?_
  show ab_U _ _ _ (25, [some (.ref 232), some (.int x0), some (.int q83.1), some (.int ((q83.2.2.1 233 (26 : Int32).toNatClampNeg) + 2)), some (.long (Int64.ofNat 1)), none, none, none, none, none, none, none], [], hp X G (fm_sI q83.2 232 31 0)) _
  rw [e87]
  refine ab_U.run 2 (S' := (28, [some (.ref 232), some (.int x0), some (.int q83.1), some (.int ((q83.2.2.1 233 (26 : Int32).toNatClampNeg) + 2)), some (.long (Int64.ofNat 1)), none, some (.int 5), none, none, none, none, none], [], hp X G m86)) rfl ?_
  exact ab_U.weak ((t_X9_spent_g (X := X) hG   F).1 _ _ _ _ _ _ _ _ hf) (ab_leL.of ⟨rfl, ⟨rfl, ⟨rfl, ⟨rfl, ⟨rfl, ⟨rfl, trivial⟩⟩⟩⟩⟩⟩)
set_option maxRecDepth 20000 in
def f_X9_spend (F : Nat)  (x0 : Int32) (x1 : Int32) (μ : fm_M) : Option (Int64 × fm_M) := (Option.bind (f_X9_isStone F x0 μ) (fun q1 => (if q1.1 = 0 then some ((Int64.ofNat 18446744073709551615), q1.2) else (Option.bind (f_X9_in F ((x1).toInt64) (Int64.ofNat 0) (Int64.ofNat 2) q1.2) (fun q4 => (if ¬ q4.1 = 0 then (Option.bind (f_X9_spent F x0 q4.2) (fun q7 => (if ¬ x1 = 2 then (Option.bind (f_X9_lowest F q7.1 (Int64.ofNat 100000) x1 q7.2) (fun q10 => some (q10.1, q10.2))) else (if (q7.2.1 232 31) = 0 then some ((Int64.ofNat 0), q7.2) else some ((Int64.ofNat 1), q7.2))))) else some ((Int64.ofNat 18446744073709551615), q4.2)))))))
set_option maxRecDepth 20000 in
theorem t_X9_spend {X : Nat × (Nat → Int32)} {G : Nat → Nat → Option Nat} (hG : fm_Gok G) {F : Nat}   {x0 : Int32} {x1 : Int32} {μ : fm_M} {r : Int64 × fm_M} (hf : f_X9_spend F x0 x1 μ = some r) : ab_F 4 204 [.ref 232, .int x0, .int x1] (hp X G μ) (some (.long r.1)) (hp X G r.2) := by
  unfold f_X9_spend at hf
  refine ab_T.of (d := 3) rfl (Nat.le_of_ble_eq_true rfl) ?_
  show ab_U _ _ kX9_spend (0, [some (.ref 232), some (.int x0), some (.int x1), none, none], [], hp X G μ) _
  refine ab_U.run 2 (S' := (2, [some (.ref 232), some (.int x0), some (.int x1), none, none], [.int x0, .ref 232], hp X G μ)) rfl ?_
  obtain ⟨q1, h2, hf⟩ := ab_bnd hf
  refine ab_U.fn rfl rfl (t_X9_isStone (X := X) hG h2) (by omega) ?_
  show ab_U _ _ _ (5, [some (.ref 232), some (.int x0), some (.int x1), none, none], [.int q1.1], hp X G q1.2) _
  refine ab_U.if_eq rfl (fun b3 => ?_) (fun b3 => ?_)
  · rw [if_pos b3] at hf
    refine ab_U.run 1 (S' := (23, [some (.ref 232), some (.int x0), some (.int x1), none, none], [.long (Int64.ofNat 18446744073709551615)], hp X G q1.2)) rfl ?_
    obtain rfl := Option.some.inj hf
    exact ab_U.ret rfl rfl ⟨rfl, rfl⟩
  · rw [if_neg b3] at hf
    refine ab_U.run 4 (S' := (14, [some (.ref 232), some (.int x0), some (.int x1), none, none], [.long (Int64.ofNat 2), .long (Int64.ofNat 0), .long (x1).toInt64], hp X G q1.2)) rfl ?_
    obtain ⟨q4, h5, hf⟩ := ab_bnd hf
    refine ab_U.fn rfl rfl (t_X9_in (X := X) hG h5) (by omega) ?_
    show ab_U _ _ _ (17, [some (.ref 232), some (.int x0), some (.int x1), none, none], [.int q4.1], hp X G q4.2) _
    refine ab_U.if_ne rfl (fun b6 => ?_) (fun b6 => ?_)
    · rw [if_pos b6] at hf
      refine ab_U.run 2 (S' := (26, [some (.ref 232), some (.int x0), some (.int x1), none, none], [.int x0, .ref 232], hp X G q4.2)) rfl ?_
      obtain ⟨q7, h8, hf⟩ := ab_bnd hf
      refine ab_U.fn rfl rfl (t_X9_spent (X := X) hG h8) (by omega) ?_
      show ab_U _ _ _ (29, [some (.ref 232), some (.int x0), some (.int x1), none, none], [.long q7.1], hp X G q7.2) _
      refine ab_U.run 3 (S' := (32, [some (.ref 232), some (.int x0), some (.int x1), some (.long q7.1), none], [.int 2, .int x1], hp X G q7.2)) rfl ?_
      refine ab_U.ic_ne rfl (fun b9 => ?_) (fun b9 => ?_)
      · rw [if_pos b9] at hf
        refine ab_U.run 3 (S' := (55, [some (.ref 232), some (.int x0), some (.int x1), some (.long q7.1), none], [.int x1, .long (Int64.ofNat 100000), .long q7.1], hp X G q7.2)) rfl ?_
        obtain ⟨q10, h11, hf⟩ := ab_bnd hf
        refine ab_U.fn rfl rfl (t_X9_lowest (X := X) hG h11) (by omega) ?_
        show ab_U _ _ _ (58, [some (.ref 232), some (.int x0), some (.int x1), some (.long q7.1), none], [.long q10.1], hp X G q10.2) _
        obtain rfl := Option.some.inj hf
        exact ab_U.ret rfl rfl ⟨rfl, rfl⟩
      · rw [if_neg b9] at hf
        refine ab_U.run 2 (S' := (39, [some (.ref 232), some (.int x0), some (.int x1), some (.long q7.1), none], [.int (q7.2.1 232 31)], hp X G q7.2)) rfl ?_
        refine ab_U.if_eq rfl (fun b12 => ?_) (fun b12 => ?_)
        · rw [if_pos b12] at hf
          refine ab_U.run 2 (S' := (58, [some (.ref 232), some (.int x0), some (.int x1), some (.long q7.1), none], [.long (Int64.ofNat 0)], hp X G q7.2)) rfl ?_
          obtain rfl := Option.some.inj hf
          exact ab_U.ret rfl rfl ⟨rfl, rfl⟩
        · rw [if_neg b12] at hf
          refine ab_U.run 2 (S' := (58, [some (.ref 232), some (.int x0), some (.int x1), some (.long q7.1), none], [.long (Int64.ofNat 1)], hp X G q7.2)) rfl ?_
          obtain rfl := Option.some.inj hf
          exact ab_U.ret rfl rfl ⟨rfl, rfl⟩
    · rw [if_neg b6] at hf
      refine ab_U.run 1 (S' := (23, [some (.ref 232), some (.int x0), some (.int x1), none, none], [.long (Int64.ofNat 18446744073709551615)], hp X G q4.2)) rfl ?_
      obtain rfl := Option.some.inj hf
      exact ab_U.ret rfl rfl ⟨rfl, rfl⟩
set_option maxRecDepth 20000 in
def f_X9_see (F : Nat)  (x0 : Int32) (x1 : Int32) (μ : fm_M) : Option (Int32 × fm_M) := (Option.bind (f_X9_in F ((x0).toInt64) (Int64.ofNat 0) (Int64.ofNat 20) μ) (fun q1 => (if q1.1 = 0 then some ((-1), q1.2) else (Option.bind (f_X9_in F ((x1).toInt64) (Int64.ofNat 0) (Int64.ofNat 99) q1.2) (fun q4 => (if ¬ q4.1 = 0 then (if ¬ (q4.2.1 232 33) = 6 then (if ab_in (2 * (q4.2.1 232 33)) 12 = true then (Option.bind (some (fm_sA q4.2 248 (upd (q4.2.2.1 248) (2 * (q4.2.1 232 33)).toNatClampNeg x0))) (fun m9 => (if ab_in ((2 * (m9.1 232 33)) + 1) 12 = true then (Option.bind (some (fm_sA m9 248 (upd (m9.2.1 248) ((2 * (m9.1 232 33)) + 1).toNatClampNeg x1))) (fun m12 => (Option.bind (some (fm_sI m12 232 33 ((m12.1 232 33) + 1))) (fun m14 => some ((m14.1 232 33), m14))))) else none))) else none) else some ((-3), q4.2)) else some ((-1), q4.2)))))))
set_option maxRecDepth 20000 in
theorem t_X9_see {X : Nat × (Nat → Int32)} {G : Nat → Nat → Option Nat} (hG : fm_Gok G) {F : Nat}   {x0 : Int32} {x1 : Int32} {μ : fm_M} {r : Int32 × fm_M} (hf : f_X9_see F x0 x1 μ = some r) : ab_F 2 205 [.ref 232, .int x0, .int x1] (hp X G μ) (some (.int r.1)) (hp X G r.2) := by
  unfold f_X9_see at hf
  refine ab_T.of (d := 1) rfl (Nat.le_of_ble_eq_true rfl) ?_
  show ab_U _ _ kX9_see (0, [some (.ref 232), some (.int x0), some (.int x1)], [], hp X G μ) _
  refine ab_U.run 4 (S' := (6, [some (.ref 232), some (.int x0), some (.int x1)], [.long (Int64.ofNat 20), .long (Int64.ofNat 0), .long (x0).toInt64], hp X G μ)) rfl ?_
  obtain ⟨q1, h2, hf⟩ := ab_bnd hf
  refine ab_U.fn rfl rfl (t_X9_in (X := X) hG h2) (by omega) ?_
  show ab_U _ _ _ (9, [some (.ref 232), some (.int x0), some (.int x1)], [.int q1.1], hp X G q1.2) _
  refine ab_U.if_eq rfl (fun b3 => ?_) (fun b3 => ?_)
  · rw [if_pos b3] at hf
    refine ab_U.run 1 (S' := (25, [some (.ref 232), some (.int x0), some (.int x1)], [.int (-1)], hp X G q1.2)) rfl ?_
    obtain rfl := Option.some.inj hf
    exact ab_U.ret rfl rfl ⟨rfl, rfl⟩
  · rw [if_neg b3] at hf
    refine ab_U.run 4 (S' := (18, [some (.ref 232), some (.int x0), some (.int x1)], [.long (Int64.ofNat 99), .long (Int64.ofNat 0), .long (x1).toInt64], hp X G q1.2)) rfl ?_
    obtain ⟨q4, h5, hf⟩ := ab_bnd hf
    refine ab_U.fn rfl rfl (t_X9_in (X := X) hG h5) (by omega) ?_
    show ab_U _ _ _ (21, [some (.ref 232), some (.int x0), some (.int x1)], [.int q4.1], hp X G q4.2) _
    refine ab_U.if_ne rfl (fun b6 => ?_) (fun b6 => ?_)
    · rw [if_pos b6] at hf
      refine ab_U.run 3 (S' := (32, [some (.ref 232), some (.int x0), some (.int x1)], [.int 6, .int (q4.2.1 232 33)], hp X G q4.2)) rfl ?_
      refine ab_U.ic_ne rfl (fun b7 => ?_) (fun b7 => ?_)
      · rw [if_pos b7] at hf
        refine ab_U.run 7 (S' := (49, [some (.ref 232), some (.int x0), some (.int x1)], [.int x0, .int (2 * (q4.2.1 232 33)), .ref 248], hp X G q4.2)) rfl ?_
        obtain ⟨c8, hf⟩ := ab_ifs hf
        obtain ⟨m9, e10, hf⟩ := ab_bnd hf
        have e10 := Option.some.inj e10
        refine ab_U.iast (n := 12) rfl ⟨by decide, rfl⟩ c8 ?_
        show ab_U _ _ _ (50, [some (.ref 232), some (.int x0), some (.int x1)], [], hp X G (fm_sA q4.2 248 (upd (q4.2.2.1 248) (2 * (q4.2.1 232 33)).toNatClampNeg x0))) _
        rw [e10]
        refine ab_U.run 9 (S' := (63, [some (.ref 232), some (.int x0), some (.int x1)], [.int x1, .int ((2 * (m9.1 232 33)) + 1), .ref 248], hp X G m9)) rfl ?_
        obtain ⟨c11, hf⟩ := ab_ifs hf
        obtain ⟨m12, e13, hf⟩ := ab_bnd hf
        have e13 := Option.some.inj e13
        refine ab_U.iast (n := 12) rfl ⟨by decide, rfl⟩ c11 ?_
        show ab_U _ _ _ (64, [some (.ref 232), some (.int x0), some (.int x1)], [], hp X G (fm_sA m9 248 (upd (m9.2.1 248) ((2 * (m9.1 232 33)) + 1).toNatClampNeg x1))) _
        rw [e13]
        refine ab_U.run 5 (S' := (71, [some (.ref 232), some (.int x0), some (.int x1)], [.int ((m12.1 232 33) + 1), .ref 232], hp X G m12)) rfl ?_
        obtain ⟨m14, e15, hf⟩ := ab_bnd hf
        have e15 := Option.some.inj e15
        refine ab_U.pfI (ci := 9) (k9 := 33) rfl ⟨by decide, rfl⟩ ⟨rfl, rfl, by decide, rfl⟩ rfl ?_
        show ab_U _ _ _ (74, [some (.ref 232), some (.int x0), some (.int x1)], [], hp X G (fm_sI m12 232 33 ((m12.1 232 33) + 1))) _
        rw [e15]
        refine ab_U.run 2 (S' := (78, [some (.ref 232), some (.int x0), some (.int x1)], [.int (m14.1 232 33)], hp X G m14)) rfl ?_
        obtain rfl := Option.some.inj hf
        exact ab_U.ret rfl rfl ⟨rfl, rfl⟩
      · rw [if_neg b7] at hf
        refine ab_U.run 1 (S' := (37, [some (.ref 232), some (.int x0), some (.int x1)], [.int (-3)], hp X G q4.2)) rfl ?_
        obtain rfl := Option.some.inj hf
        exact ab_U.ret rfl rfl ⟨rfl, rfl⟩
    · rw [if_neg b6] at hf
      refine ab_U.run 1 (S' := (25, [some (.ref 232), some (.int x0), some (.int x1)], [.int (-1)], hp X G q4.2)) rfl ?_
      obtain rfl := Option.some.inj hf
      exact ab_U.ret rfl rfl ⟨rfl, rfl⟩
set_option maxRecDepth 20000 in
def f_X9_forget (F : Nat)  (x0 : Int32) (μ : fm_M) : Option (Int32 × fm_M) := (Option.bind (f_X9_in F ((x0).toInt64) (Int64.ofNat 0) (((μ.1 232 33)).toInt64) μ) (fun q1 => (if ¬ q1.1 = 0 then (Option.bind (some (fm_sI q1.2 232 33 x0)) (fun m4 => some ((q1.2.1 232 33), m4))) else some ((-1), q1.2))))
set_option maxRecDepth 20000 in
theorem t_X9_forget {X : Nat × (Nat → Int32)} {G : Nat → Nat → Option Nat} (hG : fm_Gok G) {F : Nat}   {x0 : Int32} {μ : fm_M} {r : Int32 × fm_M} (hf : f_X9_forget F x0 μ = some r) : ab_F 2 206 [.ref 232, .int x0] (hp X G μ) (some (.int r.1)) (hp X G r.2) := by
  unfold f_X9_forget at hf
  refine ab_T.of (d := 1) rfl (Nat.le_of_ble_eq_true rfl) ?_
  show ab_U _ _ kX9_forget (0, [some (.ref 232), some (.int x0), none], [], hp X G μ) _
  refine ab_U.run 6 (S' := (8, [some (.ref 232), some (.int x0), none], [.long ((μ.1 232 33)).toInt64, .long (Int64.ofNat 0), .long (x0).toInt64], hp X G μ)) rfl ?_
  obtain ⟨q1, h2, hf⟩ := ab_bnd hf
  refine ab_U.fn rfl rfl (t_X9_in (X := X) hG h2) (by omega) ?_
  show ab_U _ _ _ (11, [some (.ref 232), some (.int x0), none], [.int q1.1], hp X G q1.2) _
  refine ab_U.if_ne rfl (fun b3 => ?_) (fun b3 => ?_)
  · rw [if_pos b3] at hf
    refine ab_U.run 5 (S' := (23, [some (.ref 232), some (.int x0), some (.int (q1.2.1 232 33))], [.int x0, .ref 232], hp X G q1.2)) rfl ?_
    obtain ⟨m4, e5, hf⟩ := ab_bnd hf
    have e5 := Option.some.inj e5
    refine ab_U.pfI (ci := 9) (k9 := 33) rfl ⟨by decide, rfl⟩ ⟨rfl, rfl, by decide, rfl⟩ rfl ?_
    show ab_U _ _ _ (26, [some (.ref 232), some (.int x0), some (.int (q1.2.1 232 33))], [], hp X G (fm_sI q1.2 232 33 x0)) _
    rw [e5]
    refine ab_U.run 1 (S' := (27, [some (.ref 232), some (.int x0), some (.int (q1.2.1 232 33))], [.int (q1.2.1 232 33)], hp X G m4)) rfl ?_
    obtain rfl := Option.some.inj hf
    exact ab_U.ret rfl rfl ⟨rfl, rfl⟩
  · rw [if_neg b3] at hf
    refine ab_U.run 1 (S' := (15, [some (.ref 232), some (.int x0), none], [.int (-1)], hp X G q1.2)) rfl ?_
    obtain rfl := Option.some.inj hf
    exact ab_U.ret rfl rfl ⟨rfl, rfl⟩
set_option maxRecDepth 20000 in
def b_X9_isAsSeen_5 (F : Nat)  (gg : Nat → Int32 → Int32 → Int32 → Int32 → fm_M → Option (Int32 × fm_M)) (l1 : Int32) (l2 : Int32) (l3 : Int32) (l4 : Int32) (μ : fm_M) : Option (Int32 × fm_M) := (if (μ.1 232 33) ≤ l4 then (if l3 = 0 ∨ l3 = 1 then some (l3, μ) else none) else (if l3 = 0 then gg 5 l1 l2 0 (l4 + 1) μ else (if ab_in (13 + l1) 228 = true then (if ab_in (8 + l1) 228 = true then (if ab_in (μ.2.1 233 (8 + l1).toNatClampNeg) 4 = true then (if ab_in l2 228 = true then (Option.bind (f_X9_rateOf F (μ.2.1 235 (μ.2.1 233 (8 + l1).toNatClampNeg).toNatClampNeg) (μ.2.1 233 l2.toNatClampNeg) μ) (fun q8 => (if ab_in (2 * l4) 12 = true then (Option.bind (f_X9_afterOf F (μ.2.1 233 (13 + l1).toNatClampNeg) q8.1 (q8.2.2.1 248 (2 * l4).toNatClampNeg) q8.2) (fun q11 => (if ab_in ((2 * l4) + 1) 12 = true then (if ¬ q11.1 = (q11.2.2.1 248 ((2 * l4) + 1).toNatClampNeg) then gg 5 l1 l2 0 (l4 + 1) q11.2 else gg 5 l1 l2 1 (l4 + 1) q11.2) else none))) else none))) else none) else none) else none) else none)))
def g_X9_isAsSeen (F : Nat)  : Nat → Nat → Int32 → Int32 → Int32 → Int32 → fm_M → Option (Int32 × fm_M)
  | 0, _, _, _, _, _, _ => none
  | n + 1, pc, l1, l2, l3, l4, μ => if pc = 5 then b_X9_isAsSeen_5 F  (g_X9_isAsSeen F  n) l1 l2 l3 l4 μ else none
set_option maxRecDepth 20000 in
theorem t_X9_isAsSeen_g {X : Nat × (Nat → Int32)} {G : Nat → Nat → Option Nat} (hG : fm_Gok G) {F : Nat}    : ∀ n : Nat, (∀ (l1 : Int32) (l2 : Int32) (l3 : Int32) (l4 : Int32) (μ : fm_M) (r : Int32 × fm_M), g_X9_isAsSeen F  n 5 l1 l2 l3 l4 μ = some r → ab_U 2 (some .boolean) kX9_isAsSeen (5, [some (.ref 232), some (.int l1), some (.int l2), some (.int l3), some (.int l4)], [], hp X G μ) (fun r9 h9 => r9 = some (.int r.1) ∧ h9 = hp X G r.2))
  | 0 => by
    intros
    rename_i h
    cases h
  | n + 1 => by
    have ih := t_X9_isAsSeen_g (X := X) hG (F := F)   n
    · intro l1 l2 l3 l4 μ r hf
      have hf : b_X9_isAsSeen_5 F  (g_X9_isAsSeen F  n) l1 l2 l3 l4 μ = some r := hf
      unfold b_X9_isAsSeen_5 at hf
      refine ab_U.run 3 (S' := (11, [some (.ref 232), some (.int l1), some (.int l2), some (.int l3), some (.int l4)], [.int (μ.1 232 33), .int l4], hp X G μ)) rfl ?_
      refine ab_U.ic_ge rfl (fun b1 => ?_) (fun b1 => ?_)
      · rw [if_pos b1] at hf
        refine ab_U.run 1 (S' := (90, [some (.ref 232), some (.int l1), some (.int l2), some (.int l3), some (.int l4)], [.int l3], hp X G μ)) rfl ?_
        obtain ⟨c2, hf⟩ := ab_ifs hf
        obtain rfl := Option.some.inj hf
        exact ab_U.retZ rfl c2 ⟨rfl, rfl⟩
      · rw [if_neg b1] at hf
        refine ab_U.run 1 (S' := (15, [some (.ref 232), some (.int l1), some (.int l2), some (.int l3), some (.int l4)], [.int l3], hp X G μ)) rfl ?_
        refine ab_U.if_eq rfl (fun b3 => ?_) (fun b3 => ?_)
        · rw [if_pos b3] at hf
          refine ab_U.run 4 (S' := (5, [some (.ref 232), some (.int l1), some (.int l2), some (.int 0), some (.int (l4 + 1))], [], hp X G μ)) rfl ?_
          exact ab_U.weak (ih _ _ _ _ _ _ hf) (ab_leL.of ⟨rfl, ⟨rfl, ⟨rfl, ⟨rfl, ⟨rfl, trivial⟩⟩⟩⟩⟩)
        · rw [if_neg b3] at hf
          refine ab_U.run 6 (S' := (27, [some (.ref 232), some (.int l1), some (.int l2), some (.int l3), some (.int l4)], [.int (13 + l1), .ref 233, .ref 232], hp X G μ)) rfl ?_
          obtain ⟨c4, hf⟩ := ab_ifs hf
          refine ab_U.iald (n := 228) rfl ⟨by decide, rfl⟩ c4 ?_
          show ab_U _ _ _ (28, [some (.ref 232), some (.int l1), some (.int l2), some (.int l3), some (.int l4)], [.int (μ.2.1 233 (13 + l1).toNatClampNeg), .ref 232], hp X G μ) _
          refine ab_U.run 7 (S' := (40, [some (.ref 232), some (.int l1), some (.int l2), some (.int l3), some (.int l4)], [.int (8 + l1), .ref 233, .ref 235, .int (μ.2.1 233 (13 + l1).toNatClampNeg), .ref 232], hp X G μ)) rfl ?_
          obtain ⟨c5, hf⟩ := ab_ifs hf
          refine ab_U.iald (n := 228) rfl ⟨by decide, rfl⟩ c5 ?_
          show ab_U _ _ _ (41, [some (.ref 232), some (.int l1), some (.int l2), some (.int l3), some (.int l4)], [.int (μ.2.1 233 (8 + l1).toNatClampNeg), .ref 235, .int (μ.2.1 233 (13 + l1).toNatClampNeg), .ref 232], hp X G μ) _
          obtain ⟨c6, hf⟩ := ab_ifs hf
          refine ab_U.iald (n := 4) rfl ⟨by decide, rfl⟩ c6 ?_
          show ab_U _ _ _ (42, [some (.ref 232), some (.int l1), some (.int l2), some (.int l3), some (.int l4)], [.int (μ.2.1 235 (μ.2.1 233 (8 + l1).toNatClampNeg).toNatClampNeg), .int (μ.2.1 233 (13 + l1).toNatClampNeg), .ref 232], hp X G μ) _
          refine ab_U.run 3 (S' := (47, [some (.ref 232), some (.int l1), some (.int l2), some (.int l3), some (.int l4)], [.int l2, .ref 233, .int (μ.2.1 235 (μ.2.1 233 (8 + l1).toNatClampNeg).toNatClampNeg), .int (μ.2.1 233 (13 + l1).toNatClampNeg), .ref 232], hp X G μ)) rfl ?_
          obtain ⟨c7, hf⟩ := ab_ifs hf
          refine ab_U.iald (n := 228) rfl ⟨by decide, rfl⟩ c7 ?_
          show ab_U _ _ _ (48, [some (.ref 232), some (.int l1), some (.int l2), some (.int l3), some (.int l4)], [.int (μ.2.1 233 l2.toNatClampNeg), .int (μ.2.1 235 (μ.2.1 233 (8 + l1).toNatClampNeg).toNatClampNeg), .int (μ.2.1 233 (13 + l1).toNatClampNeg), .ref 232], hp X G μ) _
          obtain ⟨q8, h9, hf⟩ := ab_bnd hf
          refine ab_U.fn rfl rfl (t_X9_rateOf (X := X) hG h9) (by omega) ?_
          show ab_U _ _ _ (51, [some (.ref 232), some (.int l1), some (.int l2), some (.int l3), some (.int l4)], [.int q8.1, .int (μ.2.1 233 (13 + l1).toNatClampNeg), .ref 232], hp X G q8.2) _
          refine ab_U.run 5 (S' := (59, [some (.ref 232), some (.int l1), some (.int l2), some (.int l3), some (.int l4)], [.int (2 * l4), .ref 248, .int q8.1, .int (μ.2.1 233 (13 + l1).toNatClampNeg), .ref 232], hp X G q8.2)) rfl ?_
          obtain ⟨c10, hf⟩ := ab_ifs hf
          refine ab_U.iald (n := 12) rfl ⟨by decide, rfl⟩ c10 ?_
          show ab_U _ _ _ (60, [some (.ref 232), some (.int l1), some (.int l2), some (.int l3), some (.int l4)], [.int (q8.2.2.1 248 (2 * l4).toNatClampNeg), .int q8.1, .int (μ.2.1 233 (13 + l1).toNatClampNeg), .ref 232], hp X G q8.2) _
          obtain ⟨q11, h12, hf⟩ := ab_bnd hf
          refine ab_U.fn rfl rfl (t_X9_afterOf (X := X) hG h12) (by omega) ?_
          show ab_U _ _ _ (63, [some (.ref 232), some (.int l1), some (.int l2), some (.int l3), some (.int l4)], [.int q11.1], hp X G q11.2) _
          refine ab_U.run 7 (S' := (73, [some (.ref 232), some (.int l1), some (.int l2), some (.int l3), some (.int l4)], [.int ((2 * l4) + 1), .ref 248, .int q11.1], hp X G q11.2)) rfl ?_
          obtain ⟨c13, hf⟩ := ab_ifs hf
          refine ab_U.iald (n := 12) rfl ⟨by decide, rfl⟩ c13 ?_
          show ab_U _ _ _ (74, [some (.ref 232), some (.int l1), some (.int l2), some (.int l3), some (.int l4)], [.int (q11.2.2.1 248 ((2 * l4) + 1).toNatClampNeg), .int q11.1], hp X G q11.2) _
          refine ab_U.ic_ne rfl (fun b14 => ?_) (fun b14 => ?_)
          · rw [if_pos b14] at hf
            refine ab_U.run 4 (S' := (5, [some (.ref 232), some (.int l1), some (.int l2), some (.int 0), some (.int (l4 + 1))], [], hp X G q11.2)) rfl ?_
            exact ab_U.weak (ih _ _ _ _ _ _ hf) (ab_leL.of ⟨rfl, ⟨rfl, ⟨rfl, ⟨rfl, ⟨rfl, trivial⟩⟩⟩⟩⟩)
          · rw [if_neg b14] at hf
            refine ab_U.run 5 (S' := (5, [some (.ref 232), some (.int l1), some (.int l2), some (.int 1), some (.int (l4 + 1))], [], hp X G q11.2)) rfl ?_
            exact ab_U.weak (ih _ _ _ _ _ _ hf) (ab_leL.of ⟨rfl, ⟨rfl, ⟨rfl, ⟨rfl, ⟨rfl, trivial⟩⟩⟩⟩⟩)
set_option maxRecDepth 20000 in
def f_X9_isAsSeen (F : Nat)  (x0 : Int32) (x1 : Int32) (μ : fm_M) : Option (Int32 × fm_M) := g_X9_isAsSeen F  F 5 x0 x1 1 0 μ
set_option maxRecDepth 20000 in
theorem t_X9_isAsSeen {X : Nat × (Nat → Int32)} {G : Nat → Nat → Option Nat} (hG : fm_Gok G) {F : Nat}   {x0 : Int32} {x1 : Int32} {μ : fm_M} {r : Int32 × fm_M} (hf : f_X9_isAsSeen F x0 x1 μ = some r) : ab_F 3 207 [.ref 232, .int x0, .int x1] (hp X G μ) (some (.int r.1)) (hp X G r.2) := by
  unfold f_X9_isAsSeen at hf
  refine ab_T.of (d := 2) rfl (Nat.le_of_ble_eq_true rfl) ?_
  show ab_U _ _ kX9_isAsSeen (0, [some (.ref 232), some (.int x0), some (.int x1), none, none], [], hp X G μ) _
  refine ab_U.run 4 (S' := (5, [some (.ref 232), some (.int x0), some (.int x1), some (.int 1), some (.int 0)], [], hp X G μ)) rfl ?_
  exact ab_U.weak ((t_X9_isAsSeen_g (X := X) hG   F) _ _ _ _ _ _ hf) (ab_leL.of ⟨rfl, ⟨rfl, ⟨rfl, ⟨rfl, ⟨rfl, trivial⟩⟩⟩⟩⟩)
set_option maxRecDepth 20000 in
def b_X9_fits_28 (F : Nat)  (gg : Nat → Int32 → Int32 → Int32 → Int32 → Int32 → Int32 → Int32 → fm_M → Option (Int32 × fm_M)) (l1 : Int32) (l2 : Int32) (l3 : Int32) (l4 : Int32) (l5 : Int32) (l6 : Int32) (l7 : Int32) (μ : fm_M) : Option (Int32 × fm_M) := (if ab_in 23 228 = true then (if (μ.2.1 233 (23 : Int32).toNatClampNeg) ≤ l6 then (if ¬ l1 = 0 then (if ¬ l1 = 1 then (if ¬ l1 = 2 then some (l5, μ) else some (l4, μ)) else some (l3, μ)) else some (l2, μ)) else gg 43 l1 l2 l3 l4 l5 l6 0 μ) else none)
set_option maxRecDepth 20000 in
def b_X9_fits_43 (F : Nat)  (gg : Nat → Int32 → Int32 → Int32 → Int32 → Int32 → Int32 → Int32 → fm_M → Option (Int32 × fm_M)) (l1 : Int32) (l2 : Int32) (l3 : Int32) (l4 : Int32) (l5 : Int32) (l6 : Int32) (l7 : Int32) (μ : fm_M) : Option (Int32 × fm_M) := (if (μ.1 232 1) ≤ l7 then gg 28 l1 l2 l3 l4 l5 (l6 + 1) 0 μ else (Option.bind (f_X9_isAsSeen F l6 l7 μ) (fun q7 => (if q7.1 = 0 then gg 43 l1 l2 l3 l4 l5 l6 (l7 + 1) q7.2 else (if ¬ l2 = 0 then gg 43 l1 (l2 + 1) l3 (l4 ||| (1 <<< (l6 &&& 31))) (l5 ||| (1 <<< (l7 &&& 31))) l6 (l7 + 1) q7.2 else gg 43 l1 (l2 + 1) ((10 * l6) + l7) (l4 ||| (1 <<< (l6 &&& 31))) (l5 ||| (1 <<< (l7 &&& 31))) l6 (l7 + 1) q7.2)))))
def g_X9_fits (F : Nat)  : Nat → Nat → Int32 → Int32 → Int32 → Int32 → Int32 → Int32 → Int32 → fm_M → Option (Int32 × fm_M)
  | 0, _, _, _, _, _, _, _, _, _ => none
  | n + 1, pc, l1, l2, l3, l4, l5, l6, l7, μ => if pc = 28 then b_X9_fits_28 F  (g_X9_fits F  n) l1 l2 l3 l4 l5 l6 l7 μ else if pc = 43 then b_X9_fits_43 F  (g_X9_fits F  n) l1 l2 l3 l4 l5 l6 l7 μ else none
set_option maxRecDepth 20000 in
theorem t_X9_fits_g {X : Nat × (Nat → Int32)} {G : Nat → Nat → Option Nat} (hG : fm_Gok G) {F : Nat}    : ∀ n : Nat, (∀ (l1 : Int32) (l2 : Int32) (l3 : Int32) (l4 : Int32) (l5 : Int32) (l6 : Int32) (l7 : Int32) (μ : fm_M) (r : Int32 × fm_M), g_X9_fits F  n 28 l1 l2 l3 l4 l5 l6 l7 μ = some r → ab_U 3 (some .int) kX9_fits (28, [some (.ref 232), some (.int l1), some (.int l2), some (.int l3), some (.int l4), some (.int l5), some (.int l6), none], [], hp X G μ) (fun r9 h9 => r9 = some (.int r.1) ∧ h9 = hp X G r.2)) ∧ (∀ (l1 : Int32) (l2 : Int32) (l3 : Int32) (l4 : Int32) (l5 : Int32) (l6 : Int32) (l7 : Int32) (μ : fm_M) (r : Int32 × fm_M), g_X9_fits F  n 43 l1 l2 l3 l4 l5 l6 l7 μ = some r → ab_U 3 (some .int) kX9_fits (43, [some (.ref 232), some (.int l1), some (.int l2), some (.int l3), some (.int l4), some (.int l5), some (.int l6), some (.int l7)], [], hp X G μ) (fun r9 h9 => r9 = some (.int r.1) ∧ h9 = hp X G r.2))
  | 0 => by
    refine ⟨?_, ?_⟩
    all_goals (intros; rename_i h; cases h)
  | n + 1 => by
    have ih := t_X9_fits_g (X := X) hG (F := F)   n
    refine ⟨?_, ?_⟩
    · intro l1 l2 l3 l4 l5 l6 l7 μ r hf
      have hf : b_X9_fits_28 F  (g_X9_fits F  n) l1 l2 l3 l4 l5 l6 l7 μ = some r := hf
      unfold b_X9_fits_28 at hf
      refine ab_U.run 4 (S' := (36, [some (.ref 232), some (.int l1), some (.int l2), some (.int l3), some (.int l4), some (.int l5), some (.int l6), none], [.int 23, .ref 233, .int l6], hp X G μ)) rfl ?_
      obtain ⟨c1, hf⟩ := ab_ifs hf
      refine ab_U.iald (n := 228) rfl ⟨by decide, rfl⟩ c1 ?_
      show ab_U _ _ _ (37, [some (.ref 232), some (.int l1), some (.int l2), some (.int l3), some (.int l4), some (.int l5), some (.int l6), none], [.int (μ.2.1 233 (23 : Int32).toNatClampNeg), .int l6], hp X G μ) _
      refine ab_U.ic_ge rfl (fun b2 => ?_) (fun b2 => ?_)
      · rw [if_pos b2] at hf
        refine ab_U.run 1 (S' := (114, [some (.ref 232), some (.int l1), some (.int l2), some (.int l3), some (.int l4), some (.int l5), some (.int l6), none], [.int l1], hp X G μ)) rfl ?_
        refine ab_U.if_ne rfl (fun b3 => ?_) (fun b3 => ?_)
        · rw [if_pos b3] at hf
          refine ab_U.run 2 (S' := (123, [some (.ref 232), some (.int l1), some (.int l2), some (.int l3), some (.int l4), some (.int l5), some (.int l6), none], [.int 1, .int l1], hp X G μ)) rfl ?_
          refine ab_U.ic_ne rfl (fun b4 => ?_) (fun b4 => ?_)
          · rw [if_pos b4] at hf
            refine ab_U.run 2 (S' := (132, [some (.ref 232), some (.int l1), some (.int l2), some (.int l3), some (.int l4), some (.int l5), some (.int l6), none], [.int 2, .int l1], hp X G μ)) rfl ?_
            refine ab_U.ic_ne rfl (fun b5 => ?_) (fun b5 => ?_)
            · rw [if_pos b5] at hf
              refine ab_U.run 1 (S' := (142, [some (.ref 232), some (.int l1), some (.int l2), some (.int l3), some (.int l4), some (.int l5), some (.int l6), none], [.int l5], hp X G μ)) rfl ?_
              obtain rfl := Option.some.inj hf
              exact ab_U.ret rfl rfl ⟨rfl, rfl⟩
            · rw [if_neg b5] at hf
              refine ab_U.run 2 (S' := (142, [some (.ref 232), some (.int l1), some (.int l2), some (.int l3), some (.int l4), some (.int l5), some (.int l6), none], [.int l4], hp X G μ)) rfl ?_
              obtain rfl := Option.some.inj hf
              exact ab_U.ret rfl rfl ⟨rfl, rfl⟩
          · rw [if_neg b4] at hf
            refine ab_U.run 2 (S' := (142, [some (.ref 232), some (.int l1), some (.int l2), some (.int l3), some (.int l4), some (.int l5), some (.int l6), none], [.int l3], hp X G μ)) rfl ?_
            obtain rfl := Option.some.inj hf
            exact ab_U.ret rfl rfl ⟨rfl, rfl⟩
        · rw [if_neg b3] at hf
          refine ab_U.run 2 (S' := (142, [some (.ref 232), some (.int l1), some (.int l2), some (.int l3), some (.int l4), some (.int l5), some (.int l6), none], [.int l2], hp X G μ)) rfl ?_
          obtain rfl := Option.some.inj hf
          exact ab_U.ret rfl rfl ⟨rfl, rfl⟩
      · rw [if_neg b2] at hf
        refine ab_U.run 2 (S' := (43, [some (.ref 232), some (.int l1), some (.int l2), some (.int l3), some (.int l4), some (.int l5), some (.int l6), some (.int 0)], [], hp X G μ)) rfl ?_
        exact ab_U.weak (ih.2 _ _ _ _ _ _ _ _ _ hf) (ab_leL.of ⟨rfl, ⟨rfl, ⟨rfl, ⟨rfl, ⟨rfl, ⟨rfl, ⟨rfl, ⟨rfl, trivial⟩⟩⟩⟩⟩⟩⟩⟩)
    · intro l1 l2 l3 l4 l5 l6 l7 μ r hf
      have hf : b_X9_fits_43 F  (g_X9_fits F  n) l1 l2 l3 l4 l5 l6 l7 μ = some r := hf
      unfold b_X9_fits_43 at hf
      refine ab_U.run 3 (S' := (49, [some (.ref 232), some (.int l1), some (.int l2), some (.int l3), some (.int l4), some (.int l5), some (.int l6), some (.int l7)], [.int (μ.1 232 1), .int l7], hp X G μ)) rfl ?_
      refine ab_U.ic_ge rfl (fun b6 => ?_) (fun b6 => ?_)
      · rw [if_pos b6] at hf
        refine ab_U.run 2 (S' := (28, [some (.ref 232), some (.int l1), some (.int l2), some (.int l3), some (.int l4), some (.int l5), some (.int (l6 + 1)), some (.int l7)], [], hp X G μ)) rfl ?_
        exact ab_U.weak (ih.1 _ _ _ _ _ _ _ _ _ hf) (ab_leL.of ⟨rfl, ⟨rfl, ⟨rfl, ⟨rfl, ⟨rfl, ⟨rfl, ⟨rfl, trivial⟩⟩⟩⟩⟩⟩⟩)
      · rw [if_neg b6] at hf
        refine ab_U.run 3 (S' := (57, [some (.ref 232), some (.int l1), some (.int l2), some (.int l3), some (.int l4), some (.int l5), some (.int l6), some (.int l7)], [.int l7, .int l6, .ref 232], hp X G μ)) rfl ?_
        obtain ⟨q7, h8, hf⟩ := ab_bnd hf
        refine ab_U.fn rfl rfl (t_X9_isAsSeen (X := X) hG h8) (by omega) ?_
        show ab_U _ _ _ (60, [some (.ref 232), some (.int l1), some (.int l2), some (.int l3), some (.int l4), some (.int l5), some (.int l6), some (.int l7)], [.int q7.1], hp X G q7.2) _
        refine ab_U.if_eq rfl (fun b9 => ?_) (fun b9 => ?_)
        · rw [if_pos b9] at hf
          refine ab_U.run 2 (S' := (43, [some (.ref 232), some (.int l1), some (.int l2), some (.int l3), some (.int l4), some (.int l5), some (.int l6), some (.int (l7 + 1))], [], hp X G q7.2)) rfl ?_
          exact ab_U.weak (ih.2 _ _ _ _ _ _ _ _ _ hf) (ab_leL.of ⟨rfl, ⟨rfl, ⟨rfl, ⟨rfl, ⟨rfl, ⟨rfl, ⟨rfl, ⟨rfl, trivial⟩⟩⟩⟩⟩⟩⟩⟩)
        · rw [if_neg b9] at hf
          refine ab_U.run 1 (S' := (64, [some (.ref 232), some (.int l1), some (.int l2), some (.int l3), some (.int l4), some (.int l5), some (.int l6), some (.int l7)], [.int l2], hp X G q7.2)) rfl ?_
          refine ab_U.if_ne rfl (fun b10 => ?_) (fun b10 => ?_)
          · rw [if_pos b10] at hf
            refine ab_U.run 12 (S' := (95, [some (.ref 232), some (.int l1), some (.int l2), some (.int l3), some (.int (l4 ||| (1 <<< (l6 &&& 31)))), some (.int l5), some (.int l6), some (.int l7)], [.int (1 <<< (l7 &&& 31)), .int l5], hp X G q7.2)) rfl ?_
            refine ab_U.run 5 (S' := (43, [some (.ref 232), some (.int l1), some (.int (l2 + 1)), some (.int l3), some (.int (l4 ||| (1 <<< (l6 &&& 31)))), some (.int (l5 ||| (1 <<< (l7 &&& 31)))), some (.int l6), some (.int (l7 + 1))], [], hp X G q7.2)) rfl ?_
            exact ab_U.weak (ih.2 _ _ _ _ _ _ _ _ _ hf) (ab_leL.of ⟨rfl, ⟨rfl, ⟨rfl, ⟨rfl, ⟨rfl, ⟨rfl, ⟨rfl, ⟨rfl, trivial⟩⟩⟩⟩⟩⟩⟩⟩)
          · rw [if_neg b10] at hf
            refine ab_U.run 12 (S' := (87, [some (.ref 232), some (.int l1), some (.int l2), some (.int ((10 * l6) + l7)), some (.int l4), some (.int l5), some (.int l6), some (.int l7)], [.int (l4 ||| (1 <<< (l6 &&& 31)))], hp X G q7.2)) rfl ?_
            refine ab_U.run 10 (S' := (43, [some (.ref 232), some (.int l1), some (.int (l2 + 1)), some (.int ((10 * l6) + l7)), some (.int (l4 ||| (1 <<< (l6 &&& 31)))), some (.int (l5 ||| (1 <<< (l7 &&& 31)))), some (.int l6), some (.int (l7 + 1))], [], hp X G q7.2)) rfl ?_
            exact ab_U.weak (ih.2 _ _ _ _ _ _ _ _ _ hf) (ab_leL.of ⟨rfl, ⟨rfl, ⟨rfl, ⟨rfl, ⟨rfl, ⟨rfl, ⟨rfl, ⟨rfl, trivial⟩⟩⟩⟩⟩⟩⟩⟩)
set_option maxRecDepth 20000 in
def f_X9_fits (F : Nat)  (x0 : Int32) (μ : fm_M) : Option (Int32 × fm_M) := (Option.bind (f_X9_in F ((x0).toInt64) (Int64.ofNat 0) (Int64.ofNat 3) μ) (fun q11 => (if ¬ q11.1 = 0 then g_X9_fits F  F 28 x0 0 (-4) 0 0 0 0 q11.2 else some ((-1), q11.2))))
set_option maxRecDepth 20000 in
theorem t_X9_fits {X : Nat × (Nat → Int32)} {G : Nat → Nat → Option Nat} (hG : fm_Gok G) {F : Nat}   {x0 : Int32} {μ : fm_M} {r : Int32 × fm_M} (hf : f_X9_fits F x0 μ = some r) : ab_F 4 208 [.ref 232, .int x0] (hp X G μ) (some (.int r.1)) (hp X G r.2) := by
  unfold f_X9_fits at hf
  refine ab_T.of (d := 3) rfl (Nat.le_of_ble_eq_true rfl) ?_
  show ab_U _ _ kX9_fits (0, [some (.ref 232), some (.int x0), none, none, none, none, none, none], [], hp X G μ) _
  refine ab_U.run 4 (S' := (6, [some (.ref 232), some (.int x0), none, none, none, none, none, none], [.long (Int64.ofNat 3), .long (Int64.ofNat 0), .long (x0).toInt64], hp X G μ)) rfl ?_
  obtain ⟨q11, h12, hf⟩ := ab_bnd hf
  refine ab_U.fn rfl rfl (t_X9_in (X := X) hG h12) (by omega) ?_
  show ab_U _ _ _ (9, [some (.ref 232), some (.int x0), none, none, none, none, none, none], [.int q11.1], hp X G q11.2) _
  refine ab_U.if_ne rfl (fun b13 => ?_) (fun b13 => ?_)
  · rw [if_pos b13] at hf
    refine ab_U.run 10 (S' := (28, [some (.ref 232), some (.int x0), some (.int 0), some (.int (-4)), some (.int 0), some (.int 0), some (.int 0), none], [], hp X G q11.2)) rfl ?_
    exact ab_U.weak ((t_X9_fits_g (X := X) hG   F).1 _ _ _ _ _ _ _ _ _ hf) (ab_leL.of ⟨rfl, ⟨rfl, ⟨rfl, ⟨rfl, ⟨rfl, ⟨rfl, ⟨rfl, trivial⟩⟩⟩⟩⟩⟩⟩)
  · rw [if_neg b13] at hf
    refine ab_U.run 1 (S' := (13, [some (.ref 232), some (.int x0), none, none, none, none, none, none], [.int (-1)], hp X G q11.2)) rfl ?_
    obtain rfl := Option.some.inj hf
    exact ab_U.ret rfl rfl ⟨rfl, rfl⟩
set_option maxRecDepth 20000 in
def f_X9_draws (F : Nat)  (x0 : Int32) (μ : fm_M) : Option (Int32 × fm_M) := (Option.bind (some (fm_sI μ 232 34 (((μ.1 232 34) * 1103515245) + 12345))) (fun m1 => (if ¬ x0 = 0 then some (((((m1.1 232 34) >>> ((16 : Int32) &&& 31)) &&& 32767) - (((m1.1 232 34) >>> ((16 : Int32) &&& 31)) &&& 32767) / x0 * x0), m1) else none)))
set_option maxRecDepth 20000 in
theorem t_X9_draws {X : Nat × (Nat → Int32)} {G : Nat → Nat → Option Nat} (hG : fm_Gok G) {F : Nat}   {x0 : Int32} {μ : fm_M} {r : Int32 × fm_M} (hf : f_X9_draws F x0 μ = some r) : ab_F 1 209 [.ref 232, .int x0] (hp X G μ) (some (.int r.1)) (hp X G r.2) := by
  unfold f_X9_draws at hf
  refine ab_T.of (d := 0) rfl (Nat.le_of_ble_eq_true rfl) ?_
  show ab_U _ _ kX9_draws (0, [some (.ref 232), some (.int x0)], [], hp X G μ) _
  refine ab_U.run 7 (S' := (13, [some (.ref 232), some (.int x0)], [.int (((μ.1 232 34) * 1103515245) + 12345), .ref 232], hp X G μ)) rfl ?_
  obtain ⟨m1, e2, hf⟩ := ab_bnd hf
  have e2 := Option.some.inj e2
  refine ab_U.pfI (ci := 9) (k9 := 34) rfl ⟨by decide, rfl⟩ ⟨rfl, rfl, by decide, rfl⟩ rfl ?_
  show ab_U _ _ _ (16, [some (.ref 232), some (.int x0)], [], hp X G (fm_sI μ 232 34 (((μ.1 232 34) * 1103515245) + 12345))) _
  rw [e2]
  refine ab_U.run 7 (S' := (28, [some (.ref 232), some (.int x0)], [.int x0, .int (((m1.1 232 34) >>> ((16 : Int32) &&& 31)) &&& 32767)], hp X G m1)) rfl ?_
  obtain ⟨c3, hf⟩ := ab_ifs hf
  refine ab_U.irm rfl c3 ?_
  obtain rfl := Option.some.inj hf
  exact ab_U.ret rfl rfl ⟨rfl, rfl⟩
set_option maxRecDepth 20000 in
def b_X9_drift_56 (F : Nat)  (gg : Nat → Int32 → Int32 → Int32 → Int32 → fm_M → Option (Int32 × fm_M)) (l2 : Int32) (l3 : Int32) (l4 : Int32) (l5 : Int32) (μ : fm_M) : Option (Int32 × fm_M) := (if l2 ≤ l5 then (if ¬ l3 = 0 then (if ab_in 189 228 = true then (if ab_in 37 228 = true then some (((μ.2.1 233 (189 : Int32).toNatClampNeg) - (μ.2.1 233 (37 : Int32).toNatClampNeg)), μ) else none) else none) else some (l4, μ)) else (if ab_in 23 228 = true then (Option.bind (f_X9_draws F (μ.2.1 233 (23 : Int32).toNatClampNeg) μ) (fun q6 => (Option.bind (f_X9_draws F (q6.2.1 232 1) q6.2) (fun q8 => (if ab_in (170 + q6.1) 228 = true then (if ¬ (q8.2.2.1 233 (170 + q6.1).toNatClampNeg) = q8.1 then (Option.bind (f_X9_paysOn F 152 q6.1 q8.1 q8.2) (fun q12 => gg 56 l2 l3 (l4 + q12.1) (l5 + 1) q12.2)) else (Option.bind (f_X9_goesOn F 152 1 q8.2) (fun q14 => gg 56 l2 l3 l4 (l5 + 1) q14.2))) else none))))) else none))
def g_X9_drift (F : Nat)  : Nat → Nat → Int32 → Int32 → Int32 → Int32 → fm_M → Option (Int32 × fm_M)
  | 0, _, _, _, _, _, _ => none
  | n + 1, pc, l2, l3, l4, l5, μ => if pc = 56 then b_X9_drift_56 F  (g_X9_drift F  n) l2 l3 l4 l5 μ else none
set_option maxRecDepth 20000 in
theorem t_X9_drift_g {X : Nat × (Nat → Int32)} {G : Nat → Nat → Option Nat} (hG : fm_Gok G) {F : Nat}    : ∀ n : Nat, (∀ (l2 : Int32) (l3 : Int32) (l4 : Int32) (l5 : Int32) (μ : fm_M) (r : Int32 × fm_M), g_X9_drift F  n 56 l2 l3 l4 l5 μ = some r → ab_U 5 (some .int) kX9_drift (56, [some (.ref 232), none, some (.int l2), some (.int l3), some (.int l4), some (.int l5), none, none], [], hp X G μ) (fun r9 h9 => r9 = some (.int r.1) ∧ h9 = hp X G r.2))
  | 0 => by
    intros
    rename_i h
    cases h
  | n + 1 => by
    have ih := t_X9_drift_g (X := X) hG (F := F)   n
    · intro l2 l3 l4 l5 μ r hf
      have hf : b_X9_drift_56 F  (g_X9_drift F  n) l2 l3 l4 l5 μ = some r := hf
      unfold b_X9_drift_56 at hf
      refine ab_U.run 2 (S' := (59, [some (.ref 232), none, some (.int l2), some (.int l3), some (.int l4), some (.int l5), none, none], [.int l2, .int l5], hp X G μ)) rfl ?_
      refine ab_U.ic_ge rfl (fun b1 => ?_) (fun b1 => ?_)
      · rw [if_pos b1] at hf
        refine ab_U.run 1 (S' := (135, [some (.ref 232), none, some (.int l2), some (.int l3), some (.int l4), some (.int l5), none, none], [.int l3], hp X G μ)) rfl ?_
        refine ab_U.if_ne rfl (fun b2 => ?_) (fun b2 => ?_)
        · rw [if_pos b2] at hf
          refine ab_U.run 3 (S' := (150, [some (.ref 232), none, some (.int l2), some (.int l3), some (.int l4), some (.int l5), none, none], [.int 189, .ref 233], hp X G μ)) rfl ?_
          obtain ⟨c3, hf⟩ := ab_ifs hf
          refine ab_U.iald (n := 228) rfl ⟨by decide, rfl⟩ c3 ?_
          show ab_U _ _ _ (151, [some (.ref 232), none, some (.int l2), some (.int l3), some (.int l4), some (.int l5), none, none], [.int (μ.2.1 233 (189 : Int32).toNatClampNeg)], hp X G μ) _
          refine ab_U.run 3 (S' := (157, [some (.ref 232), none, some (.int l2), some (.int l3), some (.int l4), some (.int l5), none, none], [.int 37, .ref 233, .int (μ.2.1 233 (189 : Int32).toNatClampNeg)], hp X G μ)) rfl ?_
          obtain ⟨c4, hf⟩ := ab_ifs hf
          refine ab_U.iald (n := 228) rfl ⟨by decide, rfl⟩ c4 ?_
          show ab_U _ _ _ (158, [some (.ref 232), none, some (.int l2), some (.int l3), some (.int l4), some (.int l5), none, none], [.int (μ.2.1 233 (37 : Int32).toNatClampNeg), .int (μ.2.1 233 (189 : Int32).toNatClampNeg)], hp X G μ) _
          refine ab_U.run 1 (S' := (159, [some (.ref 232), none, some (.int l2), some (.int l3), some (.int l4), some (.int l5), none, none], [.int ((μ.2.1 233 (189 : Int32).toNatClampNeg) - (μ.2.1 233 (37 : Int32).toNatClampNeg))], hp X G μ)) rfl ?_
          obtain rfl := Option.some.inj hf
          exact ab_U.ret rfl rfl ⟨rfl, rfl⟩
        · rw [if_neg b2] at hf
          refine ab_U.run 2 (S' := (159, [some (.ref 232), none, some (.int l2), some (.int l3), some (.int l4), some (.int l5), none, none], [.int l4], hp X G μ)) rfl ?_
          obtain rfl := Option.some.inj hf
          exact ab_U.ret rfl rfl ⟨rfl, rfl⟩
      · rw [if_neg b1] at hf
        refine ab_U.run 4 (S' := (69, [some (.ref 232), none, some (.int l2), some (.int l3), some (.int l4), some (.int l5), none, none], [.int 23, .ref 233, .ref 232], hp X G μ)) rfl ?_
        obtain ⟨c5, hf⟩ := ab_ifs hf
        refine ab_U.iald (n := 228) rfl ⟨by decide, rfl⟩ c5 ?_
        show ab_U _ _ _ (70, [some (.ref 232), none, some (.int l2), some (.int l3), some (.int l4), some (.int l5), none, none], [.int (μ.2.1 233 (23 : Int32).toNatClampNeg), .ref 232], hp X G μ) _
        obtain ⟨q6, h7, hf⟩ := ab_bnd hf
        refine ab_U.fn rfl rfl (t_X9_draws (X := X) hG h7) (by omega) ?_
        show ab_U _ _ _ (73, [some (.ref 232), none, some (.int l2), some (.int l3), some (.int l4), some (.int l5), none, none], [.int q6.1], hp X G q6.2) _
        refine ab_U.run 4 (S' := (80, [some (.ref 232), none, some (.int l2), some (.int l3), some (.int l4), some (.int l5), some (.int q6.1), none], [.int (q6.2.1 232 1), .ref 232], hp X G q6.2)) rfl ?_
        obtain ⟨q8, h9, hf⟩ := ab_bnd hf
        refine ab_U.fn rfl rfl (t_X9_draws (X := X) hG h9) (by omega) ?_
        show ab_U _ _ _ (83, [some (.ref 232), none, some (.int l2), some (.int l3), some (.int l4), some (.int l5), some (.int q6.1), none], [.int q8.1], hp X G q8.2) _
        refine ab_U.run 6 (S' := (95, [some (.ref 232), none, some (.int l2), some (.int l3), some (.int l4), some (.int l5), some (.int q6.1), some (.int q8.1)], [.int (170 + q6.1), .ref 233], hp X G q8.2)) rfl ?_
        obtain ⟨c10, hf⟩ := ab_ifs hf
        refine ab_U.iald (n := 228) rfl ⟨by decide, rfl⟩ c10 ?_
        show ab_U _ _ _ (96, [some (.ref 232), none, some (.int l2), some (.int l3), some (.int l4), some (.int l5), some (.int q6.1), some (.int q8.1)], [.int (q8.2.2.1 233 (170 + q6.1).toNatClampNeg)], hp X G q8.2) _
        refine ab_U.run 1 (S' := (98, [some (.ref 232), none, some (.int l2), some (.int l3), some (.int l4), some (.int l5), some (.int q6.1), some (.int q8.1)], [.int q8.1, .int (q8.2.2.1 233 (170 + q6.1).toNatClampNeg)], hp X G q8.2)) rfl ?_
        refine ab_U.ic_ne rfl (fun b11 => ?_) (fun b11 => ?_)
        · rw [if_pos b11] at hf
          refine ab_U.run 5 (S' := (122, [some (.ref 232), none, some (.int l2), some (.int l3), some (.int l4), some (.int l5), some (.int q6.1), some (.int q8.1)], [.int q8.1, .int q6.1, .int 152, .ref 232, .int l4], hp X G q8.2)) rfl ?_
          obtain ⟨q12, h13, hf⟩ := ab_bnd hf
          refine ab_U.fn rfl rfl (t_X9_paysOn (X := X) hG h13) (by omega) ?_
          show ab_U _ _ _ (125, [some (.ref 232), none, some (.int l2), some (.int l3), some (.int l4), some (.int l5), some (.int q6.1), some (.int q8.1)], [.int q12.1, .int l4], hp X G q12.2) _
          refine ab_U.run 4 (S' := (56, [some (.ref 232), none, some (.int l2), some (.int l3), some (.int (l4 + q12.1)), some (.int (l5 + 1)), some (.int q6.1), some (.int q8.1)], [], hp X G q12.2)) rfl ?_
          exact ab_U.weak (ih _ _ _ _ _ _ hf) (ab_leL.of ⟨rfl, ⟨rfl, ⟨rfl, ⟨rfl, ⟨rfl, trivial⟩⟩⟩⟩⟩)
        · rw [if_neg b11] at hf
          refine ab_U.run 3 (S' := (106, [some (.ref 232), none, some (.int l2), some (.int l3), some (.int l4), some (.int l5), some (.int q6.1), some (.int q8.1)], [.int 1, .int 152, .ref 232], hp X G q8.2)) rfl ?_
          obtain ⟨q14, h15, hf⟩ := ab_bnd hf
          refine ab_U.fn rfl rfl (t_X9_goesOn (X := X) hG h15) (by omega) ?_
          show ab_U _ _ _ (109, [some (.ref 232), none, some (.int l2), some (.int l3), some (.int l4), some (.int l5), some (.int q6.1), some (.int q8.1)], [], hp X G q14.2) _
          refine ab_U.run 3 (S' := (56, [some (.ref 232), none, some (.int l2), some (.int l3), some (.int l4), some (.int (l5 + 1)), some (.int q6.1), some (.int q8.1)], [], hp X G q14.2)) rfl ?_
          exact ab_U.weak (ih _ _ _ _ _ _ hf) (ab_leL.of ⟨rfl, ⟨rfl, ⟨rfl, ⟨rfl, ⟨rfl, trivial⟩⟩⟩⟩⟩)
set_option maxRecDepth 20000 in
def f_X9_drift (F : Nat)  (x0 : Int32) (x1 : Int32) (x2 : Int32) (μ : fm_M) : Option (Int32 × fm_M) := (Option.bind (f_X9_in F ((x1).toInt64) (Int64.ofNat 1) (Int64.ofNat 60) μ) (fun q16 => (if q16.1 = 0 then some ((-1), q16.2) else (Option.bind (f_X9_in F ((x2).toInt64) (Int64.ofNat 0) (Int64.ofNat 1) q16.2) (fun q19 => (if ¬ q19.1 = 0 then (if ab_in 23 228 = true then (if ¬ (q19.2.2.1 233 (23 : Int32).toNatClampNeg) = 0 then (Option.bind (f_X9_copies F 0 152 q19.2) (fun q24 => (Option.bind (some (fm_sI q24.2 232 34 x0)) (fun m26 => g_X9_drift F  F 56 x1 x2 0 0 m26)))) else some ((-2), q19.2)) else none) else some ((-1), q19.2)))))))
set_option maxRecDepth 20000 in
theorem t_X9_drift {X : Nat × (Nat → Int32)} {G : Nat → Nat → Option Nat} (hG : fm_Gok G) {F : Nat}   {x0 : Int32} {x1 : Int32} {x2 : Int32} {μ : fm_M} {r : Int32 × fm_M} (hf : f_X9_drift F x0 x1 x2 μ = some r) : ab_F 6 210 [.ref 232, .int x0, .int x1, .int x2] (hp X G μ) (some (.int r.1)) (hp X G r.2) := by
  unfold f_X9_drift at hf
  refine ab_T.of (d := 5) rfl (Nat.le_of_ble_eq_true rfl) ?_
  show ab_U _ _ kX9_drift (0, [some (.ref 232), some (.int x0), some (.int x1), some (.int x2), none, none, none, none], [], hp X G μ) _
  refine ab_U.run 4 (S' := (6, [some (.ref 232), some (.int x0), some (.int x1), some (.int x2), none, none, none, none], [.long (Int64.ofNat 60), .long (Int64.ofNat 1), .long (x1).toInt64], hp X G μ)) rfl ?_
  obtain ⟨q16, h17, hf⟩ := ab_bnd hf
  refine ab_U.fn rfl rfl (t_X9_in (X := X) hG h17) (by omega) ?_
  show ab_U _ _ _ (9, [some (.ref 232), some (.int x0), some (.int x1), some (.int x2), none, none, none, none], [.int q16.1], hp X G q16.2) _
  refine ab_U.if_eq rfl (fun b18 => ?_) (fun b18 => ?_)
  · rw [if_pos b18] at hf
    refine ab_U.run 1 (S' := (23, [some (.ref 232), some (.int x0), some (.int x1), some (.int x2), none, none, none, none], [.int (-1)], hp X G q16.2)) rfl ?_
    obtain rfl := Option.some.inj hf
    exact ab_U.ret rfl rfl ⟨rfl, rfl⟩
  · rw [if_neg b18] at hf
    refine ab_U.run 4 (S' := (16, [some (.ref 232), some (.int x0), some (.int x1), some (.int x2), none, none, none, none], [.long (Int64.ofNat 1), .long (Int64.ofNat 0), .long (x2).toInt64], hp X G q16.2)) rfl ?_
    obtain ⟨q19, h20, hf⟩ := ab_bnd hf
    refine ab_U.fn rfl rfl (t_X9_in (X := X) hG h20) (by omega) ?_
    show ab_U _ _ _ (19, [some (.ref 232), some (.int x0), some (.int x1), some (.int x2), none, none, none, none], [.int q19.1], hp X G q19.2) _
    refine ab_U.if_ne rfl (fun b21 => ?_) (fun b21 => ?_)
    · rw [if_pos b21] at hf
      refine ab_U.run 3 (S' := (30, [some (.ref 232), some (.int x0), some (.int x1), some (.int x2), none, none, none, none], [.int 23, .ref 233], hp X G q19.2)) rfl ?_
      obtain ⟨c22, hf⟩ := ab_ifs hf
      refine ab_U.iald (n := 228) rfl ⟨by decide, rfl⟩ c22 ?_
      show ab_U _ _ _ (31, [some (.ref 232), some (.int x0), some (.int x1), some (.int x2), none, none, none, none], [.int (q19.2.2.1 233 (23 : Int32).toNatClampNeg)], hp X G q19.2) _
      refine ab_U.if_ne rfl (fun b23 => ?_) (fun b23 => ?_)
      · rw [if_pos b23] at hf
        refine ab_U.run 3 (S' := (42, [some (.ref 232), some (.int x0), some (.int x1), some (.int x2), none, none, none, none], [.int 152, .int 0, .ref 232], hp X G q19.2)) rfl ?_
        obtain ⟨q24, h25, hf⟩ := ab_bnd hf
        refine ab_U.fn rfl rfl (t_X9_copies (X := X) hG h25) (by omega) ?_
        show ab_U _ _ _ (45, [some (.ref 232), some (.int x0), some (.int x1), some (.int x2), none, none, none, none], [], hp X G q24.2) _
        refine ab_U.run 2 (S' := (47, [some (.ref 232), some (.int x0), some (.int x1), some (.int x2), none, none, none, none], [.int x0, .ref 232], hp X G q24.2)) rfl ?_
        obtain ⟨m26, e27, hf⟩ := ab_bnd hf
        have e27 := Option.some.inj e27
        refine ab_U.pfI (ci := 9) (k9 := 34) rfl ⟨by decide, rfl⟩ ⟨rfl, rfl, by decide, rfl⟩ rfl ?_
        show ab_U _ _ _ (50, [some (.ref 232), some (.int x0), some (.int x1), some (.int x2), none, none, none, none], [], hp X G (fm_sI q24.2 232 34 x0)) _
        rw [e27]
        refine ab_U.run 4 (S' := (56, [some (.ref 232), some (.int x0), some (.int x1), some (.int x2), some (.int 0), some (.int 0), none, none], [], hp X G m26)) rfl ?_
        exact ab_U.weak ((t_X9_drift_g (X := X) hG   F) _ _ _ _ _ _ hf) (ab_leL.of ⟨rfl, ⟨rfl, ⟨rfl, ⟨rfl, ⟨rfl, trivial⟩⟩⟩⟩⟩)
      · rw [if_neg b23] at hf
        refine ab_U.run 1 (S' := (36, [some (.ref 232), some (.int x0), some (.int x1), some (.int x2), none, none, none, none], [.int (-2)], hp X G q19.2)) rfl ?_
        obtain rfl := Option.some.inj hf
        exact ab_U.ret rfl rfl ⟨rfl, rfl⟩
    · rw [if_neg b21] at hf
      refine ab_U.run 1 (S' := (23, [some (.ref 232), some (.int x0), some (.int x1), some (.int x2), none, none, none, none], [.int (-1)], hp X G q19.2)) rfl ?_
      obtain rfl := Option.some.inj hf
      exact ab_U.ret rfl rfl ⟨rfl, rfl⟩
set_option maxRecDepth 20000 in
def f_X9_keep (F : Nat)  (x0 : Int32) (μ : fm_M) : Option (Int32 × fm_M) := (Option.bind (f_X9_in F ((x0).toInt64) (Int64.ofNat 0) (Int64.ofNat 1) μ) (fun q1 => (if ¬ q1.1 = 0 then (Option.bind (f_X9_copies F 0 (38 * (x0 + 1)) q1.2) (fun q4 => (if ab_in x0 2 = true then (if (q4.2.2.1 249 x0.toNatClampNeg) = 0 then (if ab_in x0 2 = true then (Option.bind (some (fm_sA q4.2 249 (upd (q4.2.2.1 249) x0.toNatClampNeg (1 &&& 1)))) (fun m9 => some (0, m9))) else none) else (if ab_in x0 2 = true then (Option.bind (some (fm_sA q4.2 249 (upd (q4.2.2.1 249) x0.toNatClampNeg (1 &&& 1)))) (fun m12 => some (1, m12))) else none)) else none))) else some ((-1), q1.2))))
set_option maxRecDepth 20000 in
theorem t_X9_keep {X : Nat × (Nat → Int32)} {G : Nat → Nat → Option Nat} (hG : fm_Gok G) {F : Nat}   {x0 : Int32} {μ : fm_M} {r : Int32 × fm_M} (hf : f_X9_keep F x0 μ = some r) : ab_F 2 211 [.ref 232, .int x0] (hp X G μ) (some (.int r.1)) (hp X G r.2) := by
  unfold f_X9_keep at hf
  refine ab_T.of (d := 1) rfl (Nat.le_of_ble_eq_true rfl) ?_
  show ab_U _ _ kX9_keep (0, [some (.ref 232), some (.int x0), none], [], hp X G μ) _
  refine ab_U.run 4 (S' := (4, [some (.ref 232), some (.int x0), none], [.long (Int64.ofNat 1), .long (Int64.ofNat 0), .long (x0).toInt64], hp X G μ)) rfl ?_
  obtain ⟨q1, h2, hf⟩ := ab_bnd hf
  refine ab_U.fn rfl rfl (t_X9_in (X := X) hG h2) (by omega) ?_
  show ab_U _ _ _ (7, [some (.ref 232), some (.int x0), none], [.int q1.1], hp X G q1.2) _
  refine ab_U.if_ne rfl (fun b3 => ?_) (fun b3 => ?_)
  · rw [if_pos b3] at hf
    refine ab_U.run 7 (S' := (20, [some (.ref 232), some (.int x0), none], [.int (38 * (x0 + 1)), .int 0, .ref 232], hp X G q1.2)) rfl ?_
    obtain ⟨q4, h5, hf⟩ := ab_bnd hf
    refine ab_U.fn rfl rfl (t_X9_copies (X := X) hG h5) (by omega) ?_
    show ab_U _ _ _ (23, [some (.ref 232), some (.int x0), none], [], hp X G q4.2) _
    refine ab_U.run 3 (S' := (28, [some (.ref 232), some (.int x0), none], [.int x0, .ref 249], hp X G q4.2)) rfl ?_
    obtain ⟨c6, hf⟩ := ab_ifs hf
    refine ab_U.baldZ (n := 2) rfl ⟨by decide, rfl⟩ c6 ?_
    show ab_U _ _ _ (29, [some (.ref 232), some (.int x0), none], [.int (q4.2.2.1 249 x0.toNatClampNeg)], hp X G q4.2) _
    refine ab_U.if_eq rfl (fun b7 => ?_) (fun b7 => ?_)
    · rw [if_pos b7] at hf
      refine ab_U.run 6 (S' := (44, [some (.ref 232), some (.int x0), some (.int 0)], [.int 1, .int x0, .ref 249], hp X G q4.2)) rfl ?_
      obtain ⟨c8, hf⟩ := ab_ifs hf
      obtain ⟨m9, e10, hf⟩ := ab_bnd hf
      have e10 := Option.some.inj e10
      refine ab_U.bastZ (n := 2) rfl ⟨by decide, rfl⟩ c8 ?_
      show ab_U _ _ _ (45, [some (.ref 232), some (.int x0), some (.int 0)], [], hp X G (fm_sA q4.2 249 (upd (q4.2.2.1 249) x0.toNatClampNeg (1 &&& 1)))) _
      rw [e10]
      refine ab_U.run 1 (S' := (46, [some (.ref 232), some (.int x0), some (.int 0)], [.int 0], hp X G m9)) rfl ?_
      obtain rfl := Option.some.inj hf
      exact ab_U.ret rfl rfl ⟨rfl, rfl⟩
    · rw [if_neg b7] at hf
      refine ab_U.run 7 (S' := (44, [some (.ref 232), some (.int x0), some (.int 1)], [.int 1, .int x0, .ref 249], hp X G q4.2)) rfl ?_
      obtain ⟨c11, hf⟩ := ab_ifs hf
      obtain ⟨m12, e13, hf⟩ := ab_bnd hf
      have e13 := Option.some.inj e13
      refine ab_U.bastZ (n := 2) rfl ⟨by decide, rfl⟩ c11 ?_
      show ab_U _ _ _ (45, [some (.ref 232), some (.int x0), some (.int 1)], [], hp X G (fm_sA q4.2 249 (upd (q4.2.2.1 249) x0.toNatClampNeg (1 &&& 1)))) _
      rw [e13]
      refine ab_U.run 1 (S' := (46, [some (.ref 232), some (.int x0), some (.int 1)], [.int 1], hp X G m12)) rfl ?_
      obtain rfl := Option.some.inj hf
      exact ab_U.ret rfl rfl ⟨rfl, rfl⟩
  · rw [if_neg b3] at hf
    refine ab_U.run 1 (S' := (11, [some (.ref 232), some (.int x0), none], [.int (-1)], hp X G q1.2)) rfl ?_
    obtain rfl := Option.some.inj hf
    exact ab_U.ret rfl rfl ⟨rfl, rfl⟩
set_option maxRecDepth 20000 in
def f_X9_back (F : Nat)  (x0 : Int32) (μ : fm_M) : Option (Int32 × fm_M) := (Option.bind (f_X9_in F ((x0).toInt64) (Int64.ofNat 0) (Int64.ofNat 1) μ) (fun q1 => (if ¬ q1.1 = 0 then (if ab_in x0 2 = true then (if ¬ (q1.2.2.1 249 x0.toNatClampNeg) = 0 then (Option.bind (f_X9_copies F (38 * (x0 + 1)) 0 q1.2) (fun q6 => (if ab_in 37 228 = true then some ((q6.2.2.1 233 (37 : Int32).toNatClampNeg), q6.2) else none))) else some ((-2), q1.2)) else none) else some ((-1), q1.2))))
set_option maxRecDepth 20000 in
theorem t_X9_back {X : Nat × (Nat → Int32)} {G : Nat → Nat → Option Nat} (hG : fm_Gok G) {F : Nat}   {x0 : Int32} {μ : fm_M} {r : Int32 × fm_M} (hf : f_X9_back F x0 μ = some r) : ab_F 2 212 [.ref 232, .int x0] (hp X G μ) (some (.int r.1)) (hp X G r.2) := by
  unfold f_X9_back at hf
  refine ab_T.of (d := 1) rfl (Nat.le_of_ble_eq_true rfl) ?_
  show ab_U _ _ kX9_back (0, [some (.ref 232), some (.int x0)], [], hp X G μ) _
  refine ab_U.run 4 (S' := (4, [some (.ref 232), some (.int x0)], [.long (Int64.ofNat 1), .long (Int64.ofNat 0), .long (x0).toInt64], hp X G μ)) rfl ?_
  obtain ⟨q1, h2, hf⟩ := ab_bnd hf
  refine ab_U.fn rfl rfl (t_X9_in (X := X) hG h2) (by omega) ?_
  show ab_U _ _ _ (7, [some (.ref 232), some (.int x0)], [.int q1.1], hp X G q1.2) _
  refine ab_U.if_ne rfl (fun b3 => ?_) (fun b3 => ?_)
  · rw [if_pos b3] at hf
    refine ab_U.run 3 (S' := (17, [some (.ref 232), some (.int x0)], [.int x0, .ref 249], hp X G q1.2)) rfl ?_
    obtain ⟨c4, hf⟩ := ab_ifs hf
    refine ab_U.baldZ (n := 2) rfl ⟨by decide, rfl⟩ c4 ?_
    show ab_U _ _ _ (18, [some (.ref 232), some (.int x0)], [.int (q1.2.2.1 249 x0.toNatClampNeg)], hp X G q1.2) _
    refine ab_U.if_ne rfl (fun b5 => ?_) (fun b5 => ?_)
    · rw [if_pos b5] at hf
      refine ab_U.run 7 (S' := (32, [some (.ref 232), some (.int x0)], [.int 0, .int (38 * (x0 + 1)), .ref 232], hp X G q1.2)) rfl ?_
      obtain ⟨q6, h7, hf⟩ := ab_bnd hf
      refine ab_U.fn rfl rfl (t_X9_copies (X := X) hG h7) (by omega) ?_
      show ab_U _ _ _ (35, [some (.ref 232), some (.int x0)], [], hp X G q6.2) _
      refine ab_U.run 3 (S' := (41, [some (.ref 232), some (.int x0)], [.int 37, .ref 233], hp X G q6.2)) rfl ?_
      obtain ⟨c8, hf⟩ := ab_ifs hf
      refine ab_U.iald (n := 228) rfl ⟨by decide, rfl⟩ c8 ?_
      show ab_U _ _ _ (42, [some (.ref 232), some (.int x0)], [.int (q6.2.2.1 233 (37 : Int32).toNatClampNeg)], hp X G q6.2) _
      obtain rfl := Option.some.inj hf
      exact ab_U.ret rfl rfl ⟨rfl, rfl⟩
    · rw [if_neg b5] at hf
      refine ab_U.run 1 (S' := (23, [some (.ref 232), some (.int x0)], [.int (-2)], hp X G q1.2)) rfl ?_
      obtain rfl := Option.some.inj hf
      exact ab_U.ret rfl rfl ⟨rfl, rfl⟩
  · rw [if_neg b3] at hf
    refine ab_U.run 1 (S' := (11, [some (.ref 232), some (.int x0)], [.int (-1)], hp X G q1.2)) rfl ?_
    obtain rfl := Option.some.inj hf
    exact ab_U.ret rfl rfl ⟨rfl, rfl⟩
set_option maxRecDepth 20000 in
def b_X9_sheet_56 (F : Nat)  (gg : Nat → Int32 → Int32 → fm_M → Option (Int32 × fm_M)) (l1 : Int32) (l4 : Int32) (μ : fm_M) : Option (Int32 × fm_M) := (if 40 ≤ l4 then some (1, μ) else (if ab_in ((40 * l1) + l4) 160 = true then (Option.bind (some (fm_sA μ 252 (upd (μ.2.1 252) ((40 * l1) + l4).toNatClampNeg 0))) (fun m3 => gg 56 l1 (l4 + 1) m3)) else none))
def g_X9_sheet (F : Nat)  : Nat → Nat → Int32 → Int32 → fm_M → Option (Int32 × fm_M)
  | 0, _, _, _, _ => none
  | n + 1, pc, l1, l4, μ => if pc = 56 then b_X9_sheet_56 F  (g_X9_sheet F  n) l1 l4 μ else none
set_option maxRecDepth 20000 in
theorem t_X9_sheet_g {X : Nat × (Nat → Int32)} {G : Nat → Nat → Option Nat} (hG : fm_Gok G) {F : Nat}    : ∀ n : Nat, (∀ (l1 : Int32) (l4 : Int32) (μ : fm_M) (r : Int32 × fm_M), g_X9_sheet F  n 56 l1 l4 μ = some r → ab_U 1 (some .int) kX9_sheet (56, [some (.ref 232), some (.int l1), none, none, some (.int l4)], [], hp X G μ) (fun r9 h9 => r9 = some (.int r.1) ∧ h9 = hp X G r.2))
  | 0 => by
    intros
    rename_i h
    cases h
  | n + 1 => by
    have ih := t_X9_sheet_g (X := X) hG (F := F)   n
    · intro l1 l4 μ r hf
      have hf : b_X9_sheet_56 F  (g_X9_sheet F  n) l1 l4 μ = some r := hf
      unfold b_X9_sheet_56 at hf
      refine ab_U.run 2 (S' := (60, [some (.ref 232), some (.int l1), none, none, some (.int l4)], [.int 40, .int l4], hp X G μ)) rfl ?_
      refine ab_U.ic_ge rfl (fun b1 => ?_) (fun b1 => ?_)
      · rw [if_pos b1] at hf
        refine ab_U.run 1 (S' := (83, [some (.ref 232), some (.int l1), none, none, some (.int l4)], [.int 1], hp X G μ)) rfl ?_
        obtain rfl := Option.some.inj hf
        exact ab_U.ret rfl rfl ⟨rfl, rfl⟩
      · rw [if_neg b1] at hf
        refine ab_U.run 8 (S' := (75, [some (.ref 232), some (.int l1), none, none, some (.int l4)], [.int 0, .int ((40 * l1) + l4), .ref 252], hp X G μ)) rfl ?_
        obtain ⟨c2, hf⟩ := ab_ifs hf
        obtain ⟨m3, e4, hf⟩ := ab_bnd hf
        have e4 := Option.some.inj e4
        refine ab_U.iast (n := 160) rfl ⟨by decide, rfl⟩ c2 ?_
        show ab_U _ _ _ (76, [some (.ref 232), some (.int l1), none, none, some (.int l4)], [], hp X G (fm_sA μ 252 (upd (μ.2.1 252) ((40 * l1) + l4).toNatClampNeg 0))) _
        rw [e4]
        refine ab_U.run 2 (S' := (56, [some (.ref 232), some (.int l1), none, none, some (.int (l4 + 1))], [], hp X G m3)) rfl ?_
        exact ab_U.weak (ih _ _ _ _ hf) (ab_leL.of ⟨rfl, ⟨rfl, ⟨rfl, trivial⟩⟩⟩)
set_option maxRecDepth 20000 in
def f_X9_sheet (F : Nat)  (x0 : Int32) (x1 : Int32) (x2 : Int32) (μ : fm_M) : Option (Int32 × fm_M) := (Option.bind (f_X9_in F ((x0).toInt64) (Int64.ofNat 0) (Int64.ofNat 3) μ) (fun q5 => (if q5.1 = 0 then some ((-1), q5.2) else (Option.bind (f_X9_in F ((x1).toInt64) (Int64.ofNat 0) (Int64.ofNat 2) q5.2) (fun q8 => (if q8.1 = 0 then some ((-1), q8.2) else (if x2 ≤ 40 then (if 0 ≤ x2 then (if ab_in x0 4 = true then (Option.bind (some (fm_sA q8.2 250 (upd (q8.2.2.1 250) x0.toNatClampNeg x1))) (fun m14 => (if ab_in x0 4 = true then (Option.bind (some (fm_sA m14 251 (upd (m14.2.1 251) x0.toNatClampNeg x2))) (fun m17 => g_X9_sheet F  F 56 x0 0 m17)) else none))) else none) else some ((-14), q8.2)) else some ((-1), q8.2))))))))
set_option maxRecDepth 20000 in
theorem t_X9_sheet {X : Nat × (Nat → Int32)} {G : Nat → Nat → Option Nat} (hG : fm_Gok G) {F : Nat}   {x0 : Int32} {x1 : Int32} {x2 : Int32} {μ : fm_M} {r : Int32 × fm_M} (hf : f_X9_sheet F x0 x1 x2 μ = some r) : ab_F 2 213 [.ref 232, .int x0, .int x1, .int x2] (hp X G μ) (some (.int r.1)) (hp X G r.2) := by
  unfold f_X9_sheet at hf
  refine ab_T.of (d := 1) rfl (Nat.le_of_ble_eq_true rfl) ?_
  show ab_U _ _ kX9_sheet (0, [some (.ref 232), some (.int x0), some (.int x1), some (.int x2), none], [], hp X G μ) _
  refine ab_U.run 4 (S' := (6, [some (.ref 232), some (.int x0), some (.int x1), some (.int x2), none], [.long (Int64.ofNat 3), .long (Int64.ofNat 0), .long (x0).toInt64], hp X G μ)) rfl ?_
  obtain ⟨q5, h6, hf⟩ := ab_bnd hf
  refine ab_U.fn rfl rfl (t_X9_in (X := X) hG h6) (by omega) ?_
  show ab_U _ _ _ (9, [some (.ref 232), some (.int x0), some (.int x1), some (.int x2), none], [.int q5.1], hp X G q5.2) _
  refine ab_U.if_eq rfl (fun b7 => ?_) (fun b7 => ?_)
  · rw [if_pos b7] at hf
    refine ab_U.run 1 (S' := (31, [some (.ref 232), some (.int x0), some (.int x1), some (.int x2), none], [.int (-1)], hp X G q5.2)) rfl ?_
    obtain rfl := Option.some.inj hf
    exact ab_U.ret rfl rfl ⟨rfl, rfl⟩
  · rw [if_neg b7] at hf
    refine ab_U.run 4 (S' := (18, [some (.ref 232), some (.int x0), some (.int x1), some (.int x2), none], [.long (Int64.ofNat 2), .long (Int64.ofNat 0), .long (x1).toInt64], hp X G q5.2)) rfl ?_
    obtain ⟨q8, h9, hf⟩ := ab_bnd hf
    refine ab_U.fn rfl rfl (t_X9_in (X := X) hG h9) (by omega) ?_
    show ab_U _ _ _ (21, [some (.ref 232), some (.int x0), some (.int x1), some (.int x2), none], [.int q8.1], hp X G q8.2) _
    refine ab_U.if_eq rfl (fun b10 => ?_) (fun b10 => ?_)
    · rw [if_pos b10] at hf
      refine ab_U.run 1 (S' := (31, [some (.ref 232), some (.int x0), some (.int x1), some (.int x2), none], [.int (-1)], hp X G q8.2)) rfl ?_
      obtain rfl := Option.some.inj hf
      exact ab_U.ret rfl rfl ⟨rfl, rfl⟩
    · rw [if_neg b10] at hf
      refine ab_U.run 2 (S' := (27, [some (.ref 232), some (.int x0), some (.int x1), some (.int x2), none], [.int 40, .int x2], hp X G q8.2)) rfl ?_
      refine ab_U.ic_le rfl (fun b11 => ?_) (fun b11 => ?_)
      · rw [if_pos b11] at hf
        refine ab_U.run 1 (S' := (33, [some (.ref 232), some (.int x0), some (.int x1), some (.int x2), none], [.int x2], hp X G q8.2)) rfl ?_
        refine ab_U.if_ge rfl (fun b12 => ?_) (fun b12 => ?_)
        · rw [if_pos b12] at hf
          refine ab_U.run 4 (S' := (45, [some (.ref 232), some (.int x0), some (.int x1), some (.int x2), none], [.int x1, .int x0, .ref 250], hp X G q8.2)) rfl ?_
          obtain ⟨c13, hf⟩ := ab_ifs hf
          obtain ⟨m14, e15, hf⟩ := ab_bnd hf
          have e15 := Option.some.inj e15
          refine ab_U.iast (n := 4) rfl ⟨by decide, rfl⟩ c13 ?_
          show ab_U _ _ _ (46, [some (.ref 232), some (.int x0), some (.int x1), some (.int x2), none], [], hp X G (fm_sA q8.2 250 (upd (q8.2.2.1 250) x0.toNatClampNeg x1))) _
          rw [e15]
          refine ab_U.run 4 (S' := (52, [some (.ref 232), some (.int x0), some (.int x1), some (.int x2), none], [.int x2, .int x0, .ref 251], hp X G m14)) rfl ?_
          obtain ⟨c16, hf⟩ := ab_ifs hf
          obtain ⟨m17, e18, hf⟩ := ab_bnd hf
          have e18 := Option.some.inj e18
          refine ab_U.iast (n := 4) rfl ⟨by decide, rfl⟩ c16 ?_
          show ab_U _ _ _ (53, [some (.ref 232), some (.int x0), some (.int x1), some (.int x2), none], [], hp X G (fm_sA m14 251 (upd (m14.2.1 251) x0.toNatClampNeg x2))) _
          rw [e18]
          refine ab_U.run 2 (S' := (56, [some (.ref 232), some (.int x0), some (.int x1), some (.int x2), some (.int 0)], [], hp X G m17)) rfl ?_
          exact ab_U.weak ((t_X9_sheet_g (X := X) hG   F) _ _ _ _ hf) (ab_leL.of ⟨rfl, ⟨rfl, ⟨rfl, trivial⟩⟩⟩)
        · rw [if_neg b12] at hf
          refine ab_U.run 1 (S' := (38, [some (.ref 232), some (.int x0), some (.int x1), some (.int x2), none], [.int (-14)], hp X G q8.2)) rfl ?_
          obtain rfl := Option.some.inj hf
          exact ab_U.ret rfl rfl ⟨rfl, rfl⟩
      · rw [if_neg b11] at hf
        refine ab_U.run 1 (S' := (31, [some (.ref 232), some (.int x0), some (.int x1), some (.int x2), none], [.int (-1)], hp X G q8.2)) rfl ?_
        obtain rfl := Option.some.inj hf
        exact ab_U.ret rfl rfl ⟨rfl, rfl⟩
