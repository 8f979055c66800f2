/-! the law: its loop as a function, its start, the claim out of it -/
set_option maxRecDepth 20000 in
def lc_0 (F : Nat) (X : Nat × (Nat → Int32)) (l3 : Int32) (μ : fm_M) : Option (Int32 × fm_M) := (if ab_in (l3 + 1) X.1 = true then (Option.bind (f_X8_feed F (X.2 (l3 + 1).toNatClampNeg) μ) (fun q2 => (if ab_in (l3 + 1) X.1 = true then (Option.bind (f_X9_feed F (X.2 (l3 + 1).toNatClampNeg) q2.2) (fun q5 => (if q2.1 = q5.1 then some (1, q5.2) else some (0, q5.2)))) else none))) else none)
set_option maxRecDepth 20000 in
theorem tc_0 {X : Nat × (Nat → Int32)} {G : Nat → Nat → Option Nat} (hG : fm_Gok G) {F : Nat} {l3 : Int32} {μ : fm_M} {q : Int32 × fm_M} {Q : Option Value → ab_H → Prop} (hf : lc_0 F X l3 μ = some q) (k1 : q.1 = 1 → ab_U 346 (some .boolean) kL_law (1431, [some (.ref 0), some (.ref 100), some (.ref 232), some (.int l3)], [], hp X G q.2) Q) (k0 : q.1 = 0 → Q (some (.int 0)) (hp X G q.2)) : ab_U 346 (some .boolean) kL_law (208, [some (.ref 0), some (.ref 100), some (.ref 232), some (.int l3)], [], hp X G μ) Q := by
  unfold lc_0 at hf
  refine ab_U.run 5 (S' := (213, [some (.ref 0), some (.ref 100), some (.ref 232), some (.int l3)], [.int (l3 + 1), .ref 0, .ref 100], hp X G μ)) rfl ?_
  obtain ⟨c1, hf⟩ := ab_ifs hf
  refine ab_U.script rfl c1 ?_
  show ab_U _ _ _ (214, [some (.ref 0), some (.ref 100), some (.ref 232), some (.int l3)], [.int (X.2 (l3 + 1).toNatClampNeg), .ref 100], hp X G μ) _
  obtain ⟨q2, h3, hf⟩ := ab_bnd hf
  refine ab_U.fn rfl rfl (t_X8_feed (X := X) hG h3) (by omega) ?_
  show ab_U _ _ _ (217, [some (.ref 0), some (.ref 100), some (.ref 232), some (.int l3)], [.int q2.1], hp X G q2.2) _
  refine ab_U.run 5 (S' := (222, [some (.ref 0), some (.ref 100), some (.ref 232), some (.int l3)], [.int (l3 + 1), .ref 0, .ref 232, .int q2.1], hp X G q2.2)) rfl ?_
  obtain ⟨c4, hf⟩ := ab_ifs hf
  refine ab_U.script rfl c4 ?_
  show ab_U _ _ _ (223, [some (.ref 0), some (.ref 100), some (.ref 232), some (.int l3)], [.int (X.2 (l3 + 1).toNatClampNeg), .ref 232, .int q2.1], hp X G q2.2) _
  obtain ⟨q5, h6, hf⟩ := ab_bnd hf
  refine ab_U.fn rfl rfl (t_X9_feed (X := X) hG h6) (by omega) ?_
  show ab_U _ _ _ (226, [some (.ref 0), some (.ref 100), some (.ref 232), some (.int l3)], [.int q5.1, .int q2.1], hp X G q5.2) _
  refine ab_U.ic_eq rfl (fun b7 => ?_) (fun b7 => ?_)
  · rw [if_pos b7] at hf
    obtain rfl := Option.some.inj hf
    exact k1 rfl
  · rw [if_neg b7] at hf
    refine ab_U.run 1 (S' := (230, [some (.ref 0), some (.ref 100), some (.ref 232), some (.int l3)], [.int 0], hp X G q5.2)) rfl ?_
    obtain rfl := Option.some.inj hf
    exact ab_U.ret rfl rfl (k0 rfl)
set_option maxRecDepth 20000 in
def lc_1 (F : Nat) (X : Nat × (Nat → Int32)) (l3 : Int32) (μ : fm_M) : Option (Int32 × fm_M) := (if ab_in (l3 + 1) X.1 = true then (Option.bind (f_X8_end F (X.2 (l3 + 1).toNatClampNeg) μ) (fun q2 => (if ab_in (l3 + 1) X.1 = true then (Option.bind (f_X9_end F (X.2 (l3 + 1).toNatClampNeg) q2.2) (fun q5 => (if q2.1 = q5.1 then some (1, q5.2) else some (0, q5.2)))) else none))) else none)
set_option maxRecDepth 20000 in
theorem tc_1 {X : Nat × (Nat → Int32)} {G : Nat → Nat → Option Nat} (hG : fm_Gok G) {F : Nat} {l3 : Int32} {μ : fm_M} {q : Int32 × fm_M} {Q : Option Value → ab_H → Prop} (hf : lc_1 F X l3 μ = some q) (k1 : q.1 = 1 → ab_U 346 (some .boolean) kL_law (1431, [some (.ref 0), some (.ref 100), some (.ref 232), some (.int l3)], [], hp X G q.2) Q) (k0 : q.1 = 0 → Q (some (.int 0)) (hp X G q.2)) : ab_U 346 (some .boolean) kL_law (231, [some (.ref 0), some (.ref 100), some (.ref 232), some (.int l3)], [], hp X G μ) Q := by
  unfold lc_1 at hf
  refine ab_U.run 5 (S' := (236, [some (.ref 0), some (.ref 100), some (.ref 232), some (.int l3)], [.int (l3 + 1), .ref 0, .ref 100], hp X G μ)) rfl ?_
  obtain ⟨c1, hf⟩ := ab_ifs hf
  refine ab_U.script rfl c1 ?_
  show ab_U _ _ _ (237, [some (.ref 0), some (.ref 100), some (.ref 232), some (.int l3)], [.int (X.2 (l3 + 1).toNatClampNeg), .ref 100], hp X G μ) _
  obtain ⟨q2, h3, hf⟩ := ab_bnd hf
  refine ab_U.fn rfl rfl (t_X8_end (X := X) hG h3) (by omega) ?_
  show ab_U _ _ _ (240, [some (.ref 0), some (.ref 100), some (.ref 232), some (.int l3)], [.int q2.1], hp X G q2.2) _
  refine ab_U.run 5 (S' := (245, [some (.ref 0), some (.ref 100), some (.ref 232), some (.int l3)], [.int (l3 + 1), .ref 0, .ref 232, .int q2.1], hp X G q2.2)) rfl ?_
  obtain ⟨c4, hf⟩ := ab_ifs hf
  refine ab_U.script rfl c4 ?_
  show ab_U _ _ _ (246, [some (.ref 0), some (.ref 100), some (.ref 232), some (.int l3)], [.int (X.2 (l3 + 1).toNatClampNeg), .ref 232, .int q2.1], hp X G q2.2) _
  obtain ⟨q5, h6, hf⟩ := ab_bnd hf
  refine ab_U.fn rfl rfl (t_X9_end (X := X) hG h6) (by omega) ?_
  show ab_U _ _ _ (249, [some (.ref 0), some (.ref 100), some (.ref 232), some (.int l3)], [.int q5.1, .int q2.1], hp X G q5.2) _
  refine ab_U.ic_eq rfl (fun b7 => ?_) (fun b7 => ?_)
  · rw [if_pos b7] at hf
    obtain rfl := Option.some.inj hf
    exact k1 rfl
  · rw [if_neg b7] at hf
    refine ab_U.run 1 (S' := (253, [some (.ref 0), some (.ref 100), some (.ref 232), some (.int l3)], [.int 0], hp X G q5.2)) rfl ?_
    obtain rfl := Option.some.inj hf
    exact ab_U.ret rfl rfl (k0 rfl)
set_option maxRecDepth 20000 in
def lc_2 (F : Nat) (X : Nat × (Nat → Int32)) (l3 : Int32) (μ : fm_M) : Option (Int32 × fm_M) := (Option.bind (f_X8_text F μ) (fun q1 => (Option.bind (f_X9_text F q1.2) (fun q3 => (if q1.1 = q3.1 then some (1, q3.2) else some (0, q3.2))))))
set_option maxRecDepth 20000 in
theorem tc_2 {X : Nat × (Nat → Int32)} {G : Nat → Nat → Option Nat} (hG : fm_Gok G) {F : Nat} {l3 : Int32} {μ : fm_M} {q : Int32 × fm_M} {Q : Option Value → ab_H → Prop} (hf : lc_2 F X l3 μ = some q) (k1 : q.1 = 1 → ab_U 346 (some .boolean) kL_law (1431, [some (.ref 0), some (.ref 100), some (.ref 232), some (.int l3)], [], hp X G q.2) Q) (k0 : q.1 = 0 → Q (some (.int 0)) (hp X G q.2)) : ab_U 346 (some .boolean) kL_law (254, [some (.ref 0), some (.ref 100), some (.ref 232), some (.int l3)], [], hp X G μ) Q := by
  unfold lc_2 at hf
  refine ab_U.run 1 (S' := (255, [some (.ref 0), some (.ref 100), some (.ref 232), some (.int l3)], [.ref 100], hp X G μ)) rfl ?_
  obtain ⟨q1, h2, hf⟩ := ab_bnd hf
  refine ab_U.fn rfl rfl (t_X8_text (X := X) hG h2) (by omega) ?_
  show ab_U _ _ _ (258, [some (.ref 0), some (.ref 100), some (.ref 232), some (.int l3)], [.int q1.1], hp X G q1.2) _
  refine ab_U.run 1 (S' := (259, [some (.ref 0), some (.ref 100), some (.ref 232), some (.int l3)], [.ref 232, .int q1.1], hp X G q1.2)) rfl ?_
  obtain ⟨q3, h4, hf⟩ := ab_bnd hf
  refine ab_U.fn rfl rfl (t_X9_text (X := X) hG h4) (by omega) ?_
  show ab_U _ _ _ (262, [some (.ref 0), some (.ref 100), some (.ref 232), some (.int l3)], [.int q3.1, .int q1.1], hp X G q3.2) _
  refine ab_U.ic_eq rfl (fun b5 => ?_) (fun b5 => ?_)
  · rw [if_pos b5] at hf
    obtain rfl := Option.some.inj hf
    exact k1 rfl
  · rw [if_neg b5] at hf
    refine ab_U.run 1 (S' := (266, [some (.ref 0), some (.ref 100), some (.ref 232), some (.int l3)], [.int 0], hp X G q3.2)) rfl ?_
    obtain rfl := Option.some.inj hf
    exact ab_U.ret rfl rfl (k0 rfl)
set_option maxRecDepth 20000 in
def lc_3 (F : Nat) (X : Nat × (Nat → Int32)) (l3 : Int32) (μ : fm_M) : Option (Int32 × fm_M) := (Option.bind (f_X8_fault F μ) (fun q1 => (Option.bind (f_X9_fault F q1.2) (fun q3 => (if q1.1 = q3.1 then some (1, q3.2) else some (0, q3.2))))))
set_option maxRecDepth 20000 in
theorem tc_3 {X : Nat × (Nat → Int32)} {G : Nat → Nat → Option Nat} (hG : fm_Gok G) {F : Nat} {l3 : Int32} {μ : fm_M} {q : Int32 × fm_M} {Q : Option Value → ab_H → Prop} (hf : lc_3 F X l3 μ = some q) (k1 : q.1 = 1 → ab_U 346 (some .boolean) kL_law (1431, [some (.ref 0), some (.ref 100), some (.ref 232), some (.int l3)], [], hp X G q.2) Q) (k0 : q.1 = 0 → Q (some (.int 0)) (hp X G q.2)) : ab_U 346 (some .boolean) kL_law (267, [some (.ref 0), some (.ref 100), some (.ref 232), some (.int l3)], [], hp X G μ) Q := by
  unfold lc_3 at hf
  refine ab_U.run 1 (S' := (268, [some (.ref 0), some (.ref 100), some (.ref 232), some (.int l3)], [.ref 100], hp X G μ)) rfl ?_
  obtain ⟨q1, h2, hf⟩ := ab_bnd hf
  refine ab_U.fn rfl rfl (t_X8_fault (X := X) hG h2) (by omega) ?_
  show ab_U _ _ _ (271, [some (.ref 0), some (.ref 100), some (.ref 232), some (.int l3)], [.int q1.1], hp X G q1.2) _
  refine ab_U.run 1 (S' := (272, [some (.ref 0), some (.ref 100), some (.ref 232), some (.int l3)], [.ref 232, .int q1.1], hp X G q1.2)) rfl ?_
  obtain ⟨q3, h4, hf⟩ := ab_bnd hf
  refine ab_U.fn rfl rfl (t_X9_fault (X := X) hG h4) (by omega) ?_
  show ab_U _ _ _ (275, [some (.ref 0), some (.ref 100), some (.ref 232), some (.int l3)], [.int q3.1, .int q1.1], hp X G q3.2) _
  refine ab_U.ic_eq rfl (fun b5 => ?_) (fun b5 => ?_)
  · rw [if_pos b5] at hf
    obtain rfl := Option.some.inj hf
    exact k1 rfl
  · rw [if_neg b5] at hf
    refine ab_U.run 1 (S' := (279, [some (.ref 0), some (.ref 100), some (.ref 232), some (.int l3)], [.int 0], hp X G q3.2)) rfl ?_
    obtain rfl := Option.some.inj hf
    exact ab_U.ret rfl rfl (k0 rfl)
set_option maxRecDepth 20000 in
def lc_4 (F : Nat) (X : Nat × (Nat → Int32)) (l3 : Int32) (μ : fm_M) : Option (Int32 × fm_M) := (if ab_in (l3 + 1) X.1 = true then (Option.bind (f_X8_rule F (X.2 (l3 + 1).toNatClampNeg) μ) (fun q2 => (if ab_in (l3 + 1) X.1 = true then (Option.bind (f_X9_rule F (X.2 (l3 + 1).toNatClampNeg) q2.2) (fun q5 => (if q2.1 = q5.1 then some (1, q5.2) else some (0, q5.2)))) else none))) else none)
set_option maxRecDepth 20000 in
theorem tc_4 {X : Nat × (Nat → Int32)} {G : Nat → Nat → Option Nat} (hG : fm_Gok G) {F : Nat} {l3 : Int32} {μ : fm_M} {q : Int32 × fm_M} {Q : Option Value → ab_H → Prop} (hf : lc_4 F X l3 μ = some q) (k1 : q.1 = 1 → ab_U 346 (some .boolean) kL_law (1431, [some (.ref 0), some (.ref 100), some (.ref 232), some (.int l3)], [], hp X G q.2) Q) (k0 : q.1 = 0 → Q (some (.int 0)) (hp X G q.2)) : ab_U 346 (some .boolean) kL_law (280, [some (.ref 0), some (.ref 100), some (.ref 232), some (.int l3)], [], hp X G μ) Q := by
  unfold lc_4 at hf
  refine ab_U.run 5 (S' := (285, [some (.ref 0), some (.ref 100), some (.ref 232), some (.int l3)], [.int (l3 + 1), .ref 0, .ref 100], hp X G μ)) rfl ?_
  obtain ⟨c1, hf⟩ := ab_ifs hf
  refine ab_U.script rfl c1 ?_
  show ab_U _ _ _ (286, [some (.ref 0), some (.ref 100), some (.ref 232), some (.int l3)], [.int (X.2 (l3 + 1).toNatClampNeg), .ref 100], hp X G μ) _
  obtain ⟨q2, h3, hf⟩ := ab_bnd hf
  refine ab_U.fn rfl rfl (t_X8_rule (X := X) hG h3) (by omega) ?_
  show ab_U _ _ _ (289, [some (.ref 0), some (.ref 100), some (.ref 232), some (.int l3)], [.int q2.1], hp X G q2.2) _
  refine ab_U.run 5 (S' := (294, [some (.ref 0), some (.ref 100), some (.ref 232), some (.int l3)], [.int (l3 + 1), .ref 0, .ref 232, .int q2.1], hp X G q2.2)) rfl ?_
  obtain ⟨c4, hf⟩ := ab_ifs hf
  refine ab_U.script rfl c4 ?_
  show ab_U _ _ _ (295, [some (.ref 0), some (.ref 100), some (.ref 232), some (.int l3)], [.int (X.2 (l3 + 1).toNatClampNeg), .ref 232, .int q2.1], hp X G q2.2) _
  obtain ⟨q5, h6, hf⟩ := ab_bnd hf
  refine ab_U.fn rfl rfl (t_X9_rule (X := X) hG h6) (by omega) ?_
  show ab_U _ _ _ (298, [some (.ref 0), some (.ref 100), some (.ref 232), some (.int l3)], [.int q5.1, .int q2.1], hp X G q5.2) _
  refine ab_U.ic_eq rfl (fun b7 => ?_) (fun b7 => ?_)
  · rw [if_pos b7] at hf
    obtain rfl := Option.some.inj hf
    exact k1 rfl
  · rw [if_neg b7] at hf
    refine ab_U.run 1 (S' := (302, [some (.ref 0), some (.ref 100), some (.ref 232), some (.int l3)], [.int 0], hp X G q5.2)) rfl ?_
    obtain rfl := Option.some.inj hf
    exact ab_U.ret rfl rfl (k0 rfl)
set_option maxRecDepth 20000 in
def lc_5 (F : Nat) (X : Nat × (Nat → Int32)) (l3 : Int32) (μ : fm_M) : Option (Int32 × fm_M) := (if ab_in (l3 + 1) X.1 = true then (if ab_in (l3 + 2) X.1 = true then (Option.bind (f_X8_one F (X.2 (l3 + 1).toNatClampNeg) (X.2 (l3 + 2).toNatClampNeg) μ) (fun q3 => (if ab_in (l3 + 1) X.1 = true then (if ab_in (l3 + 2) X.1 = true then (Option.bind (f_X9_one F (X.2 (l3 + 1).toNatClampNeg) (X.2 (l3 + 2).toNatClampNeg) q3.2) (fun q7 => (if q3.1 = q7.1 then some (1, q7.2) else some (0, q7.2)))) else none) else none))) else none) else none)
set_option maxRecDepth 20000 in
theorem tc_5 {X : Nat × (Nat → Int32)} {G : Nat → Nat → Option Nat} (hG : fm_Gok G) {F : Nat} {l3 : Int32} {μ : fm_M} {q : Int32 × fm_M} {Q : Option Value → ab_H → Prop} (hf : lc_5 F X l3 μ = some q) (k1 : q.1 = 1 → ab_U 346 (some .boolean) kL_law (1431, [some (.ref 0), some (.ref 100), some (.ref 232), some (.int l3)], [], hp X G q.2) Q) (k0 : q.1 = 0 → Q (some (.int 0)) (hp X G q.2)) : ab_U 346 (some .boolean) kL_law (303, [some (.ref 0), some (.ref 100), some (.ref 232), some (.int l3)], [], hp X G μ) Q := by
  unfold lc_5 at hf
  refine ab_U.run 5 (S' := (308, [some (.ref 0), some (.ref 100), some (.ref 232), some (.int l3)], [.int (l3 + 1), .ref 0, .ref 100], hp X G μ)) rfl ?_
  obtain ⟨c1, hf⟩ := ab_ifs hf
  refine ab_U.script rfl c1 ?_
  show ab_U _ _ _ (309, [some (.ref 0), some (.ref 100), some (.ref 232), some (.int l3)], [.int (X.2 (l3 + 1).toNatClampNeg), .ref 100], hp X G μ) _
  refine ab_U.run 4 (S' := (313, [some (.ref 0), some (.ref 100), some (.ref 232), some (.int l3)], [.int (l3 + 2), .ref 0, .int (X.2 (l3 + 1).toNatClampNeg), .ref 100], hp X G μ)) rfl ?_
  obtain ⟨c2, hf⟩ := ab_ifs hf
  refine ab_U.script rfl c2 ?_
  show ab_U _ _ _ (314, [some (.ref 0), some (.ref 100), some (.ref 232), some (.int l3)], [.int (X.2 (l3 + 2).toNatClampNeg), .int (X.2 (l3 + 1).toNatClampNeg), .ref 100], hp X G μ) _
  obtain ⟨q3, h4, hf⟩ := ab_bnd hf
  refine ab_U.fn rfl rfl (t_X8_one (X := X) hG h4) (by omega) ?_
  show ab_U _ _ _ (317, [some (.ref 0), some (.ref 100), some (.ref 232), some (.int l3)], [.int q3.1], hp X G q3.2) _
  refine ab_U.run 5 (S' := (322, [some (.ref 0), some (.ref 100), some (.ref 232), some (.int l3)], [.int (l3 + 1), .ref 0, .ref 232, .int q3.1], hp X G q3.2)) rfl ?_
  obtain ⟨c5, hf⟩ := ab_ifs hf
  refine ab_U.script rfl c5 ?_
  show ab_U _ _ _ (323, [some (.ref 0), some (.ref 100), some (.ref 232), some (.int l3)], [.int (X.2 (l3 + 1).toNatClampNeg), .ref 232, .int q3.1], hp X G q3.2) _
  refine ab_U.run 4 (S' := (327, [some (.ref 0), some (.ref 100), some (.ref 232), some (.int l3)], [.int (l3 + 2), .ref 0, .int (X.2 (l3 + 1).toNatClampNeg), .ref 232, .int q3.1], hp X G q3.2)) rfl ?_
  obtain ⟨c6, hf⟩ := ab_ifs hf
  refine ab_U.script rfl c6 ?_
  show ab_U _ _ _ (328, [some (.ref 0), some (.ref 100), some (.ref 232), some (.int l3)], [.int (X.2 (l3 + 2).toNatClampNeg), .int (X.2 (l3 + 1).toNatClampNeg), .ref 232, .int q3.1], hp X G q3.2) _
  obtain ⟨q7, h8, hf⟩ := ab_bnd hf
  refine ab_U.fn rfl rfl (t_X9_one (X := X) hG h8) (by omega) ?_
  show ab_U _ _ _ (331, [some (.ref 0), some (.ref 100), some (.ref 232), some (.int l3)], [.int q7.1, .int q3.1], hp X G q7.2) _
  refine ab_U.ic_eq rfl (fun b9 => ?_) (fun b9 => ?_)
  · rw [if_pos b9] at hf
    obtain rfl := Option.some.inj hf
    exact k1 rfl
  · rw [if_neg b9] at hf
    refine ab_U.run 1 (S' := (335, [some (.ref 0), some (.ref 100), some (.ref 232), some (.int l3)], [.int 0], hp X G q7.2)) rfl ?_
    obtain rfl := Option.some.inj hf
    exact ab_U.ret rfl rfl (k0 rfl)
set_option maxRecDepth 20000 in
def lc_6 (F : Nat) (X : Nat × (Nat → Int32)) (l3 : Int32) (μ : fm_M) : Option (Int32 × fm_M) := (if ab_in (l3 + 1) X.1 = true then (if ab_in (l3 + 2) X.1 = true then (Option.bind (f_X8_stone F (X.2 (l3 + 1).toNatClampNeg) (X.2 (l3 + 2).toNatClampNeg) μ) (fun q3 => (if ab_in (l3 + 1) X.1 = true then (if ab_in (l3 + 2) X.1 = true then (Option.bind (f_X9_stone F (X.2 (l3 + 1).toNatClampNeg) (X.2 (l3 + 2).toNatClampNeg) q3.2) (fun q7 => (if q3.1 = q7.1 then some (1, q7.2) else some (0, q7.2)))) else none) else none))) else none) else none)
set_option maxRecDepth 20000 in
theorem tc_6 {X : Nat × (Nat → Int32)} {G : Nat → Nat → Option Nat} (hG : fm_Gok G) {F : Nat} {l3 : Int32} {μ : fm_M} {q : Int32 × fm_M} {Q : Option Value → ab_H → Prop} (hf : lc_6 F X l3 μ = some q) (k1 : q.1 = 1 → ab_U 346 (some .boolean) kL_law (1431, [some (.ref 0), some (.ref 100), some (.ref 232), some (.int l3)], [], hp X G q.2) Q) (k0 : q.1 = 0 → Q (some (.int 0)) (hp X G q.2)) : ab_U 346 (some .boolean) kL_law (336, [some (.ref 0), some (.ref 100), some (.ref 232), some (.int l3)], [], hp X G μ) Q := by
  unfold lc_6 at hf
  refine ab_U.run 5 (S' := (341, [some (.ref 0), some (.ref 100), some (.ref 232), some (.int l3)], [.int (l3 + 1), .ref 0, .ref 100], hp X G μ)) rfl ?_
  obtain ⟨c1, hf⟩ := ab_ifs hf
  refine ab_U.script rfl c1 ?_
  show ab_U _ _ _ (342, [some (.ref 0), some (.ref 100), some (.ref 232), some (.int l3)], [.int (X.2 (l3 + 1).toNatClampNeg), .ref 100], hp X G μ) _
  refine ab_U.run 4 (S' := (346, [some (.ref 0), some (.ref 100), some (.ref 232), some (.int l3)], [.int (l3 + 2), .ref 0, .int (X.2 (l3 + 1).toNatClampNeg), .ref 100], hp X G μ)) rfl ?_
  obtain ⟨c2, hf⟩ := ab_ifs hf
  refine ab_U.script rfl c2 ?_
  show ab_U _ _ _ (347, [some (.ref 0), some (.ref 100), some (.ref 232), some (.int l3)], [.int (X.2 (l3 + 2).toNatClampNeg), .int (X.2 (l3 + 1).toNatClampNeg), .ref 100], hp X G μ) _
  obtain ⟨q3, h4, hf⟩ := ab_bnd hf
  refine ab_U.fn rfl rfl (t_X8_stone (X := X) hG h4) (by omega) ?_
  show ab_U _ _ _ (350, [some (.ref 0), some (.ref 100), some (.ref 232), some (.int l3)], [.int q3.1], hp X G q3.2) _
  refine ab_U.run 5 (S' := (355, [some (.ref 0), some (.ref 100), some (.ref 232), some (.int l3)], [.int (l3 + 1), .ref 0, .ref 232, .int q3.1], hp X G q3.2)) rfl ?_
  obtain ⟨c5, hf⟩ := ab_ifs hf
  refine ab_U.script rfl c5 ?_
  show ab_U _ _ _ (356, [some (.ref 0), some (.ref 100), some (.ref 232), some (.int l3)], [.int (X.2 (l3 + 1).toNatClampNeg), .ref 232, .int q3.1], hp X G q3.2) _
  refine ab_U.run 4 (S' := (360, [some (.ref 0), some (.ref 100), some (.ref 232), some (.int l3)], [.int (l3 + 2), .ref 0, .int (X.2 (l3 + 1).toNatClampNeg), .ref 232, .int q3.1], hp X G q3.2)) rfl ?_
  obtain ⟨c6, hf⟩ := ab_ifs hf
  refine ab_U.script rfl c6 ?_
  show ab_U _ _ _ (361, [some (.ref 0), some (.ref 100), some (.ref 232), some (.int l3)], [.int (X.2 (l3 + 2).toNatClampNeg), .int (X.2 (l3 + 1).toNatClampNeg), .ref 232, .int q3.1], hp X G q3.2) _
  obtain ⟨q7, h8, hf⟩ := ab_bnd hf
  refine ab_U.fn rfl rfl (t_X9_stone (X := X) hG h8) (by omega) ?_
  show ab_U _ _ _ (364, [some (.ref 0), some (.ref 100), some (.ref 232), some (.int l3)], [.int q7.1, .int q3.1], hp X G q7.2) _
  refine ab_U.ic_eq rfl (fun b9 => ?_) (fun b9 => ?_)
  · rw [if_pos b9] at hf
    obtain rfl := Option.some.inj hf
    exact k1 rfl
  · rw [if_neg b9] at hf
    refine ab_U.run 1 (S' := (368, [some (.ref 0), some (.ref 100), some (.ref 232), some (.int l3)], [.int 0], hp X G q7.2)) rfl ?_
    obtain rfl := Option.some.inj hf
    exact ab_U.ret rfl rfl (k0 rfl)
set_option maxRecDepth 20000 in
def lc_7 (F : Nat) (X : Nat × (Nat → Int32)) (l3 : Int32) (μ : fm_M) : Option (Int32 × fm_M) := (if ab_in (l3 + 1) X.1 = true then (if ab_in (l3 + 2) X.1 = true then (Option.bind (f_X8_debt F (X.2 (l3 + 1).toNatClampNeg) (X.2 (l3 + 2).toNatClampNeg) μ) (fun q3 => (if ab_in (l3 + 1) X.1 = true then (if ab_in (l3 + 2) X.1 = true then (Option.bind (f_X9_debt F (X.2 (l3 + 1).toNatClampNeg) (X.2 (l3 + 2).toNatClampNeg) q3.2) (fun q7 => (if q3.1 = q7.1 then some (1, q7.2) else some (0, q7.2)))) else none) else none))) else none) else none)
set_option maxRecDepth 20000 in
theorem tc_7 {X : Nat × (Nat → Int32)} {G : Nat → Nat → Option Nat} (hG : fm_Gok G) {F : Nat} {l3 : Int32} {μ : fm_M} {q : Int32 × fm_M} {Q : Option Value → ab_H → Prop} (hf : lc_7 F X l3 μ = some q) (k1 : q.1 = 1 → ab_U 346 (some .boolean) kL_law (1431, [some (.ref 0), some (.ref 100), some (.ref 232), some (.int l3)], [], hp X G q.2) Q) (k0 : q.1 = 0 → Q (some (.int 0)) (hp X G q.2)) : ab_U 346 (some .boolean) kL_law (369, [some (.ref 0), some (.ref 100), some (.ref 232), some (.int l3)], [], hp X G μ) Q := by
  unfold lc_7 at hf
  refine ab_U.run 5 (S' := (374, [some (.ref 0), some (.ref 100), some (.ref 232), some (.int l3)], [.int (l3 + 1), .ref 0, .ref 100], hp X G μ)) rfl ?_
  obtain ⟨c1, hf⟩ := ab_ifs hf
  refine ab_U.script rfl c1 ?_
  show ab_U _ _ _ (375, [some (.ref 0), some (.ref 100), some (.ref 232), some (.int l3)], [.int (X.2 (l3 + 1).toNatClampNeg), .ref 100], hp X G μ) _
  refine ab_U.run 4 (S' := (379, [some (.ref 0), some (.ref 100), some (.ref 232), some (.int l3)], [.int (l3 + 2), .ref 0, .int (X.2 (l3 + 1).toNatClampNeg), .ref 100], hp X G μ)) rfl ?_
  obtain ⟨c2, hf⟩ := ab_ifs hf
  refine ab_U.script rfl c2 ?_
  show ab_U _ _ _ (380, [some (.ref 0), some (.ref 100), some (.ref 232), some (.int l3)], [.int (X.2 (l3 + 2).toNatClampNeg), .int (X.2 (l3 + 1).toNatClampNeg), .ref 100], hp X G μ) _
  obtain ⟨q3, h4, hf⟩ := ab_bnd hf
  refine ab_U.fn rfl rfl (t_X8_debt (X := X) hG h4) (by omega) ?_
  show ab_U _ _ _ (383, [some (.ref 0), some (.ref 100), some (.ref 232), some (.int l3)], [.int q3.1], hp X G q3.2) _
  refine ab_U.run 5 (S' := (388, [some (.ref 0), some (.ref 100), some (.ref 232), some (.int l3)], [.int (l3 + 1), .ref 0, .ref 232, .int q3.1], hp X G q3.2)) rfl ?_
  obtain ⟨c5, hf⟩ := ab_ifs hf
  refine ab_U.script rfl c5 ?_
  show ab_U _ _ _ (389, [some (.ref 0), some (.ref 100), some (.ref 232), some (.int l3)], [.int (X.2 (l3 + 1).toNatClampNeg), .ref 232, .int q3.1], hp X G q3.2) _
  refine ab_U.run 4 (S' := (393, [some (.ref 0), some (.ref 100), some (.ref 232), some (.int l3)], [.int (l3 + 2), .ref 0, .int (X.2 (l3 + 1).toNatClampNeg), .ref 232, .int q3.1], hp X G q3.2)) rfl ?_
  obtain ⟨c6, hf⟩ := ab_ifs hf
  refine ab_U.script rfl c6 ?_
  show ab_U _ _ _ (394, [some (.ref 0), some (.ref 100), some (.ref 232), some (.int l3)], [.int (X.2 (l3 + 2).toNatClampNeg), .int (X.2 (l3 + 1).toNatClampNeg), .ref 232, .int q3.1], hp X G q3.2) _
  obtain ⟨q7, h8, hf⟩ := ab_bnd hf
  refine ab_U.fn rfl rfl (t_X9_debt (X := X) hG h8) (by omega) ?_
  show ab_U _ _ _ (397, [some (.ref 0), some (.ref 100), some (.ref 232), some (.int l3)], [.int q7.1, .int q3.1], hp X G q7.2) _
  refine ab_U.ic_eq rfl (fun b9 => ?_) (fun b9 => ?_)
  · rw [if_pos b9] at hf
    obtain rfl := Option.some.inj hf
    exact k1 rfl
  · rw [if_neg b9] at hf
    refine ab_U.run 1 (S' := (401, [some (.ref 0), some (.ref 100), some (.ref 232), some (.int l3)], [.int 0], hp X G q7.2)) rfl ?_
    obtain rfl := Option.some.inj hf
    exact ab_U.ret rfl rfl (k0 rfl)
set_option maxRecDepth 20000 in
def lc_8 (F : Nat) (X : Nat × (Nat → Int32)) (l3 : Int32) (μ : fm_M) : Option (Int32 × fm_M) := (if ab_in (l3 + 1) X.1 = true then (Option.bind (f_X8_price F (X.2 (l3 + 1).toNatClampNeg) μ) (fun q2 => (if ab_in (l3 + 1) X.1 = true then (Option.bind (f_X9_price F (X.2 (l3 + 1).toNatClampNeg) q2.2) (fun q5 => (if q2.1 = q5.1 then some (1, q5.2) else some (0, q5.2)))) else none))) else none)
set_option maxRecDepth 20000 in
theorem tc_8 {X : Nat × (Nat → Int32)} {G : Nat → Nat → Option Nat} (hG : fm_Gok G) {F : Nat} {l3 : Int32} {μ : fm_M} {q : Int32 × fm_M} {Q : Option Value → ab_H → Prop} (hf : lc_8 F X l3 μ = some q) (k1 : q.1 = 1 → ab_U 346 (some .boolean) kL_law (1431, [some (.ref 0), some (.ref 100), some (.ref 232), some (.int l3)], [], hp X G q.2) Q) (k0 : q.1 = 0 → Q (some (.int 0)) (hp X G q.2)) : ab_U 346 (some .boolean) kL_law (402, [some (.ref 0), some (.ref 100), some (.ref 232), some (.int l3)], [], hp X G μ) Q := by
  unfold lc_8 at hf
  refine ab_U.run 5 (S' := (407, [some (.ref 0), some (.ref 100), some (.ref 232), some (.int l3)], [.int (l3 + 1), .ref 0, .ref 100], hp X G μ)) rfl ?_
  obtain ⟨c1, hf⟩ := ab_ifs hf
  refine ab_U.script rfl c1 ?_
  show ab_U _ _ _ (408, [some (.ref 0), some (.ref 100), some (.ref 232), some (.int l3)], [.int (X.2 (l3 + 1).toNatClampNeg), .ref 100], hp X G μ) _
  obtain ⟨q2, h3, hf⟩ := ab_bnd hf
  refine ab_U.fn rfl rfl (t_X8_price (X := X) hG h3) (by omega) ?_
  show ab_U _ _ _ (411, [some (.ref 0), some (.ref 100), some (.ref 232), some (.int l3)], [.int q2.1], hp X G q2.2) _
  refine ab_U.run 5 (S' := (416, [some (.ref 0), some (.ref 100), some (.ref 232), some (.int l3)], [.int (l3 + 1), .ref 0, .ref 232, .int q2.1], hp X G q2.2)) rfl ?_
  obtain ⟨c4, hf⟩ := ab_ifs hf
  refine ab_U.script rfl c4 ?_
  show ab_U _ _ _ (417, [some (.ref 0), some (.ref 100), some (.ref 232), some (.int l3)], [.int (X.2 (l3 + 1).toNatClampNeg), .ref 232, .int q2.1], hp X G q2.2) _
  obtain ⟨q5, h6, hf⟩ := ab_bnd hf
  refine ab_U.fn rfl rfl (t_X9_price (X := X) hG h6) (by omega) ?_
  show ab_U _ _ _ (420, [some (.ref 0), some (.ref 100), some (.ref 232), some (.int l3)], [.int q5.1, .int q2.1], hp X G q5.2) _
  refine ab_U.ic_eq rfl (fun b7 => ?_) (fun b7 => ?_)
  · rw [if_pos b7] at hf
    obtain rfl := Option.some.inj hf
    exact k1 rfl
  · rw [if_neg b7] at hf
    refine ab_U.run 1 (S' := (424, [some (.ref 0), some (.ref 100), some (.ref 232), some (.int l3)], [.int 0], hp X G q5.2)) rfl ?_
    obtain rfl := Option.some.inj hf
    exact ab_U.ret rfl rfl (k0 rfl)
set_option maxRecDepth 20000 in
def lc_9 (F : Nat) (X : Nat × (Nat → Int32)) (l3 : Int32) (μ : fm_M) : Option (Int32 × fm_M) := (if ab_in (l3 + 1) X.1 = true then (if ab_in (l3 + 2) X.1 = true then (if ab_in (l3 + 3) X.1 = true then (Option.bind (f_X8_dress F (X.2 (l3 + 1).toNatClampNeg) (X.2 (l3 + 2).toNatClampNeg) (X.2 (l3 + 3).toNatClampNeg) μ) (fun q4 => (if ab_in (l3 + 1) X.1 = true then (if ab_in (l3 + 2) X.1 = true then (if ab_in (l3 + 3) X.1 = true then (Option.bind (f_X9_dress F (X.2 (l3 + 1).toNatClampNeg) (X.2 (l3 + 2).toNatClampNeg) (X.2 (l3 + 3).toNatClampNeg) q4.2) (fun q9 => (if q4.1 = q9.1 then some (1, q9.2) else some (0, q9.2)))) else none) else none) else none))) else none) else none) else none)
set_option maxRecDepth 20000 in
theorem tc_9 {X : Nat × (Nat → Int32)} {G : Nat → Nat → Option Nat} (hG : fm_Gok G) {F : Nat} {l3 : Int32} {μ : fm_M} {q : Int32 × fm_M} {Q : Option Value → ab_H → Prop} (hf : lc_9 F X l3 μ = some q) (k1 : q.1 = 1 → ab_U 346 (some .boolean) kL_law (1431, [some (.ref 0), some (.ref 100), some (.ref 232), some (.int l3)], [], hp X G q.2) Q) (k0 : q.1 = 0 → Q (some (.int 0)) (hp X G q.2)) : ab_U 346 (some .boolean) kL_law (425, [some (.ref 0), some (.ref 100), some (.ref 232), some (.int l3)], [], hp X G μ) Q := by
  unfold lc_9 at hf
  refine ab_U.run 5 (S' := (430, [some (.ref 0), some (.ref 100), some (.ref 232), some (.int l3)], [.int (l3 + 1), .ref 0, .ref 100], hp X G μ)) rfl ?_
  obtain ⟨c1, hf⟩ := ab_ifs hf
  refine ab_U.script rfl c1 ?_
  show ab_U _ _ _ (431, [some (.ref 0), some (.ref 100), some (.ref 232), some (.int l3)], [.int (X.2 (l3 + 1).toNatClampNeg), .ref 100], hp X G μ) _
  refine ab_U.run 4 (S' := (435, [some (.ref 0), some (.ref 100), some (.ref 232), some (.int l3)], [.int (l3 + 2), .ref 0, .int (X.2 (l3 + 1).toNatClampNeg), .ref 100], hp X G μ)) rfl ?_
  obtain ⟨c2, hf⟩ := ab_ifs hf
  refine ab_U.script rfl c2 ?_
  show ab_U _ _ _ (436, [some (.ref 0), some (.ref 100), some (.ref 232), some (.int l3)], [.int (X.2 (l3 + 2).toNatClampNeg), .int (X.2 (l3 + 1).toNatClampNeg), .ref 100], hp X G μ) _
  refine ab_U.run 4 (S' := (440, [some (.ref 0), some (.ref 100), some (.ref 232), some (.int l3)], [.int (l3 + 3), .ref 0, .int (X.2 (l3 + 2).toNatClampNeg), .int (X.2 (l3 + 1).toNatClampNeg), .ref 100], hp X G μ)) rfl ?_
  obtain ⟨c3, hf⟩ := ab_ifs hf
  refine ab_U.script rfl c3 ?_
  show ab_U _ _ _ (441, [some (.ref 0), some (.ref 100), some (.ref 232), some (.int l3)], [.int (X.2 (l3 + 3).toNatClampNeg), .int (X.2 (l3 + 2).toNatClampNeg), .int (X.2 (l3 + 1).toNatClampNeg), .ref 100], hp X G μ) _
  obtain ⟨q4, h5, hf⟩ := ab_bnd hf
  refine ab_U.fn rfl rfl (t_X8_dress (X := X) hG h5) (by omega) ?_
  show ab_U _ _ _ (444, [some (.ref 0), some (.ref 100), some (.ref 232), some (.int l3)], [.int q4.1], hp X G q4.2) _
  refine ab_U.run 5 (S' := (449, [some (.ref 0), some (.ref 100), some (.ref 232), some (.int l3)], [.int (l3 + 1), .ref 0, .ref 232, .int q4.1], hp X G q4.2)) rfl ?_
  obtain ⟨c6, hf⟩ := ab_ifs hf
  refine ab_U.script rfl c6 ?_
  show ab_U _ _ _ (450, [some (.ref 0), some (.ref 100), some (.ref 232), some (.int l3)], [.int (X.2 (l3 + 1).toNatClampNeg), .ref 232, .int q4.1], hp X G q4.2) _
  refine ab_U.run 4 (S' := (454, [some (.ref 0), some (.ref 100), some (.ref 232), some (.int l3)], [.int (l3 + 2), .ref 0, .int (X.2 (l3 + 1).toNatClampNeg), .ref 232, .int q4.1], hp X G q4.2)) rfl ?_
  obtain ⟨c7, hf⟩ := ab_ifs hf
  refine ab_U.script rfl c7 ?_
  show ab_U _ _ _ (455, [some (.ref 0), some (.ref 100), some (.ref 232), some (.int l3)], [.int (X.2 (l3 + 2).toNatClampNeg), .int (X.2 (l3 + 1).toNatClampNeg), .ref 232, .int q4.1], hp X G q4.2) _
  refine ab_U.run 4 (S' := (459, [some (.ref 0), some (.ref 100), some (.ref 232), some (.int l3)], [.int (l3 + 3), .ref 0, .int (X.2 (l3 + 2).toNatClampNeg), .int (X.2 (l3 + 1).toNatClampNeg), .ref 232, .int q4.1], hp X G q4.2)) rfl ?_
  obtain ⟨c8, hf⟩ := ab_ifs hf
  refine ab_U.script rfl c8 ?_
  show ab_U _ _ _ (460, [some (.ref 0), some (.ref 100), some (.ref 232), some (.int l3)], [.int (X.2 (l3 + 3).toNatClampNeg), .int (X.2 (l3 + 2).toNatClampNeg), .int (X.2 (l3 + 1).toNatClampNeg), .ref 232, .int q4.1], hp X G q4.2) _
  obtain ⟨q9, h10, hf⟩ := ab_bnd hf
  refine ab_U.fn rfl rfl (t_X9_dress (X := X) hG h10) (by omega) ?_
  show ab_U _ _ _ (463, [some (.ref 0), some (.ref 100), some (.ref 232), some (.int l3)], [.int q9.1, .int q4.1], hp X G q9.2) _
  refine ab_U.ic_eq rfl (fun b11 => ?_) (fun b11 => ?_)
  · rw [if_pos b11] at hf
    obtain rfl := Option.some.inj hf
    exact k1 rfl
  · rw [if_neg b11] at hf
    refine ab_U.run 1 (S' := (467, [some (.ref 0), some (.ref 100), some (.ref 232), some (.int l3)], [.int 0], hp X G q9.2)) rfl ?_
    obtain rfl := Option.some.inj hf
    exact ab_U.ret rfl rfl (k0 rfl)
set_option maxRecDepth 20000 in
def lc_10 (F : Nat) (X : Nat × (Nat → Int32)) (l3 : Int32) (μ : fm_M) : Option (Int32 × fm_M) := (if ab_in (l3 + 1) X.1 = true then (if ab_in (l3 + 2) X.1 = true then (if ab_in (l3 + 3) X.1 = true then (Option.bind (f_X8_warm F (X.2 (l3 + 1).toNatClampNeg) (X.2 (l3 + 2).toNatClampNeg) (X.2 (l3 + 3).toNatClampNeg) μ) (fun q4 => (if ab_in (l3 + 1) X.1 = true then (if ab_in (l3 + 2) X.1 = true then (if ab_in (l3 + 3) X.1 = true then (Option.bind (f_X9_warm F (X.2 (l3 + 1).toNatClampNeg) (X.2 (l3 + 2).toNatClampNeg) (X.2 (l3 + 3).toNatClampNeg) q4.2) (fun q9 => (if q4.1 = q9.1 then some (1, q9.2) else some (0, q9.2)))) else none) else none) else none))) else none) else none) else none)
set_option maxRecDepth 20000 in
theorem tc_10 {X : Nat × (Nat → Int32)} {G : Nat → Nat → Option Nat} (hG : fm_Gok G) {F : Nat} {l3 : Int32} {μ : fm_M} {q : Int32 × fm_M} {Q : Option Value → ab_H → Prop} (hf : lc_10 F X l3 μ = some q) (k1 : q.1 = 1 → ab_U 346 (some .boolean) kL_law (1431, [some (.ref 0), some (.ref 100), some (.ref 232), some (.int l3)], [], hp X G q.2) Q) (k0 : q.1 = 0 → Q (some (.int 0)) (hp X G q.2)) : ab_U 346 (some .boolean) kL_law (468, [some (.ref 0), some (.ref 100), some (.ref 232), some (.int l3)], [], hp X G μ) Q := by
  unfold lc_10 at hf
  refine ab_U.run 5 (S' := (473, [some (.ref 0), some (.ref 100), some (.ref 232), some (.int l3)], [.int (l3 + 1), .ref 0, .ref 100], hp X G μ)) rfl ?_
  obtain ⟨c1, hf⟩ := ab_ifs hf
  refine ab_U.script rfl c1 ?_
  show ab_U _ _ _ (474, [some (.ref 0), some (.ref 100), some (.ref 232), some (.int l3)], [.int (X.2 (l3 + 1).toNatClampNeg), .ref 100], hp X G μ) _
  refine ab_U.run 4 (S' := (478, [some (.ref 0), some (.ref 100), some (.ref 232), some (.int l3)], [.int (l3 + 2), .ref 0, .int (X.2 (l3 + 1).toNatClampNeg), .ref 100], hp X G μ)) rfl ?_
  obtain ⟨c2, hf⟩ := ab_ifs hf
  refine ab_U.script rfl c2 ?_
  show ab_U _ _ _ (479, [some (.ref 0), some (.ref 100), some (.ref 232), some (.int l3)], [.int (X.2 (l3 + 2).toNatClampNeg), .int (X.2 (l3 + 1).toNatClampNeg), .ref 100], hp X G μ) _
  refine ab_U.run 4 (S' := (483, [some (.ref 0), some (.ref 100), some (.ref 232), some (.int l3)], [.int (l3 + 3), .ref 0, .int (X.2 (l3 + 2).toNatClampNeg), .int (X.2 (l3 + 1).toNatClampNeg), .ref 100], hp X G μ)) rfl ?_
  obtain ⟨c3, hf⟩ := ab_ifs hf
  refine ab_U.script rfl c3 ?_
  show ab_U _ _ _ (484, [some (.ref 0), some (.ref 100), some (.ref 232), some (.int l3)], [.int (X.2 (l3 + 3).toNatClampNeg), .int (X.2 (l3 + 2).toNatClampNeg), .int (X.2 (l3 + 1).toNatClampNeg), .ref 100], hp X G μ) _
  obtain ⟨q4, h5, hf⟩ := ab_bnd hf
  refine ab_U.fn rfl rfl (t_X8_warm (X := X) hG h5) (by omega) ?_
  show ab_U _ _ _ (487, [some (.ref 0), some (.ref 100), some (.ref 232), some (.int l3)], [.int q4.1], hp X G q4.2) _
  refine ab_U.run 5 (S' := (492, [some (.ref 0), some (.ref 100), some (.ref 232), some (.int l3)], [.int (l3 + 1), .ref 0, .ref 232, .int q4.1], hp X G q4.2)) rfl ?_
  obtain ⟨c6, hf⟩ := ab_ifs hf
  refine ab_U.script rfl c6 ?_
  show ab_U _ _ _ (493, [some (.ref 0), some (.ref 100), some (.ref 232), some (.int l3)], [.int (X.2 (l3 + 1).toNatClampNeg), .ref 232, .int q4.1], hp X G q4.2) _
  refine ab_U.run 4 (S' := (497, [some (.ref 0), some (.ref 100), some (.ref 232), some (.int l3)], [.int (l3 + 2), .ref 0, .int (X.2 (l3 + 1).toNatClampNeg), .ref 232, .int q4.1], hp X G q4.2)) rfl ?_
  obtain ⟨c7, hf⟩ := ab_ifs hf
  refine ab_U.script rfl c7 ?_
  show ab_U _ _ _ (498, [some (.ref 0), some (.ref 100), some (.ref 232), some (.int l3)], [.int (X.2 (l3 + 2).toNatClampNeg), .int (X.2 (l3 + 1).toNatClampNeg), .ref 232, .int q4.1], hp X G q4.2) _
  refine ab_U.run 4 (S' := (502, [some (.ref 0), some (.ref 100), some (.ref 232), some (.int l3)], [.int (l3 + 3), .ref 0, .int (X.2 (l3 + 2).toNatClampNeg), .int (X.2 (l3 + 1).toNatClampNeg), .ref 232, .int q4.1], hp X G q4.2)) rfl ?_
  obtain ⟨c8, hf⟩ := ab_ifs hf
  refine ab_U.script rfl c8 ?_
  show ab_U _ _ _ (503, [some (.ref 0), some (.ref 100), some (.ref 232), some (.int l3)], [.int (X.2 (l3 + 3).toNatClampNeg), .int (X.2 (l3 + 2).toNatClampNeg), .int (X.2 (l3 + 1).toNatClampNeg), .ref 232, .int q4.1], hp X G q4.2) _
  obtain ⟨q9, h10, hf⟩ := ab_bnd hf
  refine ab_U.fn rfl rfl (t_X9_warm (X := X) hG h10) (by omega) ?_
  show ab_U _ _ _ (506, [some (.ref 0), some (.ref 100), some (.ref 232), some (.int l3)], [.int q9.1, .int q4.1], hp X G q9.2) _
  refine ab_U.ic_eq rfl (fun b11 => ?_) (fun b11 => ?_)
  · rw [if_pos b11] at hf
    obtain rfl := Option.some.inj hf
    exact k1 rfl
  · rw [if_neg b11] at hf
    refine ab_U.run 1 (S' := (510, [some (.ref 0), some (.ref 100), some (.ref 232), some (.int l3)], [.int 0], hp X G q9.2)) rfl ?_
    obtain rfl := Option.some.inj hf
    exact ab_U.ret rfl rfl (k0 rfl)
set_option maxRecDepth 20000 in
def lc_11 (F : Nat) (X : Nat × (Nat → Int32)) (l3 : Int32) (μ : fm_M) : Option (Int32 × fm_M) := (if ab_in (l3 + 1) X.1 = true then (if ab_in (l3 + 2) X.1 = true then (Option.bind (f_X8_set F (X.2 (l3 + 1).toNatClampNeg) (X.2 (l3 + 2).toNatClampNeg) μ) (fun q3 => (if ab_in (l3 + 1) X.1 = true then (if ab_in (l3 + 2) X.1 = true then (Option.bind (f_X9_set F (X.2 (l3 + 1).toNatClampNeg) (X.2 (l3 + 2).toNatClampNeg) q3.2) (fun q7 => (if q3.1 = q7.1 then some (1, q7.2) else some (0, q7.2)))) else none) else none))) else none) else none)
set_option maxRecDepth 20000 in
theorem tc_11 {X : Nat × (Nat → Int32)} {G : Nat → Nat → Option Nat} (hG : fm_Gok G) {F : Nat} {l3 : Int32} {μ : fm_M} {q : Int32 × fm_M} {Q : Option Value → ab_H → Prop} (hf : lc_11 F X l3 μ = some q) (k1 : q.1 = 1 → ab_U 346 (some .boolean) kL_law (1431, [some (.ref 0), some (.ref 100), some (.ref 232), some (.int l3)], [], hp X G q.2) Q) (k0 : q.1 = 0 → Q (some (.int 0)) (hp X G q.2)) : ab_U 346 (some .boolean) kL_law (511, [some (.ref 0), some (.ref 100), some (.ref 232), some (.int l3)], [], hp X G μ) Q := by
  unfold lc_11 at hf
  refine ab_U.run 5 (S' := (516, [some (.ref 0), some (.ref 100), some (.ref 232), some (.int l3)], [.int (l3 + 1), .ref 0, .ref 100], hp X G μ)) rfl ?_
  obtain ⟨c1, hf⟩ := ab_ifs hf
  refine ab_U.script rfl c1 ?_
  show ab_U _ _ _ (517, [some (.ref 0), some (.ref 100), some (.ref 232), some (.int l3)], [.int (X.2 (l3 + 1).toNatClampNeg), .ref 100], hp X G μ) _
  refine ab_U.run 4 (S' := (521, [some (.ref 0), some (.ref 100), some (.ref 232), some (.int l3)], [.int (l3 + 2), .ref 0, .int (X.2 (l3 + 1).toNatClampNeg), .ref 100], hp X G μ)) rfl ?_
  obtain ⟨c2, hf⟩ := ab_ifs hf
  refine ab_U.script rfl c2 ?_
  show ab_U _ _ _ (522, [some (.ref 0), some (.ref 100), some (.ref 232), some (.int l3)], [.int (X.2 (l3 + 2).toNatClampNeg), .int (X.2 (l3 + 1).toNatClampNeg), .ref 100], hp X G μ) _
  obtain ⟨q3, h4, hf⟩ := ab_bnd hf
  refine ab_U.fn rfl rfl (t_X8_set (X := X) hG h4) (by omega) ?_
  show ab_U _ _ _ (525, [some (.ref 0), some (.ref 100), some (.ref 232), some (.int l3)], [.int q3.1], hp X G q3.2) _
  refine ab_U.run 5 (S' := (530, [some (.ref 0), some (.ref 100), some (.ref 232), some (.int l3)], [.int (l3 + 1), .ref 0, .ref 232, .int q3.1], hp X G q3.2)) rfl ?_
  obtain ⟨c5, hf⟩ := ab_ifs hf
  refine ab_U.script rfl c5 ?_
  show ab_U _ _ _ (531, [some (.ref 0), some (.ref 100), some (.ref 232), some (.int l3)], [.int (X.2 (l3 + 1).toNatClampNeg), .ref 232, .int q3.1], hp X G q3.2) _
  refine ab_U.run 4 (S' := (535, [some (.ref 0), some (.ref 100), some (.ref 232), some (.int l3)], [.int (l3 + 2), .ref 0, .int (X.2 (l3 + 1).toNatClampNeg), .ref 232, .int q3.1], hp X G q3.2)) rfl ?_
  obtain ⟨c6, hf⟩ := ab_ifs hf
  refine ab_U.script rfl c6 ?_
  show ab_U _ _ _ (536, [some (.ref 0), some (.ref 100), some (.ref 232), some (.int l3)], [.int (X.2 (l3 + 2).toNatClampNeg), .int (X.2 (l3 + 1).toNatClampNeg), .ref 232, .int q3.1], hp X G q3.2) _
  obtain ⟨q7, h8, hf⟩ := ab_bnd hf
  refine ab_U.fn rfl rfl (t_X9_set (X := X) hG h8) (by omega) ?_
  show ab_U _ _ _ (539, [some (.ref 0), some (.ref 100), some (.ref 232), some (.int l3)], [.int q7.1, .int q3.1], hp X G q7.2) _
  refine ab_U.ic_eq rfl (fun b9 => ?_) (fun b9 => ?_)
  · rw [if_pos b9] at hf
    obtain rfl := Option.some.inj hf
    exact k1 rfl
  · rw [if_neg b9] at hf
    refine ab_U.run 1 (S' := (543, [some (.ref 0), some (.ref 100), some (.ref 232), some (.int l3)], [.int 0], hp X G q7.2)) rfl ?_
    obtain rfl := Option.some.inj hf
    exact ab_U.ret rfl rfl (k0 rfl)
set_option maxRecDepth 20000 in
def lc_12 (F : Nat) (X : Nat × (Nat → Int32)) (l3 : Int32) (μ : fm_M) : Option (Int32 × fm_M) := (if ab_in (l3 + 1) X.1 = true then (if ab_in (l3 + 2) X.1 = true then (Option.bind (f_X8_ask F (X.2 (l3 + 1).toNatClampNeg) (X.2 (l3 + 2).toNatClampNeg) μ) (fun q3 => (if ab_in (l3 + 1) X.1 = true then (if ab_in (l3 + 2) X.1 = true then (Option.bind (f_X9_ask F (X.2 (l3 + 1).toNatClampNeg) (X.2 (l3 + 2).toNatClampNeg) q3.2) (fun q7 => (if q3.1 = q7.1 then some (1, q7.2) else some (0, q7.2)))) else none) else none))) else none) else none)
set_option maxRecDepth 20000 in
theorem tc_12 {X : Nat × (Nat → Int32)} {G : Nat → Nat → Option Nat} (hG : fm_Gok G) {F : Nat} {l3 : Int32} {μ : fm_M} {q : Int32 × fm_M} {Q : Option Value → ab_H → Prop} (hf : lc_12 F X l3 μ = some q) (k1 : q.1 = 1 → ab_U 346 (some .boolean) kL_law (1431, [some (.ref 0), some (.ref 100), some (.ref 232), some (.int l3)], [], hp X G q.2) Q) (k0 : q.1 = 0 → Q (some (.int 0)) (hp X G q.2)) : ab_U 346 (some .boolean) kL_law (544, [some (.ref 0), some (.ref 100), some (.ref 232), some (.int l3)], [], hp X G μ) Q := by
  unfold lc_12 at hf
  refine ab_U.run 5 (S' := (549, [some (.ref 0), some (.ref 100), some (.ref 232), some (.int l3)], [.int (l3 + 1), .ref 0, .ref 100], hp X G μ)) rfl ?_
  obtain ⟨c1, hf⟩ := ab_ifs hf
  refine ab_U.script rfl c1 ?_
  show ab_U _ _ _ (550, [some (.ref 0), some (.ref 100), some (.ref 232), some (.int l3)], [.int (X.2 (l3 + 1).toNatClampNeg), .ref 100], hp X G μ) _
  refine ab_U.run 4 (S' := (554, [some (.ref 0), some (.ref 100), some (.ref 232), some (.int l3)], [.int (l3 + 2), .ref 0, .int (X.2 (l3 + 1).toNatClampNeg), .ref 100], hp X G μ)) rfl ?_
  obtain ⟨c2, hf⟩ := ab_ifs hf
  refine ab_U.script rfl c2 ?_
  show ab_U _ _ _ (555, [some (.ref 0), some (.ref 100), some (.ref 232), some (.int l3)], [.int (X.2 (l3 + 2).toNatClampNeg), .int (X.2 (l3 + 1).toNatClampNeg), .ref 100], hp X G μ) _
  obtain ⟨q3, h4, hf⟩ := ab_bnd hf
  refine ab_U.fn rfl rfl (t_X8_ask (X := X) hG h4) (by omega) ?_
  show ab_U _ _ _ (558, [some (.ref 0), some (.ref 100), some (.ref 232), some (.int l3)], [.int q3.1], hp X G q3.2) _
  refine ab_U.run 5 (S' := (563, [some (.ref 0), some (.ref 100), some (.ref 232), some (.int l3)], [.int (l3 + 1), .ref 0, .ref 232, .int q3.1], hp X G q3.2)) rfl ?_
  obtain ⟨c5, hf⟩ := ab_ifs hf
  refine ab_U.script rfl c5 ?_
  show ab_U _ _ _ (564, [some (.ref 0), some (.ref 100), some (.ref 232), some (.int l3)], [.int (X.2 (l3 + 1).toNatClampNeg), .ref 232, .int q3.1], hp X G q3.2) _
  refine ab_U.run 4 (S' := (568, [some (.ref 0), some (.ref 100), some (.ref 232), some (.int l3)], [.int (l3 + 2), .ref 0, .int (X.2 (l3 + 1).toNatClampNeg), .ref 232, .int q3.1], hp X G q3.2)) rfl ?_
  obtain ⟨c6, hf⟩ := ab_ifs hf
  refine ab_U.script rfl c6 ?_
  show ab_U _ _ _ (569, [some (.ref 0), some (.ref 100), some (.ref 232), some (.int l3)], [.int (X.2 (l3 + 2).toNatClampNeg), .int (X.2 (l3 + 1).toNatClampNeg), .ref 232, .int q3.1], hp X G q3.2) _
  obtain ⟨q7, h8, hf⟩ := ab_bnd hf
  refine ab_U.fn rfl rfl (t_X9_ask (X := X) hG h8) (by omega) ?_
  show ab_U _ _ _ (572, [some (.ref 0), some (.ref 100), some (.ref 232), some (.int l3)], [.int q7.1, .int q3.1], hp X G q7.2) _
  refine ab_U.ic_eq rfl (fun b9 => ?_) (fun b9 => ?_)
  · rw [if_pos b9] at hf
    obtain rfl := Option.some.inj hf
    exact k1 rfl
  · rw [if_neg b9] at hf
    refine ab_U.run 1 (S' := (576, [some (.ref 0), some (.ref 100), some (.ref 232), some (.int l3)], [.int 0], hp X G q7.2)) rfl ?_
    obtain rfl := Option.some.inj hf
    exact ab_U.ret rfl rfl (k0 rfl)
set_option maxRecDepth 20000 in
def lc_13 (F : Nat) (X : Nat × (Nat → Int32)) (l3 : Int32) (μ : fm_M) : Option (Int32 × fm_M) := (if ab_in (l3 + 1) X.1 = true then (if ab_in (l3 + 2) X.1 = true then (Option.bind (f_X8_owe F (X.2 (l3 + 1).toNatClampNeg) (X.2 (l3 + 2).toNatClampNeg) μ) (fun q3 => (if ab_in (l3 + 1) X.1 = true then (if ab_in (l3 + 2) X.1 = true then (Option.bind (f_X9_owe F (X.2 (l3 + 1).toNatClampNeg) (X.2 (l3 + 2).toNatClampNeg) q3.2) (fun q7 => (if q3.1 = q7.1 then some (1, q7.2) else some (0, q7.2)))) else none) else none))) else none) else none)
set_option maxRecDepth 20000 in
theorem tc_13 {X : Nat × (Nat → Int32)} {G : Nat → Nat → Option Nat} (hG : fm_Gok G) {F : Nat} {l3 : Int32} {μ : fm_M} {q : Int32 × fm_M} {Q : Option Value → ab_H → Prop} (hf : lc_13 F X l3 μ = some q) (k1 : q.1 = 1 → ab_U 346 (some .boolean) kL_law (1431, [some (.ref 0), some (.ref 100), some (.ref 232), some (.int l3)], [], hp X G q.2) Q) (k0 : q.1 = 0 → Q (some (.int 0)) (hp X G q.2)) : ab_U 346 (some .boolean) kL_law (577, [some (.ref 0), some (.ref 100), some (.ref 232), some (.int l3)], [], hp X G μ) Q := by
  unfold lc_13 at hf
  refine ab_U.run 5 (S' := (582, [some (.ref 0), some (.ref 100), some (.ref 232), some (.int l3)], [.int (l3 + 1), .ref 0, .ref 100], hp X G μ)) rfl ?_
  obtain ⟨c1, hf⟩ := ab_ifs hf
  refine ab_U.script rfl c1 ?_
  show ab_U _ _ _ (583, [some (.ref 0), some (.ref 100), some (.ref 232), some (.int l3)], [.int (X.2 (l3 + 1).toNatClampNeg), .ref 100], hp X G μ) _
  refine ab_U.run 4 (S' := (587, [some (.ref 0), some (.ref 100), some (.ref 232), some (.int l3)], [.int (l3 + 2), .ref 0, .int (X.2 (l3 + 1).toNatClampNeg), .ref 100], hp X G μ)) rfl ?_
  obtain ⟨c2, hf⟩ := ab_ifs hf
  refine ab_U.script rfl c2 ?_
  show ab_U _ _ _ (588, [some (.ref 0), some (.ref 100), some (.ref 232), some (.int l3)], [.int (X.2 (l3 + 2).toNatClampNeg), .int (X.2 (l3 + 1).toNatClampNeg), .ref 100], hp X G μ) _
  obtain ⟨q3, h4, hf⟩ := ab_bnd hf
  refine ab_U.fn rfl rfl (t_X8_owe (X := X) hG h4) (by omega) ?_
  show ab_U _ _ _ (591, [some (.ref 0), some (.ref 100), some (.ref 232), some (.int l3)], [.int q3.1], hp X G q3.2) _
  refine ab_U.run 5 (S' := (596, [some (.ref 0), some (.ref 100), some (.ref 232), some (.int l3)], [.int (l3 + 1), .ref 0, .ref 232, .int q3.1], hp X G q3.2)) rfl ?_
  obtain ⟨c5, hf⟩ := ab_ifs hf
  refine ab_U.script rfl c5 ?_
  show ab_U _ _ _ (597, [some (.ref 0), some (.ref 100), some (.ref 232), some (.int l3)], [.int (X.2 (l3 + 1).toNatClampNeg), .ref 232, .int q3.1], hp X G q3.2) _
  refine ab_U.run 4 (S' := (601, [some (.ref 0), some (.ref 100), some (.ref 232), some (.int l3)], [.int (l3 + 2), .ref 0, .int (X.2 (l3 + 1).toNatClampNeg), .ref 232, .int q3.1], hp X G q3.2)) rfl ?_
  obtain ⟨c6, hf⟩ := ab_ifs hf
  refine ab_U.script rfl c6 ?_
  show ab_U _ _ _ (602, [some (.ref 0), some (.ref 100), some (.ref 232), some (.int l3)], [.int (X.2 (l3 + 2).toNatClampNeg), .int (X.2 (l3 + 1).toNatClampNeg), .ref 232, .int q3.1], hp X G q3.2) _
  obtain ⟨q7, h8, hf⟩ := ab_bnd hf
  refine ab_U.fn rfl rfl (t_X9_owe (X := X) hG h8) (by omega) ?_
  show ab_U _ _ _ (605, [some (.ref 0), some (.ref 100), some (.ref 232), some (.int l3)], [.int q7.1, .int q3.1], hp X G q7.2) _
  refine ab_U.ic_eq rfl (fun b9 => ?_) (fun b9 => ?_)
  · rw [if_pos b9] at hf
    obtain rfl := Option.some.inj hf
    exact k1 rfl
  · rw [if_neg b9] at hf
    refine ab_U.run 1 (S' := (609, [some (.ref 0), some (.ref 100), some (.ref 232), some (.int l3)], [.int 0], hp X G q7.2)) rfl ?_
    obtain rfl := Option.some.inj hf
    exact ab_U.ret rfl rfl (k0 rfl)
set_option maxRecDepth 20000 in
def lc_14 (F : Nat) (X : Nat × (Nat → Int32)) (l3 : Int32) (μ : fm_M) : Option (Int32 × fm_M) := (if ab_in (l3 + 1) X.1 = true then (Option.bind (f_X8_halve F (X.2 (l3 + 1).toNatClampNeg) μ) (fun q2 => (if ab_in (l3 + 1) X.1 = true then (Option.bind (f_X9_halve F (X.2 (l3 + 1).toNatClampNeg) q2.2) (fun q5 => (if q2.1 = q5.1 then some (1, q5.2) else some (0, q5.2)))) else none))) else none)
set_option maxRecDepth 20000 in
theorem tc_14 {X : Nat × (Nat → Int32)} {G : Nat → Nat → Option Nat} (hG : fm_Gok G) {F : Nat} {l3 : Int32} {μ : fm_M} {q : Int32 × fm_M} {Q : Option Value → ab_H → Prop} (hf : lc_14 F X l3 μ = some q) (k1 : q.1 = 1 → ab_U 346 (some .boolean) kL_law (1431, [some (.ref 0), some (.ref 100), some (.ref 232), some (.int l3)], [], hp X G q.2) Q) (k0 : q.1 = 0 → Q (some (.int 0)) (hp X G q.2)) : ab_U 346 (some .boolean) kL_law (610, [some (.ref 0), some (.ref 100), some (.ref 232), some (.int l3)], [], hp X G μ) Q := by
  unfold lc_14 at hf
  refine ab_U.run 5 (S' := (615, [some (.ref 0), some (.ref 100), some (.ref 232), some (.int l3)], [.int (l3 + 1), .ref 0, .ref 100], hp X G μ)) rfl ?_
  obtain ⟨c1, hf⟩ := ab_ifs hf
  refine ab_U.script rfl c1 ?_
  show ab_U _ _ _ (616, [some (.ref 0), some (.ref 100), some (.ref 232), some (.int l3)], [.int (X.2 (l3 + 1).toNatClampNeg), .ref 100], hp X G μ) _
  obtain ⟨q2, h3, hf⟩ := ab_bnd hf
  refine ab_U.fn rfl rfl (t_X8_halve (X := X) hG h3) (by omega) ?_
  show ab_U _ _ _ (619, [some (.ref 0), some (.ref 100), some (.ref 232), some (.int l3)], [.int q2.1], hp X G q2.2) _
  refine ab_U.run 5 (S' := (624, [some (.ref 0), some (.ref 100), some (.ref 232), some (.int l3)], [.int (l3 + 1), .ref 0, .ref 232, .int q2.1], hp X G q2.2)) rfl ?_
  obtain ⟨c4, hf⟩ := ab_ifs hf
  refine ab_U.script rfl c4 ?_
  show ab_U _ _ _ (625, [some (.ref 0), some (.ref 100), some (.ref 232), some (.int l3)], [.int (X.2 (l3 + 1).toNatClampNeg), .ref 232, .int q2.1], hp X G q2.2) _
  obtain ⟨q5, h6, hf⟩ := ab_bnd hf
  refine ab_U.fn rfl rfl (t_X9_halve (X := X) hG h6) (by omega) ?_
  show ab_U _ _ _ (628, [some (.ref 0), some (.ref 100), some (.ref 232), some (.int l3)], [.int q5.1, .int q2.1], hp X G q5.2) _
  refine ab_U.ic_eq rfl (fun b7 => ?_) (fun b7 => ?_)
  · rw [if_pos b7] at hf
    obtain rfl := Option.some.inj hf
    exact k1 rfl
  · rw [if_neg b7] at hf
    refine ab_U.run 1 (S' := (632, [some (.ref 0), some (.ref 100), some (.ref 232), some (.int l3)], [.int 0], hp X G q5.2)) rfl ?_
    obtain rfl := Option.some.inj hf
    exact ab_U.ret rfl rfl (k0 rfl)
set_option maxRecDepth 20000 in
def lc_15 (F : Nat) (X : Nat × (Nat → Int32)) (l3 : Int32) (μ : fm_M) : Option (Int32 × fm_M) := (if ab_in (l3 + 1) X.1 = true then (Option.bind (f_X8_go F (X.2 (l3 + 1).toNatClampNeg) μ) (fun q2 => (if ab_in (l3 + 1) X.1 = true then (Option.bind (f_X9_go F (X.2 (l3 + 1).toNatClampNeg) q2.2) (fun q5 => (if q2.1 = q5.1 then some (1, q5.2) else some (0, q5.2)))) else none))) else none)
set_option maxRecDepth 20000 in
theorem tc_15 {X : Nat × (Nat → Int32)} {G : Nat → Nat → Option Nat} (hG : fm_Gok G) {F : Nat} {l3 : Int32} {μ : fm_M} {q : Int32 × fm_M} {Q : Option Value → ab_H → Prop} (hf : lc_15 F X l3 μ = some q) (k1 : q.1 = 1 → ab_U 346 (some .boolean) kL_law (1431, [some (.ref 0), some (.ref 100), some (.ref 232), some (.int l3)], [], hp X G q.2) Q) (k0 : q.1 = 0 → Q (some (.int 0)) (hp X G q.2)) : ab_U 346 (some .boolean) kL_law (633, [some (.ref 0), some (.ref 100), some (.ref 232), some (.int l3)], [], hp X G μ) Q := by
  unfold lc_15 at hf
  refine ab_U.run 5 (S' := (638, [some (.ref 0), some (.ref 100), some (.ref 232), some (.int l3)], [.int (l3 + 1), .ref 0, .ref 100], hp X G μ)) rfl ?_
  obtain ⟨c1, hf⟩ := ab_ifs hf
  refine ab_U.script rfl c1 ?_
  show ab_U _ _ _ (639, [some (.ref 0), some (.ref 100), some (.ref 232), some (.int l3)], [.int (X.2 (l3 + 1).toNatClampNeg), .ref 100], hp X G μ) _
  obtain ⟨q2, h3, hf⟩ := ab_bnd hf
  refine ab_U.fn rfl rfl (t_X8_go (X := X) hG h3) (by omega) ?_
  show ab_U _ _ _ (642, [some (.ref 0), some (.ref 100), some (.ref 232), some (.int l3)], [.int q2.1], hp X G q2.2) _
  refine ab_U.run 5 (S' := (647, [some (.ref 0), some (.ref 100), some (.ref 232), some (.int l3)], [.int (l3 + 1), .ref 0, .ref 232, .int q2.1], hp X G q2.2)) rfl ?_
  obtain ⟨c4, hf⟩ := ab_ifs hf
  refine ab_U.script rfl c4 ?_
  show ab_U _ _ _ (648, [some (.ref 0), some (.ref 100), some (.ref 232), some (.int l3)], [.int (X.2 (l3 + 1).toNatClampNeg), .ref 232, .int q2.1], hp X G q2.2) _
  obtain ⟨q5, h6, hf⟩ := ab_bnd hf
  refine ab_U.fn rfl rfl (t_X9_go (X := X) hG h6) (by omega) ?_
  show ab_U _ _ _ (651, [some (.ref 0), some (.ref 100), some (.ref 232), some (.int l3)], [.int q5.1, .int q2.1], hp X G q5.2) _
  refine ab_U.ic_eq rfl (fun b7 => ?_) (fun b7 => ?_)
  · rw [if_pos b7] at hf
    obtain rfl := Option.some.inj hf
    exact k1 rfl
  · rw [if_neg b7] at hf
    refine ab_U.run 1 (S' := (655, [some (.ref 0), some (.ref 100), some (.ref 232), some (.int l3)], [.int 0], hp X G q5.2)) rfl ?_
    obtain rfl := Option.some.inj hf
    exact ab_U.ret rfl rfl (k0 rfl)
set_option maxRecDepth 20000 in
def lc_16 (F : Nat) (X : Nat × (Nat → Int32)) (l3 : Int32) (μ : fm_M) : Option (Int32 × fm_M) := (if ab_in (l3 + 1) X.1 = true then (if ab_in (l3 + 2) X.1 = true then (Option.bind (f_X8_pay F (X.2 (l3 + 1).toNatClampNeg) (X.2 (l3 + 2).toNatClampNeg) μ) (fun q3 => (if ab_in (l3 + 1) X.1 = true then (if ab_in (l3 + 2) X.1 = true then (Option.bind (f_X9_pay F (X.2 (l3 + 1).toNatClampNeg) (X.2 (l3 + 2).toNatClampNeg) q3.2) (fun q7 => (if q3.1 = q7.1 then some (1, q7.2) else some (0, q7.2)))) else none) else none))) else none) else none)
set_option maxRecDepth 20000 in
theorem tc_16 {X : Nat × (Nat → Int32)} {G : Nat → Nat → Option Nat} (hG : fm_Gok G) {F : Nat} {l3 : Int32} {μ : fm_M} {q : Int32 × fm_M} {Q : Option Value → ab_H → Prop} (hf : lc_16 F X l3 μ = some q) (k1 : q.1 = 1 → ab_U 346 (some .boolean) kL_law (1431, [some (.ref 0), some (.ref 100), some (.ref 232), some (.int l3)], [], hp X G q.2) Q) (k0 : q.1 = 0 → Q (some (.int 0)) (hp X G q.2)) : ab_U 346 (some .boolean) kL_law (656, [some (.ref 0), some (.ref 100), some (.ref 232), some (.int l3)], [], hp X G μ) Q := by
  unfold lc_16 at hf
  refine ab_U.run 5 (S' := (661, [some (.ref 0), some (.ref 100), some (.ref 232), some (.int l3)], [.int (l3 + 1), .ref 0, .ref 100], hp X G μ)) rfl ?_
  obtain ⟨c1, hf⟩ := ab_ifs hf
  refine ab_U.script rfl c1 ?_
  show ab_U _ _ _ (662, [some (.ref 0), some (.ref 100), some (.ref 232), some (.int l3)], [.int (X.2 (l3 + 1).toNatClampNeg), .ref 100], hp X G μ) _
  refine ab_U.run 4 (S' := (666, [some (.ref 0), some (.ref 100), some (.ref 232), some (.int l3)], [.int (l3 + 2), .ref 0, .int (X.2 (l3 + 1).toNatClampNeg), .ref 100], hp X G μ)) rfl ?_
  obtain ⟨c2, hf⟩ := ab_ifs hf
  refine ab_U.script rfl c2 ?_
  show ab_U _ _ _ (667, [some (.ref 0), some (.ref 100), some (.ref 232), some (.int l3)], [.int (X.2 (l3 + 2).toNatClampNeg), .int (X.2 (l3 + 1).toNatClampNeg), .ref 100], hp X G μ) _
  obtain ⟨q3, h4, hf⟩ := ab_bnd hf
  refine ab_U.fn rfl rfl (t_X8_pay (X := X) hG h4) (by omega) ?_
  show ab_U _ _ _ (670, [some (.ref 0), some (.ref 100), some (.ref 232), some (.int l3)], [.int q3.1], hp X G q3.2) _
  refine ab_U.run 5 (S' := (675, [some (.ref 0), some (.ref 100), some (.ref 232), some (.int l3)], [.int (l3 + 1), .ref 0, .ref 232, .int q3.1], hp X G q3.2)) rfl ?_
  obtain ⟨c5, hf⟩ := ab_ifs hf
  refine ab_U.script rfl c5 ?_
  show ab_U _ _ _ (676, [some (.ref 0), some (.ref 100), some (.ref 232), some (.int l3)], [.int (X.2 (l3 + 1).toNatClampNeg), .ref 232, .int q3.1], hp X G q3.2) _
  refine ab_U.run 4 (S' := (680, [some (.ref 0), some (.ref 100), some (.ref 232), some (.int l3)], [.int (l3 + 2), .ref 0, .int (X.2 (l3 + 1).toNatClampNeg), .ref 232, .int q3.1], hp X G q3.2)) rfl ?_
  obtain ⟨c6, hf⟩ := ab_ifs hf
  refine ab_U.script rfl c6 ?_
  show ab_U _ _ _ (681, [some (.ref 0), some (.ref 100), some (.ref 232), some (.int l3)], [.int (X.2 (l3 + 2).toNatClampNeg), .int (X.2 (l3 + 1).toNatClampNeg), .ref 232, .int q3.1], hp X G q3.2) _
  obtain ⟨q7, h8, hf⟩ := ab_bnd hf
  refine ab_U.fn rfl rfl (t_X9_pay (X := X) hG h8) (by omega) ?_
  show ab_U _ _ _ (684, [some (.ref 0), some (.ref 100), some (.ref 232), some (.int l3)], [.int q7.1, .int q3.1], hp X G q7.2) _
  refine ab_U.ic_eq rfl (fun b9 => ?_) (fun b9 => ?_)
  · rw [if_pos b9] at hf
    obtain rfl := Option.some.inj hf
    exact k1 rfl
  · rw [if_neg b9] at hf
    refine ab_U.run 1 (S' := (688, [some (.ref 0), some (.ref 100), some (.ref 232), some (.int l3)], [.int 0], hp X G q7.2)) rfl ?_
    obtain rfl := Option.some.inj hf
    exact ab_U.ret rfl rfl (k0 rfl)
set_option maxRecDepth 20000 in
def lc_17 (F : Nat) (X : Nat × (Nat → Int32)) (l3 : Int32) (μ : fm_M) : Option (Int32 × fm_M) := (if ab_in (l3 + 1) X.1 = true then (Option.bind (f_X8_heat F (X.2 (l3 + 1).toNatClampNeg) μ) (fun q2 => (if ab_in (l3 + 1) X.1 = true then (Option.bind (f_X9_heat F (X.2 (l3 + 1).toNatClampNeg) q2.2) (fun q5 => (if q2.1 = q5.1 then some (1, q5.2) else some (0, q5.2)))) else none))) else none)
set_option maxRecDepth 20000 in
theorem tc_17 {X : Nat × (Nat → Int32)} {G : Nat → Nat → Option Nat} (hG : fm_Gok G) {F : Nat} {l3 : Int32} {μ : fm_M} {q : Int32 × fm_M} {Q : Option Value → ab_H → Prop} (hf : lc_17 F X l3 μ = some q) (k1 : q.1 = 1 → ab_U 346 (some .boolean) kL_law (1431, [some (.ref 0), some (.ref 100), some (.ref 232), some (.int l3)], [], hp X G q.2) Q) (k0 : q.1 = 0 → Q (some (.int 0)) (hp X G q.2)) : ab_U 346 (some .boolean) kL_law (689, [some (.ref 0), some (.ref 100), some (.ref 232), some (.int l3)], [], hp X G μ) Q := by
  unfold lc_17 at hf
  refine ab_U.run 5 (S' := (694, [some (.ref 0), some (.ref 100), some (.ref 232), some (.int l3)], [.int (l3 + 1), .ref 0, .ref 100], hp X G μ)) rfl ?_
  obtain ⟨c1, hf⟩ := ab_ifs hf
  refine ab_U.script rfl c1 ?_
  show ab_U _ _ _ (695, [some (.ref 0), some (.ref 100), some (.ref 232), some (.int l3)], [.int (X.2 (l3 + 1).toNatClampNeg), .ref 100], hp X G μ) _
  obtain ⟨q2, h3, hf⟩ := ab_bnd hf
  refine ab_U.fn rfl rfl (t_X8_heat (X := X) hG h3) (by omega) ?_
  show ab_U _ _ _ (698, [some (.ref 0), some (.ref 100), some (.ref 232), some (.int l3)], [.int q2.1], hp X G q2.2) _
  refine ab_U.run 5 (S' := (703, [some (.ref 0), some (.ref 100), some (.ref 232), some (.int l3)], [.int (l3 + 1), .ref 0, .ref 232, .int q2.1], hp X G q2.2)) rfl ?_
  obtain ⟨c4, hf⟩ := ab_ifs hf
  refine ab_U.script rfl c4 ?_
  show ab_U _ _ _ (704, [some (.ref 0), some (.ref 100), some (.ref 232), some (.int l3)], [.int (X.2 (l3 + 1).toNatClampNeg), .ref 232, .int q2.1], hp X G q2.2) _
  obtain ⟨q5, h6, hf⟩ := ab_bnd hf
  refine ab_U.fn rfl rfl (t_X9_heat (X := X) hG h6) (by omega) ?_
  show ab_U _ _ _ (707, [some (.ref 0), some (.ref 100), some (.ref 232), some (.int l3)], [.int q5.1, .int q2.1], hp X G q5.2) _
  refine ab_U.ic_eq rfl (fun b7 => ?_) (fun b7 => ?_)
  · rw [if_pos b7] at hf
    obtain rfl := Option.some.inj hf
    exact k1 rfl
  · rw [if_neg b7] at hf
    refine ab_U.run 1 (S' := (711, [some (.ref 0), some (.ref 100), some (.ref 232), some (.int l3)], [.int 0], hp X G q5.2)) rfl ?_
    obtain rfl := Option.some.inj hf
    exact ab_U.ret rfl rfl (k0 rfl)
set_option maxRecDepth 20000 in
def lc_18 (F : Nat) (X : Nat × (Nat → Int32)) (l3 : Int32) (μ : fm_M) : Option (Int32 × fm_M) := (if ab_in (l3 + 1) X.1 = true then (if ab_in (l3 + 2) X.1 = true then (Option.bind (f_X8_after F (X.2 (l3 + 1).toNatClampNeg) (X.2 (l3 + 2).toNatClampNeg) μ) (fun q3 => (if ab_in (l3 + 1) X.1 = true then (if ab_in (l3 + 2) X.1 = true then (Option.bind (f_X9_after F (X.2 (l3 + 1).toNatClampNeg) (X.2 (l3 + 2).toNatClampNeg) q3.2) (fun q7 => (if q3.1 = q7.1 then some (1, q7.2) else some (0, q7.2)))) else none) else none))) else none) else none)
set_option maxRecDepth 20000 in
theorem tc_18 {X : Nat × (Nat → Int32)} {G : Nat → Nat → Option Nat} (hG : fm_Gok G) {F : Nat} {l3 : Int32} {μ : fm_M} {q : Int32 × fm_M} {Q : Option Value → ab_H → Prop} (hf : lc_18 F X l3 μ = some q) (k1 : q.1 = 1 → ab_U 346 (some .boolean) kL_law (1431, [some (.ref 0), some (.ref 100), some (.ref 232), some (.int l3)], [], hp X G q.2) Q) (k0 : q.1 = 0 → Q (some (.int 0)) (hp X G q.2)) : ab_U 346 (some .boolean) kL_law (712, [some (.ref 0), some (.ref 100), some (.ref 232), some (.int l3)], [], hp X G μ) Q := by
  unfold lc_18 at hf
  refine ab_U.run 5 (S' := (717, [some (.ref 0), some (.ref 100), some (.ref 232), some (.int l3)], [.int (l3 + 1), .ref 0, .ref 100], hp X G μ)) rfl ?_
  obtain ⟨c1, hf⟩ := ab_ifs hf
  refine ab_U.script rfl c1 ?_
  show ab_U _ _ _ (718, [some (.ref 0), some (.ref 100), some (.ref 232), some (.int l3)], [.int (X.2 (l3 + 1).toNatClampNeg), .ref 100], hp X G μ) _
  refine ab_U.run 4 (S' := (722, [some (.ref 0), some (.ref 100), some (.ref 232), some (.int l3)], [.int (l3 + 2), .ref 0, .int (X.2 (l3 + 1).toNatClampNeg), .ref 100], hp X G μ)) rfl ?_
  obtain ⟨c2, hf⟩ := ab_ifs hf
  refine ab_U.script rfl c2 ?_
  show ab_U _ _ _ (723, [some (.ref 0), some (.ref 100), some (.ref 232), some (.int l3)], [.int (X.2 (l3 + 2).toNatClampNeg), .int (X.2 (l3 + 1).toNatClampNeg), .ref 100], hp X G μ) _
  obtain ⟨q3, h4, hf⟩ := ab_bnd hf
  refine ab_U.fn rfl rfl (t_X8_after (X := X) hG h4) (by omega) ?_
  show ab_U _ _ _ (726, [some (.ref 0), some (.ref 100), some (.ref 232), some (.int l3)], [.int q3.1], hp X G q3.2) _
  refine ab_U.run 5 (S' := (731, [some (.ref 0), some (.ref 100), some (.ref 232), some (.int l3)], [.int (l3 + 1), .ref 0, .ref 232, .int q3.1], hp X G q3.2)) rfl ?_
  obtain ⟨c5, hf⟩ := ab_ifs hf
  refine ab_U.script rfl c5 ?_
  show ab_U _ _ _ (732, [some (.ref 0), some (.ref 100), some (.ref 232), some (.int l3)], [.int (X.2 (l3 + 1).toNatClampNeg), .ref 232, .int q3.1], hp X G q3.2) _
  refine ab_U.run 4 (S' := (736, [some (.ref 0), some (.ref 100), some (.ref 232), some (.int l3)], [.int (l3 + 2), .ref 0, .int (X.2 (l3 + 1).toNatClampNeg), .ref 232, .int q3.1], hp X G q3.2)) rfl ?_
  obtain ⟨c6, hf⟩ := ab_ifs hf
  refine ab_U.script rfl c6 ?_
  show ab_U _ _ _ (737, [some (.ref 0), some (.ref 100), some (.ref 232), some (.int l3)], [.int (X.2 (l3 + 2).toNatClampNeg), .int (X.2 (l3 + 1).toNatClampNeg), .ref 232, .int q3.1], hp X G q3.2) _
  obtain ⟨q7, h8, hf⟩ := ab_bnd hf
  refine ab_U.fn rfl rfl (t_X9_after (X := X) hG h8) (by omega) ?_
  show ab_U _ _ _ (740, [some (.ref 0), some (.ref 100), some (.ref 232), some (.int l3)], [.int q7.1, .int q3.1], hp X G q7.2) _
  refine ab_U.ic_eq rfl (fun b9 => ?_) (fun b9 => ?_)
  · rw [if_pos b9] at hf
    obtain rfl := Option.some.inj hf
    exact k1 rfl
  · rw [if_neg b9] at hf
    refine ab_U.run 1 (S' := (744, [some (.ref 0), some (.ref 100), some (.ref 232), some (.int l3)], [.int 0], hp X G q7.2)) rfl ?_
    obtain rfl := Option.some.inj hf
    exact ab_U.ret rfl rfl (k0 rfl)
set_option maxRecDepth 20000 in
def lc_19 (F : Nat) (X : Nat × (Nat → Int32)) (l3 : Int32) (μ : fm_M) : Option (Int32 × fm_M) := (if ab_in (l3 + 1) X.1 = true then (Option.bind (f_X8_cold F (X.2 (l3 + 1).toNatClampNeg) μ) (fun q2 => (if ab_in (l3 + 1) X.1 = true then (Option.bind (f_X9_cold F (X.2 (l3 + 1).toNatClampNeg) q2.2) (fun q5 => (if q2.1 = q5.1 then some (1, q5.2) else some (0, q5.2)))) else none))) else none)
set_option maxRecDepth 20000 in
theorem tc_19 {X : Nat × (Nat → Int32)} {G : Nat → Nat → Option Nat} (hG : fm_Gok G) {F : Nat} {l3 : Int32} {μ : fm_M} {q : Int32 × fm_M} {Q : Option Value → ab_H → Prop} (hf : lc_19 F X l3 μ = some q) (k1 : q.1 = 1 → ab_U 346 (some .boolean) kL_law (1431, [some (.ref 0), some (.ref 100), some (.ref 232), some (.int l3)], [], hp X G q.2) Q) (k0 : q.1 = 0 → Q (some (.int 0)) (hp X G q.2)) : ab_U 346 (some .boolean) kL_law (745, [some (.ref 0), some (.ref 100), some (.ref 232), some (.int l3)], [], hp X G μ) Q := by
  unfold lc_19 at hf
  refine ab_U.run 5 (S' := (750, [some (.ref 0), some (.ref 100), some (.ref 232), some (.int l3)], [.int (l3 + 1), .ref 0, .ref 100], hp X G μ)) rfl ?_
  obtain ⟨c1, hf⟩ := ab_ifs hf
  refine ab_U.script rfl c1 ?_
  show ab_U _ _ _ (751, [some (.ref 0), some (.ref 100), some (.ref 232), some (.int l3)], [.int (X.2 (l3 + 1).toNatClampNeg), .ref 100], hp X G μ) _
  obtain ⟨q2, h3, hf⟩ := ab_bnd hf
  refine ab_U.fn rfl rfl (t_X8_cold (X := X) hG h3) (by omega) ?_
  show ab_U _ _ _ (754, [some (.ref 0), some (.ref 100), some (.ref 232), some (.int l3)], [.int q2.1], hp X G q2.2) _
  refine ab_U.run 5 (S' := (759, [some (.ref 0), some (.ref 100), some (.ref 232), some (.int l3)], [.int (l3 + 1), .ref 0, .ref 232, .int q2.1], hp X G q2.2)) rfl ?_
  obtain ⟨c4, hf⟩ := ab_ifs hf
  refine ab_U.script rfl c4 ?_
  show ab_U _ _ _ (760, [some (.ref 0), some (.ref 100), some (.ref 232), some (.int l3)], [.int (X.2 (l3 + 1).toNatClampNeg), .ref 232, .int q2.1], hp X G q2.2) _
  obtain ⟨q5, h6, hf⟩ := ab_bnd hf
  refine ab_U.fn rfl rfl (t_X9_cold (X := X) hG h6) (by omega) ?_
  show ab_U _ _ _ (763, [some (.ref 0), some (.ref 100), some (.ref 232), some (.int l3)], [.int q5.1, .int q2.1], hp X G q5.2) _
  refine ab_U.ic_eq rfl (fun b7 => ?_) (fun b7 => ?_)
  · rw [if_pos b7] at hf
    obtain rfl := Option.some.inj hf
    exact k1 rfl
  · rw [if_neg b7] at hf
    refine ab_U.run 1 (S' := (767, [some (.ref 0), some (.ref 100), some (.ref 232), some (.int l3)], [.int 0], hp X G q5.2)) rfl ?_
    obtain rfl := Option.some.inj hf
    exact ab_U.ret rfl rfl (k0 rfl)
set_option maxRecDepth 20000 in
def lc_20 (F : Nat) (X : Nat × (Nat → Int32)) (l3 : Int32) (μ : fm_M) : Option (Int32 × fm_M) := (if ab_in (l3 + 1) X.1 = true then (if ab_in (l3 + 2) X.1 = true then (if ab_in (l3 + 3) X.1 = true then (Option.bind (f_X8_way F (X.2 (l3 + 1).toNatClampNeg) (X.2 (l3 + 2).toNatClampNeg) (X.2 (l3 + 3).toNatClampNeg) μ) (fun q4 => (if ab_in (l3 + 1) X.1 = true then (if ab_in (l3 + 2) X.1 = true then (if ab_in (l3 + 3) X.1 = true then (Option.bind (f_X9_way F (X.2 (l3 + 1).toNatClampNeg) (X.2 (l3 + 2).toNatClampNeg) (X.2 (l3 + 3).toNatClampNeg) q4.2) (fun q9 => (if q4.1 = q9.1 then some (1, q9.2) else some (0, q9.2)))) else none) else none) else none))) else none) else none) else none)
set_option maxRecDepth 20000 in
theorem tc_20 {X : Nat × (Nat → Int32)} {G : Nat → Nat → Option Nat} (hG : fm_Gok G) {F : Nat} {l3 : Int32} {μ : fm_M} {q : Int32 × fm_M} {Q : Option Value → ab_H → Prop} (hf : lc_20 F X l3 μ = some q) (k1 : q.1 = 1 → ab_U 346 (some .boolean) kL_law (1431, [some (.ref 0), some (.ref 100), some (.ref 232), some (.int l3)], [], hp X G q.2) Q) (k0 : q.1 = 0 → Q (some (.int 0)) (hp X G q.2)) : ab_U 346 (some .boolean) kL_law (768, [some (.ref 0), some (.ref 100), some (.ref 232), some (.int l3)], [], hp X G μ) Q := by
  unfold lc_20 at hf
  refine ab_U.run 5 (S' := (773, [some (.ref 0), some (.ref 100), some (.ref 232), some (.int l3)], [.int (l3 + 1), .ref 0, .ref 100], hp X G μ)) rfl ?_
  obtain ⟨c1, hf⟩ := ab_ifs hf
  refine ab_U.script rfl c1 ?_
  show ab_U _ _ _ (774, [some (.ref 0), some (.ref 100), some (.ref 232), some (.int l3)], [.int (X.2 (l3 + 1).toNatClampNeg), .ref 100], hp X G μ) _
  refine ab_U.run 4 (S' := (778, [some (.ref 0), some (.ref 100), some (.ref 232), some (.int l3)], [.int (l3 + 2), .ref 0, .int (X.2 (l3 + 1).toNatClampNeg), .ref 100], hp X G μ)) rfl ?_
  obtain ⟨c2, hf⟩ := ab_ifs hf
  refine ab_U.script rfl c2 ?_
  show ab_U _ _ _ (779, [some (.ref 0), some (.ref 100), some (.ref 232), some (.int l3)], [.int (X.2 (l3 + 2).toNatClampNeg), .int (X.2 (l3 + 1).toNatClampNeg), .ref 100], hp X G μ) _
  refine ab_U.run 4 (S' := (783, [some (.ref 0), some (.ref 100), some (.ref 232), some (.int l3)], [.int (l3 + 3), .ref 0, .int (X.2 (l3 + 2).toNatClampNeg), .int (X.2 (l3 + 1).toNatClampNeg), .ref 100], hp X G μ)) rfl ?_
  obtain ⟨c3, hf⟩ := ab_ifs hf
  refine ab_U.script rfl c3 ?_
  show ab_U _ _ _ (784, [some (.ref 0), some (.ref 100), some (.ref 232), some (.int l3)], [.int (X.2 (l3 + 3).toNatClampNeg), .int (X.2 (l3 + 2).toNatClampNeg), .int (X.2 (l3 + 1).toNatClampNeg), .ref 100], hp X G μ) _
  obtain ⟨q4, h5, hf⟩ := ab_bnd hf
  refine ab_U.fn rfl rfl (t_X8_way (X := X) hG h5) (by omega) ?_
  show ab_U _ _ _ (787, [some (.ref 0), some (.ref 100), some (.ref 232), some (.int l3)], [.int q4.1], hp X G q4.2) _
  refine ab_U.run 5 (S' := (792, [some (.ref 0), some (.ref 100), some (.ref 232), some (.int l3)], [.int (l3 + 1), .ref 0, .ref 232, .int q4.1], hp X G q4.2)) rfl ?_
  obtain ⟨c6, hf⟩ := ab_ifs hf
  refine ab_U.script rfl c6 ?_
  show ab_U _ _ _ (793, [some (.ref 0), some (.ref 100), some (.ref 232), some (.int l3)], [.int (X.2 (l3 + 1).toNatClampNeg), .ref 232, .int q4.1], hp X G q4.2) _
  refine ab_U.run 4 (S' := (797, [some (.ref 0), some (.ref 100), some (.ref 232), some (.int l3)], [.int (l3 + 2), .ref 0, .int (X.2 (l3 + 1).toNatClampNeg), .ref 232, .int q4.1], hp X G q4.2)) rfl ?_
  obtain ⟨c7, hf⟩ := ab_ifs hf
  refine ab_U.script rfl c7 ?_
  show ab_U _ _ _ (798, [some (.ref 0), some (.ref 100), some (.ref 232), some (.int l3)], [.int (X.2 (l3 + 2).toNatClampNeg), .int (X.2 (l3 + 1).toNatClampNeg), .ref 232, .int q4.1], hp X G q4.2) _
  refine ab_U.run 4 (S' := (802, [some (.ref 0), some (.ref 100), some (.ref 232), some (.int l3)], [.int (l3 + 3), .ref 0, .int (X.2 (l3 + 2).toNatClampNeg), .int (X.2 (l3 + 1).toNatClampNeg), .ref 232, .int q4.1], hp X G q4.2)) rfl ?_
  obtain ⟨c8, hf⟩ := ab_ifs hf
  refine ab_U.script rfl c8 ?_
  show ab_U _ _ _ (803, [some (.ref 0), some (.ref 100), some (.ref 232), some (.int l3)], [.int (X.2 (l3 + 3).toNatClampNeg), .int (X.2 (l3 + 2).toNatClampNeg), .int (X.2 (l3 + 1).toNatClampNeg), .ref 232, .int q4.1], hp X G q4.2) _
  obtain ⟨q9, h10, hf⟩ := ab_bnd hf
  refine ab_U.fn rfl rfl (t_X9_way (X := X) hG h10) (by omega) ?_
  show ab_U _ _ _ (806, [some (.ref 0), some (.ref 100), some (.ref 232), some (.int l3)], [.int q9.1, .int q4.1], hp X G q9.2) _
  refine ab_U.ic_eq rfl (fun b11 => ?_) (fun b11 => ?_)
  · rw [if_pos b11] at hf
    obtain rfl := Option.some.inj hf
    exact k1 rfl
  · rw [if_neg b11] at hf
    refine ab_U.run 1 (S' := (810, [some (.ref 0), some (.ref 100), some (.ref 232), some (.int l3)], [.int 0], hp X G q9.2)) rfl ?_
    obtain rfl := Option.some.inj hf
    exact ab_U.ret rfl rfl (k0 rfl)
set_option maxRecDepth 20000 in
def lc_21 (F : Nat) (X : Nat × (Nat → Int32)) (l3 : Int32) (μ : fm_M) : Option (Int32 × fm_M) := (if ab_in (l3 + 1) X.1 = true then (if ab_in (l3 + 2) X.1 = true then (Option.bind (f_X8_fewest F (X.2 (l3 + 1).toNatClampNeg) (X.2 (l3 + 2).toNatClampNeg) μ) (fun q3 => (if ab_in (l3 + 1) X.1 = true then (if ab_in (l3 + 2) X.1 = true then (Option.bind (f_X9_fewest F (X.2 (l3 + 1).toNatClampNeg) (X.2 (l3 + 2).toNatClampNeg) q3.2) (fun q7 => (if q3.1 = q7.1 then some (1, q7.2) else some (0, q7.2)))) else none) else none))) else none) else none)
set_option maxRecDepth 20000 in
theorem tc_21 {X : Nat × (Nat → Int32)} {G : Nat → Nat → Option Nat} (hG : fm_Gok G) {F : Nat} {l3 : Int32} {μ : fm_M} {q : Int32 × fm_M} {Q : Option Value → ab_H → Prop} (hf : lc_21 F X l3 μ = some q) (k1 : q.1 = 1 → ab_U 346 (some .boolean) kL_law (1431, [some (.ref 0), some (.ref 100), some (.ref 232), some (.int l3)], [], hp X G q.2) Q) (k0 : q.1 = 0 → Q (some (.int 0)) (hp X G q.2)) : ab_U 346 (some .boolean) kL_law (811, [some (.ref 0), some (.ref 100), some (.ref 232), some (.int l3)], [], hp X G μ) Q := by
  unfold lc_21 at hf
  refine ab_U.run 5 (S' := (816, [some (.ref 0), some (.ref 100), some (.ref 232), some (.int l3)], [.int (l3 + 1), .ref 0, .ref 100], hp X G μ)) rfl ?_
  obtain ⟨c1, hf⟩ := ab_ifs hf
  refine ab_U.script rfl c1 ?_
  show ab_U _ _ _ (817, [some (.ref 0), some (.ref 100), some (.ref 232), some (.int l3)], [.int (X.2 (l3 + 1).toNatClampNeg), .ref 100], hp X G μ) _
  refine ab_U.run 4 (S' := (821, [some (.ref 0), some (.ref 100), some (.ref 232), some (.int l3)], [.int (l3 + 2), .ref 0, .int (X.2 (l3 + 1).toNatClampNeg), .ref 100], hp X G μ)) rfl ?_
  obtain ⟨c2, hf⟩ := ab_ifs hf
  refine ab_U.script rfl c2 ?_
  show ab_U _ _ _ (822, [some (.ref 0), some (.ref 100), some (.ref 232), some (.int l3)], [.int (X.2 (l3 + 2).toNatClampNeg), .int (X.2 (l3 + 1).toNatClampNeg), .ref 100], hp X G μ) _
  obtain ⟨q3, h4, hf⟩ := ab_bnd hf
  refine ab_U.fn rfl rfl (t_X8_fewest (X := X) hG h4) (by omega) ?_
  show ab_U _ _ _ (825, [some (.ref 0), some (.ref 100), some (.ref 232), some (.int l3)], [.int q3.1], hp X G q3.2) _
  refine ab_U.run 5 (S' := (830, [some (.ref 0), some (.ref 100), some (.ref 232), some (.int l3)], [.int (l3 + 1), .ref 0, .ref 232, .int q3.1], hp X G q3.2)) rfl ?_
  obtain ⟨c5, hf⟩ := ab_ifs hf
  refine ab_U.script rfl c5 ?_
  show ab_U _ _ _ (831, [some (.ref 0), some (.ref 100), some (.ref 232), some (.int l3)], [.int (X.2 (l3 + 1).toNatClampNeg), .ref 232, .int q3.1], hp X G q3.2) _
  refine ab_U.run 4 (S' := (835, [some (.ref 0), some (.ref 100), some (.ref 232), some (.int l3)], [.int (l3 + 2), .ref 0, .int (X.2 (l3 + 1).toNatClampNeg), .ref 232, .int q3.1], hp X G q3.2)) rfl ?_
  obtain ⟨c6, hf⟩ := ab_ifs hf
  refine ab_U.script rfl c6 ?_
  show ab_U _ _ _ (836, [some (.ref 0), some (.ref 100), some (.ref 232), some (.int l3)], [.int (X.2 (l3 + 2).toNatClampNeg), .int (X.2 (l3 + 1).toNatClampNeg), .ref 232, .int q3.1], hp X G q3.2) _
  obtain ⟨q7, h8, hf⟩ := ab_bnd hf
  refine ab_U.fn rfl rfl (t_X9_fewest (X := X) hG h8) (by omega) ?_
  show ab_U _ _ _ (839, [some (.ref 0), some (.ref 100), some (.ref 232), some (.int l3)], [.int q7.1, .int q3.1], hp X G q7.2) _
  refine ab_U.ic_eq rfl (fun b9 => ?_) (fun b9 => ?_)
  · rw [if_pos b9] at hf
    obtain rfl := Option.some.inj hf
    exact k1 rfl
  · rw [if_neg b9] at hf
    refine ab_U.run 1 (S' := (843, [some (.ref 0), some (.ref 100), some (.ref 232), some (.int l3)], [.int 0], hp X G q7.2)) rfl ?_
    obtain rfl := Option.some.inj hf
    exact ab_U.ret rfl rfl (k0 rfl)
set_option maxRecDepth 20000 in
def lc_22 (F : Nat) (X : Nat × (Nat → Int32)) (l3 : Int32) (μ : fm_M) : Option (Int32 × fm_M) := (if ab_in (l3 + 1) X.1 = true then (Option.bind (f_X8_settle F (X.2 (l3 + 1).toNatClampNeg) μ) (fun q2 => (if ab_in (l3 + 1) X.1 = true then (Option.bind (f_X9_settle F (X.2 (l3 + 1).toNatClampNeg) q2.2) (fun q5 => (if q2.1 = q5.1 then some (1, q5.2) else some (0, q5.2)))) else none))) else none)
set_option maxRecDepth 20000 in
theorem tc_22 {X : Nat × (Nat → Int32)} {G : Nat → Nat → Option Nat} (hG : fm_Gok G) {F : Nat} {l3 : Int32} {μ : fm_M} {q : Int32 × fm_M} {Q : Option Value → ab_H → Prop} (hf : lc_22 F X l3 μ = some q) (k1 : q.1 = 1 → ab_U 346 (some .boolean) kL_law (1431, [some (.ref 0), some (.ref 100), some (.ref 232), some (.int l3)], [], hp X G q.2) Q) (k0 : q.1 = 0 → Q (some (.int 0)) (hp X G q.2)) : ab_U 346 (some .boolean) kL_law (844, [some (.ref 0), some (.ref 100), some (.ref 232), some (.int l3)], [], hp X G μ) Q := by
  unfold lc_22 at hf
  refine ab_U.run 5 (S' := (849, [some (.ref 0), some (.ref 100), some (.ref 232), some (.int l3)], [.int (l3 + 1), .ref 0, .ref 100], hp X G μ)) rfl ?_
  obtain ⟨c1, hf⟩ := ab_ifs hf
  refine ab_U.script rfl c1 ?_
  show ab_U _ _ _ (850, [some (.ref 0), some (.ref 100), some (.ref 232), some (.int l3)], [.int (X.2 (l3 + 1).toNatClampNeg), .ref 100], hp X G μ) _
  obtain ⟨q2, h3, hf⟩ := ab_bnd hf
  refine ab_U.fn rfl rfl (t_X8_settle (X := X) hG h3) (by omega) ?_
  show ab_U _ _ _ (853, [some (.ref 0), some (.ref 100), some (.ref 232), some (.int l3)], [.int q2.1], hp X G q2.2) _
  refine ab_U.run 5 (S' := (858, [some (.ref 0), some (.ref 100), some (.ref 232), some (.int l3)], [.int (l3 + 1), .ref 0, .ref 232, .int q2.1], hp X G q2.2)) rfl ?_
  obtain ⟨c4, hf⟩ := ab_ifs hf
  refine ab_U.script rfl c4 ?_
  show ab_U _ _ _ (859, [some (.ref 0), some (.ref 100), some (.ref 232), some (.int l3)], [.int (X.2 (l3 + 1).toNatClampNeg), .ref 232, .int q2.1], hp X G q2.2) _
  obtain ⟨q5, h6, hf⟩ := ab_bnd hf
  refine ab_U.fn rfl rfl (t_X9_settle (X := X) hG h6) (by omega) ?_
  show ab_U _ _ _ (862, [some (.ref 0), some (.ref 100), some (.ref 232), some (.int l3)], [.int q5.1, .int q2.1], hp X G q5.2) _
  refine ab_U.ic_eq rfl (fun b7 => ?_) (fun b7 => ?_)
  · rw [if_pos b7] at hf
    obtain rfl := Option.some.inj hf
    exact k1 rfl
  · rw [if_neg b7] at hf
    refine ab_U.run 1 (S' := (866, [some (.ref 0), some (.ref 100), some (.ref 232), some (.int l3)], [.int 0], hp X G q5.2)) rfl ?_
    obtain rfl := Option.some.inj hf
    exact ab_U.ret rfl rfl (k0 rfl)
set_option maxRecDepth 20000 in
def lc_23 (F : Nat) (X : Nat × (Nat → Int32)) (l3 : Int32) (μ : fm_M) : Option (Int32 × fm_M) := (if ab_in (l3 + 1) X.1 = true then (if ab_in (l3 + 2) X.1 = true then (Option.bind (f_X8_wool F (X.2 (l3 + 1).toNatClampNeg) (X.2 (l3 + 2).toNatClampNeg) μ) (fun q3 => (if ab_in (l3 + 1) X.1 = true then (if ab_in (l3 + 2) X.1 = true then (Option.bind (f_X9_wool F (X.2 (l3 + 1).toNatClampNeg) (X.2 (l3 + 2).toNatClampNeg) q3.2) (fun q7 => (if q3.1 = q7.1 then some (1, q7.2) else some (0, q7.2)))) else none) else none))) else none) else none)
set_option maxRecDepth 20000 in
theorem tc_23 {X : Nat × (Nat → Int32)} {G : Nat → Nat → Option Nat} (hG : fm_Gok G) {F : Nat} {l3 : Int32} {μ : fm_M} {q : Int32 × fm_M} {Q : Option Value → ab_H → Prop} (hf : lc_23 F X l3 μ = some q) (k1 : q.1 = 1 → ab_U 346 (some .boolean) kL_law (1431, [some (.ref 0), some (.ref 100), some (.ref 232), some (.int l3)], [], hp X G q.2) Q) (k0 : q.1 = 0 → Q (some (.int 0)) (hp X G q.2)) : ab_U 346 (some .boolean) kL_law (867, [some (.ref 0), some (.ref 100), some (.ref 232), some (.int l3)], [], hp X G μ) Q := by
  unfold lc_23 at hf
  refine ab_U.run 5 (S' := (872, [some (.ref 0), some (.ref 100), some (.ref 232), some (.int l3)], [.int (l3 + 1), .ref 0, .ref 100], hp X G μ)) rfl ?_
  obtain ⟨c1, hf⟩ := ab_ifs hf
  refine ab_U.script rfl c1 ?_
  show ab_U _ _ _ (873, [some (.ref 0), some (.ref 100), some (.ref 232), some (.int l3)], [.int (X.2 (l3 + 1).toNatClampNeg), .ref 100], hp X G μ) _
  refine ab_U.run 4 (S' := (877, [some (.ref 0), some (.ref 100), some (.ref 232), some (.int l3)], [.int (l3 + 2), .ref 0, .int (X.2 (l3 + 1).toNatClampNeg), .ref 100], hp X G μ)) rfl ?_
  obtain ⟨c2, hf⟩ := ab_ifs hf
  refine ab_U.script rfl c2 ?_
  show ab_U _ _ _ (878, [some (.ref 0), some (.ref 100), some (.ref 232), some (.int l3)], [.int (X.2 (l3 + 2).toNatClampNeg), .int (X.2 (l3 + 1).toNatClampNeg), .ref 100], hp X G μ) _
  obtain ⟨q3, h4, hf⟩ := ab_bnd hf
  refine ab_U.fn rfl rfl (t_X8_wool (X := X) hG h4) (by omega) ?_
  show ab_U _ _ _ (881, [some (.ref 0), some (.ref 100), some (.ref 232), some (.int l3)], [.int q3.1], hp X G q3.2) _
  refine ab_U.run 5 (S' := (886, [some (.ref 0), some (.ref 100), some (.ref 232), some (.int l3)], [.int (l3 + 1), .ref 0, .ref 232, .int q3.1], hp X G q3.2)) rfl ?_
  obtain ⟨c5, hf⟩ := ab_ifs hf
  refine ab_U.script rfl c5 ?_
  show ab_U _ _ _ (887, [some (.ref 0), some (.ref 100), some (.ref 232), some (.int l3)], [.int (X.2 (l3 + 1).toNatClampNeg), .ref 232, .int q3.1], hp X G q3.2) _
  refine ab_U.run 4 (S' := (891, [some (.ref 0), some (.ref 100), some (.ref 232), some (.int l3)], [.int (l3 + 2), .ref 0, .int (X.2 (l3 + 1).toNatClampNeg), .ref 232, .int q3.1], hp X G q3.2)) rfl ?_
  obtain ⟨c6, hf⟩ := ab_ifs hf
  refine ab_U.script rfl c6 ?_
  show ab_U _ _ _ (892, [some (.ref 0), some (.ref 100), some (.ref 232), some (.int l3)], [.int (X.2 (l3 + 2).toNatClampNeg), .int (X.2 (l3 + 1).toNatClampNeg), .ref 232, .int q3.1], hp X G q3.2) _
  obtain ⟨q7, h8, hf⟩ := ab_bnd hf
  refine ab_U.fn rfl rfl (t_X9_wool (X := X) hG h8) (by omega) ?_
  show ab_U _ _ _ (895, [some (.ref 0), some (.ref 100), some (.ref 232), some (.int l3)], [.int q7.1, .int q3.1], hp X G q7.2) _
  refine ab_U.ic_eq rfl (fun b9 => ?_) (fun b9 => ?_)
  · rw [if_pos b9] at hf
    obtain rfl := Option.some.inj hf
    exact k1 rfl
  · rw [if_neg b9] at hf
    refine ab_U.run 1 (S' := (899, [some (.ref 0), some (.ref 100), some (.ref 232), some (.int l3)], [.int 0], hp X G q7.2)) rfl ?_
    obtain rfl := Option.some.inj hf
    exact ab_U.ret rfl rfl (k0 rfl)
set_option maxRecDepth 20000 in
def lc_24 (F : Nat) (X : Nat × (Nat → Int32)) (l3 : Int32) (μ : fm_M) : Option (Int32 × fm_M) := (if ab_in (l3 + 1) X.1 = true then (if ab_in (l3 + 2) X.1 = true then (Option.bind (f_X8_walks F (X.2 (l3 + 1).toNatClampNeg) (X.2 (l3 + 2).toNatClampNeg) μ) (fun q3 => (if ab_in (l3 + 1) X.1 = true then (if ab_in (l3 + 2) X.1 = true then (Option.bind (f_X9_walks F (X.2 (l3 + 1).toNatClampNeg) (X.2 (l3 + 2).toNatClampNeg) q3.2) (fun q7 => (if q3.1 = q7.1 then some (1, q7.2) else some (0, q7.2)))) else none) else none))) else none) else none)
set_option maxRecDepth 20000 in
theorem tc_24 {X : Nat × (Nat → Int32)} {G : Nat → Nat → Option Nat} (hG : fm_Gok G) {F : Nat} {l3 : Int32} {μ : fm_M} {q : Int32 × fm_M} {Q : Option Value → ab_H → Prop} (hf : lc_24 F X l3 μ = some q) (k1 : q.1 = 1 → ab_U 346 (some .boolean) kL_law (1431, [some (.ref 0), some (.ref 100), some (.ref 232), some (.int l3)], [], hp X G q.2) Q) (k0 : q.1 = 0 → Q (some (.int 0)) (hp X G q.2)) : ab_U 346 (some .boolean) kL_law (900, [some (.ref 0), some (.ref 100), some (.ref 232), some (.int l3)], [], hp X G μ) Q := by
  unfold lc_24 at hf
  refine ab_U.run 5 (S' := (905, [some (.ref 0), some (.ref 100), some (.ref 232), some (.int l3)], [.int (l3 + 1), .ref 0, .ref 100], hp X G μ)) rfl ?_
  obtain ⟨c1, hf⟩ := ab_ifs hf
  refine ab_U.script rfl c1 ?_
  show ab_U _ _ _ (906, [some (.ref 0), some (.ref 100), some (.ref 232), some (.int l3)], [.int (X.2 (l3 + 1).toNatClampNeg), .ref 100], hp X G μ) _
  refine ab_U.run 4 (S' := (910, [some (.ref 0), some (.ref 100), some (.ref 232), some (.int l3)], [.int (l3 + 2), .ref 0, .int (X.2 (l3 + 1).toNatClampNeg), .ref 100], hp X G μ)) rfl ?_
  obtain ⟨c2, hf⟩ := ab_ifs hf
  refine ab_U.script rfl c2 ?_
  show ab_U _ _ _ (911, [some (.ref 0), some (.ref 100), some (.ref 232), some (.int l3)], [.int (X.2 (l3 + 2).toNatClampNeg), .int (X.2 (l3 + 1).toNatClampNeg), .ref 100], hp X G μ) _
  obtain ⟨q3, h4, hf⟩ := ab_bnd hf
  refine ab_U.fn rfl rfl (t_X8_walks (X := X) hG h4) (by omega) ?_
  show ab_U _ _ _ (914, [some (.ref 0), some (.ref 100), some (.ref 232), some (.int l3)], [.int q3.1], hp X G q3.2) _
  refine ab_U.run 5 (S' := (919, [some (.ref 0), some (.ref 100), some (.ref 232), some (.int l3)], [.int (l3 + 1), .ref 0, .ref 232, .int q3.1], hp X G q3.2)) rfl ?_
  obtain ⟨c5, hf⟩ := ab_ifs hf
  refine ab_U.script rfl c5 ?_
  show ab_U _ _ _ (920, [some (.ref 0), some (.ref 100), some (.ref 232), some (.int l3)], [.int (X.2 (l3 + 1).toNatClampNeg), .ref 232, .int q3.1], hp X G q3.2) _
  refine ab_U.run 4 (S' := (924, [some (.ref 0), some (.ref 100), some (.ref 232), some (.int l3)], [.int (l3 + 2), .ref 0, .int (X.2 (l3 + 1).toNatClampNeg), .ref 232, .int q3.1], hp X G q3.2)) rfl ?_
  obtain ⟨c6, hf⟩ := ab_ifs hf
  refine ab_U.script rfl c6 ?_
  show ab_U _ _ _ (925, [some (.ref 0), some (.ref 100), some (.ref 232), some (.int l3)], [.int (X.2 (l3 + 2).toNatClampNeg), .int (X.2 (l3 + 1).toNatClampNeg), .ref 232, .int q3.1], hp X G q3.2) _
  obtain ⟨q7, h8, hf⟩ := ab_bnd hf
  refine ab_U.fn rfl rfl (t_X9_walks (X := X) hG h8) (by omega) ?_
  show ab_U _ _ _ (928, [some (.ref 0), some (.ref 100), some (.ref 232), some (.int l3)], [.int q7.1, .int q3.1], hp X G q7.2) _
  refine ab_U.ic_eq rfl (fun b9 => ?_) (fun b9 => ?_)
  · rw [if_pos b9] at hf
    obtain rfl := Option.some.inj hf
    exact k1 rfl
  · rw [if_neg b9] at hf
    refine ab_U.run 1 (S' := (932, [some (.ref 0), some (.ref 100), some (.ref 232), some (.int l3)], [.int 0], hp X G q7.2)) rfl ?_
    obtain rfl := Option.some.inj hf
    exact ab_U.ret rfl rfl (k0 rfl)
set_option maxRecDepth 20000 in
def lc_25 (F : Nat) (X : Nat × (Nat → Int32)) (l3 : Int32) (μ : fm_M) : Option (Int32 × fm_M) := (if ab_in (l3 + 1) X.1 = true then (if ab_in (l3 + 2) X.1 = true then (Option.bind (f_X8_buys F (X.2 (l3 + 1).toNatClampNeg) (X.2 (l3 + 2).toNatClampNeg) μ) (fun q3 => (if ab_in (l3 + 1) X.1 = true then (if ab_in (l3 + 2) X.1 = true then (Option.bind (f_X9_buys F (X.2 (l3 + 1).toNatClampNeg) (X.2 (l3 + 2).toNatClampNeg) q3.2) (fun q7 => (if q3.1 = q7.1 then some (1, q7.2) else some (0, q7.2)))) else none) else none))) else none) else none)
set_option maxRecDepth 20000 in
theorem tc_25 {X : Nat × (Nat → Int32)} {G : Nat → Nat → Option Nat} (hG : fm_Gok G) {F : Nat} {l3 : Int32} {μ : fm_M} {q : Int32 × fm_M} {Q : Option Value → ab_H → Prop} (hf : lc_25 F X l3 μ = some q) (k1 : q.1 = 1 → ab_U 346 (some .boolean) kL_law (1431, [some (.ref 0), some (.ref 100), some (.ref 232), some (.int l3)], [], hp X G q.2) Q) (k0 : q.1 = 0 → Q (some (.int 0)) (hp X G q.2)) : ab_U 346 (some .boolean) kL_law (933, [some (.ref 0), some (.ref 100), some (.ref 232), some (.int l3)], [], hp X G μ) Q := by
  unfold lc_25 at hf
  refine ab_U.run 5 (S' := (938, [some (.ref 0), some (.ref 100), some (.ref 232), some (.int l3)], [.int (l3 + 1), .ref 0, .ref 100], hp X G μ)) rfl ?_
  obtain ⟨c1, hf⟩ := ab_ifs hf
  refine ab_U.script rfl c1 ?_
  show ab_U _ _ _ (939, [some (.ref 0), some (.ref 100), some (.ref 232), some (.int l3)], [.int (X.2 (l3 + 1).toNatClampNeg), .ref 100], hp X G μ) _
  refine ab_U.run 4 (S' := (943, [some (.ref 0), some (.ref 100), some (.ref 232), some (.int l3)], [.int (l3 + 2), .ref 0, .int (X.2 (l3 + 1).toNatClampNeg), .ref 100], hp X G μ)) rfl ?_
  obtain ⟨c2, hf⟩ := ab_ifs hf
  refine ab_U.script rfl c2 ?_
  show ab_U _ _ _ (944, [some (.ref 0), some (.ref 100), some (.ref 232), some (.int l3)], [.int (X.2 (l3 + 2).toNatClampNeg), .int (X.2 (l3 + 1).toNatClampNeg), .ref 100], hp X G μ) _
  obtain ⟨q3, h4, hf⟩ := ab_bnd hf
  refine ab_U.fn rfl rfl (t_X8_buys (X := X) hG h4) (by omega) ?_
  show ab_U _ _ _ (947, [some (.ref 0), some (.ref 100), some (.ref 232), some (.int l3)], [.int q3.1], hp X G q3.2) _
  refine ab_U.run 5 (S' := (952, [some (.ref 0), some (.ref 100), some (.ref 232), some (.int l3)], [.int (l3 + 1), .ref 0, .ref 232, .int q3.1], hp X G q3.2)) rfl ?_
  obtain ⟨c5, hf⟩ := ab_ifs hf
  refine ab_U.script rfl c5 ?_
  show ab_U _ _ _ (953, [some (.ref 0), some (.ref 100), some (.ref 232), some (.int l3)], [.int (X.2 (l3 + 1).toNatClampNeg), .ref 232, .int q3.1], hp X G q3.2) _
  refine ab_U.run 4 (S' := (957, [some (.ref 0), some (.ref 100), some (.ref 232), some (.int l3)], [.int (l3 + 2), .ref 0, .int (X.2 (l3 + 1).toNatClampNeg), .ref 232, .int q3.1], hp X G q3.2)) rfl ?_
  obtain ⟨c6, hf⟩ := ab_ifs hf
  refine ab_U.script rfl c6 ?_
  show ab_U _ _ _ (958, [some (.ref 0), some (.ref 100), some (.ref 232), some (.int l3)], [.int (X.2 (l3 + 2).toNatClampNeg), .int (X.2 (l3 + 1).toNatClampNeg), .ref 232, .int q3.1], hp X G q3.2) _
  obtain ⟨q7, h8, hf⟩ := ab_bnd hf
  refine ab_U.fn rfl rfl (t_X9_buys (X := X) hG h8) (by omega) ?_
  show ab_U _ _ _ (961, [some (.ref 0), some (.ref 100), some (.ref 232), some (.int l3)], [.int q7.1, .int q3.1], hp X G q7.2) _
  refine ab_U.ic_eq rfl (fun b9 => ?_) (fun b9 => ?_)
  · rw [if_pos b9] at hf
    obtain rfl := Option.some.inj hf
    exact k1 rfl
  · rw [if_neg b9] at hf
    refine ab_U.run 1 (S' := (965, [some (.ref 0), some (.ref 100), some (.ref 232), some (.int l3)], [.int 0], hp X G q7.2)) rfl ?_
    obtain rfl := Option.some.inj hf
    exact ab_U.ret rfl rfl (k0 rfl)
set_option maxRecDepth 20000 in
def lc_26 (F : Nat) (X : Nat × (Nat → Int32)) (l3 : Int32) (μ : fm_M) : Option (Int32 × fm_M) := (if ab_in (l3 + 1) X.1 = true then (if ab_in (l3 + 2) X.1 = true then (if ab_in (l3 + 3) X.1 = true then (Option.bind (f_X8_lasts F (X.2 (l3 + 1).toNatClampNeg) (X.2 (l3 + 2).toNatClampNeg) (X.2 (l3 + 3).toNatClampNeg) μ) (fun q4 => (if ab_in (l3 + 1) X.1 = true then (if ab_in (l3 + 2) X.1 = true then (if ab_in (l3 + 3) X.1 = true then (Option.bind (f_X9_lasts F (X.2 (l3 + 1).toNatClampNeg) (X.2 (l3 + 2).toNatClampNeg) (X.2 (l3 + 3).toNatClampNeg) q4.2) (fun q9 => (if (lg_cmp q4.1 q9.1) = 0 then some (1, q9.2) else some (0, q9.2)))) else none) else none) else none))) else none) else none) else none)
set_option maxRecDepth 20000 in
theorem tc_26 {X : Nat × (Nat → Int32)} {G : Nat → Nat → Option Nat} (hG : fm_Gok G) {F : Nat} {l3 : Int32} {μ : fm_M} {q : Int32 × fm_M} {Q : Option Value → ab_H → Prop} (hf : lc_26 F X l3 μ = some q) (k1 : q.1 = 1 → ab_U 346 (some .boolean) kL_law (1431, [some (.ref 0), some (.ref 100), some (.ref 232), some (.int l3)], [], hp X G q.2) Q) (k0 : q.1 = 0 → Q (some (.int 0)) (hp X G q.2)) : ab_U 346 (some .boolean) kL_law (966, [some (.ref 0), some (.ref 100), some (.ref 232), some (.int l3)], [], hp X G μ) Q := by
  unfold lc_26 at hf
  refine ab_U.run 5 (S' := (971, [some (.ref 0), some (.ref 100), some (.ref 232), some (.int l3)], [.int (l3 + 1), .ref 0, .ref 100], hp X G μ)) rfl ?_
  obtain ⟨c1, hf⟩ := ab_ifs hf
  refine ab_U.script rfl c1 ?_
  show ab_U _ _ _ (972, [some (.ref 0), some (.ref 100), some (.ref 232), some (.int l3)], [.int (X.2 (l3 + 1).toNatClampNeg), .ref 100], hp X G μ) _
  refine ab_U.run 4 (S' := (976, [some (.ref 0), some (.ref 100), some (.ref 232), some (.int l3)], [.int (l3 + 2), .ref 0, .int (X.2 (l3 + 1).toNatClampNeg), .ref 100], hp X G μ)) rfl ?_
  obtain ⟨c2, hf⟩ := ab_ifs hf
  refine ab_U.script rfl c2 ?_
  show ab_U _ _ _ (977, [some (.ref 0), some (.ref 100), some (.ref 232), some (.int l3)], [.int (X.2 (l3 + 2).toNatClampNeg), .int (X.2 (l3 + 1).toNatClampNeg), .ref 100], hp X G μ) _
  refine ab_U.run 4 (S' := (981, [some (.ref 0), some (.ref 100), some (.ref 232), some (.int l3)], [.int (l3 + 3), .ref 0, .int (X.2 (l3 + 2).toNatClampNeg), .int (X.2 (l3 + 1).toNatClampNeg), .ref 100], hp X G μ)) rfl ?_
  obtain ⟨c3, hf⟩ := ab_ifs hf
  refine ab_U.script rfl c3 ?_
  show ab_U _ _ _ (982, [some (.ref 0), some (.ref 100), some (.ref 232), some (.int l3)], [.int (X.2 (l3 + 3).toNatClampNeg), .int (X.2 (l3 + 2).toNatClampNeg), .int (X.2 (l3 + 1).toNatClampNeg), .ref 100], hp X G μ) _
  obtain ⟨q4, h5, hf⟩ := ab_bnd hf
  refine ab_U.fn rfl rfl (t_X8_lasts (X := X) hG h5) (by omega) ?_
  show ab_U _ _ _ (985, [some (.ref 0), some (.ref 100), some (.ref 232), some (.int l3)], [.long q4.1], hp X G q4.2) _
  refine ab_U.run 5 (S' := (990, [some (.ref 0), some (.ref 100), some (.ref 232), some (.int l3)], [.int (l3 + 1), .ref 0, .ref 232, .long q4.1], hp X G q4.2)) rfl ?_
  obtain ⟨c6, hf⟩ := ab_ifs hf
  refine ab_U.script rfl c6 ?_
  show ab_U _ _ _ (991, [some (.ref 0), some (.ref 100), some (.ref 232), some (.int l3)], [.int (X.2 (l3 + 1).toNatClampNeg), .ref 232, .long q4.1], hp X G q4.2) _
  refine ab_U.run 4 (S' := (995, [some (.ref 0), some (.ref 100), some (.ref 232), some (.int l3)], [.int (l3 + 2), .ref 0, .int (X.2 (l3 + 1).toNatClampNeg), .ref 232, .long q4.1], hp X G q4.2)) rfl ?_
  obtain ⟨c7, hf⟩ := ab_ifs hf
  refine ab_U.script rfl c7 ?_
  show ab_U _ _ _ (996, [some (.ref 0), some (.ref 100), some (.ref 232), some (.int l3)], [.int (X.2 (l3 + 2).toNatClampNeg), .int (X.2 (l3 + 1).toNatClampNeg), .ref 232, .long q4.1], hp X G q4.2) _
  refine ab_U.run 4 (S' := (1000, [some (.ref 0), some (.ref 100), some (.ref 232), some (.int l3)], [.int (l3 + 3), .ref 0, .int (X.2 (l3 + 2).toNatClampNeg), .int (X.2 (l3 + 1).toNatClampNeg), .ref 232, .long q4.1], hp X G q4.2)) rfl ?_
  obtain ⟨c8, hf⟩ := ab_ifs hf
  refine ab_U.script rfl c8 ?_
  show ab_U _ _ _ (1001, [some (.ref 0), some (.ref 100), some (.ref 232), some (.int l3)], [.int (X.2 (l3 + 3).toNatClampNeg), .int (X.2 (l3 + 2).toNatClampNeg), .int (X.2 (l3 + 1).toNatClampNeg), .ref 232, .long q4.1], hp X G q4.2) _
  obtain ⟨q9, h10, hf⟩ := ab_bnd hf
  refine ab_U.fn rfl rfl (t_X9_lasts (X := X) hG h10) (by omega) ?_
  show ab_U _ _ _ (1004, [some (.ref 0), some (.ref 100), some (.ref 232), some (.int l3)], [.long q9.1, .long q4.1], hp X G q9.2) _
  refine ab_U.run 1 (S' := (1005, [some (.ref 0), some (.ref 100), some (.ref 232), some (.int l3)], [.int (lg_cmp q4.1 q9.1)], hp X G q9.2)) rfl ?_
  refine ab_U.if_eq rfl (fun b11 => ?_) (fun b11 => ?_)
  · rw [if_pos b11] at hf
    obtain rfl := Option.some.inj hf
    exact k1 rfl
  · rw [if_neg b11] at hf
    refine ab_U.run 1 (S' := (1009, [some (.ref 0), some (.ref 100), some (.ref 232), some (.int l3)], [.int 0], hp X G q9.2)) rfl ?_
    obtain rfl := Option.some.inj hf
    exact ab_U.ret rfl rfl (k0 rfl)
set_option maxRecDepth 20000 in
def lc_27 (F : Nat) (X : Nat × (Nat → Int32)) (l3 : Int32) (μ : fm_M) : Option (Int32 × fm_M) := (if ab_in (l3 + 1) X.1 = true then (if ab_in (l3 + 2) X.1 = true then (if ab_in (l3 + 3) X.1 = true then (Option.bind (f_X8_mean F (X.2 (l3 + 1).toNatClampNeg) (X.2 (l3 + 2).toNatClampNeg) (X.2 (l3 + 3).toNatClampNeg) μ) (fun q4 => (if ab_in (l3 + 1) X.1 = true then (if ab_in (l3 + 2) X.1 = true then (if ab_in (l3 + 3) X.1 = true then (Option.bind (f_X9_mean F (X.2 (l3 + 1).toNatClampNeg) (X.2 (l3 + 2).toNatClampNeg) (X.2 (l3 + 3).toNatClampNeg) q4.2) (fun q9 => (if (lg_cmp q4.1 q9.1) = 0 then some (1, q9.2) else some (0, q9.2)))) else none) else none) else none))) else none) else none) else none)
set_option maxRecDepth 20000 in
theorem tc_27 {X : Nat × (Nat → Int32)} {G : Nat → Nat → Option Nat} (hG : fm_Gok G) {F : Nat} {l3 : Int32} {μ : fm_M} {q : Int32 × fm_M} {Q : Option Value → ab_H → Prop} (hf : lc_27 F X l3 μ = some q) (k1 : q.1 = 1 → ab_U 346 (some .boolean) kL_law (1431, [some (.ref 0), some (.ref 100), some (.ref 232), some (.int l3)], [], hp X G q.2) Q) (k0 : q.1 = 0 → Q (some (.int 0)) (hp X G q.2)) : ab_U 346 (some .boolean) kL_law (1010, [some (.ref 0), some (.ref 100), some (.ref 232), some (.int l3)], [], hp X G μ) Q := by
  unfold lc_27 at hf
  refine ab_U.run 5 (S' := (1015, [some (.ref 0), some (.ref 100), some (.ref 232), some (.int l3)], [.int (l3 + 1), .ref 0, .ref 100], hp X G μ)) rfl ?_
  obtain ⟨c1, hf⟩ := ab_ifs hf
  refine ab_U.script rfl c1 ?_
  show ab_U _ _ _ (1016, [some (.ref 0), some (.ref 100), some (.ref 232), some (.int l3)], [.int (X.2 (l3 + 1).toNatClampNeg), .ref 100], hp X G μ) _
  refine ab_U.run 4 (S' := (1020, [some (.ref 0), some (.ref 100), some (.ref 232), some (.int l3)], [.int (l3 + 2), .ref 0, .int (X.2 (l3 + 1).toNatClampNeg), .ref 100], hp X G μ)) rfl ?_
  obtain ⟨c2, hf⟩ := ab_ifs hf
  refine ab_U.script rfl c2 ?_
  show ab_U _ _ _ (1021, [some (.ref 0), some (.ref 100), some (.ref 232), some (.int l3)], [.int (X.2 (l3 + 2).toNatClampNeg), .int (X.2 (l3 + 1).toNatClampNeg), .ref 100], hp X G μ) _
  refine ab_U.run 4 (S' := (1025, [some (.ref 0), some (.ref 100), some (.ref 232), some (.int l3)], [.int (l3 + 3), .ref 0, .int (X.2 (l3 + 2).toNatClampNeg), .int (X.2 (l3 + 1).toNatClampNeg), .ref 100], hp X G μ)) rfl ?_
  obtain ⟨c3, hf⟩ := ab_ifs hf
  refine ab_U.script rfl c3 ?_
  show ab_U _ _ _ (1026, [some (.ref 0), some (.ref 100), some (.ref 232), some (.int l3)], [.int (X.2 (l3 + 3).toNatClampNeg), .int (X.2 (l3 + 2).toNatClampNeg), .int (X.2 (l3 + 1).toNatClampNeg), .ref 100], hp X G μ) _
  obtain ⟨q4, h5, hf⟩ := ab_bnd hf
  refine ab_U.fn rfl rfl (t_X8_mean (X := X) hG h5) (by omega) ?_
  show ab_U _ _ _ (1029, [some (.ref 0), some (.ref 100), some (.ref 232), some (.int l3)], [.long q4.1], hp X G q4.2) _
  refine ab_U.run 5 (S' := (1034, [some (.ref 0), some (.ref 100), some (.ref 232), some (.int l3)], [.int (l3 + 1), .ref 0, .ref 232, .long q4.1], hp X G q4.2)) rfl ?_
  obtain ⟨c6, hf⟩ := ab_ifs hf
  refine ab_U.script rfl c6 ?_
  show ab_U _ _ _ (1035, [some (.ref 0), some (.ref 100), some (.ref 232), some (.int l3)], [.int (X.2 (l3 + 1).toNatClampNeg), .ref 232, .long q4.1], hp X G q4.2) _
  refine ab_U.run 4 (S' := (1039, [some (.ref 0), some (.ref 100), some (.ref 232), some (.int l3)], [.int (l3 + 2), .ref 0, .int (X.2 (l3 + 1).toNatClampNeg), .ref 232, .long q4.1], hp X G q4.2)) rfl ?_
  obtain ⟨c7, hf⟩ := ab_ifs hf
  refine ab_U.script rfl c7 ?_
  show ab_U _ _ _ (1040, [some (.ref 0), some (.ref 100), some (.ref 232), some (.int l3)], [.int (X.2 (l3 + 2).toNatClampNeg), .int (X.2 (l3 + 1).toNatClampNeg), .ref 232, .long q4.1], hp X G q4.2) _
  refine ab_U.run 4 (S' := (1044, [some (.ref 0), some (.ref 100), some (.ref 232), some (.int l3)], [.int (l3 + 3), .ref 0, .int (X.2 (l3 + 2).toNatClampNeg), .int (X.2 (l3 + 1).toNatClampNeg), .ref 232, .long q4.1], hp X G q4.2)) rfl ?_
  obtain ⟨c8, hf⟩ := ab_ifs hf
  refine ab_U.script rfl c8 ?_
  show ab_U _ _ _ (1045, [some (.ref 0), some (.ref 100), some (.ref 232), some (.int l3)], [.int (X.2 (l3 + 3).toNatClampNeg), .int (X.2 (l3 + 2).toNatClampNeg), .int (X.2 (l3 + 1).toNatClampNeg), .ref 232, .long q4.1], hp X G q4.2) _
  obtain ⟨q9, h10, hf⟩ := ab_bnd hf
  refine ab_U.fn rfl rfl (t_X9_mean (X := X) hG h10) (by omega) ?_
  show ab_U _ _ _ (1048, [some (.ref 0), some (.ref 100), some (.ref 232), some (.int l3)], [.long q9.1, .long q4.1], hp X G q9.2) _
  refine ab_U.run 1 (S' := (1049, [some (.ref 0), some (.ref 100), some (.ref 232), some (.int l3)], [.int (lg_cmp q4.1 q9.1)], hp X G q9.2)) rfl ?_
  refine ab_U.if_eq rfl (fun b11 => ?_) (fun b11 => ?_)
  · rw [if_pos b11] at hf
    obtain rfl := Option.some.inj hf
    exact k1 rfl
  · rw [if_neg b11] at hf
    refine ab_U.run 1 (S' := (1053, [some (.ref 0), some (.ref 100), some (.ref 232), some (.int l3)], [.int 0], hp X G q9.2)) rfl ?_
    obtain rfl := Option.some.inj hf
    exact ab_U.ret rfl rfl (k0 rfl)
set_option maxRecDepth 20000 in
def lc_28 (F : Nat) (X : Nat × (Nat → Int32)) (l3 : Int32) (μ : fm_M) : Option (Int32 × fm_M) := (if ab_in (l3 + 1) X.1 = true then (if ab_in (l3 + 2) X.1 = true then (Option.bind (f_X8_spend F (X.2 (l3 + 1).toNatClampNeg) (X.2 (l3 + 2).toNatClampNeg) μ) (fun q3 => (if ab_in (l3 + 1) X.1 = true then (if ab_in (l3 + 2) X.1 = true then (Option.bind (f_X9_spend F (X.2 (l3 + 1).toNatClampNeg) (X.2 (l3 + 2).toNatClampNeg) q3.2) (fun q7 => (if (lg_cmp q3.1 q7.1) = 0 then some (1, q7.2) else some (0, q7.2)))) else none) else none))) else none) else none)
set_option maxRecDepth 20000 in
theorem tc_28 {X : Nat × (Nat → Int32)} {G : Nat → Nat → Option Nat} (hG : fm_Gok G) {F : Nat} {l3 : Int32} {μ : fm_M} {q : Int32 × fm_M} {Q : Option Value → ab_H → Prop} (hf : lc_28 F X l3 μ = some q) (k1 : q.1 = 1 → ab_U 346 (some .boolean) kL_law (1431, [some (.ref 0), some (.ref 100), some (.ref 232), some (.int l3)], [], hp X G q.2) Q) (k0 : q.1 = 0 → Q (some (.int 0)) (hp X G q.2)) : ab_U 346 (some .boolean) kL_law (1054, [some (.ref 0), some (.ref 100), some (.ref 232), some (.int l3)], [], hp X G μ) Q := by
  unfold lc_28 at hf
  refine ab_U.run 5 (S' := (1059, [some (.ref 0), some (.ref 100), some (.ref 232), some (.int l3)], [.int (l3 + 1), .ref 0, .ref 100], hp X G μ)) rfl ?_
  obtain ⟨c1, hf⟩ := ab_ifs hf
  refine ab_U.script rfl c1 ?_
  show ab_U _ _ _ (1060, [some (.ref 0), some (.ref 100), some (.ref 232), some (.int l3)], [.int (X.2 (l3 + 1).toNatClampNeg), .ref 100], hp X G μ) _
  refine ab_U.run 4 (S' := (1064, [some (.ref 0), some (.ref 100), some (.ref 232), some (.int l3)], [.int (l3 + 2), .ref 0, .int (X.2 (l3 + 1).toNatClampNeg), .ref 100], hp X G μ)) rfl ?_
  obtain ⟨c2, hf⟩ := ab_ifs hf
  refine ab_U.script rfl c2 ?_
  show ab_U _ _ _ (1065, [some (.ref 0), some (.ref 100), some (.ref 232), some (.int l3)], [.int (X.2 (l3 + 2).toNatClampNeg), .int (X.2 (l3 + 1).toNatClampNeg), .ref 100], hp X G μ) _
  obtain ⟨q3, h4, hf⟩ := ab_bnd hf
  refine ab_U.fn rfl rfl (t_X8_spend (X := X) hG h4) (by omega) ?_
  show ab_U _ _ _ (1068, [some (.ref 0), some (.ref 100), some (.ref 232), some (.int l3)], [.long q3.1], hp X G q3.2) _
  refine ab_U.run 5 (S' := (1073, [some (.ref 0), some (.ref 100), some (.ref 232), some (.int l3)], [.int (l3 + 1), .ref 0, .ref 232, .long q3.1], hp X G q3.2)) rfl ?_
  obtain ⟨c5, hf⟩ := ab_ifs hf
  refine ab_U.script rfl c5 ?_
  show ab_U _ _ _ (1074, [some (.ref 0), some (.ref 100), some (.ref 232), some (.int l3)], [.int (X.2 (l3 + 1).toNatClampNeg), .ref 232, .long q3.1], hp X G q3.2) _
  refine ab_U.run 4 (S' := (1078, [some (.ref 0), some (.ref 100), some (.ref 232), some (.int l3)], [.int (l3 + 2), .ref 0, .int (X.2 (l3 + 1).toNatClampNeg), .ref 232, .long q3.1], hp X G q3.2)) rfl ?_
  obtain ⟨c6, hf⟩ := ab_ifs hf
  refine ab_U.script rfl c6 ?_
  show ab_U _ _ _ (1079, [some (.ref 0), some (.ref 100), some (.ref 232), some (.int l3)], [.int (X.2 (l3 + 2).toNatClampNeg), .int (X.2 (l3 + 1).toNatClampNeg), .ref 232, .long q3.1], hp X G q3.2) _
  obtain ⟨q7, h8, hf⟩ := ab_bnd hf
  refine ab_U.fn rfl rfl (t_X9_spend (X := X) hG h8) (by omega) ?_
  show ab_U _ _ _ (1082, [some (.ref 0), some (.ref 100), some (.ref 232), some (.int l3)], [.long q7.1, .long q3.1], hp X G q7.2) _
  refine ab_U.run 1 (S' := (1083, [some (.ref 0), some (.ref 100), some (.ref 232), some (.int l3)], [.int (lg_cmp q3.1 q7.1)], hp X G q7.2)) rfl ?_
  refine ab_U.if_eq rfl (fun b9 => ?_) (fun b9 => ?_)
  · rw [if_pos b9] at hf
    obtain rfl := Option.some.inj hf
    exact k1 rfl
  · rw [if_neg b9] at hf
    refine ab_U.run 1 (S' := (1087, [some (.ref 0), some (.ref 100), some (.ref 232), some (.int l3)], [.int 0], hp X G q7.2)) rfl ?_
    obtain rfl := Option.some.inj hf
    exact ab_U.ret rfl rfl (k0 rfl)
set_option maxRecDepth 20000 in
def lc_29 (F : Nat) (X : Nat × (Nat → Int32)) (l3 : Int32) (μ : fm_M) : Option (Int32 × fm_M) := (if ab_in (l3 + 1) X.1 = true then (if ab_in (l3 + 2) X.1 = true then (Option.bind (f_X8_see F (X.2 (l3 + 1).toNatClampNeg) (X.2 (l3 + 2).toNatClampNeg) μ) (fun q3 => (if ab_in (l3 + 1) X.1 = true then (if ab_in (l3 + 2) X.1 = true then (Option.bind (f_X9_see F (X.2 (l3 + 1).toNatClampNeg) (X.2 (l3 + 2).toNatClampNeg) q3.2) (fun q7 => (if q3.1 = q7.1 then some (1, q7.2) else some (0, q7.2)))) else none) else none))) else none) else none)
set_option maxRecDepth 20000 in
theorem tc_29 {X : Nat × (Nat → Int32)} {G : Nat → Nat → Option Nat} (hG : fm_Gok G) {F : Nat} {l3 : Int32} {μ : fm_M} {q : Int32 × fm_M} {Q : Option Value → ab_H → Prop} (hf : lc_29 F X l3 μ = some q) (k1 : q.1 = 1 → ab_U 346 (some .boolean) kL_law (1431, [some (.ref 0), some (.ref 100), some (.ref 232), some (.int l3)], [], hp X G q.2) Q) (k0 : q.1 = 0 → Q (some (.int 0)) (hp X G q.2)) : ab_U 346 (some .boolean) kL_law (1088, [some (.ref 0), some (.ref 100), some (.ref 232), some (.int l3)], [], hp X G μ) Q := by
  unfold lc_29 at hf
  refine ab_U.run 5 (S' := (1093, [some (.ref 0), some (.ref 100), some (.ref 232), some (.int l3)], [.int (l3 + 1), .ref 0, .ref 100], hp X G μ)) rfl ?_
  obtain ⟨c1, hf⟩ := ab_ifs hf
  refine ab_U.script rfl c1 ?_
  show ab_U _ _ _ (1094, [some (.ref 0), some (.ref 100), some (.ref 232), some (.int l3)], [.int (X.2 (l3 + 1).toNatClampNeg), .ref 100], hp X G μ) _
  refine ab_U.run 4 (S' := (1098, [some (.ref 0), some (.ref 100), some (.ref 232), some (.int l3)], [.int (l3 + 2), .ref 0, .int (X.2 (l3 + 1).toNatClampNeg), .ref 100], hp X G μ)) rfl ?_
  obtain ⟨c2, hf⟩ := ab_ifs hf
  refine ab_U.script rfl c2 ?_
  show ab_U _ _ _ (1099, [some (.ref 0), some (.ref 100), some (.ref 232), some (.int l3)], [.int (X.2 (l3 + 2).toNatClampNeg), .int (X.2 (l3 + 1).toNatClampNeg), .ref 100], hp X G μ) _
  obtain ⟨q3, h4, hf⟩ := ab_bnd hf
  refine ab_U.fn rfl rfl (t_X8_see (X := X) hG h4) (by omega) ?_
  show ab_U _ _ _ (1102, [some (.ref 0), some (.ref 100), some (.ref 232), some (.int l3)], [.int q3.1], hp X G q3.2) _
  refine ab_U.run 5 (S' := (1107, [some (.ref 0), some (.ref 100), some (.ref 232), some (.int l3)], [.int (l3 + 1), .ref 0, .ref 232, .int q3.1], hp X G q3.2)) rfl ?_
  obtain ⟨c5, hf⟩ := ab_ifs hf
  refine ab_U.script rfl c5 ?_
  show ab_U _ _ _ (1108, [some (.ref 0), some (.ref 100), some (.ref 232), some (.int l3)], [.int (X.2 (l3 + 1).toNatClampNeg), .ref 232, .int q3.1], hp X G q3.2) _
  refine ab_U.run 4 (S' := (1112, [some (.ref 0), some (.ref 100), some (.ref 232), some (.int l3)], [.int (l3 + 2), .ref 0, .int (X.2 (l3 + 1).toNatClampNeg), .ref 232, .int q3.1], hp X G q3.2)) rfl ?_
  obtain ⟨c6, hf⟩ := ab_ifs hf
  refine ab_U.script rfl c6 ?_
  show ab_U _ _ _ (1113, [some (.ref 0), some (.ref 100), some (.ref 232), some (.int l3)], [.int (X.2 (l3 + 2).toNatClampNeg), .int (X.2 (l3 + 1).toNatClampNeg), .ref 232, .int q3.1], hp X G q3.2) _
  obtain ⟨q7, h8, hf⟩ := ab_bnd hf
  refine ab_U.fn rfl rfl (t_X9_see (X := X) hG h8) (by omega) ?_
  show ab_U _ _ _ (1116, [some (.ref 0), some (.ref 100), some (.ref 232), some (.int l3)], [.int q7.1, .int q3.1], hp X G q7.2) _
  refine ab_U.ic_eq rfl (fun b9 => ?_) (fun b9 => ?_)
  · rw [if_pos b9] at hf
    obtain rfl := Option.some.inj hf
    exact k1 rfl
  · rw [if_neg b9] at hf
    refine ab_U.run 1 (S' := (1120, [some (.ref 0), some (.ref 100), some (.ref 232), some (.int l3)], [.int 0], hp X G q7.2)) rfl ?_
    obtain rfl := Option.some.inj hf
    exact ab_U.ret rfl rfl (k0 rfl)
set_option maxRecDepth 20000 in
def lc_30 (F : Nat) (X : Nat × (Nat → Int32)) (l3 : Int32) (μ : fm_M) : Option (Int32 × fm_M) := (if ab_in (l3 + 1) X.1 = true then (Option.bind (f_X8_forget F (X.2 (l3 + 1).toNatClampNeg) μ) (fun q2 => (if ab_in (l3 + 1) X.1 = true then (Option.bind (f_X9_forget F (X.2 (l3 + 1).toNatClampNeg) q2.2) (fun q5 => (if q2.1 = q5.1 then some (1, q5.2) else some (0, q5.2)))) else none))) else none)
set_option maxRecDepth 20000 in
theorem tc_30 {X : Nat × (Nat → Int32)} {G : Nat → Nat → Option Nat} (hG : fm_Gok G) {F : Nat} {l3 : Int32} {μ : fm_M} {q : Int32 × fm_M} {Q : Option Value → ab_H → Prop} (hf : lc_30 F X l3 μ = some q) (k1 : q.1 = 1 → ab_U 346 (some .boolean) kL_law (1431, [some (.ref 0), some (.ref 100), some (.ref 232), some (.int l3)], [], hp X G q.2) Q) (k0 : q.1 = 0 → Q (some (.int 0)) (hp X G q.2)) : ab_U 346 (some .boolean) kL_law (1121, [some (.ref 0), some (.ref 100), some (.ref 232), some (.int l3)], [], hp X G μ) Q := by
  unfold lc_30 at hf
  refine ab_U.run 5 (S' := (1126, [some (.ref 0), some (.ref 100), some (.ref 232), some (.int l3)], [.int (l3 + 1), .ref 0, .ref 100], hp X G μ)) rfl ?_
  obtain ⟨c1, hf⟩ := ab_ifs hf
  refine ab_U.script rfl c1 ?_
  show ab_U _ _ _ (1127, [some (.ref 0), some (.ref 100), some (.ref 232), some (.int l3)], [.int (X.2 (l3 + 1).toNatClampNeg), .ref 100], hp X G μ) _
  obtain ⟨q2, h3, hf⟩ := ab_bnd hf
  refine ab_U.fn rfl rfl (t_X8_forget (X := X) hG h3) (by omega) ?_
  show ab_U _ _ _ (1130, [some (.ref 0), some (.ref 100), some (.ref 232), some (.int l3)], [.int q2.1], hp X G q2.2) _
  refine ab_U.run 5 (S' := (1135, [some (.ref 0), some (.ref 100), some (.ref 232), some (.int l3)], [.int (l3 + 1), .ref 0, .ref 232, .int q2.1], hp X G q2.2)) rfl ?_
  obtain ⟨c4, hf⟩ := ab_ifs hf
  refine ab_U.script rfl c4 ?_
  show ab_U _ _ _ (1136, [some (.ref 0), some (.ref 100), some (.ref 232), some (.int l3)], [.int (X.2 (l3 + 1).toNatClampNeg), .ref 232, .int q2.1], hp X G q2.2) _
  obtain ⟨q5, h6, hf⟩ := ab_bnd hf
  refine ab_U.fn rfl rfl (t_X9_forget (X := X) hG h6) (by omega) ?_
  show ab_U _ _ _ (1139, [some (.ref 0), some (.ref 100), some (.ref 232), some (.int l3)], [.int q5.1, .int q2.1], hp X G q5.2) _
  refine ab_U.ic_eq rfl (fun b7 => ?_) (fun b7 => ?_)
  · rw [if_pos b7] at hf
    obtain rfl := Option.some.inj hf
    exact k1 rfl
  · rw [if_neg b7] at hf
    refine ab_U.run 1 (S' := (1143, [some (.ref 0), some (.ref 100), some (.ref 232), some (.int l3)], [.int 0], hp X G q5.2)) rfl ?_
    obtain rfl := Option.some.inj hf
    exact ab_U.ret rfl rfl (k0 rfl)
set_option maxRecDepth 20000 in
def lc_31 (F : Nat) (X : Nat × (Nat → Int32)) (l3 : Int32) (μ : fm_M) : Option (Int32 × fm_M) := (if ab_in (l3 + 1) X.1 = true then (Option.bind (f_X8_fits F (X.2 (l3 + 1).toNatClampNeg) μ) (fun q2 => (if ab_in (l3 + 1) X.1 = true then (Option.bind (f_X9_fits F (X.2 (l3 + 1).toNatClampNeg) q2.2) (fun q5 => (if q2.1 = q5.1 then some (1, q5.2) else some (0, q5.2)))) else none))) else none)
set_option maxRecDepth 20000 in
theorem tc_31 {X : Nat × (Nat → Int32)} {G : Nat → Nat → Option Nat} (hG : fm_Gok G) {F : Nat} {l3 : Int32} {μ : fm_M} {q : Int32 × fm_M} {Q : Option Value → ab_H → Prop} (hf : lc_31 F X l3 μ = some q) (k1 : q.1 = 1 → ab_U 346 (some .boolean) kL_law (1431, [some (.ref 0), some (.ref 100), some (.ref 232), some (.int l3)], [], hp X G q.2) Q) (k0 : q.1 = 0 → Q (some (.int 0)) (hp X G q.2)) : ab_U 346 (some .boolean) kL_law (1144, [some (.ref 0), some (.ref 100), some (.ref 232), some (.int l3)], [], hp X G μ) Q := by
  unfold lc_31 at hf
  refine ab_U.run 5 (S' := (1149, [some (.ref 0), some (.ref 100), some (.ref 232), some (.int l3)], [.int (l3 + 1), .ref 0, .ref 100], hp X G μ)) rfl ?_
  obtain ⟨c1, hf⟩ := ab_ifs hf
  refine ab_U.script rfl c1 ?_
  show ab_U _ _ _ (1150, [some (.ref 0), some (.ref 100), some (.ref 232), some (.int l3)], [.int (X.2 (l3 + 1).toNatClampNeg), .ref 100], hp X G μ) _
  obtain ⟨q2, h3, hf⟩ := ab_bnd hf
  refine ab_U.fn rfl rfl (t_X8_fits (X := X) hG h3) (by omega) ?_
  show ab_U _ _ _ (1153, [some (.ref 0), some (.ref 100), some (.ref 232), some (.int l3)], [.int q2.1], hp X G q2.2) _
  refine ab_U.run 5 (S' := (1158, [some (.ref 0), some (.ref 100), some (.ref 232), some (.int l3)], [.int (l3 + 1), .ref 0, .ref 232, .int q2.1], hp X G q2.2)) rfl ?_
  obtain ⟨c4, hf⟩ := ab_ifs hf
  refine ab_U.script rfl c4 ?_
  show ab_U _ _ _ (1159, [some (.ref 0), some (.ref 100), some (.ref 232), some (.int l3)], [.int (X.2 (l3 + 1).toNatClampNeg), .ref 232, .int q2.1], hp X G q2.2) _
  obtain ⟨q5, h6, hf⟩ := ab_bnd hf
  refine ab_U.fn rfl rfl (t_X9_fits (X := X) hG h6) (by omega) ?_
  show ab_U _ _ _ (1162, [some (.ref 0), some (.ref 100), some (.ref 232), some (.int l3)], [.int q5.1, .int q2.1], hp X G q5.2) _
  refine ab_U.ic_eq rfl (fun b7 => ?_) (fun b7 => ?_)
  · rw [if_pos b7] at hf
    obtain rfl := Option.some.inj hf
    exact k1 rfl
  · rw [if_neg b7] at hf
    refine ab_U.run 1 (S' := (1166, [some (.ref 0), some (.ref 100), some (.ref 232), some (.int l3)], [.int 0], hp X G q5.2)) rfl ?_
    obtain rfl := Option.some.inj hf
    exact ab_U.ret rfl rfl (k0 rfl)
set_option maxRecDepth 20000 in
def lc_32 (F : Nat) (X : Nat × (Nat → Int32)) (l3 : Int32) (μ : fm_M) : Option (Int32 × fm_M) := (if ab_in (l3 + 1) X.1 = true then (if ab_in (l3 + 2) X.1 = true then (if ab_in (l3 + 3) X.1 = true then (Option.bind (f_X8_drift F (X.2 (l3 + 1).toNatClampNeg) (X.2 (l3 + 2).toNatClampNeg) (X.2 (l3 + 3).toNatClampNeg) μ) (fun q4 => (if ab_in (l3 + 1) X.1 = true then (if ab_in (l3 + 2) X.1 = true then (if ab_in (l3 + 3) X.1 = true then (Option.bind (f_X9_drift F (X.2 (l3 + 1).toNatClampNeg) (X.2 (l3 + 2).toNatClampNeg) (X.2 (l3 + 3).toNatClampNeg) q4.2) (fun q9 => (if q4.1 = q9.1 then some (1, q9.2) else some (0, q9.2)))) else none) else none) else none))) else none) else none) else none)
set_option maxRecDepth 20000 in
theorem tc_32 {X : Nat × (Nat → Int32)} {G : Nat → Nat → Option Nat} (hG : fm_Gok G) {F : Nat} {l3 : Int32} {μ : fm_M} {q : Int32 × fm_M} {Q : Option Value → ab_H → Prop} (hf : lc_32 F X l3 μ = some q) (k1 : q.1 = 1 → ab_U 346 (some .boolean) kL_law (1431, [some (.ref 0), some (.ref 100), some (.ref 232), some (.int l3)], [], hp X G q.2) Q) (k0 : q.1 = 0 → Q (some (.int 0)) (hp X G q.2)) : ab_U 346 (some .boolean) kL_law (1167, [some (.ref 0), some (.ref 100), some (.ref 232), some (.int l3)], [], hp X G μ) Q := by
  unfold lc_32 at hf
  refine ab_U.run 5 (S' := (1172, [some (.ref 0), some (.ref 100), some (.ref 232), some (.int l3)], [.int (l3 + 1), .ref 0, .ref 100], hp X G μ)) rfl ?_
  obtain ⟨c1, hf⟩ := ab_ifs hf
  refine ab_U.script rfl c1 ?_
  show ab_U _ _ _ (1173, [some (.ref 0), some (.ref 100), some (.ref 232), some (.int l3)], [.int (X.2 (l3 + 1).toNatClampNeg), .ref 100], hp X G μ) _
  refine ab_U.run 4 (S' := (1177, [some (.ref 0), some (.ref 100), some (.ref 232), some (.int l3)], [.int (l3 + 2), .ref 0, .int (X.2 (l3 + 1).toNatClampNeg), .ref 100], hp X G μ)) rfl ?_
  obtain ⟨c2, hf⟩ := ab_ifs hf
  refine ab_U.script rfl c2 ?_
  show ab_U _ _ _ (1178, [some (.ref 0), some (.ref 100), some (.ref 232), some (.int l3)], [.int (X.2 (l3 + 2).toNatClampNeg), .int (X.2 (l3 + 1).toNatClampNeg), .ref 100], hp X G μ) _
  refine ab_U.run 4 (S' := (1182, [some (.ref 0), some (.ref 100), some (.ref 232), some (.int l3)], [.int (l3 + 3), .ref 0, .int (X.2 (l3 + 2).toNatClampNeg), .int (X.2 (l3 + 1).toNatClampNeg), .ref 100], hp X G μ)) rfl ?_
  obtain ⟨c3, hf⟩ := ab_ifs hf
  refine ab_U.script rfl c3 ?_
  show ab_U _ _ _ (1183, [some (.ref 0), some (.ref 100), some (.ref 232), some (.int l3)], [.int (X.2 (l3 + 3).toNatClampNeg), .int (X.2 (l3 + 2).toNatClampNeg), .int (X.2 (l3 + 1).toNatClampNeg), .ref 100], hp X G μ) _
  obtain ⟨q4, h5, hf⟩ := ab_bnd hf
  refine ab_U.fn rfl rfl (t_X8_drift (X := X) hG h5) (by omega) ?_
  show ab_U _ _ _ (1186, [some (.ref 0), some (.ref 100), some (.ref 232), some (.int l3)], [.int q4.1], hp X G q4.2) _
  refine ab_U.run 5 (S' := (1191, [some (.ref 0), some (.ref 100), some (.ref 232), some (.int l3)], [.int (l3 + 1), .ref 0, .ref 232, .int q4.1], hp X G q4.2)) rfl ?_
  obtain ⟨c6, hf⟩ := ab_ifs hf
  refine ab_U.script rfl c6 ?_
  show ab_U _ _ _ (1192, [some (.ref 0), some (.ref 100), some (.ref 232), some (.int l3)], [.int (X.2 (l3 + 1).toNatClampNeg), .ref 232, .int q4.1], hp X G q4.2) _
  refine ab_U.run 4 (S' := (1196, [some (.ref 0), some (.ref 100), some (.ref 232), some (.int l3)], [.int (l3 + 2), .ref 0, .int (X.2 (l3 + 1).toNatClampNeg), .ref 232, .int q4.1], hp X G q4.2)) rfl ?_
  obtain ⟨c7, hf⟩ := ab_ifs hf
  refine ab_U.script rfl c7 ?_
  show ab_U _ _ _ (1197, [some (.ref 0), some (.ref 100), some (.ref 232), some (.int l3)], [.int (X.2 (l3 + 2).toNatClampNeg), .int (X.2 (l3 + 1).toNatClampNeg), .ref 232, .int q4.1], hp X G q4.2) _
  refine ab_U.run 4 (S' := (1201, [some (.ref 0), some (.ref 100), some (.ref 232), some (.int l3)], [.int (l3 + 3), .ref 0, .int (X.2 (l3 + 2).toNatClampNeg), .int (X.2 (l3 + 1).toNatClampNeg), .ref 232, .int q4.1], hp X G q4.2)) rfl ?_
  obtain ⟨c8, hf⟩ := ab_ifs hf
  refine ab_U.script rfl c8 ?_
  show ab_U _ _ _ (1202, [some (.ref 0), some (.ref 100), some (.ref 232), some (.int l3)], [.int (X.2 (l3 + 3).toNatClampNeg), .int (X.2 (l3 + 2).toNatClampNeg), .int (X.2 (l3 + 1).toNatClampNeg), .ref 232, .int q4.1], hp X G q4.2) _
  obtain ⟨q9, h10, hf⟩ := ab_bnd hf
  refine ab_U.fn rfl rfl (t_X9_drift (X := X) hG h10) (by omega) ?_
  show ab_U _ _ _ (1205, [some (.ref 0), some (.ref 100), some (.ref 232), some (.int l3)], [.int q9.1, .int q4.1], hp X G q9.2) _
  refine ab_U.ic_eq rfl (fun b11 => ?_) (fun b11 => ?_)
  · rw [if_pos b11] at hf
    obtain rfl := Option.some.inj hf
    exact k1 rfl
  · rw [if_neg b11] at hf
    refine ab_U.run 1 (S' := (1209, [some (.ref 0), some (.ref 100), some (.ref 232), some (.int l3)], [.int 0], hp X G q9.2)) rfl ?_
    obtain rfl := Option.some.inj hf
    exact ab_U.ret rfl rfl (k0 rfl)
set_option maxRecDepth 20000 in
def lc_33 (F : Nat) (X : Nat × (Nat → Int32)) (l3 : Int32) (μ : fm_M) : Option (Int32 × fm_M) := (if ab_in (l3 + 1) X.1 = true then (Option.bind (f_X8_keep F (X.2 (l3 + 1).toNatClampNeg) μ) (fun q2 => (if ab_in (l3 + 1) X.1 = true then (Option.bind (f_X9_keep F (X.2 (l3 + 1).toNatClampNeg) q2.2) (fun q5 => (if q2.1 = q5.1 then some (1, q5.2) else some (0, q5.2)))) else none))) else none)
set_option maxRecDepth 20000 in
theorem tc_33 {X : Nat × (Nat → Int32)} {G : Nat → Nat → Option Nat} (hG : fm_Gok G) {F : Nat} {l3 : Int32} {μ : fm_M} {q : Int32 × fm_M} {Q : Option Value → ab_H → Prop} (hf : lc_33 F X l3 μ = some q) (k1 : q.1 = 1 → ab_U 346 (some .boolean) kL_law (1431, [some (.ref 0), some (.ref 100), some (.ref 232), some (.int l3)], [], hp X G q.2) Q) (k0 : q.1 = 0 → Q (some (.int 0)) (hp X G q.2)) : ab_U 346 (some .boolean) kL_law (1210, [some (.ref 0), some (.ref 100), some (.ref 232), some (.int l3)], [], hp X G μ) Q := by
  unfold lc_33 at hf
  refine ab_U.run 5 (S' := (1215, [some (.ref 0), some (.ref 100), some (.ref 232), some (.int l3)], [.int (l3 + 1), .ref 0, .ref 100], hp X G μ)) rfl ?_
  obtain ⟨c1, hf⟩ := ab_ifs hf
  refine ab_U.script rfl c1 ?_
  show ab_U _ _ _ (1216, [some (.ref 0), some (.ref 100), some (.ref 232), some (.int l3)], [.int (X.2 (l3 + 1).toNatClampNeg), .ref 100], hp X G μ) _
  obtain ⟨q2, h3, hf⟩ := ab_bnd hf
  refine ab_U.fn rfl rfl (t_X8_keep (X := X) hG h3) (by omega) ?_
  show ab_U _ _ _ (1219, [some (.ref 0), some (.ref 100), some (.ref 232), some (.int l3)], [.int q2.1], hp X G q2.2) _
  refine ab_U.run 5 (S' := (1224, [some (.ref 0), some (.ref 100), some (.ref 232), some (.int l3)], [.int (l3 + 1), .ref 0, .ref 232, .int q2.1], hp X G q2.2)) rfl ?_
  obtain ⟨c4, hf⟩ := ab_ifs hf
  refine ab_U.script rfl c4 ?_
  show ab_U _ _ _ (1225, [some (.ref 0), some (.ref 100), some (.ref 232), some (.int l3)], [.int (X.2 (l3 + 1).toNatClampNeg), .ref 232, .int q2.1], hp X G q2.2) _
  obtain ⟨q5, h6, hf⟩ := ab_bnd hf
  refine ab_U.fn rfl rfl (t_X9_keep (X := X) hG h6) (by omega) ?_
  show ab_U _ _ _ (1228, [some (.ref 0), some (.ref 100), some (.ref 232), some (.int l3)], [.int q5.1, .int q2.1], hp X G q5.2) _
  refine ab_U.ic_eq rfl (fun b7 => ?_) (fun b7 => ?_)
  · rw [if_pos b7] at hf
    obtain rfl := Option.some.inj hf
    exact k1 rfl
  · rw [if_neg b7] at hf
    refine ab_U.run 1 (S' := (1232, [some (.ref 0), some (.ref 100), some (.ref 232), some (.int l3)], [.int 0], hp X G q5.2)) rfl ?_
    obtain rfl := Option.some.inj hf
    exact ab_U.ret rfl rfl (k0 rfl)
set_option maxRecDepth 20000 in
def lc_34 (F : Nat) (X : Nat × (Nat → Int32)) (l3 : Int32) (μ : fm_M) : Option (Int32 × fm_M) := (if ab_in (l3 + 1) X.1 = true then (Option.bind (f_X8_back F (X.2 (l3 + 1).toNatClampNeg) μ) (fun q2 => (if ab_in (l3 + 1) X.1 = true then (Option.bind (f_X9_back F (X.2 (l3 + 1).toNatClampNeg) q2.2) (fun q5 => (if q2.1 = q5.1 then some (1, q5.2) else some (0, q5.2)))) else none))) else none)
set_option maxRecDepth 20000 in
theorem tc_34 {X : Nat × (Nat → Int32)} {G : Nat → Nat → Option Nat} (hG : fm_Gok G) {F : Nat} {l3 : Int32} {μ : fm_M} {q : Int32 × fm_M} {Q : Option Value → ab_H → Prop} (hf : lc_34 F X l3 μ = some q) (k1 : q.1 = 1 → ab_U 346 (some .boolean) kL_law (1431, [some (.ref 0), some (.ref 100), some (.ref 232), some (.int l3)], [], hp X G q.2) Q) (k0 : q.1 = 0 → Q (some (.int 0)) (hp X G q.2)) : ab_U 346 (some .boolean) kL_law (1233, [some (.ref 0), some (.ref 100), some (.ref 232), some (.int l3)], [], hp X G μ) Q := by
  unfold lc_34 at hf
  refine ab_U.run 5 (S' := (1238, [some (.ref 0), some (.ref 100), some (.ref 232), some (.int l3)], [.int (l3 + 1), .ref 0, .ref 100], hp X G μ)) rfl ?_
  obtain ⟨c1, hf⟩ := ab_ifs hf
  refine ab_U.script rfl c1 ?_
  show ab_U _ _ _ (1239, [some (.ref 0), some (.ref 100), some (.ref 232), some (.int l3)], [.int (X.2 (l3 + 1).toNatClampNeg), .ref 100], hp X G μ) _
  obtain ⟨q2, h3, hf⟩ := ab_bnd hf
  refine ab_U.fn rfl rfl (t_X8_back (X := X) hG h3) (by omega) ?_
  show ab_U _ _ _ (1242, [some (.ref 0), some (.ref 100), some (.ref 232), some (.int l3)], [.int q2.1], hp X G q2.2) _
  refine ab_U.run 5 (S' := (1247, [some (.ref 0), some (.ref 100), some (.ref 232), some (.int l3)], [.int (l3 + 1), .ref 0, .ref 232, .int q2.1], hp X G q2.2)) rfl ?_
  obtain ⟨c4, hf⟩ := ab_ifs hf
  refine ab_U.script rfl c4 ?_
  show ab_U _ _ _ (1248, [some (.ref 0), some (.ref 100), some (.ref 232), some (.int l3)], [.int (X.2 (l3 + 1).toNatClampNeg), .ref 232, .int q2.1], hp X G q2.2) _
  obtain ⟨q5, h6, hf⟩ := ab_bnd hf
  refine ab_U.fn rfl rfl (t_X9_back (X := X) hG h6) (by omega) ?_
  show ab_U _ _ _ (1251, [some (.ref 0), some (.ref 100), some (.ref 232), some (.int l3)], [.int q5.1, .int q2.1], hp X G q5.2) _
  refine ab_U.ic_eq rfl (fun b7 => ?_) (fun b7 => ?_)
  · rw [if_pos b7] at hf
    obtain rfl := Option.some.inj hf
    exact k1 rfl
  · rw [if_neg b7] at hf
    refine ab_U.run 1 (S' := (1255, [some (.ref 0), some (.ref 100), some (.ref 232), some (.int l3)], [.int 0], hp X G q5.2)) rfl ?_
    obtain rfl := Option.some.inj hf
    exact ab_U.ret rfl rfl (k0 rfl)
set_option maxRecDepth 20000 in
def lc_35 (F : Nat) (X : Nat × (Nat → Int32)) (l3 : Int32) (μ : fm_M) : Option (Int32 × fm_M) := (if ab_in (l3 + 1) X.1 = true then (if ab_in (l3 + 2) X.1 = true then (if ab_in (l3 + 3) X.1 = true then (Option.bind (f_X8_sheet F (X.2 (l3 + 1).toNatClampNeg) (X.2 (l3 + 2).toNatClampNeg) (X.2 (l3 + 3).toNatClampNeg) μ) (fun q4 => (if ab_in (l3 + 1) X.1 = true then (if ab_in (l3 + 2) X.1 = true then (if ab_in (l3 + 3) X.1 = true then (Option.bind (f_X9_sheet F (X.2 (l3 + 1).toNatClampNeg) (X.2 (l3 + 2).toNatClampNeg) (X.2 (l3 + 3).toNatClampNeg) q4.2) (fun q9 => (if q4.1 = q9.1 then some (1, q9.2) else some (0, q9.2)))) else none) else none) else none))) else none) else none) else none)
set_option maxRecDepth 20000 in
theorem tc_35 {X : Nat × (Nat → Int32)} {G : Nat → Nat → Option Nat} (hG : fm_Gok G) {F : Nat} {l3 : Int32} {μ : fm_M} {q : Int32 × fm_M} {Q : Option Value → ab_H → Prop} (hf : lc_35 F X l3 μ = some q) (k1 : q.1 = 1 → ab_U 346 (some .boolean) kL_law (1431, [some (.ref 0), some (.ref 100), some (.ref 232), some (.int l3)], [], hp X G q.2) Q) (k0 : q.1 = 0 → Q (some (.int 0)) (hp X G q.2)) : ab_U 346 (some .boolean) kL_law (1256, [some (.ref 0), some (.ref 100), some (.ref 232), some (.int l3)], [], hp X G μ) Q := by
  unfold lc_35 at hf
  refine ab_U.run 5 (S' := (1261, [some (.ref 0), some (.ref 100), some (.ref 232), some (.int l3)], [.int (l3 + 1), .ref 0, .ref 100], hp X G μ)) rfl ?_
  obtain ⟨c1, hf⟩ := ab_ifs hf
  refine ab_U.script rfl c1 ?_
  show ab_U _ _ _ (1262, [some (.ref 0), some (.ref 100), some (.ref 232), some (.int l3)], [.int (X.2 (l3 + 1).toNatClampNeg), .ref 100], hp X G μ) _
  refine ab_U.run 4 (S' := (1266, [some (.ref 0), some (.ref 100), some (.ref 232), some (.int l3)], [.int (l3 + 2), .ref 0, .int (X.2 (l3 + 1).toNatClampNeg), .ref 100], hp X G μ)) rfl ?_
  obtain ⟨c2, hf⟩ := ab_ifs hf
  refine ab_U.script rfl c2 ?_
  show ab_U _ _ _ (1267, [some (.ref 0), some (.ref 100), some (.ref 232), some (.int l3)], [.int (X.2 (l3 + 2).toNatClampNeg), .int (X.2 (l3 + 1).toNatClampNeg), .ref 100], hp X G μ) _
  refine ab_U.run 4 (S' := (1271, [some (.ref 0), some (.ref 100), some (.ref 232), some (.int l3)], [.int (l3 + 3), .ref 0, .int (X.2 (l3 + 2).toNatClampNeg), .int (X.2 (l3 + 1).toNatClampNeg), .ref 100], hp X G μ)) rfl ?_
  obtain ⟨c3, hf⟩ := ab_ifs hf
  refine ab_U.script rfl c3 ?_
  show ab_U _ _ _ (1272, [some (.ref 0), some (.ref 100), some (.ref 232), some (.int l3)], [.int (X.2 (l3 + 3).toNatClampNeg), .int (X.2 (l3 + 2).toNatClampNeg), .int (X.2 (l3 + 1).toNatClampNeg), .ref 100], hp X G μ) _
  obtain ⟨q4, h5, hf⟩ := ab_bnd hf
  refine ab_U.fn rfl rfl (t_X8_sheet (X := X) hG h5) (by omega) ?_
  show ab_U _ _ _ (1275, [some (.ref 0), some (.ref 100), some (.ref 232), some (.int l3)], [.int q4.1], hp X G q4.2) _
  refine ab_U.run 5 (S' := (1280, [some (.ref 0), some (.ref 100), some (.ref 232), some (.int l3)], [.int (l3 + 1), .ref 0, .ref 232, .int q4.1], hp X G q4.2)) rfl ?_
  obtain ⟨c6, hf⟩ := ab_ifs hf
  refine ab_U.script rfl c6 ?_
  show ab_U _ _ _ (1281, [some (.ref 0), some (.ref 100), some (.ref 232), some (.int l3)], [.int (X.2 (l3 + 1).toNatClampNeg), .ref 232, .int q4.1], hp X G q4.2) _
  refine ab_U.run 4 (S' := (1285, [some (.ref 0), some (.ref 100), some (.ref 232), some (.int l3)], [.int (l3 + 2), .ref 0, .int (X.2 (l3 + 1).toNatClampNeg), .ref 232, .int q4.1], hp X G q4.2)) rfl ?_
  obtain ⟨c7, hf⟩ := ab_ifs hf
  refine ab_U.script rfl c7 ?_
  show ab_U _ _ _ (1286, [some (.ref 0), some (.ref 100), some (.ref 232), some (.int l3)], [.int (X.2 (l3 + 2).toNatClampNeg), .int (X.2 (l3 + 1).toNatClampNeg), .ref 232, .int q4.1], hp X G q4.2) _
  refine ab_U.run 4 (S' := (1290, [some (.ref 0), some (.ref 100), some (.ref 232), some (.int l3)], [.int (l3 + 3), .ref 0, .int (X.2 (l3 + 2).toNatClampNeg), .int (X.2 (l3 + 1).toNatClampNeg), .ref 232, .int q4.1], hp X G q4.2)) rfl ?_
  obtain ⟨c8, hf⟩ := ab_ifs hf
  refine ab_U.script rfl c8 ?_
  show ab_U _ _ _ (1291, [some (.ref 0), some (.ref 100), some (.ref 232), some (.int l3)], [.int (X.2 (l3 + 3).toNatClampNeg), .int (X.2 (l3 + 2).toNatClampNeg), .int (X.2 (l3 + 1).toNatClampNeg), .ref 232, .int q4.1], hp X G q4.2) _
  obtain ⟨q9, h10, hf⟩ := ab_bnd hf
  refine ab_U.fn rfl rfl (t_X9_sheet (X := X) hG h10) (by omega) ?_
  show ab_U _ _ _ (1294, [some (.ref 0), some (.ref 100), some (.ref 232), some (.int l3)], [.int q9.1, .int q4.1], hp X G q9.2) _
  refine ab_U.ic_eq rfl (fun b11 => ?_) (fun b11 => ?_)
  · rw [if_pos b11] at hf
    obtain rfl := Option.some.inj hf
    exact k1 rfl
  · rw [if_neg b11] at hf
    refine ab_U.run 1 (S' := (1298, [some (.ref 0), some (.ref 100), some (.ref 232), some (.int l3)], [.int 0], hp X G q9.2)) rfl ?_
    obtain rfl := Option.some.inj hf
    exact ab_U.ret rfl rfl (k0 rfl)
set_option maxRecDepth 20000 in
def lc_36 (F : Nat) (X : Nat × (Nat → Int32)) (l3 : Int32) (μ : fm_M) : Option (Int32 × fm_M) := (if ab_in (l3 + 1) X.1 = true then (if ab_in (l3 + 2) X.1 = true then (if ab_in (l3 + 3) X.1 = true then (Option.bind (f_X8_lay F (X.2 (l3 + 1).toNatClampNeg) (X.2 (l3 + 2).toNatClampNeg) (X.2 (l3 + 3).toNatClampNeg) μ) (fun q4 => (if ab_in (l3 + 1) X.1 = true then (if ab_in (l3 + 2) X.1 = true then (if ab_in (l3 + 3) X.1 = true then (Option.bind (f_X9_lay F (X.2 (l3 + 1).toNatClampNeg) (X.2 (l3 + 2).toNatClampNeg) (X.2 (l3 + 3).toNatClampNeg) q4.2) (fun q9 => (if q4.1 = q9.1 then some (1, q9.2) else some (0, q9.2)))) else none) else none) else none))) else none) else none) else none)
set_option maxRecDepth 20000 in
theorem tc_36 {X : Nat × (Nat → Int32)} {G : Nat → Nat → Option Nat} (hG : fm_Gok G) {F : Nat} {l3 : Int32} {μ : fm_M} {q : Int32 × fm_M} {Q : Option Value → ab_H → Prop} (hf : lc_36 F X l3 μ = some q) (k1 : q.1 = 1 → ab_U 346 (some .boolean) kL_law (1431, [some (.ref 0), some (.ref 100), some (.ref 232), some (.int l3)], [], hp X G q.2) Q) (k0 : q.1 = 0 → Q (some (.int 0)) (hp X G q.2)) : ab_U 346 (some .boolean) kL_law (1299, [some (.ref 0), some (.ref 100), some (.ref 232), some (.int l3)], [], hp X G μ) Q := by
  unfold lc_36 at hf
  refine ab_U.run 5 (S' := (1304, [some (.ref 0), some (.ref 100), some (.ref 232), some (.int l3)], [.int (l3 + 1), .ref 0, .ref 100], hp X G μ)) rfl ?_
  obtain ⟨c1, hf⟩ := ab_ifs hf
  refine ab_U.script rfl c1 ?_
  show ab_U _ _ _ (1305, [some (.ref 0), some (.ref 100), some (.ref 232), some (.int l3)], [.int (X.2 (l3 + 1).toNatClampNeg), .ref 100], hp X G μ) _
  refine ab_U.run 4 (S' := (1309, [some (.ref 0), some (.ref 100), some (.ref 232), some (.int l3)], [.int (l3 + 2), .ref 0, .int (X.2 (l3 + 1).toNatClampNeg), .ref 100], hp X G μ)) rfl ?_
  obtain ⟨c2, hf⟩ := ab_ifs hf
  refine ab_U.script rfl c2 ?_
  show ab_U _ _ _ (1310, [some (.ref 0), some (.ref 100), some (.ref 232), some (.int l3)], [.int (X.2 (l3 + 2).toNatClampNeg), .int (X.2 (l3 + 1).toNatClampNeg), .ref 100], hp X G μ) _
  refine ab_U.run 4 (S' := (1314, [some (.ref 0), some (.ref 100), some (.ref 232), some (.int l3)], [.int (l3 + 3), .ref 0, .int (X.2 (l3 + 2).toNatClampNeg), .int (X.2 (l3 + 1).toNatClampNeg), .ref 100], hp X G μ)) rfl ?_
  obtain ⟨c3, hf⟩ := ab_ifs hf
  refine ab_U.script rfl c3 ?_
  show ab_U _ _ _ (1315, [some (.ref 0), some (.ref 100), some (.ref 232), some (.int l3)], [.int (X.2 (l3 + 3).toNatClampNeg), .int (X.2 (l3 + 2).toNatClampNeg), .int (X.2 (l3 + 1).toNatClampNeg), .ref 100], hp X G μ) _
  obtain ⟨q4, h5, hf⟩ := ab_bnd hf
  refine ab_U.fn rfl rfl (t_X8_lay (X := X) hG h5) (by omega) ?_
  show ab_U _ _ _ (1318, [some (.ref 0), some (.ref 100), some (.ref 232), some (.int l3)], [.int q4.1], hp X G q4.2) _
  refine ab_U.run 5 (S' := (1323, [some (.ref 0), some (.ref 100), some (.ref 232), some (.int l3)], [.int (l3 + 1), .ref 0, .ref 232, .int q4.1], hp X G q4.2)) rfl ?_
  obtain ⟨c6, hf⟩ := ab_ifs hf
  refine ab_U.script rfl c6 ?_
  show ab_U _ _ _ (1324, [some (.ref 0), some (.ref 100), some (.ref 232), some (.int l3)], [.int (X.2 (l3 + 1).toNatClampNeg), .ref 232, .int q4.1], hp X G q4.2) _
  refine ab_U.run 4 (S' := (1328, [some (.ref 0), some (.ref 100), some (.ref 232), some (.int l3)], [.int (l3 + 2), .ref 0, .int (X.2 (l3 + 1).toNatClampNeg), .ref 232, .int q4.1], hp X G q4.2)) rfl ?_
  obtain ⟨c7, hf⟩ := ab_ifs hf
  refine ab_U.script rfl c7 ?_
  show ab_U _ _ _ (1329, [some (.ref 0), some (.ref 100), some (.ref 232), some (.int l3)], [.int (X.2 (l3 + 2).toNatClampNeg), .int (X.2 (l3 + 1).toNatClampNeg), .ref 232, .int q4.1], hp X G q4.2) _
  refine ab_U.run 4 (S' := (1333, [some (.ref 0), some (.ref 100), some (.ref 232), some (.int l3)], [.int (l3 + 3), .ref 0, .int (X.2 (l3 + 2).toNatClampNeg), .int (X.2 (l3 + 1).toNatClampNeg), .ref 232, .int q4.1], hp X G q4.2)) rfl ?_
  obtain ⟨c8, hf⟩ := ab_ifs hf
  refine ab_U.script rfl c8 ?_
  show ab_U _ _ _ (1334, [some (.ref 0), some (.ref 100), some (.ref 232), some (.int l3)], [.int (X.2 (l3 + 3).toNatClampNeg), .int (X.2 (l3 + 2).toNatClampNeg), .int (X.2 (l3 + 1).toNatClampNeg), .ref 232, .int q4.1], hp X G q4.2) _
  obtain ⟨q9, h10, hf⟩ := ab_bnd hf
  refine ab_U.fn rfl rfl (t_X9_lay (X := X) hG h10) (by omega) ?_
  show ab_U _ _ _ (1337, [some (.ref 0), some (.ref 100), some (.ref 232), some (.int l3)], [.int q9.1, .int q4.1], hp X G q9.2) _
  refine ab_U.ic_eq rfl (fun b11 => ?_) (fun b11 => ?_)
  · rw [if_pos b11] at hf
    obtain rfl := Option.some.inj hf
    exact k1 rfl
  · rw [if_neg b11] at hf
    refine ab_U.run 1 (S' := (1341, [some (.ref 0), some (.ref 100), some (.ref 232), some (.int l3)], [.int 0], hp X G q9.2)) rfl ?_
    obtain rfl := Option.some.inj hf
    exact ab_U.ret rfl rfl (k0 rfl)
set_option maxRecDepth 20000 in
def lc_37 (F : Nat) (X : Nat × (Nat → Int32)) (l3 : Int32) (μ : fm_M) : Option (Int32 × fm_M) := (if ab_in (l3 + 1) X.1 = true then (if ab_in (l3 + 2) X.1 = true then (if ab_in (l3 + 3) X.1 = true then (if ab_in (l3 + 4) X.1 = true then (Option.bind (f_X8_read F (X.2 (l3 + 1).toNatClampNeg) (X.2 (l3 + 2).toNatClampNeg) (X.2 (l3 + 3).toNatClampNeg) (X.2 (l3 + 4).toNatClampNeg) μ) (fun q5 => (if ab_in (l3 + 1) X.1 = true then (if ab_in (l3 + 2) X.1 = true then (if ab_in (l3 + 3) X.1 = true then (if ab_in (l3 + 4) X.1 = true then (Option.bind (f_X9_read F (X.2 (l3 + 1).toNatClampNeg) (X.2 (l3 + 2).toNatClampNeg) (X.2 (l3 + 3).toNatClampNeg) (X.2 (l3 + 4).toNatClampNeg) q5.2) (fun q11 => (if q5.1 = q11.1 then some (1, q11.2) else some (0, q11.2)))) else none) else none) else none) else none))) else none) else none) else none) else none)
set_option maxRecDepth 20000 in
theorem tc_37 {X : Nat × (Nat → Int32)} {G : Nat → Nat → Option Nat} (hG : fm_Gok G) {F : Nat} {l3 : Int32} {μ : fm_M} {q : Int32 × fm_M} {Q : Option Value → ab_H → Prop} (hf : lc_37 F X l3 μ = some q) (k1 : q.1 = 1 → ab_U 346 (some .boolean) kL_law (1431, [some (.ref 0), some (.ref 100), some (.ref 232), some (.int l3)], [], hp X G q.2) Q) (k0 : q.1 = 0 → Q (some (.int 0)) (hp X G q.2)) : ab_U 346 (some .boolean) kL_law (1342, [some (.ref 0), some (.ref 100), some (.ref 232), some (.int l3)], [], hp X G μ) Q := by
  unfold lc_37 at hf
  refine ab_U.run 5 (S' := (1347, [some (.ref 0), some (.ref 100), some (.ref 232), some (.int l3)], [.int (l3 + 1), .ref 0, .ref 100], hp X G μ)) rfl ?_
  obtain ⟨c1, hf⟩ := ab_ifs hf
  refine ab_U.script rfl c1 ?_
  show ab_U _ _ _ (1348, [some (.ref 0), some (.ref 100), some (.ref 232), some (.int l3)], [.int (X.2 (l3 + 1).toNatClampNeg), .ref 100], hp X G μ) _
  refine ab_U.run 4 (S' := (1352, [some (.ref 0), some (.ref 100), some (.ref 232), some (.int l3)], [.int (l3 + 2), .ref 0, .int (X.2 (l3 + 1).toNatClampNeg), .ref 100], hp X G μ)) rfl ?_
  obtain ⟨c2, hf⟩ := ab_ifs hf
  refine ab_U.script rfl c2 ?_
  show ab_U _ _ _ (1353, [some (.ref 0), some (.ref 100), some (.ref 232), some (.int l3)], [.int (X.2 (l3 + 2).toNatClampNeg), .int (X.2 (l3 + 1).toNatClampNeg), .ref 100], hp X G μ) _
  refine ab_U.run 4 (S' := (1357, [some (.ref 0), some (.ref 100), some (.ref 232), some (.int l3)], [.int (l3 + 3), .ref 0, .int (X.2 (l3 + 2).toNatClampNeg), .int (X.2 (l3 + 1).toNatClampNeg), .ref 100], hp X G μ)) rfl ?_
  obtain ⟨c3, hf⟩ := ab_ifs hf
  refine ab_U.script rfl c3 ?_
  show ab_U _ _ _ (1358, [some (.ref 0), some (.ref 100), some (.ref 232), some (.int l3)], [.int (X.2 (l3 + 3).toNatClampNeg), .int (X.2 (l3 + 2).toNatClampNeg), .int (X.2 (l3 + 1).toNatClampNeg), .ref 100], hp X G μ) _
  refine ab_U.run 4 (S' := (1362, [some (.ref 0), some (.ref 100), some (.ref 232), some (.int l3)], [.int (l3 + 4), .ref 0, .int (X.2 (l3 + 3).toNatClampNeg), .int (X.2 (l3 + 2).toNatClampNeg), .int (X.2 (l3 + 1).toNatClampNeg), .ref 100], hp X G μ)) rfl ?_
  obtain ⟨c4, hf⟩ := ab_ifs hf
  refine ab_U.script rfl c4 ?_
  show ab_U _ _ _ (1363, [some (.ref 0), some (.ref 100), some (.ref 232), some (.int l3)], [.int (X.2 (l3 + 4).toNatClampNeg), .int (X.2 (l3 + 3).toNatClampNeg), .int (X.2 (l3 + 2).toNatClampNeg), .int (X.2 (l3 + 1).toNatClampNeg), .ref 100], hp X G μ) _
  obtain ⟨q5, h6, hf⟩ := ab_bnd hf
  refine ab_U.fn rfl rfl (t_X8_read (X := X) hG h6) (by omega) ?_
  show ab_U _ _ _ (1366, [some (.ref 0), some (.ref 100), some (.ref 232), some (.int l3)], [.int q5.1], hp X G q5.2) _
  refine ab_U.run 5 (S' := (1371, [some (.ref 0), some (.ref 100), some (.ref 232), some (.int l3)], [.int (l3 + 1), .ref 0, .ref 232, .int q5.1], hp X G q5.2)) rfl ?_
  obtain ⟨c7, hf⟩ := ab_ifs hf
  refine ab_U.script rfl c7 ?_
  show ab_U _ _ _ (1372, [some (.ref 0), some (.ref 100), some (.ref 232), some (.int l3)], [.int (X.2 (l3 + 1).toNatClampNeg), .ref 232, .int q5.1], hp X G q5.2) _
  refine ab_U.run 4 (S' := (1376, [some (.ref 0), some (.ref 100), some (.ref 232), some (.int l3)], [.int (l3 + 2), .ref 0, .int (X.2 (l3 + 1).toNatClampNeg), .ref 232, .int q5.1], hp X G q5.2)) rfl ?_
  obtain ⟨c8, hf⟩ := ab_ifs hf
  refine ab_U.script rfl c8 ?_
  show ab_U _ _ _ (1377, [some (.ref 0), some (.ref 100), some (.ref 232), some (.int l3)], [.int (X.2 (l3 + 2).toNatClampNeg), .int (X.2 (l3 + 1).toNatClampNeg), .ref 232, .int q5.1], hp X G q5.2) _
  refine ab_U.run 4 (S' := (1381, [some (.ref 0), some (.ref 100), some (.ref 232), some (.int l3)], [.int (l3 + 3), .ref 0, .int (X.2 (l3 + 2).toNatClampNeg), .int (X.2 (l3 + 1).toNatClampNeg), .ref 232, .int q5.1], hp X G q5.2)) rfl ?_
  obtain ⟨c9, hf⟩ := ab_ifs hf
  refine ab_U.script rfl c9 ?_
  show ab_U _ _ _ (1382, [some (.ref 0), some (.ref 100), some (.ref 232), some (.int l3)], [.int (X.2 (l3 + 3).toNatClampNeg), .int (X.2 (l3 + 2).toNatClampNeg), .int (X.2 (l3 + 1).toNatClampNeg), .ref 232, .int q5.1], hp X G q5.2) _
  refine ab_U.run 4 (S' := (1386, [some (.ref 0), some (.ref 100), some (.ref 232), some (.int l3)], [.int (l3 + 4), .ref 0, .int (X.2 (l3 + 3).toNatClampNeg), .int (X.2 (l3 + 2).toNatClampNeg), .int (X.2 (l3 + 1).toNatClampNeg), .ref 232, .int q5.1], hp X G q5.2)) rfl ?_
  obtain ⟨c10, hf⟩ := ab_ifs hf
  refine ab_U.script rfl c10 ?_
  show ab_U _ _ _ (1387, [some (.ref 0), some (.ref 100), some (.ref 232), some (.int l3)], [.int (X.2 (l3 + 4).toNatClampNeg), .int (X.2 (l3 + 3).toNatClampNeg), .int (X.2 (l3 + 2).toNatClampNeg), .int (X.2 (l3 + 1).toNatClampNeg), .ref 232, .int q5.1], hp X G q5.2) _
  obtain ⟨q11, h12, hf⟩ := ab_bnd hf
  refine ab_U.fn rfl rfl (t_X9_read (X := X) hG h12) (by omega) ?_
  show ab_U _ _ _ (1390, [some (.ref 0), some (.ref 100), some (.ref 232), some (.int l3)], [.int q11.1, .int q5.1], hp X G q11.2) _
  refine ab_U.ic_eq rfl (fun b13 => ?_) (fun b13 => ?_)
  · rw [if_pos b13] at hf
    obtain rfl := Option.some.inj hf
    exact k1 rfl
  · rw [if_neg b13] at hf
    refine ab_U.run 1 (S' := (1394, [some (.ref 0), some (.ref 100), some (.ref 232), some (.int l3)], [.int 0], hp X G q11.2)) rfl ?_
    obtain rfl := Option.some.inj hf
    exact ab_U.ret rfl rfl (k0 rfl)
set_option maxRecDepth 20000 in
def lc_38 (F : Nat) (X : Nat × (Nat → Int32)) (l3 : Int32) (μ : fm_M) : Option (Int32 × fm_M) := (Option.bind (f_X8_torn F μ) (fun q1 => (Option.bind (f_X9_torn F q1.2) (fun q3 => (if q1.1 = q3.1 then some (1, q3.2) else some (0, q3.2))))))
set_option maxRecDepth 20000 in
theorem tc_38 {X : Nat × (Nat → Int32)} {G : Nat → Nat → Option Nat} (hG : fm_Gok G) {F : Nat} {l3 : Int32} {μ : fm_M} {q : Int32 × fm_M} {Q : Option Value → ab_H → Prop} (hf : lc_38 F X l3 μ = some q) (k1 : q.1 = 1 → ab_U 346 (some .boolean) kL_law (1431, [some (.ref 0), some (.ref 100), some (.ref 232), some (.int l3)], [], hp X G q.2) Q) (k0 : q.1 = 0 → Q (some (.int 0)) (hp X G q.2)) : ab_U 346 (some .boolean) kL_law (1395, [some (.ref 0), some (.ref 100), some (.ref 232), some (.int l3)], [], hp X G μ) Q := by
  unfold lc_38 at hf
  refine ab_U.run 1 (S' := (1396, [some (.ref 0), some (.ref 100), some (.ref 232), some (.int l3)], [.ref 100], hp X G μ)) rfl ?_
  obtain ⟨q1, h2, hf⟩ := ab_bnd hf
  refine ab_U.fn rfl rfl (t_X8_torn (X := X) hG h2) (by omega) ?_
  show ab_U _ _ _ (1399, [some (.ref 0), some (.ref 100), some (.ref 232), some (.int l3)], [.int q1.1], hp X G q1.2) _
  refine ab_U.run 1 (S' := (1400, [some (.ref 0), some (.ref 100), some (.ref 232), some (.int l3)], [.ref 232, .int q1.1], hp X G q1.2)) rfl ?_
  obtain ⟨q3, h4, hf⟩ := ab_bnd hf
  refine ab_U.fn rfl rfl (t_X9_torn (X := X) hG h4) (by omega) ?_
  show ab_U _ _ _ (1403, [some (.ref 0), some (.ref 100), some (.ref 232), some (.int l3)], [.int q3.1, .int q1.1], hp X G q3.2) _
  refine ab_U.ic_eq rfl (fun b5 => ?_) (fun b5 => ?_)
  · rw [if_pos b5] at hf
    obtain rfl := Option.some.inj hf
    exact k1 rfl
  · rw [if_neg b5] at hf
    refine ab_U.run 1 (S' := (1407, [some (.ref 0), some (.ref 100), some (.ref 232), some (.int l3)], [.int 0], hp X G q3.2)) rfl ?_
    obtain rfl := Option.some.inj hf
    exact ab_U.ret rfl rfl (k0 rfl)
set_option maxRecDepth 20000 in
def lc_39 (F : Nat) (X : Nat × (Nat → Int32)) (l3 : Int32) (μ : fm_M) : Option (Int32 × fm_M) := (if ab_in (l3 + 1) X.1 = true then (Option.bind (f_X8_count F (X.2 (l3 + 1).toNatClampNeg) μ) (fun q2 => (if ab_in (l3 + 1) X.1 = true then (Option.bind (f_X9_count F (X.2 (l3 + 1).toNatClampNeg) q2.2) (fun q5 => (if q2.1 = q5.1 then some (1, q5.2) else some (0, q5.2)))) else none))) else none)
set_option maxRecDepth 20000 in
theorem tc_39 {X : Nat × (Nat → Int32)} {G : Nat → Nat → Option Nat} (hG : fm_Gok G) {F : Nat} {l3 : Int32} {μ : fm_M} {q : Int32 × fm_M} {Q : Option Value → ab_H → Prop} (hf : lc_39 F X l3 μ = some q) (k1 : q.1 = 1 → ab_U 346 (some .boolean) kL_law (1431, [some (.ref 0), some (.ref 100), some (.ref 232), some (.int l3)], [], hp X G q.2) Q) (k0 : q.1 = 0 → Q (some (.int 0)) (hp X G q.2)) : ab_U 346 (some .boolean) kL_law (1408, [some (.ref 0), some (.ref 100), some (.ref 232), some (.int l3)], [], hp X G μ) Q := by
  unfold lc_39 at hf
  refine ab_U.run 5 (S' := (1413, [some (.ref 0), some (.ref 100), some (.ref 232), some (.int l3)], [.int (l3 + 1), .ref 0, .ref 100], hp X G μ)) rfl ?_
  obtain ⟨c1, hf⟩ := ab_ifs hf
  refine ab_U.script rfl c1 ?_
  show ab_U _ _ _ (1414, [some (.ref 0), some (.ref 100), some (.ref 232), some (.int l3)], [.int (X.2 (l3 + 1).toNatClampNeg), .ref 100], hp X G μ) _
  obtain ⟨q2, h3, hf⟩ := ab_bnd hf
  refine ab_U.fn rfl rfl (t_X8_count (X := X) hG h3) (by omega) ?_
  show ab_U _ _ _ (1417, [some (.ref 0), some (.ref 100), some (.ref 232), some (.int l3)], [.int q2.1], hp X G q2.2) _
  refine ab_U.run 5 (S' := (1422, [some (.ref 0), some (.ref 100), some (.ref 232), some (.int l3)], [.int (l3 + 1), .ref 0, .ref 232, .int q2.1], hp X G q2.2)) rfl ?_
  obtain ⟨c4, hf⟩ := ab_ifs hf
  refine ab_U.script rfl c4 ?_
  show ab_U _ _ _ (1423, [some (.ref 0), some (.ref 100), some (.ref 232), some (.int l3)], [.int (X.2 (l3 + 1).toNatClampNeg), .ref 232, .int q2.1], hp X G q2.2) _
  obtain ⟨q5, h6, hf⟩ := ab_bnd hf
  refine ab_U.fn rfl rfl (t_X9_count (X := X) hG h6) (by omega) ?_
  show ab_U _ _ _ (1426, [some (.ref 0), some (.ref 100), some (.ref 232), some (.int l3)], [.int q5.1, .int q2.1], hp X G q5.2) _
  refine ab_U.ic_eq rfl (fun b7 => ?_) (fun b7 => ?_)
  · rw [if_pos b7] at hf
    obtain rfl := Option.some.inj hf
    exact k1 rfl
  · rw [if_neg b7] at hf
    refine ab_U.run 1 (S' := (1430, [some (.ref 0), some (.ref 100), some (.ref 232), some (.int l3)], [.int 0], hp X G q5.2)) rfl ?_
    obtain rfl := Option.some.inj hf
    exact ab_U.ret rfl rfl (k0 rfl)
def lc (F : Nat) (X : Nat × (Nat → Int32)) (x l3 : Int32) (μ : fm_M) : Option (Int32 × fm_M) := if x.toInt < 0 ∨ 39 < x.toInt then some (1, μ) else if x.toInt = 0 then lc_0 F X l3 μ else if x.toInt = 1 then lc_1 F X l3 μ else if x.toInt = 2 then lc_2 F X l3 μ else if x.toInt = 3 then lc_3 F X l3 μ else if x.toInt = 4 then lc_4 F X l3 μ else if x.toInt = 5 then lc_5 F X l3 μ else if x.toInt = 6 then lc_6 F X l3 μ else if x.toInt = 7 then lc_7 F X l3 μ else if x.toInt = 8 then lc_8 F X l3 μ else if x.toInt = 9 then lc_9 F X l3 μ else if x.toInt = 10 then lc_10 F X l3 μ else if x.toInt = 11 then lc_11 F X l3 μ else if x.toInt = 12 then lc_12 F X l3 μ else if x.toInt = 13 then lc_13 F X l3 μ else if x.toInt = 14 then lc_14 F X l3 μ else if x.toInt = 15 then lc_15 F X l3 μ else if x.toInt = 16 then lc_16 F X l3 μ else if x.toInt = 17 then lc_17 F X l3 μ else if x.toInt = 18 then lc_18 F X l3 μ else if x.toInt = 19 then lc_19 F X l3 μ else if x.toInt = 20 then lc_20 F X l3 μ else if x.toInt = 21 then lc_21 F X l3 μ else if x.toInt = 22 then lc_22 F X l3 μ else if x.toInt = 23 then lc_23 F X l3 μ else if x.toInt = 24 then lc_24 F X l3 μ else if x.toInt = 25 then lc_25 F X l3 μ else if x.toInt = 26 then lc_26 F X l3 μ else if x.toInt = 27 then lc_27 F X l3 μ else if x.toInt = 28 then lc_28 F X l3 μ else if x.toInt = 29 then lc_29 F X l3 μ else if x.toInt = 30 then lc_30 F X l3 μ else if x.toInt = 31 then lc_31 F X l3 μ else if x.toInt = 32 then lc_32 F X l3 μ else if x.toInt = 33 then lc_33 F X l3 μ else if x.toInt = 34 then lc_34 F X l3 μ else if x.toInt = 35 then lc_35 F X l3 μ else if x.toInt = 36 then lc_36 F X l3 μ else if x.toInt = 37 then lc_37 F X l3 μ else if x.toInt = 38 then lc_38 F X l3 μ else lc_39 F X l3 μ
set_option maxRecDepth 20000 in
theorem tc {X : Nat × (Nat → Int32)} {G : Nat → Nat → Option Nat} (hG : fm_Gok G) {F : Nat} {x l3 : Int32} {μ : fm_M} {q : Int32 × fm_M} {Q : Option Value → ab_H → Prop} (hf : lc F X x l3 μ = some q) (k1 : q.1 = 1 → ab_U 346 (some .boolean) kL_law (1431, [some (.ref 0), some (.ref 100), some (.ref 232), some (.int l3)], [], hp X G q.2) Q) (k0 : q.1 = 0 → Q (some (.int 0)) (hp X G q.2)) : ab_U 346 (some .boolean) kL_law (32, [some (.ref 0), some (.ref 100), some (.ref 232), some (.int l3)], [.int x], hp X G μ) Q := by
  unfold lc at hf
  by_cases b : x.toInt < 0 ∨ 39 < x.toInt
  · rw [if_pos b] at hf
    obtain rfl := Option.some.inj hf
    exact ab_U.tswD rfl b (k1 rfl)
  rw [if_neg b] at hf
  by_cases b0 : x.toInt = 0
  · rw [if_pos b0] at hf
    exact ab_U.tswT (t := 208) rfl b (by rw [b0]; rfl) (tc_0 hG hf k1 k0)
  rw [if_neg b0] at hf
  by_cases b1 : x.toInt = 1
  · rw [if_pos b1] at hf
    exact ab_U.tswT (t := 231) rfl b (by rw [b1]; rfl) (tc_1 hG hf k1 k0)
  rw [if_neg b1] at hf
  by_cases b2 : x.toInt = 2
  · rw [if_pos b2] at hf
    exact ab_U.tswT (t := 254) rfl b (by rw [b2]; rfl) (tc_2 hG hf k1 k0)
  rw [if_neg b2] at hf
  by_cases b3 : x.toInt = 3
  · rw [if_pos b3] at hf
    exact ab_U.tswT (t := 267) rfl b (by rw [b3]; rfl) (tc_3 hG hf k1 k0)
  rw [if_neg b3] at hf
  by_cases b4 : x.toInt = 4
  · rw [if_pos b4] at hf
    exact ab_U.tswT (t := 280) rfl b (by rw [b4]; rfl) (tc_4 hG hf k1 k0)
  rw [if_neg b4] at hf
  by_cases b5 : x.toInt = 5
  · rw [if_pos b5] at hf
    exact ab_U.tswT (t := 303) rfl b (by rw [b5]; rfl) (tc_5 hG hf k1 k0)
  rw [if_neg b5] at hf
  by_cases b6 : x.toInt = 6
  · rw [if_pos b6] at hf
    exact ab_U.tswT (t := 336) rfl b (by rw [b6]; rfl) (tc_6 hG hf k1 k0)
  rw [if_neg b6] at hf
  by_cases b7 : x.toInt = 7
  · rw [if_pos b7] at hf
    exact ab_U.tswT (t := 369) rfl b (by rw [b7]; rfl) (tc_7 hG hf k1 k0)
  rw [if_neg b7] at hf
  by_cases b8 : x.toInt = 8
  · rw [if_pos b8] at hf
    exact ab_U.tswT (t := 402) rfl b (by rw [b8]; rfl) (tc_8 hG hf k1 k0)
  rw [if_neg b8] at hf
  by_cases b9 : x.toInt = 9
  · rw [if_pos b9] at hf
    exact ab_U.tswT (t := 425) rfl b (by rw [b9]; rfl) (tc_9 hG hf k1 k0)
  rw [if_neg b9] at hf
  by_cases b10 : x.toInt = 10
  · rw [if_pos b10] at hf
    exact ab_U.tswT (t := 468) rfl b (by rw [b10]; rfl) (tc_10 hG hf k1 k0)
  rw [if_neg b10] at hf
  by_cases b11 : x.toInt = 11
  · rw [if_pos b11] at hf
    exact ab_U.tswT (t := 511) rfl b (by rw [b11]; rfl) (tc_11 hG hf k1 k0)
  rw [if_neg b11] at hf
  by_cases b12 : x.toInt = 12
  · rw [if_pos b12] at hf
    exact ab_U.tswT (t := 544) rfl b (by rw [b12]; rfl) (tc_12 hG hf k1 k0)
  rw [if_neg b12] at hf
  by_cases b13 : x.toInt = 13
  · rw [if_pos b13] at hf
    exact ab_U.tswT (t := 577) rfl b (by rw [b13]; rfl) (tc_13 hG hf k1 k0)
  rw [if_neg b13] at hf
  by_cases b14 : x.toInt = 14
  · rw [if_pos b14] at hf
    exact ab_U.tswT (t := 610) rfl b (by rw [b14]; rfl) (tc_14 hG hf k1 k0)
  rw [if_neg b14] at hf
  by_cases b15 : x.toInt = 15
  · rw [if_pos b15] at hf
    exact ab_U.tswT (t := 633) rfl b (by rw [b15]; rfl) (tc_15 hG hf k1 k0)
  rw [if_neg b15] at hf
  by_cases b16 : x.toInt = 16
  · rw [if_pos b16] at hf
    exact ab_U.tswT (t := 656) rfl b (by rw [b16]; rfl) (tc_16 hG hf k1 k0)
  rw [if_neg b16] at hf
  by_cases b17 : x.toInt = 17
  · rw [if_pos b17] at hf
    exact ab_U.tswT (t := 689) rfl b (by rw [b17]; rfl) (tc_17 hG hf k1 k0)
  rw [if_neg b17] at hf
  by_cases b18 : x.toInt = 18
  · rw [if_pos b18] at hf
    exact ab_U.tswT (t := 712) rfl b (by rw [b18]; rfl) (tc_18 hG hf k1 k0)
  rw [if_neg b18] at hf
  by_cases b19 : x.toInt = 19
  · rw [if_pos b19] at hf
    exact ab_U.tswT (t := 745) rfl b (by rw [b19]; rfl) (tc_19 hG hf k1 k0)
  rw [if_neg b19] at hf
  by_cases b20 : x.toInt = 20
  · rw [if_pos b20] at hf
    exact ab_U.tswT (t := 768) rfl b (by rw [b20]; rfl) (tc_20 hG hf k1 k0)
  rw [if_neg b20] at hf
  by_cases b21 : x.toInt = 21
  · rw [if_pos b21] at hf
    exact ab_U.tswT (t := 811) rfl b (by rw [b21]; rfl) (tc_21 hG hf k1 k0)
  rw [if_neg b21] at hf
  by_cases b22 : x.toInt = 22
  · rw [if_pos b22] at hf
    exact ab_U.tswT (t := 844) rfl b (by rw [b22]; rfl) (tc_22 hG hf k1 k0)
  rw [if_neg b22] at hf
  by_cases b23 : x.toInt = 23
  · rw [if_pos b23] at hf
    exact ab_U.tswT (t := 867) rfl b (by rw [b23]; rfl) (tc_23 hG hf k1 k0)
  rw [if_neg b23] at hf
  by_cases b24 : x.toInt = 24
  · rw [if_pos b24] at hf
    exact ab_U.tswT (t := 900) rfl b (by rw [b24]; rfl) (tc_24 hG hf k1 k0)
  rw [if_neg b24] at hf
  by_cases b25 : x.toInt = 25
  · rw [if_pos b25] at hf
    exact ab_U.tswT (t := 933) rfl b (by rw [b25]; rfl) (tc_25 hG hf k1 k0)
  rw [if_neg b25] at hf
  by_cases b26 : x.toInt = 26
  · rw [if_pos b26] at hf
    exact ab_U.tswT (t := 966) rfl b (by rw [b26]; rfl) (tc_26 hG hf k1 k0)
  rw [if_neg b26] at hf
  by_cases b27 : x.toInt = 27
  · rw [if_pos b27] at hf
    exact ab_U.tswT (t := 1010) rfl b (by rw [b27]; rfl) (tc_27 hG hf k1 k0)
  rw [if_neg b27] at hf
  by_cases b28 : x.toInt = 28
  · rw [if_pos b28] at hf
    exact ab_U.tswT (t := 1054) rfl b (by rw [b28]; rfl) (tc_28 hG hf k1 k0)
  rw [if_neg b28] at hf
  by_cases b29 : x.toInt = 29
  · rw [if_pos b29] at hf
    exact ab_U.tswT (t := 1088) rfl b (by rw [b29]; rfl) (tc_29 hG hf k1 k0)
  rw [if_neg b29] at hf
  by_cases b30 : x.toInt = 30
  · rw [if_pos b30] at hf
    exact ab_U.tswT (t := 1121) rfl b (by rw [b30]; rfl) (tc_30 hG hf k1 k0)
  rw [if_neg b30] at hf
  by_cases b31 : x.toInt = 31
  · rw [if_pos b31] at hf
    exact ab_U.tswT (t := 1144) rfl b (by rw [b31]; rfl) (tc_31 hG hf k1 k0)
  rw [if_neg b31] at hf
  by_cases b32 : x.toInt = 32
  · rw [if_pos b32] at hf
    exact ab_U.tswT (t := 1167) rfl b (by rw [b32]; rfl) (tc_32 hG hf k1 k0)
  rw [if_neg b32] at hf
  by_cases b33 : x.toInt = 33
  · rw [if_pos b33] at hf
    exact ab_U.tswT (t := 1210) rfl b (by rw [b33]; rfl) (tc_33 hG hf k1 k0)
  rw [if_neg b33] at hf
  by_cases b34 : x.toInt = 34
  · rw [if_pos b34] at hf
    exact ab_U.tswT (t := 1233) rfl b (by rw [b34]; rfl) (tc_34 hG hf k1 k0)
  rw [if_neg b34] at hf
  by_cases b35 : x.toInt = 35
  · rw [if_pos b35] at hf
    exact ab_U.tswT (t := 1256) rfl b (by rw [b35]; rfl) (tc_35 hG hf k1 k0)
  rw [if_neg b35] at hf
  by_cases b36 : x.toInt = 36
  · rw [if_pos b36] at hf
    exact ab_U.tswT (t := 1299) rfl b (by rw [b36]; rfl) (tc_36 hG hf k1 k0)
  rw [if_neg b36] at hf
  by_cases b37 : x.toInt = 37
  · rw [if_pos b37] at hf
    exact ab_U.tswT (t := 1342) rfl b (by rw [b37]; rfl) (tc_37 hG hf k1 k0)
  rw [if_neg b37] at hf
  by_cases b38 : x.toInt = 38
  · rw [if_pos b38] at hf
    exact ab_U.tswT (t := 1395) rfl b (by rw [b38]; rfl) (tc_38 hG hf k1 k0)
  rw [if_neg b38] at hf
  have b39 : x.toInt = 39 := by omega
  exact ab_U.tswT (t := 1408) rfl b (by rw [b39]; rfl) (tc_39 hG hf k1 k0)
def g_law (F : Nat) (X : Nat × (Nat → Int32)) : Nat → Int32 → fm_M → Option (Int32 × fm_M)
  | 0, _, _ => none
  | n + 1, l3, μ => if Int32.ofNat X.1 - 5 < l3 then some (1, μ) else (if ab_in l3 X.1 = true then (Option.bind (lc F X (X.2 l3.toNatClampNeg &&& 63) l3 μ) (fun q => if q.1 = 1 then g_law F X n (l3 + 5) q.2 else (if q.1 = 0 then some (0, q.2) else none))) else none)
set_option maxRecDepth 20000 in
theorem t_law {X : Nat × (Nat → Int32)} {G : Nat → Nat → Option Nat} (hG : fm_Gok G) {F : Nat} : ∀ (n : Nat) (l3 : Int32) (μ : fm_M) (r : Int32 × fm_M), g_law F X n l3 μ = some r → ab_U 346 (some .boolean) kL_law (18, [some (.ref 0), some (.ref 100), some (.ref 232), some (.int l3)], [], hp X G μ) (fun r9 h9 => r9 = some (.int r.1) ∧ h9 = hp X G r.2)
  | 0 => by
    intros
    rename_i h
    cases h
  | n + 1 => by
    have ih := t_law (X := X) hG (F := F) n
    intro l3 μ r hf
    unfold g_law at hf
    refine ab_U.run 5 (S' := (23, [some (.ref 0), some (.ref 100), some (.ref 232), some (.int l3)], [.int (Int32.ofNat X.1 - 5), .int l3], hp X G μ)) rfl ?_
    refine ab_U.ic_gt rfl (fun b => ?_) (fun b => ?_)
    · rw [if_pos b] at hf
      obtain rfl := Option.some.inj hf
      refine ab_U.run 1 (S' := (1438, [some (.ref 0), some (.ref 100), some (.ref 232), some (.int l3)], [.int 1], hp X G μ)) rfl ?_
      exact ab_U.ret rfl rfl ⟨rfl, rfl⟩
    · rw [if_neg b] at hf
      obtain ⟨c, hf⟩ := ab_ifs hf
      refine ab_U.run 2 (S' := (28, [some (.ref 0), some (.ref 100), some (.ref 232), some (.int l3)], [.int l3, .ref 0], hp X G μ)) rfl ?_
      refine ab_U.script rfl c ?_
      refine ab_U.run 2 (S' := (32, [some (.ref 0), some (.ref 100), some (.ref 232), some (.int l3)], [.int (X.2 l3.toNatClampNeg &&& 63)], hp X G μ)) rfl ?_
      obtain ⟨q, h1, hf⟩ := ab_bnd hf
      refine tc hG h1 (fun e1 => ?_) (fun e0 => ?_)
      · rw [if_pos e1] at hf
        refine ab_U.run 2 (S' := (18, [some (.ref 0), some (.ref 100), some (.ref 232), some (.int (l3 + 5))], [], hp X G q.2)) rfl ?_
        exact ih (l3 + 5) q.2 r hf
      · have hn : ¬ q.1 = 1 := by rw [e0]; decide
        rw [if_neg hn, if_pos e0] at hf
        obtain rfl := Option.some.inj hf
        exact ⟨rfl, rfl⟩
