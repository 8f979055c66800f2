/-! rules for branches and calls, and for the memory -/
/-- method j answers R and leaves the heap h1 -/
abbrev ab_F (d j : Nat) (as : List Value) (h : ab_H) (R : Option Value) (h1 : ab_H) : Prop := ab_T d j as h (fun r h' => r = R ∧ h' = h1)
abbrev hp (X : Nat × (Nat → Int32)) (G : Nat → Nat → Option Nat) (μ : fm_M) : ab_H := fm_mkG G (ab_f0 X.1 X.2) μ
/-- a field, an array, a row of longs, the rows of Walking given anew -/
def fm_sI (μ : fm_M) (a k : Nat) (x : Int32) : fm_M := (fun q j => if q = a ∧ j = k then x else μ.1 q j, μ.2.1, μ.2.2.1, μ.2.2.2.1, μ.2.2.2.2)
def fm_sA (μ : fm_M) (a : Nat) (g : Nat → Int32) : fm_M := (μ.1, fun q => if q = a then g else μ.2.1 q, μ.2.2.1, μ.2.2.2.1, μ.2.2.2.2)
def fm_sJ (μ : fm_M) (a : Nat) (g : Nat → Int64) : fm_M := (μ.1, μ.2.1, fun q => if q = a then g else μ.2.2.1 q, μ.2.2.2.1, μ.2.2.2.2)
def fm_sW (μ : fm_M) (w1 w2 : Nat) : fm_M := (μ.1, μ.2.1, μ.2.2.1, w1, w2)
def fm_shO (a ci : Nat) : Prop := 100 ≤ a ∧ fm_sh[a - 100]? = some (.inl ci)
def fm_shA (a : Nat) (ty : FieldType) (n : Nat) : Prop := 100 ≤ a ∧ fm_sh[a - 100]? = some (.inr (.inl (ty, n)))
def fm_shG (a : Nat) (ty : FieldType) (n : Nat) : Prop := 100 ≤ a ∧ fm_sh[a - 100]? = some (.inr (.inr (ty, n)))
theorem fm_ext {f g : Nat → Option ab_C} {n m : Nat} (h : ∀ q, f q = g q) : ((n, m, f) : ab_H) = (n, m, g) := by rw [show f = g from funext h]
section FM15
variable {X : Nat × (Nat → Int32)} {G : Nat → Nat → Option Nat} {μ : fm_M} {a n ci : Nat}
theorem fm_at (h : 100 ≤ a) : (hp X G μ).2.2 a = (fm_sh[a - 100]?).map (fm_c G μ a) := by
  show (if a < 100 then _ else _) = _
  rw [if_neg (by omega)]
theorem fm_ob (h : fm_shO a ci) : ab_ob (hp X G μ) a = some (ci, (List.range (ab_nf ci)).map fun k => fm_v μ a ci k) := by
  unfold ab_ob
  rw [fm_at h.1, h.2]
  rfl
theorem fm_waI (h : fm_shA a .int n) : ab_wa (hp X G μ) a = some (.int, n, .inl (μ.2.1 a)) := by
  unfold ab_wa
  rw [fm_at h.1, h.2]
  rfl
theorem fm_waB (h : fm_shA a .byte n) : ab_wa (hp X G μ) a = some (.byte, n, .inl (μ.2.1 a)) := by
  unfold ab_wa
  rw [fm_at h.1, h.2]
  rfl
theorem fm_waZ (h : fm_shA a .boolean n) : ab_wa (hp X G μ) a = some (.boolean, n, .inl (μ.2.1 a)) := by
  unfold ab_wa
  rw [fm_at h.1, h.2]
  rfl
theorem fm_waJ (h : fm_shA a .long n) : ab_wa (hp X G μ) a = some (.long, n, .inr (.inl (μ.2.2.1 a))) := by
  unfold ab_wa
  rw [fm_at h.1, h.2]
  rfl
theorem fm_waG {ty : FieldType} (h : fm_shG a ty n) : ab_wa (hp X G μ) a = some (ty, n, .inr (.inr (.inr (.inr (G a))))) := by
  unfold ab_wa
  rw [fm_at h.1, h.2]
  rfl
theorem fm_raw {x : FieldType × vp_A} (h : ab_wa (hp X G μ) a = some x) : ab_ra (hp X G μ) a = some x := by
  have := ab_wa_eq h
  unfold ab_ra
  rw [this]
theorem fm_cA (ty : FieldType) (hty : ty ≠ .long) (g : Nat → Int32) (h : fm_shA a ty n) : ab_put (hp X G μ) a (.inl (ty, n, .inl g)) = hp X G (fm_sA μ a g) := by
  refine fm_ext (fun q => ?_)
  by_cases hq : q = a
  · subst hq
    rw [if_pos rfl]
    show _ = if q < 100 then _ else _
    rw [if_neg (by have := h.1; omega), h.2]
    show _ = some (fm_c G (fm_sA μ q g) q (.inr (.inl (ty, n))))
    have e : (fm_sA μ q g).2.1 q = g := if_pos rfl
    cases ty <;> first | exact absurd rfl hty | (show _ = some (Sum.inl (_, n, Sum.inl ((fm_sA μ q g).2.1 q))); rw [e])
  · rw [if_neg hq]
    show (if q < 100 then _ else _) = (if q < 100 then _ else _)
    by_cases h1 : q < 100
    · rw [if_pos h1, if_pos h1]
    · rw [if_neg h1, if_neg h1]
      congr 1
      funext s
      have e : (fm_sA μ a g).2.1 q = μ.2.1 q := if_neg hq
      rcases s with c | ⟨t, k⟩ | ⟨t, k⟩
      · rfl
      · cases t <;> first | rfl | (show Sum.inl (_, k, Sum.inl (μ.2.1 q)) = Sum.inl (_, k, Sum.inl ((fm_sA μ a g).2.1 q)); rw [e])
      · rfl
theorem fm_cJ (g : Nat → Int64) (h : fm_shA a .long n) : ab_put (hp X G μ) a (.inl (.long, n, .inr (.inl g))) = hp X G (fm_sJ μ a g) := by
  refine fm_ext (fun q => ?_)
  by_cases hq : q = a
  · subst hq
    rw [if_pos rfl]
    show _ = if q < 100 then _ else _
    rw [if_neg (by have := h.1; omega), h.2]
    have e : (fm_sJ μ q g).2.2.1 q = g := if_pos rfl
    show _ = some (Sum.inl (_, n, Sum.inr (Sum.inl ((fm_sJ μ q g).2.2.1 q))))
    rw [e]
  · rw [if_neg hq]
    show (if q < 100 then _ else _) = (if q < 100 then _ else _)
    by_cases h1 : q < 100
    · rw [if_pos h1, if_pos h1]
    · rw [if_neg h1, if_neg h1]
      congr 1
      funext s
      have e : (fm_sJ μ a g).2.2.1 q = μ.2.2.1 q := if_neg hq
      rcases s with c | ⟨t, k⟩ | ⟨t, k⟩
      · rfl
      · cases t <;> first | rfl | (show Sum.inl (_, k, Sum.inr (Sum.inl (μ.2.2.1 q))) = Sum.inl (_, k, Sum.inr (Sum.inl ((fm_sJ μ a g).2.2.1 q))); rw [e])
      · rfl
theorem fm_cI {k : Nat} (x : Int32) (h : fm_shO a ci) (hk : k < ab_nf ci) (hI : fm_isI (ab_ty ci k) = true) : ab_put (hp X G μ) a (.inr (.inl (ci, ((List.range (ab_nf ci)).map fun k => fm_v μ a ci k).set k (.int x)))) = hp X G (fm_sI μ a k x) := by
  refine fm_ext (fun q => ?_)
  by_cases hq : q = a
  · subst hq
    rw [if_pos rfl]
    show _ = if q < 100 then _ else _
    rw [if_neg (by have := h.1; omega), h.2]
    show _ = some (Sum.inr (Sum.inl (ci, (List.range (ab_nf ci)).map fun k' => fm_v (fm_sI μ q k x) q ci k')))
    congr 4
    apply List.ext_getElem?
    intro j
    by_cases hj : j = k
    · subst hj
      rw [List.getElem?_set_self (by rw [List.length_map, List.length_range]; exact hk), List.getElem?_map, List.getElem?_range hk]
      show some (Value.int x) = some (fm_v (fm_sI μ q j x) q ci j)
      unfold fm_v
      rw [if_pos hI]
      show _ = some (Value.int (if q = q ∧ j = j then x else _))
      rw [if_pos ⟨rfl, rfl⟩]
    · rw [List.getElem?_set_ne (fun e => hj e.symm), List.getElem?_map, List.getElem?_map]
      by_cases hj2 : j < ab_nf ci
      · rw [List.getElem?_range hj2]
        show some (fm_v μ q ci j) = some (fm_v (fm_sI μ q k x) q ci j)
        have e : (fm_sI μ q k x).1 q j = μ.1 q j := if_neg (fun e => hj e.2)
        unfold fm_v
        rw [e]
        rfl
      · rw [List.getElem?_eq_none (by rw [List.length_range]; omega)]
        rfl
  · rw [if_neg hq]
    show (if q < 100 then _ else _) = (if q < 100 then _ else _)
    by_cases h1 : q < 100
    · rw [if_pos h1, if_pos h1]
    · rw [if_neg h1, if_neg h1]
      congr 1
      funext s
      rcases s with c | ⟨t, k9⟩ | ⟨t, k9⟩
      · show Sum.inr (Sum.inl (c, (List.range (ab_nf c)).map fun k' => fm_v μ q c k')) = Sum.inr (Sum.inl (c, (List.range (ab_nf c)).map fun k' => fm_v (fm_sI μ a k x) q c k'))
        congr 4
        funext k'
        unfold fm_v
        have e : (fm_sI μ a k x).1 q k' = μ.1 q k' := if_neg (fun e => hq e.1)
        rw [e]
        rfl
      · cases t <;> rfl
      · rfl
end FM15
section AB15
variable {d : Nat} {rt : Option FieldType} {cd : ab_K} {Q : Option Value → ab_H → Prop} {pc nx : Nat} {L : ab_L} {st : List Value} {h : ab_H} {ins : Instr} {t : Int} {x y : Int32}
theorem ab_U.fn {e : Nat} {R : Option Value} {h1 : ab_H} {c : Nat × List Value × ab_S} (hl : ab_look cd pc = some (ins, nx)) (hs : ab_step rt ins nx L st h = some (.inr (.inl c))) (hT : ab_F e c.1 c.2.1 c.2.2.2.2.2 R h1) (he : e ≤ d) (k : ab_U d rt cd (c.2.2.1, c.2.2.2.1, R.toList ++ c.2.2.2.2.1, h1) Q) : ab_U d rt cd (pc, L, st, h) Q :=
  ab_U.call hl hs ((hT.le he).imp (fun r h' hq => by rw [hq.1, hq.2]; exact k))
theorem ab_U.ic_eq (hl : ab_look cd pc = some (.if_icmp .eq t, nx)) (kt : x = y → ab_U d rt cd (t.toNat, L, st, h) Q) (kf : ¬ (x = y) → ab_U d rt cd (nx, L, st, h) Q) : ab_U d rt cd (pc, L, .int y :: .int x :: st, h) Q := by
  by_cases hc : x = y
  · exact ab_U.go (S := (t.toNat, L, st, h)) hl (by simp only [ab_step, ab_c2, ab_go1, hc, decide_true, if_true, not_false_eq_true]) (kt hc)
  · exact ab_U.go (S := (nx, L, st, h)) hl (by simp only [ab_step, ab_c2, ab_go1, hc, decide_false, if_false, Bool.false_eq_true, not_true_eq_false]) (kf hc)
theorem ab_U.if_eq (hl : ab_look cd pc = some (.ifCond .eq t, nx)) (kt : x = 0 → ab_U d rt cd (t.toNat, L, st, h) Q) (kf : ¬ (x = 0) → ab_U d rt cd (nx, L, st, h) Q) : ab_U d rt cd (pc, L, .int x :: st, h) Q := by
  by_cases hc : x = 0
  · exact ab_U.go (S := (t.toNat, L, st, h)) hl (by simp only [ab_step, ab_c2, ab_go1, hc, decide_true, if_true, not_false_eq_true]) (kt hc)
  · exact ab_U.go (S := (nx, L, st, h)) hl (by simp only [ab_step, ab_c2, ab_go1, hc, decide_false, if_false, Bool.false_eq_true, not_true_eq_false]) (kf hc)
theorem ab_U.ic_ne (hl : ab_look cd pc = some (.if_icmp .ne t, nx)) (kt : ¬ x = y → ab_U d rt cd (t.toNat, L, st, h) Q) (kf : ¬ (¬ x = y) → ab_U d rt cd (nx, L, st, h) Q) : ab_U d rt cd (pc, L, .int y :: .int x :: st, h) Q := by
  by_cases hc : ¬ x = y
  · exact ab_U.go (S := (t.toNat, L, st, h)) hl (by simp only [ab_step, ab_c2, ab_go1, hc, decide_true, if_true, not_false_eq_true]) (kt hc)
  · exact ab_U.go (S := (nx, L, st, h)) hl (by simp only [ab_step, ab_c2, ab_go1, hc, decide_false, if_false, Bool.false_eq_true, not_true_eq_false]) (kf hc)
theorem ab_U.if_ne (hl : ab_look cd pc = some (.ifCond .ne t, nx)) (kt : ¬ x = 0 → ab_U d rt cd (t.toNat, L, st, h) Q) (kf : ¬ (¬ x = 0) → ab_U d rt cd (nx, L, st, h) Q) : ab_U d rt cd (pc, L, .int x :: st, h) Q := by
  by_cases hc : ¬ x = 0
  · exact ab_U.go (S := (t.toNat, L, st, h)) hl (by simp only [ab_step, ab_c2, ab_go1, hc, decide_true, if_true, not_false_eq_true]) (kt hc)
  · exact ab_U.go (S := (nx, L, st, h)) hl (by simp only [ab_step, ab_c2, ab_go1, hc, decide_false, if_false, Bool.false_eq_true, not_true_eq_false]) (kf hc)
theorem ab_U.ic_lt (hl : ab_look cd pc = some (.if_icmp .lt t, nx)) (kt : x < y → ab_U d rt cd (t.toNat, L, st, h) Q) (kf : ¬ (x < y) → ab_U d rt cd (nx, L, st, h) Q) : ab_U d rt cd (pc, L, .int y :: .int x :: st, h) Q := by
  by_cases hc : x < y
  · exact ab_U.go (S := (t.toNat, L, st, h)) hl (by simp only [ab_step, ab_c2, ab_go1, hc, decide_true, if_true, not_false_eq_true]) (kt hc)
  · exact ab_U.go (S := (nx, L, st, h)) hl (by simp only [ab_step, ab_c2, ab_go1, hc, decide_false, if_false, Bool.false_eq_true, not_true_eq_false]) (kf hc)
theorem ab_U.if_lt (hl : ab_look cd pc = some (.ifCond .lt t, nx)) (kt : x < 0 → ab_U d rt cd (t.toNat, L, st, h) Q) (kf : ¬ (x < 0) → ab_U d rt cd (nx, L, st, h) Q) : ab_U d rt cd (pc, L, .int x :: st, h) Q := by
  by_cases hc : x < 0
  · exact ab_U.go (S := (t.toNat, L, st, h)) hl (by simp only [ab_step, ab_c2, ab_go1, hc, decide_true, if_true, not_false_eq_true]) (kt hc)
  · exact ab_U.go (S := (nx, L, st, h)) hl (by simp only [ab_step, ab_c2, ab_go1, hc, decide_false, if_false, Bool.false_eq_true, not_true_eq_false]) (kf hc)
theorem ab_U.ic_ge (hl : ab_look cd pc = some (.if_icmp .ge t, nx)) (kt : y ≤ x → ab_U d rt cd (t.toNat, L, st, h) Q) (kf : ¬ (y ≤ x) → ab_U d rt cd (nx, L, st, h) Q) : ab_U d rt cd (pc, L, .int y :: .int x :: st, h) Q := by
  by_cases hc : y ≤ x
  · exact ab_U.go (S := (t.toNat, L, st, h)) hl (by simp only [ab_step, ab_c2, ab_go1, hc, decide_true, if_true, not_false_eq_true]) (kt hc)
  · exact ab_U.go (S := (nx, L, st, h)) hl (by simp only [ab_step, ab_c2, ab_go1, hc, decide_false, if_false, Bool.false_eq_true, not_true_eq_false]) (kf hc)
theorem ab_U.if_ge (hl : ab_look cd pc = some (.ifCond .ge t, nx)) (kt : 0 ≤ x → ab_U d rt cd (t.toNat, L, st, h) Q) (kf : ¬ (0 ≤ x) → ab_U d rt cd (nx, L, st, h) Q) : ab_U d rt cd (pc, L, .int x :: st, h) Q := by
  by_cases hc : 0 ≤ x
  · exact ab_U.go (S := (t.toNat, L, st, h)) hl (by simp only [ab_step, ab_c2, ab_go1, hc, decide_true, if_true, not_false_eq_true]) (kt hc)
  · exact ab_U.go (S := (nx, L, st, h)) hl (by simp only [ab_step, ab_c2, ab_go1, hc, decide_false, if_false, Bool.false_eq_true, not_true_eq_false]) (kf hc)
theorem ab_U.ic_gt (hl : ab_look cd pc = some (.if_icmp .gt t, nx)) (kt : y < x → ab_U d rt cd (t.toNat, L, st, h) Q) (kf : ¬ (y < x) → ab_U d rt cd (nx, L, st, h) Q) : ab_U d rt cd (pc, L, .int y :: .int x :: st, h) Q := by
  by_cases hc : y < x
  · exact ab_U.go (S := (t.toNat, L, st, h)) hl (by simp only [ab_step, ab_c2, ab_go1, hc, decide_true, if_true, not_false_eq_true]) (kt hc)
  · exact ab_U.go (S := (nx, L, st, h)) hl (by simp only [ab_step, ab_c2, ab_go1, hc, decide_false, if_false, Bool.false_eq_true, not_true_eq_false]) (kf hc)
theorem ab_U.if_gt (hl : ab_look cd pc = some (.ifCond .gt t, nx)) (kt : 0 < x → ab_U d rt cd (t.toNat, L, st, h) Q) (kf : ¬ (0 < x) → ab_U d rt cd (nx, L, st, h) Q) : ab_U d rt cd (pc, L, .int x :: st, h) Q := by
  by_cases hc : 0 < x
  · exact ab_U.go (S := (t.toNat, L, st, h)) hl (by simp only [ab_step, ab_c2, ab_go1, hc, decide_true, if_true, not_false_eq_true]) (kt hc)
  · exact ab_U.go (S := (nx, L, st, h)) hl (by simp only [ab_step, ab_c2, ab_go1, hc, decide_false, if_false, Bool.false_eq_true, not_true_eq_false]) (kf hc)
theorem ab_U.ic_le (hl : ab_look cd pc = some (.if_icmp .le t, nx)) (kt : x ≤ y → ab_U d rt cd (t.toNat, L, st, h) Q) (kf : ¬ (x ≤ y) → ab_U d rt cd (nx, L, st, h) Q) : ab_U d rt cd (pc, L, .int y :: .int x :: st, h) Q := by
  by_cases hc : x ≤ y
  · exact ab_U.go (S := (t.toNat, L, st, h)) hl (by simp only [ab_step, ab_c2, ab_go1, hc, decide_true, if_true, not_false_eq_true]) (kt hc)
  · exact ab_U.go (S := (nx, L, st, h)) hl (by simp only [ab_step, ab_c2, ab_go1, hc, decide_false, if_false, Bool.false_eq_true, not_true_eq_false]) (kf hc)
theorem ab_U.if_le (hl : ab_look cd pc = some (.ifCond .le t, nx)) (kt : x ≤ 0 → ab_U d rt cd (t.toNat, L, st, h) Q) (kf : ¬ (x ≤ 0) → ab_U d rt cd (nx, L, st, h) Q) : ab_U d rt cd (pc, L, .int x :: st, h) Q := by
  by_cases hc : x ≤ 0
  · exact ab_U.go (S := (t.toNat, L, st, h)) hl (by simp only [ab_step, ab_c2, ab_go1, hc, decide_true, if_true, not_false_eq_true]) (kt hc)
  · exact ab_U.go (S := (nx, L, st, h)) hl (by simp only [ab_step, ab_c2, ab_go1, hc, decide_false, if_false, Bool.false_eq_true, not_true_eq_false]) (kf hc)
variable {X : Nat × (Nat → Int32)} {G : Nat → Nat → Option Nat} {μ : fm_M} {a n ci : Nat} {i : Int32}
theorem ab_U.iald (hl : ab_look cd pc = some (.iaload, nx)) (ha : fm_shA a .int n) (hi : ab_in i n = true) (k : ab_U d rt cd (nx, L, .int (μ.2.1 a i.toNatClampNeg) :: st, hp X G μ) Q) : ab_U d rt cd (pc, L, .int i :: .ref a :: st, hp X G μ) Q :=
  ab_U.go hl (by simp only [ab_step, fm_raw (fm_waI ha), hi, if_true, ab_go1]) k
theorem ab_U.baldB (hl : ab_look cd pc = some (.baload, nx)) (ha : fm_shA a .byte n) (hi : ab_in i n = true) (k : ab_U d rt cd (nx, L, .int (μ.2.1 a i.toNatClampNeg) :: st, hp X G μ) Q) : ab_U d rt cd (pc, L, .int i :: .ref a :: st, hp X G μ) Q :=
  ab_U.go hl (by simp only [ab_step, fm_raw (fm_waB ha), hi, if_true, ab_go1]) k
theorem ab_U.baldZ (hl : ab_look cd pc = some (.baload, nx)) (ha : fm_shA a .boolean n) (hi : ab_in i n = true) (k : ab_U d rt cd (nx, L, .int (μ.2.1 a i.toNatClampNeg) :: st, hp X G μ) Q) : ab_U d rt cd (pc, L, .int i :: .ref a :: st, hp X G μ) Q :=
  ab_U.go hl (by simp only [ab_step, fm_raw (fm_waZ ha), hi, if_true, ab_go1]) k
theorem ab_U.lald (hl : ab_look cd pc = some (.laload, nx)) (ha : fm_shA a .long n) (hi : ab_in i n = true) (k : ab_U d rt cd (nx, L, .long (μ.2.2.1 a i.toNatClampNeg) :: st, hp X G μ) Q) : ab_U d rt cd (pc, L, .int i :: .ref a :: st, hp X G μ) Q :=
  ab_U.go hl (by simp only [ab_step, fm_raw (fm_waJ ha), hi, if_true, ab_go1]) k
theorem ab_U.bases (hl : ab_look cd pc = some (.iaload, nx)) (hi : ab_in i 4 = true) (k : ab_U d rt cd (nx, L, .int (ab_bas.getD i.toNatClampNeg 0) :: st, hp X G μ) Q) : ab_U d rt cd (pc, L, .int i :: .ref 1 :: st, hp X G μ) Q := by
  have e : ab_ra (hp X G μ) 1 = some (.int, 4, .inl (fun j => ab_bas.getD j 0)) := rfl
  exact ab_U.go hl (by simp only [ab_step, e, hi, if_true, ab_go1]) k
theorem ab_U.powers (hl : ab_look cd pc = some (.laload, nx)) (hi : ab_in i 7 = true) (k : ab_U d rt cd (nx, L, .long (ab_p10.getD i.toNatClampNeg 0) :: st, hp X G μ) Q) : ab_U d rt cd (pc, L, .int i :: .ref 2 :: st, hp X G μ) Q := by
  have e : ab_ra (hp X G μ) 2 = some (.long, 7, .inr (.inl (fun j => ab_p10.getD j 0))) := rfl
  exact ab_U.go hl (by simp only [ab_step, e, hi, if_true, ab_go1]) k
theorem ab_U.script (hl : ab_look cd pc = some (.iaload, nx)) (hi : ab_in i X.1 = true) (k : ab_U d rt cd (nx, L, .int (X.2 i.toNatClampNeg) :: st, hp X G μ) Q) : ab_U d rt cd (pc, L, .int i :: .ref 0 :: st, hp X G μ) Q := by
  have e : ab_ra (hp X G μ) 0 = some (.int, X.1, .inl X.2) := rfl
  exact ab_U.go hl (by simp only [ab_step, e, hi, if_true, ab_go1]) k
theorem ab_U.iast (hl : ab_look cd pc = some (.iastore, nx)) (ha : fm_shA a .int n) (hi : ab_in i n = true) (k : ab_U d rt cd (nx, L, st, hp X G (fm_sA μ a (upd (μ.2.1 a) i.toNatClampNeg x))) Q) : ab_U d rt cd (pc, L, .int x :: .int i :: .ref a :: st, hp X G μ) Q := by
  rw [← fm_cA .int (by decide) _ ha] at k
  exact ab_U.go hl (by simp only [ab_step, fm_waI ha, hi, if_true, ab_go1]) k
theorem ab_U.bastB (hl : ab_look cd pc = some (.bastore, nx)) (ha : fm_shA a .byte n) (hi : ab_in i n = true) (k : ab_U d rt cd (nx, L, st, hp X G (fm_sA μ a (upd (μ.2.1 a) i.toNatClampNeg x.toInt8.toInt32))) Q) : ab_U d rt cd (pc, L, .int x :: .int i :: .ref a :: st, hp X G μ) Q := by
  rw [← fm_cA .byte (by decide) _ ha] at k
  exact ab_U.go hl (by simp only [ab_step, fm_waB ha, hi, if_true, ab_go1]) k
theorem ab_U.bastZ (hl : ab_look cd pc = some (.bastore, nx)) (ha : fm_shA a .boolean n) (hi : ab_in i n = true) (k : ab_U d rt cd (nx, L, st, hp X G (fm_sA μ a (upd (μ.2.1 a) i.toNatClampNeg (x &&& 1)))) Q) : ab_U d rt cd (pc, L, .int x :: .int i :: .ref a :: st, hp X G μ) Q := by
  rw [← fm_cA .boolean (by decide) _ ha] at k
  exact ab_U.go hl (by simp only [ab_step, fm_waZ ha, hi, if_true, ab_go1]) k
theorem ab_U.last {x : Int64} (hl : ab_look cd pc = some (.lastore, nx)) (ha : fm_shA a .long n) (hi : ab_in i n = true) (k : ab_U d rt cd (nx, L, st, hp X G (fm_sJ μ a (vp_updL (μ.2.2.1 a) i.toNatClampNeg x))) Q) : ab_U d rt cd (pc, L, .long x :: .int i :: .ref a :: st, hp X G μ) Q := by
  rw [← fm_cJ _ ha] at k
  exact ab_U.go hl (by simp only [ab_step, fm_waJ ha, hi, if_true, ab_go1]) k
theorem ab_U.aald {ty : FieldType} {v : Nat} (hl : ab_look cd pc = some (.aaload, nx)) (ha : fm_shG a ty n) (hi : ab_in i n = true) (hty : (match ty with
  | .object _ => true
  | .array _ => true
  | _ => false) = true) (hv : G a i.toNatClampNeg = some v) (k : ab_U d rt cd (nx, L, .ref v :: st, hp X G μ) Q) : ab_U d rt cd (pc, L, .int i :: .ref a :: st, hp X G μ) Q := by
  refine ab_U.go hl ?_ k
  cases ty <;> first | (cases hty; done) | simp only [ab_step, fm_waG ha, hi, hv, if_true, ab_go1]
theorem ab_U.gfI {k9 : Nat} (hl : ab_look cd pc = some (.getfield (100 * ci + k9), nx)) (ho : fm_shO a ci) (h1 : (100 * ci + k9) / 100 = ci ∧ (100 * ci + k9) % 100 = k9 ∧ k9 < ab_nf ci ∧ fm_isI (ab_ty ci k9) = true) (k : ab_U d rt cd (nx, L, .int (μ.1 a k9) :: st, hp X G μ) Q) : ab_U d rt cd (pc, L, .ref a :: st, hp X G μ) Q := by
  refine ab_U.go hl ?_ k
  have e : ((List.range (ab_nf ci)).map fun k => fm_v μ a ci k)[k9]? = some (.int (μ.1 a k9)) := by
    rw [List.getElem?_map, List.getElem?_range h1.2.2.1]
    show some (fm_v μ a ci k9) = _
    unfold fm_v
    rw [if_pos h1.2.2.2]
  simp only [ab_step, fm_ob ho, h1.1, h1.2.1, e, if_true, ab_go1]
theorem ab_U.gfR {k9 : Nat} (hl : ab_look cd pc = some (.getfield (100 * ci + k9), nx)) (ho : fm_shO a ci) (h1 : (100 * ci + k9) / 100 = ci ∧ (100 * ci + k9) % 100 = k9 ∧ k9 < ab_nf ci ∧ fm_isI (ab_ty ci k9) = false) (k : ab_U d rt cd (nx, L, .ref (fm_P μ.2.2.2.1 μ.2.2.2.2 a k9) :: st, hp X G μ) Q) : ab_U d rt cd (pc, L, .ref a :: st, hp X G μ) Q := by
  refine ab_U.go hl ?_ k
  have e : ((List.range (ab_nf ci)).map fun k => fm_v μ a ci k)[k9]? = some (.ref (fm_P μ.2.2.2.1 μ.2.2.2.2 a k9)) := by
    rw [List.getElem?_map, List.getElem?_range h1.2.2.1]
    show some (fm_v μ a ci k9) = _
    unfold fm_v
    rw [h1.2.2.2]
    rfl
  simp only [ab_step, fm_ob ho, h1.1, h1.2.1, e, if_true, ab_go1]
theorem ab_U.pfI {k9 : Nat} (hl : ab_look cd pc = some (.putfield (100 * ci + k9), nx)) (ho : fm_shO a ci) (h1 : (100 * ci + k9) / 100 = ci ∧ (100 * ci + k9) % 100 = k9 ∧ k9 < ab_nf ci ∧ fm_isI (ab_ty ci k9) = true) (hx : ab_fit (ab_ty ci k9) (.int x) = true) (k : ab_U d rt cd (nx, L, st, hp X G (fm_sI μ a k9 x)) Q) : ab_U d rt cd (pc, L, .int x :: .ref a :: st, hp X G μ) Q := by
  rw [← fm_cI x ho h1.2.2.1 h1.2.2.2] at k
  refine ab_U.go hl ?_ k
  have e : k9 < ((List.range (ab_nf ci)).map fun k => fm_v μ a ci k).length := by rw [List.length_map, List.length_range]; exact h1.2.2.1
  simp only [ab_step, fm_ob ho, h1.1, h1.2.1, hx, e, and_self, if_true, ab_go1]
theorem ab_U.acp {a0 n0 : Nat} {sp dp m : Int32} (hl : ab_look cd pc = some (.invokestatic 9980000, nx)) (h0 : fm_shA a0 .int n0) (ha : fm_shA a .int n) (h1 : (¬ sp < 0 ∧ ¬ dp < 0 ∧ ¬ m < 0) ∧ sp.toNatClampNeg + m.toNatClampNeg ≤ n0 ∧ dp.toNatClampNeg + m.toNatClampNeg ≤ n ∧ (st.map fun v => v.category).sum ≤ 8) (k : ab_U d rt cd (nx, L, st, hp X G (fm_sA μ a (va_cpy (μ.2.1 a0) (μ.2.1 a) sp.toNatClampNeg dp.toNatClampNeg m.toNatClampNeg))) Q) : ab_U d rt cd (pc, L, .int m :: .int dp :: .ref a :: .int sp :: .ref a0 :: st, hp X G μ) Q := by
  rw [← fm_cA .int (by decide) _ ha] at k
  refine ab_U.go hl ?_ k
  simp only [ab_step, fm_waI ha, fm_waI h0, if_true]
  rw [if_pos h1]
  rfl
end AB15
