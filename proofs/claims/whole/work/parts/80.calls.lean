/-! the law holds -/
section VS80
variable {F : Nat} {μ : fm_M} {X : Nat × (Nat → Int32)} {l3 : Int32}
theorem lk_0 (h : R μ) (hF : 200000 < F) (i1 : ab_in (l3 + 1) X.1 = true) (i2 : ab_in (l3 + 2) X.1 = true) (i3 : ab_in (l3 + 3) X.1 = true) (i4 : ab_in (l3 + 4) X.1 = true) : ∃ μ', lc_0 F X l3 μ = some (1, μ') ∧ R μ' := by
  obtain ⟨v, m1, m2, e1, e2, r⟩ := ok_feed (F := F) h (X.2 (l3 + 1).toNatClampNeg)
  refine ⟨m2, ?_, r⟩
  unfold lc_0
  rw [if_pos i1, e1, Option.bind_some]
  dsimp only
  rw [if_pos i1, e2, Option.bind_some]
  exact if_pos rfl
theorem lk_1 (h : R μ) (hF : 200000 < F) (i1 : ab_in (l3 + 1) X.1 = true) (i2 : ab_in (l3 + 2) X.1 = true) (i3 : ab_in (l3 + 3) X.1 = true) (i4 : ab_in (l3 + 4) X.1 = true) : ∃ μ', lc_1 F X l3 μ = some (1, μ') ∧ R μ' := by
  obtain ⟨v, m1, m2, e1, e2, r⟩ := ok_end (F := F) h (X.2 (l3 + 1).toNatClampNeg)
  refine ⟨m2, ?_, r⟩
  unfold lc_1
  rw [if_pos i1, e1, Option.bind_some]
  dsimp only
  rw [if_pos i1, e2, Option.bind_some]
  exact if_pos rfl
theorem lk_2 (h : R μ) (hF : 200000 < F) (i1 : ab_in (l3 + 1) X.1 = true) (i2 : ab_in (l3 + 2) X.1 = true) (i3 : ab_in (l3 + 3) X.1 = true) (i4 : ab_in (l3 + 4) X.1 = true) : ∃ μ', lc_2 F X l3 μ = some (1, μ') ∧ R μ' := by
  obtain ⟨v, m1, m2, e1, e2, r⟩ := ok_text (F := F) h (by omega) 
  refine ⟨m2, ?_, r⟩
  unfold lc_2
  rw [e1, Option.bind_some]
  dsimp only
  rw [e2, Option.bind_some]
  exact if_pos rfl
theorem lk_3 (h : R μ) (hF : 200000 < F) (i1 : ab_in (l3 + 1) X.1 = true) (i2 : ab_in (l3 + 2) X.1 = true) (i3 : ab_in (l3 + 3) X.1 = true) (i4 : ab_in (l3 + 4) X.1 = true) : ∃ μ', lc_3 F X l3 μ = some (1, μ') ∧ R μ' := by
  obtain ⟨v, m1, m2, e1, e2, r⟩ := ok_fault (F := F) h 
  refine ⟨m2, ?_, r⟩
  unfold lc_3
  rw [e1, Option.bind_some]
  dsimp only
  rw [e2, Option.bind_some]
  exact if_pos rfl
theorem lk_4 (h : R μ) (hF : 200000 < F) (i1 : ab_in (l3 + 1) X.1 = true) (i2 : ab_in (l3 + 2) X.1 = true) (i3 : ab_in (l3 + 3) X.1 = true) (i4 : ab_in (l3 + 4) X.1 = true) : ∃ μ', lc_4 F X l3 μ = some (1, μ') ∧ R μ' := by
  obtain ⟨v, m1, m2, e1, e2, r⟩ := ok_rule (F := F) h (X.2 (l3 + 1).toNatClampNeg)
  refine ⟨m2, ?_, r⟩
  unfold lc_4
  rw [if_pos i1, e1, Option.bind_some]
  dsimp only
  rw [if_pos i1, e2, Option.bind_some]
  exact if_pos rfl
theorem lk_5 (h : R μ) (hF : 200000 < F) (i1 : ab_in (l3 + 1) X.1 = true) (i2 : ab_in (l3 + 2) X.1 = true) (i3 : ab_in (l3 + 3) X.1 = true) (i4 : ab_in (l3 + 4) X.1 = true) : ∃ μ', lc_5 F X l3 μ = some (1, μ') ∧ R μ' := by
  obtain ⟨v, m1, m2, e1, e2, r⟩ := ok_one (F := F) h (by omega) (X.2 (l3 + 1).toNatClampNeg) (X.2 (l3 + 2).toNatClampNeg)
  refine ⟨m2, ?_, r⟩
  unfold lc_5
  rw [if_pos i1, if_pos i2, e1, Option.bind_some]
  dsimp only
  rw [if_pos i1, if_pos i2, e2, Option.bind_some]
  exact if_pos rfl
theorem lk_6 (h : R μ) (hF : 200000 < F) (i1 : ab_in (l3 + 1) X.1 = true) (i2 : ab_in (l3 + 2) X.1 = true) (i3 : ab_in (l3 + 3) X.1 = true) (i4 : ab_in (l3 + 4) X.1 = true) : ∃ μ', lc_6 F X l3 μ = some (1, μ') ∧ R μ' := by
  obtain ⟨v, m1, m2, e1, e2, r⟩ := ok_stone (F := F) h (X.2 (l3 + 1).toNatClampNeg) (X.2 (l3 + 2).toNatClampNeg)
  refine ⟨m2, ?_, r⟩
  unfold lc_6
  rw [if_pos i1, if_pos i2, e1, Option.bind_some]
  dsimp only
  rw [if_pos i1, if_pos i2, e2, Option.bind_some]
  exact if_pos rfl
theorem lk_7 (h : R μ) (hF : 200000 < F) (i1 : ab_in (l3 + 1) X.1 = true) (i2 : ab_in (l3 + 2) X.1 = true) (i3 : ab_in (l3 + 3) X.1 = true) (i4 : ab_in (l3 + 4) X.1 = true) : ∃ μ', lc_7 F X l3 μ = some (1, μ') ∧ R μ' := by
  obtain ⟨v, m1, m2, e1, e2, r⟩ := ok_debt (F := F) h (X.2 (l3 + 1).toNatClampNeg) (X.2 (l3 + 2).toNatClampNeg)
  refine ⟨m2, ?_, r⟩
  unfold lc_7
  rw [if_pos i1, if_pos i2, e1, Option.bind_some]
  dsimp only
  rw [if_pos i1, if_pos i2, e2, Option.bind_some]
  exact if_pos rfl
theorem lk_8 (h : R μ) (hF : 200000 < F) (i1 : ab_in (l3 + 1) X.1 = true) (i2 : ab_in (l3 + 2) X.1 = true) (i3 : ab_in (l3 + 3) X.1 = true) (i4 : ab_in (l3 + 4) X.1 = true) : ∃ μ', lc_8 F X l3 μ = some (1, μ') ∧ R μ' := by
  obtain ⟨v, m1, m2, e1, e2, r⟩ := ok_price (F := F) h (X.2 (l3 + 1).toNatClampNeg)
  refine ⟨m2, ?_, r⟩
  unfold lc_8
  rw [if_pos i1, e1, Option.bind_some]
  dsimp only
  rw [if_pos i1, e2, Option.bind_some]
  exact if_pos rfl
theorem lk_9 (h : R μ) (hF : 200000 < F) (i1 : ab_in (l3 + 1) X.1 = true) (i2 : ab_in (l3 + 2) X.1 = true) (i3 : ab_in (l3 + 3) X.1 = true) (i4 : ab_in (l3 + 4) X.1 = true) : ∃ μ', lc_9 F X l3 μ = some (1, μ') ∧ R μ' := by
  obtain ⟨v, m1, m2, e1, e2, r⟩ := ok_dress (F := F) h (X.2 (l3 + 1).toNatClampNeg) (X.2 (l3 + 2).toNatClampNeg) (X.2 (l3 + 3).toNatClampNeg)
  refine ⟨m2, ?_, r⟩
  unfold lc_9
  rw [if_pos i1, if_pos i2, if_pos i3, e1, Option.bind_some]
  dsimp only
  rw [if_pos i1, if_pos i2, if_pos i3, e2, Option.bind_some]
  exact if_pos rfl
theorem lk_10 (h : R μ) (hF : 200000 < F) (i1 : ab_in (l3 + 1) X.1 = true) (i2 : ab_in (l3 + 2) X.1 = true) (i3 : ab_in (l3 + 3) X.1 = true) (i4 : ab_in (l3 + 4) X.1 = true) : ∃ μ', lc_10 F X l3 μ = some (1, μ') ∧ R μ' := by
  obtain ⟨v, m1, m2, e1, e2, r⟩ := ok_warm (F := F) h (X.2 (l3 + 1).toNatClampNeg) (X.2 (l3 + 2).toNatClampNeg) (X.2 (l3 + 3).toNatClampNeg)
  refine ⟨m2, ?_, r⟩
  unfold lc_10
  rw [if_pos i1, if_pos i2, if_pos i3, e1, Option.bind_some]
  dsimp only
  rw [if_pos i1, if_pos i2, if_pos i3, e2, Option.bind_some]
  exact if_pos rfl
theorem lk_11 (h : R μ) (hF : 200000 < F) (i1 : ab_in (l3 + 1) X.1 = true) (i2 : ab_in (l3 + 2) X.1 = true) (i3 : ab_in (l3 + 3) X.1 = true) (i4 : ab_in (l3 + 4) X.1 = true) : ∃ μ', lc_11 F X l3 μ = some (1, μ') ∧ R μ' := by
  obtain ⟨v, m1, m2, e1, e2, r⟩ := ok_set (F := F) h (X.2 (l3 + 1).toNatClampNeg) (X.2 (l3 + 2).toNatClampNeg)
  refine ⟨m2, ?_, r⟩
  unfold lc_11
  rw [if_pos i1, if_pos i2, e1, Option.bind_some]
  dsimp only
  rw [if_pos i1, if_pos i2, e2, Option.bind_some]
  exact if_pos rfl
theorem lk_12 (h : R μ) (hF : 200000 < F) (i1 : ab_in (l3 + 1) X.1 = true) (i2 : ab_in (l3 + 2) X.1 = true) (i3 : ab_in (l3 + 3) X.1 = true) (i4 : ab_in (l3 + 4) X.1 = true) : ∃ μ', lc_12 F X l3 μ = some (1, μ') ∧ R μ' := by
  obtain ⟨v, m1, m2, e1, e2, r⟩ := ok_ask (F := F) h (X.2 (l3 + 1).toNatClampNeg) (X.2 (l3 + 2).toNatClampNeg)
  refine ⟨m2, ?_, r⟩
  unfold lc_12
  rw [if_pos i1, if_pos i2, e1, Option.bind_some]
  dsimp only
  rw [if_pos i1, if_pos i2, e2, Option.bind_some]
  exact if_pos rfl
theorem lk_13 (h : R μ) (hF : 200000 < F) (i1 : ab_in (l3 + 1) X.1 = true) (i2 : ab_in (l3 + 2) X.1 = true) (i3 : ab_in (l3 + 3) X.1 = true) (i4 : ab_in (l3 + 4) X.1 = true) : ∃ μ', lc_13 F X l3 μ = some (1, μ') ∧ R μ' := by
  obtain ⟨v, m1, m2, e1, e2, r⟩ := ok_owe (F := F) h (X.2 (l3 + 1).toNatClampNeg) (X.2 (l3 + 2).toNatClampNeg)
  refine ⟨m2, ?_, r⟩
  unfold lc_13
  rw [if_pos i1, if_pos i2, e1, Option.bind_some]
  dsimp only
  rw [if_pos i1, if_pos i2, e2, Option.bind_some]
  exact if_pos rfl
theorem lk_14 (h : R μ) (hF : 200000 < F) (i1 : ab_in (l3 + 1) X.1 = true) (i2 : ab_in (l3 + 2) X.1 = true) (i3 : ab_in (l3 + 3) X.1 = true) (i4 : ab_in (l3 + 4) X.1 = true) : ∃ μ', lc_14 F X l3 μ = some (1, μ') ∧ R μ' := by
  obtain ⟨v, m1, m2, e1, e2, r⟩ := ok_halve (F := F) h (by omega) (X.2 (l3 + 1).toNatClampNeg)
  refine ⟨m2, ?_, r⟩
  unfold lc_14
  rw [if_pos i1, e1, Option.bind_some]
  dsimp only
  rw [if_pos i1, e2, Option.bind_some]
  exact if_pos rfl
theorem lk_15 (h : R μ) (hF : 200000 < F) (i1 : ab_in (l3 + 1) X.1 = true) (i2 : ab_in (l3 + 2) X.1 = true) (i3 : ab_in (l3 + 3) X.1 = true) (i4 : ab_in (l3 + 4) X.1 = true) : ∃ μ', lc_15 F X l3 μ = some (1, μ') ∧ R μ' := by
  obtain ⟨v, m1, m2, e1, e2, r⟩ := ok_go (F := F) h (by omega) (X.2 (l3 + 1).toNatClampNeg)
  refine ⟨m2, ?_, r⟩
  unfold lc_15
  rw [if_pos i1, e1, Option.bind_some]
  dsimp only
  rw [if_pos i1, e2, Option.bind_some]
  exact if_pos rfl
theorem lk_16 (h : R μ) (hF : 200000 < F) (i1 : ab_in (l3 + 1) X.1 = true) (i2 : ab_in (l3 + 2) X.1 = true) (i3 : ab_in (l3 + 3) X.1 = true) (i4 : ab_in (l3 + 4) X.1 = true) : ∃ μ', lc_16 F X l3 μ = some (1, μ') ∧ R μ' := by
  obtain ⟨v, m1, m2, e1, e2, r⟩ := ok_pay (F := F) h (by omega) (X.2 (l3 + 1).toNatClampNeg) (X.2 (l3 + 2).toNatClampNeg)
  refine ⟨m2, ?_, r⟩
  unfold lc_16
  rw [if_pos i1, if_pos i2, e1, Option.bind_some]
  dsimp only
  rw [if_pos i1, if_pos i2, e2, Option.bind_some]
  exact if_pos rfl
theorem lk_17 (h : R μ) (hF : 200000 < F) (i1 : ab_in (l3 + 1) X.1 = true) (i2 : ab_in (l3 + 2) X.1 = true) (i3 : ab_in (l3 + 3) X.1 = true) (i4 : ab_in (l3 + 4) X.1 = true) : ∃ μ', lc_17 F X l3 μ = some (1, μ') ∧ R μ' := by
  obtain ⟨v, m1, m2, e1, e2, r⟩ := ok_heat (F := F) h (by omega) (X.2 (l3 + 1).toNatClampNeg)
  refine ⟨m2, ?_, r⟩
  unfold lc_17
  rw [if_pos i1, e1, Option.bind_some]
  dsimp only
  rw [if_pos i1, e2, Option.bind_some]
  exact if_pos rfl
theorem lk_18 (h : R μ) (hF : 200000 < F) (i1 : ab_in (l3 + 1) X.1 = true) (i2 : ab_in (l3 + 2) X.1 = true) (i3 : ab_in (l3 + 3) X.1 = true) (i4 : ab_in (l3 + 4) X.1 = true) : ∃ μ', lc_18 F X l3 μ = some (1, μ') ∧ R μ' := by
  obtain ⟨v, m1, m2, e1, e2, r⟩ := ok_after (F := F) h (by omega) (X.2 (l3 + 1).toNatClampNeg) (X.2 (l3 + 2).toNatClampNeg)
  refine ⟨m2, ?_, r⟩
  unfold lc_18
  rw [if_pos i1, if_pos i2, e1, Option.bind_some]
  dsimp only
  rw [if_pos i1, if_pos i2, e2, Option.bind_some]
  exact if_pos rfl
theorem lk_19 (h : R μ) (hF : 200000 < F) (i1 : ab_in (l3 + 1) X.1 = true) (i2 : ab_in (l3 + 2) X.1 = true) (i3 : ab_in (l3 + 3) X.1 = true) (i4 : ab_in (l3 + 4) X.1 = true) : ∃ μ', lc_19 F X l3 μ = some (1, μ') ∧ R μ' := by
  obtain ⟨v, m1, m2, e1, e2, r⟩ := ok_cold (F := F) h (by omega) (X.2 (l3 + 1).toNatClampNeg)
  refine ⟨m2, ?_, r⟩
  unfold lc_19
  rw [if_pos i1, e1, Option.bind_some]
  dsimp only
  rw [if_pos i1, e2, Option.bind_some]
  exact if_pos rfl
theorem lk_20 (h : R μ) (hF : 200000 < F) (i1 : ab_in (l3 + 1) X.1 = true) (i2 : ab_in (l3 + 2) X.1 = true) (i3 : ab_in (l3 + 3) X.1 = true) (i4 : ab_in (l3 + 4) X.1 = true) : ∃ μ', lc_20 F X l3 μ = some (1, μ') ∧ R μ' := by
  obtain ⟨v, m1, m2, e1, e2, r⟩ := ok_way (F := F) h (by omega) (X.2 (l3 + 1).toNatClampNeg) (X.2 (l3 + 2).toNatClampNeg) (X.2 (l3 + 3).toNatClampNeg)
  refine ⟨m2, ?_, r⟩
  unfold lc_20
  rw [if_pos i1, if_pos i2, if_pos i3, e1, Option.bind_some]
  dsimp only
  rw [if_pos i1, if_pos i2, if_pos i3, e2, Option.bind_some]
  exact if_pos rfl
theorem lk_21 (h : R μ) (hF : 200000 < F) (i1 : ab_in (l3 + 1) X.1 = true) (i2 : ab_in (l3 + 2) X.1 = true) (i3 : ab_in (l3 + 3) X.1 = true) (i4 : ab_in (l3 + 4) X.1 = true) : ∃ μ', lc_21 F X l3 μ = some (1, μ') ∧ R μ' := by
  obtain ⟨v, m1, m2, e1, e2, r⟩ := ok_fewest (F := F) h (by omega) (X.2 (l3 + 1).toNatClampNeg) (X.2 (l3 + 2).toNatClampNeg)
  refine ⟨m2, ?_, r⟩
  unfold lc_21
  rw [if_pos i1, if_pos i2, e1, Option.bind_some]
  dsimp only
  rw [if_pos i1, if_pos i2, e2, Option.bind_some]
  exact if_pos rfl
theorem lk_22 (h : R μ) (hF : 200000 < F) (i1 : ab_in (l3 + 1) X.1 = true) (i2 : ab_in (l3 + 2) X.1 = true) (i3 : ab_in (l3 + 3) X.1 = true) (i4 : ab_in (l3 + 4) X.1 = true) : ∃ μ', lc_22 F X l3 μ = some (1, μ') ∧ R μ' := by
  obtain ⟨v, m1, m2, e1, e2, r⟩ := ok_settle (F := F) h (by omega) (X.2 (l3 + 1).toNatClampNeg)
  refine ⟨m2, ?_, r⟩
  unfold lc_22
  rw [if_pos i1, e1, Option.bind_some]
  dsimp only
  rw [if_pos i1, e2, Option.bind_some]
  exact if_pos rfl
theorem lk_23 (h : R μ) (hF : 200000 < F) (i1 : ab_in (l3 + 1) X.1 = true) (i2 : ab_in (l3 + 2) X.1 = true) (i3 : ab_in (l3 + 3) X.1 = true) (i4 : ab_in (l3 + 4) X.1 = true) : ∃ μ', lc_23 F X l3 μ = some (1, μ') ∧ R μ' := by
  obtain ⟨v, m1, m2, e1, e2, r⟩ := ok_wool (F := F) h (by omega) (X.2 (l3 + 1).toNatClampNeg) (X.2 (l3 + 2).toNatClampNeg)
  refine ⟨m2, ?_, r⟩
  unfold lc_23
  rw [if_pos i1, if_pos i2, e1, Option.bind_some]
  dsimp only
  rw [if_pos i1, if_pos i2, e2, Option.bind_some]
  exact if_pos rfl
theorem lk_24 (h : R μ) (hF : 200000 < F) (i1 : ab_in (l3 + 1) X.1 = true) (i2 : ab_in (l3 + 2) X.1 = true) (i3 : ab_in (l3 + 3) X.1 = true) (i4 : ab_in (l3 + 4) X.1 = true) : ∃ μ', lc_24 F X l3 μ = some (1, μ') ∧ R μ' := by
  obtain ⟨v, m1, m2, e1, e2, r⟩ := ok_walks (F := F) h (by omega) (X.2 (l3 + 1).toNatClampNeg) (X.2 (l3 + 2).toNatClampNeg)
  refine ⟨m2, ?_, r⟩
  unfold lc_24
  rw [if_pos i1, if_pos i2, e1, Option.bind_some]
  dsimp only
  rw [if_pos i1, if_pos i2, e2, Option.bind_some]
  exact if_pos rfl
theorem lk_25 (h : R μ) (hF : 200000 < F) (i1 : ab_in (l3 + 1) X.1 = true) (i2 : ab_in (l3 + 2) X.1 = true) (i3 : ab_in (l3 + 3) X.1 = true) (i4 : ab_in (l3 + 4) X.1 = true) : ∃ μ', lc_25 F X l3 μ = some (1, μ') ∧ R μ' := by
  obtain ⟨v, m1, m2, e1, e2, r⟩ := ok_buys (F := F) h (by omega) (X.2 (l3 + 1).toNatClampNeg) (X.2 (l3 + 2).toNatClampNeg)
  refine ⟨m2, ?_, r⟩
  unfold lc_25
  rw [if_pos i1, if_pos i2, e1, Option.bind_some]
  dsimp only
  rw [if_pos i1, if_pos i2, e2, Option.bind_some]
  exact if_pos rfl
theorem lk_26 (h : R μ) (hF : 200000 < F) (i1 : ab_in (l3 + 1) X.1 = true) (i2 : ab_in (l3 + 2) X.1 = true) (i3 : ab_in (l3 + 3) X.1 = true) (i4 : ab_in (l3 + 4) X.1 = true) : ∃ μ', lc_26 F X l3 μ = some (1, μ') ∧ R μ' := by
  obtain ⟨v, m1, m2, e1, e2, r⟩ := ok_lasts (F := F) h (by omega) (X.2 (l3 + 1).toNatClampNeg) (X.2 (l3 + 2).toNatClampNeg) (X.2 (l3 + 3).toNatClampNeg)
  refine ⟨m2, ?_, r⟩
  unfold lc_26
  rw [if_pos i1, if_pos i2, if_pos i3, e1, Option.bind_some]
  dsimp only
  rw [if_pos i1, if_pos i2, if_pos i3, e2, Option.bind_some]
  exact if_pos (cmp_eq rfl)
theorem lk_27 (h : R μ) (hF : 200000 < F) (i1 : ab_in (l3 + 1) X.1 = true) (i2 : ab_in (l3 + 2) X.1 = true) (i3 : ab_in (l3 + 3) X.1 = true) (i4 : ab_in (l3 + 4) X.1 = true) : ∃ μ', lc_27 F X l3 μ = some (1, μ') ∧ R μ' := by
  obtain ⟨v, m1, m2, e1, e2, r⟩ := ok_mean (F := F) h (by omega) (X.2 (l3 + 1).toNatClampNeg) (X.2 (l3 + 2).toNatClampNeg) (X.2 (l3 + 3).toNatClampNeg)
  refine ⟨m2, ?_, r⟩
  unfold lc_27
  rw [if_pos i1, if_pos i2, if_pos i3, e1, Option.bind_some]
  dsimp only
  rw [if_pos i1, if_pos i2, if_pos i3, e2, Option.bind_some]
  exact if_pos (cmp_eq rfl)
theorem lk_28 (h : R μ) (hF : 200000 < F) (i1 : ab_in (l3 + 1) X.1 = true) (i2 : ab_in (l3 + 2) X.1 = true) (i3 : ab_in (l3 + 3) X.1 = true) (i4 : ab_in (l3 + 4) X.1 = true) : ∃ μ', lc_28 F X l3 μ = some (1, μ') ∧ R μ' := by
  obtain ⟨v, m1, m2, e1, e2, r⟩ := ok_spend (F := F) h (by omega) (X.2 (l3 + 1).toNatClampNeg) (X.2 (l3 + 2).toNatClampNeg)
  refine ⟨m2, ?_, r⟩
  unfold lc_28
  rw [if_pos i1, if_pos i2, e1, Option.bind_some]
  dsimp only
  rw [if_pos i1, if_pos i2, e2, Option.bind_some]
  exact if_pos (cmp_eq rfl)
theorem lk_29 (h : R μ) (hF : 200000 < F) (i1 : ab_in (l3 + 1) X.1 = true) (i2 : ab_in (l3 + 2) X.1 = true) (i3 : ab_in (l3 + 3) X.1 = true) (i4 : ab_in (l3 + 4) X.1 = true) : ∃ μ', lc_29 F X l3 μ = some (1, μ') ∧ R μ' := by
  obtain ⟨v, m1, m2, e1, e2, r⟩ := ok_see (F := F) h (X.2 (l3 + 1).toNatClampNeg) (X.2 (l3 + 2).toNatClampNeg)
  refine ⟨m2, ?_, r⟩
  unfold lc_29
  rw [if_pos i1, if_pos i2, e1, Option.bind_some]
  dsimp only
  rw [if_pos i1, if_pos i2, e2, Option.bind_some]
  exact if_pos rfl
theorem lk_30 (h : R μ) (hF : 200000 < F) (i1 : ab_in (l3 + 1) X.1 = true) (i2 : ab_in (l3 + 2) X.1 = true) (i3 : ab_in (l3 + 3) X.1 = true) (i4 : ab_in (l3 + 4) X.1 = true) : ∃ μ', lc_30 F X l3 μ = some (1, μ') ∧ R μ' := by
  obtain ⟨v, m1, m2, e1, e2, r⟩ := ok_forget (F := F) h (X.2 (l3 + 1).toNatClampNeg)
  refine ⟨m2, ?_, r⟩
  unfold lc_30
  rw [if_pos i1, e1, Option.bind_some]
  dsimp only
  rw [if_pos i1, e2, Option.bind_some]
  exact if_pos rfl
theorem lk_31 (h : R μ) (hF : 200000 < F) (i1 : ab_in (l3 + 1) X.1 = true) (i2 : ab_in (l3 + 2) X.1 = true) (i3 : ab_in (l3 + 3) X.1 = true) (i4 : ab_in (l3 + 4) X.1 = true) : ∃ μ', lc_31 F X l3 μ = some (1, μ') ∧ R μ' := by
  obtain ⟨v, m1, m2, e1, e2, r⟩ := ok_fits (F := F) h (by omega) (X.2 (l3 + 1).toNatClampNeg)
  refine ⟨m2, ?_, r⟩
  unfold lc_31
  rw [if_pos i1, e1, Option.bind_some]
  dsimp only
  rw [if_pos i1, e2, Option.bind_some]
  exact if_pos rfl
theorem lk_32 (h : R μ) (hF : 200000 < F) (i1 : ab_in (l3 + 1) X.1 = true) (i2 : ab_in (l3 + 2) X.1 = true) (i3 : ab_in (l3 + 3) X.1 = true) (i4 : ab_in (l3 + 4) X.1 = true) : ∃ μ', lc_32 F X l3 μ = some (1, μ') ∧ R μ' := by
  obtain ⟨v, m1, m2, e1, e2, r⟩ := ok_drift (F := F) h (by omega) (X.2 (l3 + 1).toNatClampNeg) (X.2 (l3 + 2).toNatClampNeg) (X.2 (l3 + 3).toNatClampNeg)
  refine ⟨m2, ?_, r⟩
  unfold lc_32
  rw [if_pos i1, if_pos i2, if_pos i3, e1, Option.bind_some]
  dsimp only
  rw [if_pos i1, if_pos i2, if_pos i3, e2, Option.bind_some]
  exact if_pos rfl
theorem lk_33 (h : R μ) (hF : 200000 < F) (i1 : ab_in (l3 + 1) X.1 = true) (i2 : ab_in (l3 + 2) X.1 = true) (i3 : ab_in (l3 + 3) X.1 = true) (i4 : ab_in (l3 + 4) X.1 = true) : ∃ μ', lc_33 F X l3 μ = some (1, μ') ∧ R μ' := by
  obtain ⟨v, m1, m2, e1, e2, r⟩ := ok_keep (F := F) h (by omega) (X.2 (l3 + 1).toNatClampNeg)
  refine ⟨m2, ?_, r⟩
  unfold lc_33
  rw [if_pos i1, e1, Option.bind_some]
  dsimp only
  rw [if_pos i1, e2, Option.bind_some]
  exact if_pos rfl
theorem lk_34 (h : R μ) (hF : 200000 < F) (i1 : ab_in (l3 + 1) X.1 = true) (i2 : ab_in (l3 + 2) X.1 = true) (i3 : ab_in (l3 + 3) X.1 = true) (i4 : ab_in (l3 + 4) X.1 = true) : ∃ μ', lc_34 F X l3 μ = some (1, μ') ∧ R μ' := by
  obtain ⟨v, m1, m2, e1, e2, r⟩ := ok_back (F := F) h (by omega) (X.2 (l3 + 1).toNatClampNeg)
  refine ⟨m2, ?_, r⟩
  unfold lc_34
  rw [if_pos i1, e1, Option.bind_some]
  dsimp only
  rw [if_pos i1, e2, Option.bind_some]
  exact if_pos rfl
theorem lk_35 (h : R μ) (hF : 200000 < F) (i1 : ab_in (l3 + 1) X.1 = true) (i2 : ab_in (l3 + 2) X.1 = true) (i3 : ab_in (l3 + 3) X.1 = true) (i4 : ab_in (l3 + 4) X.1 = true) : ∃ μ', lc_35 F X l3 μ = some (1, μ') ∧ R μ' := by
  obtain ⟨v, m1, m2, e1, e2, r⟩ := ok_sheet (F := F) h (by omega) (X.2 (l3 + 1).toNatClampNeg) (X.2 (l3 + 2).toNatClampNeg) (X.2 (l3 + 3).toNatClampNeg)
  refine ⟨m2, ?_, r⟩
  unfold lc_35
  rw [if_pos i1, if_pos i2, if_pos i3, e1, Option.bind_some]
  dsimp only
  rw [if_pos i1, if_pos i2, if_pos i3, e2, Option.bind_some]
  exact if_pos rfl
theorem lk_36 (h : R μ) (hF : 200000 < F) (i1 : ab_in (l3 + 1) X.1 = true) (i2 : ab_in (l3 + 2) X.1 = true) (i3 : ab_in (l3 + 3) X.1 = true) (i4 : ab_in (l3 + 4) X.1 = true) : ∃ μ', lc_36 F X l3 μ = some (1, μ') ∧ R μ' := by
  obtain ⟨v, m1, m2, e1, e2, r⟩ := ok_lay (F := F) h (by omega) (X.2 (l3 + 1).toNatClampNeg) (X.2 (l3 + 2).toNatClampNeg) (X.2 (l3 + 3).toNatClampNeg)
  refine ⟨m2, ?_, r⟩
  unfold lc_36
  rw [if_pos i1, if_pos i2, if_pos i3, e1, Option.bind_some]
  dsimp only
  rw [if_pos i1, if_pos i2, if_pos i3, e2, Option.bind_some]
  exact if_pos rfl
theorem lk_37 (h : R μ) (hF : 200000 < F) (i1 : ab_in (l3 + 1) X.1 = true) (i2 : ab_in (l3 + 2) X.1 = true) (i3 : ab_in (l3 + 3) X.1 = true) (i4 : ab_in (l3 + 4) X.1 = true) : ∃ μ', lc_37 F X l3 μ = some (1, μ') ∧ R μ' := by
  obtain ⟨v, m1, m2, e1, e2, r⟩ := ok_read (F := F) h (by omega) (X.2 (l3 + 1).toNatClampNeg) (X.2 (l3 + 2).toNatClampNeg) (X.2 (l3 + 3).toNatClampNeg) (X.2 (l3 + 4).toNatClampNeg)
  refine ⟨m2, ?_, r⟩
  unfold lc_37
  rw [if_pos i1, if_pos i2, if_pos i3, if_pos i4, e1, Option.bind_some]
  dsimp only
  rw [if_pos i1, if_pos i2, if_pos i3, if_pos i4, e2, Option.bind_some]
  exact if_pos rfl
theorem lk_38 (h : R μ) (hF : 200000 < F) (i1 : ab_in (l3 + 1) X.1 = true) (i2 : ab_in (l3 + 2) X.1 = true) (i3 : ab_in (l3 + 3) X.1 = true) (i4 : ab_in (l3 + 4) X.1 = true) : ∃ μ', lc_38 F X l3 μ = some (1, μ') ∧ R μ' := by
  obtain ⟨v, m1, m2, e1, e2, r⟩ := ok_torn (F := F) h 
  refine ⟨m2, ?_, r⟩
  unfold lc_38
  rw [e1, Option.bind_some]
  dsimp only
  rw [e2, Option.bind_some]
  exact if_pos rfl
theorem lk_39 (h : R μ) (hF : 200000 < F) (i1 : ab_in (l3 + 1) X.1 = true) (i2 : ab_in (l3 + 2) X.1 = true) (i3 : ab_in (l3 + 3) X.1 = true) (i4 : ab_in (l3 + 4) X.1 = true) : ∃ μ', lc_39 F X l3 μ = some (1, μ') ∧ R μ' := by
  obtain ⟨v, m1, m2, e1, e2, r⟩ := ok_count (F := F) h (by omega) (X.2 (l3 + 1).toNatClampNeg)
  refine ⟨m2, ?_, r⟩
  unfold lc_39
  rw [if_pos i1, e1, Option.bind_some]
  dsimp only
  rw [if_pos i1, e2, Option.bind_some]
  exact if_pos rfl
theorem lk_all (h : R μ) (hF : 200000 < F) (x : Int32) (i1 : ab_in (l3 + 1) X.1 = true) (i2 : ab_in (l3 + 2) X.1 = true) (i3 : ab_in (l3 + 3) X.1 = true) (i4 : ab_in (l3 + 4) X.1 = true) : ∃ μ', lc F X x l3 μ = some (1, μ') ∧ R μ' := by
  unfold lc
  by_cases c : x.toInt < 0 ∨ 39 < x.toInt
  · exact ⟨μ, if_pos c, h⟩
  rw [if_neg c]
  by_cases c0 : x.toInt = 0
  · rw [if_pos c0]; exact lk_0 h hF i1 i2 i3 i4
  rw [if_neg c0]
  by_cases c1 : x.toInt = 1
  · rw [if_pos c1]; exact lk_1 h hF i1 i2 i3 i4
  rw [if_neg c1]
  by_cases c2 : x.toInt = 2
  · rw [if_pos c2]; exact lk_2 h hF i1 i2 i3 i4
  rw [if_neg c2]
  by_cases c3 : x.toInt = 3
  · rw [if_pos c3]; exact lk_3 h hF i1 i2 i3 i4
  rw [if_neg c3]
  by_cases c4 : x.toInt = 4
  · rw [if_pos c4]; exact lk_4 h hF i1 i2 i3 i4
  rw [if_neg c4]
  by_cases c5 : x.toInt = 5
  · rw [if_pos c5]; exact lk_5 h hF i1 i2 i3 i4
  rw [if_neg c5]
  by_cases c6 : x.toInt = 6
  · rw [if_pos c6]; exact lk_6 h hF i1 i2 i3 i4
  rw [if_neg c6]
  by_cases c7 : x.toInt = 7
  · rw [if_pos c7]; exact lk_7 h hF i1 i2 i3 i4
  rw [if_neg c7]
  by_cases c8 : x.toInt = 8
  · rw [if_pos c8]; exact lk_8 h hF i1 i2 i3 i4
  rw [if_neg c8]
  by_cases c9 : x.toInt = 9
  · rw [if_pos c9]; exact lk_9 h hF i1 i2 i3 i4
  rw [if_neg c9]
  by_cases c10 : x.toInt = 10
  · rw [if_pos c10]; exact lk_10 h hF i1 i2 i3 i4
  rw [if_neg c10]
  by_cases c11 : x.toInt = 11
  · rw [if_pos c11]; exact lk_11 h hF i1 i2 i3 i4
  rw [if_neg c11]
  by_cases c12 : x.toInt = 12
  · rw [if_pos c12]; exact lk_12 h hF i1 i2 i3 i4
  rw [if_neg c12]
  by_cases c13 : x.toInt = 13
  · rw [if_pos c13]; exact lk_13 h hF i1 i2 i3 i4
  rw [if_neg c13]
  by_cases c14 : x.toInt = 14
  · rw [if_pos c14]; exact lk_14 h hF i1 i2 i3 i4
  rw [if_neg c14]
  by_cases c15 : x.toInt = 15
  · rw [if_pos c15]; exact lk_15 h hF i1 i2 i3 i4
  rw [if_neg c15]
  by_cases c16 : x.toInt = 16
  · rw [if_pos c16]; exact lk_16 h hF i1 i2 i3 i4
  rw [if_neg c16]
  by_cases c17 : x.toInt = 17
  · rw [if_pos c17]; exact lk_17 h hF i1 i2 i3 i4
  rw [if_neg c17]
  by_cases c18 : x.toInt = 18
  · rw [if_pos c18]; exact lk_18 h hF i1 i2 i3 i4
  rw [if_neg c18]
  by_cases c19 : x.toInt = 19
  · rw [if_pos c19]; exact lk_19 h hF i1 i2 i3 i4
  rw [if_neg c19]
  by_cases c20 : x.toInt = 20
  · rw [if_pos c20]; exact lk_20 h hF i1 i2 i3 i4
  rw [if_neg c20]
  by_cases c21 : x.toInt = 21
  · rw [if_pos c21]; exact lk_21 h hF i1 i2 i3 i4
  rw [if_neg c21]
  by_cases c22 : x.toInt = 22
  · rw [if_pos c22]; exact lk_22 h hF i1 i2 i3 i4
  rw [if_neg c22]
  by_cases c23 : x.toInt = 23
  · rw [if_pos c23]; exact lk_23 h hF i1 i2 i3 i4
  rw [if_neg c23]
  by_cases c24 : x.toInt = 24
  · rw [if_pos c24]; exact lk_24 h hF i1 i2 i3 i4
  rw [if_neg c24]
  by_cases c25 : x.toInt = 25
  · rw [if_pos c25]; exact lk_25 h hF i1 i2 i3 i4
  rw [if_neg c25]
  by_cases c26 : x.toInt = 26
  · rw [if_pos c26]; exact lk_26 h hF i1 i2 i3 i4
  rw [if_neg c26]
  by_cases c27 : x.toInt = 27
  · rw [if_pos c27]; exact lk_27 h hF i1 i2 i3 i4
  rw [if_neg c27]
  by_cases c28 : x.toInt = 28
  · rw [if_pos c28]; exact lk_28 h hF i1 i2 i3 i4
  rw [if_neg c28]
  by_cases c29 : x.toInt = 29
  · rw [if_pos c29]; exact lk_29 h hF i1 i2 i3 i4
  rw [if_neg c29]
  by_cases c30 : x.toInt = 30
  · rw [if_pos c30]; exact lk_30 h hF i1 i2 i3 i4
  rw [if_neg c30]
  by_cases c31 : x.toInt = 31
  · rw [if_pos c31]; exact lk_31 h hF i1 i2 i3 i4
  rw [if_neg c31]
  by_cases c32 : x.toInt = 32
  · rw [if_pos c32]; exact lk_32 h hF i1 i2 i3 i4
  rw [if_neg c32]
  by_cases c33 : x.toInt = 33
  · rw [if_pos c33]; exact lk_33 h hF i1 i2 i3 i4
  rw [if_neg c33]
  by_cases c34 : x.toInt = 34
  · rw [if_pos c34]; exact lk_34 h hF i1 i2 i3 i4
  rw [if_neg c34]
  by_cases c35 : x.toInt = 35
  · rw [if_pos c35]; exact lk_35 h hF i1 i2 i3 i4
  rw [if_neg c35]
  by_cases c36 : x.toInt = 36
  · rw [if_pos c36]; exact lk_36 h hF i1 i2 i3 i4
  rw [if_neg c36]
  by_cases c37 : x.toInt = 37
  · rw [if_pos c37]; exact lk_37 h hF i1 i2 i3 i4
  rw [if_neg c37]
  by_cases c38 : x.toInt = 38
  · rw [if_pos c38]; exact lk_38 h hF i1 i2 i3 i4
  rw [if_neg c38]
  exact lk_39 h hF i1 i2 i3 i4
end VS80
