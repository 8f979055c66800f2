/-! the start, the loop -/
def r0I (μ : fm_M) : Bool := decide (μ.1 101 0 = n3 0 ∧ μ.1 101 3 = n3 0 ∧ μ.1 101 7 = n3 0 ∧ μ.1 101 8 = n3 50 ∧ μ.1 101 9 = n3 2 ∧ μ.1 101 11 = n3 0 ∧ μ.1 101 15 = n3 0) && (decide (μ.1 232 1 = n3 0 ∧ μ.1 232 3 = n3 0 ∧ μ.1 123 1 = n3 0 ∧ μ.1 232 13 = n3 0 ∧ μ.1 125 0 = n3 0 ∧ μ.1 232 33 = n3 0) && (decide (μ.1 100 11 = μ.1 232 14 ∧ μ.1 100 12 = μ.1 232 39) && ((List.range 4).all fun k => decide (μ.1 (224 + 2 * k) 0 = -n3 1 ∧ μ.2.1 250 k = -n3 4 ∧ μ.2.1 235 k = n3 (base k)))))
def r0A (μ : fm_M) : Bool := decide (μ.2.1 233 23 = n3 0 ∧ μ.2.1 233 24 = n3 0 ∧ μ.2.1 233 25 = n3 50 - n3 50 ∧ μ.2.1 233 26 = n3 2 - n3 2 ∧ μ.2.1 233 37 = n3 0) && (((List.range 6).all fun i => decide (μ.2.1 107 i = n3 1 ∧ μ.2.1 233 (27 + i) = n3 1 - n3 1)) && (((List.range 2).all fun k => decide (μ.2.1 122 k = n3 0 ∧ μ.2.1 249 k = n3 0)) && (((List.range 10).all fun i => decide (μ.2.1 239 i = n3 (cutsL.getD i 0))) && ((List.range 39).all fun i => decide (μ.2.1 240 i = n3 (lettersL.getD i 0))))))
theorem R_of {μ : fm_M} (h1 : r0I μ = true) (h2 : r0A μ = true) (h3 : μ.2.2.2 = (202, 203)) : R μ := by
  unfold r0I at h1
  unfold r0A at h2
  simp only [Bool.and_eq_true] at h1 h2
  obtain ⟨p1, p2, p3, p4⟩ := h1
  obtain ⟨q1, q2, q3, q4, q5⟩ := h2
  have p1 := of_decide_eq_true p1
  have p2 := of_decide_eq_true p2
  have p3 := of_decide_eq_true p3
  have p4 := fun k (hk : k < 4) => of_decide_eq_true (List.all_eq_true.mp p4 k (List.mem_range.mpr hk))
  have q1 := of_decide_eq_true q1
  have q2 := fun k (hk : k < 6) => of_decide_eq_true (List.all_eq_true.mp q2 k (List.mem_range.mpr hk))
  have q3 := fun k (hk : k < 2) => of_decide_eq_true (List.all_eq_true.mp q3 k (List.mem_range.mpr hk))
  have q4 := fun k (hk : k < 10) => of_decide_eq_true (List.all_eq_true.mp q4 k (List.mem_range.mpr hk))
  have q5 := fun k (hk : k < 39) => of_decide_eq_true (List.all_eq_true.mp q5 k (List.mem_range.mpr hk))
  have no : ∀ {i : Nat} {P : Prop}, i < 0 → P := fun h => absurd h (Nat.not_lt_zero _)
  refine ⟨⟨a0, wt_0.wf (Nat.zero_le _), Nat.zero_le _, ⟨p1, fun i hi => no hi, fun i hi => no hi, fun i hi => ?_, fun i hi => no hi⟩, ⟨⟨p2.1, p2.2.1, fun i hi => (p4 i hi).2.2, fun i hi => no hi⟩, q1, fun i hi => no hi, fun i hi => no hi, fun i hi => ?_, fun i hi => no hi⟩⟩, fun k hk => ⟨?_, .inl (q3 k hk).1⟩, ⟨0, by omega, p2.2.2.1, p2.2.2.2.1, fun i hi => no hi⟩, ⟨0, by omega, p2.2.2.2.2.1, p2.2.2.2.2.2, fun i hi => no hi⟩, fun k hk => .inl ⟨(p4 k hk).1, (p4 k hk).2.1⟩, p3, q4, q5, .inl h3⟩
  · rw [a0_p hi]; exact (q2 i hi).1
  · rw [a0_p hi, Nat.zero_add]; exact (q2 i hi).2
  · rw [(q3 k hk).1, (q3 k hk).2]
set_option maxRecDepth 100000 in
theorem r0I_0 : r0I (fm_0g fm_e4) = true := by decide +kernel
set_option maxRecDepth 100000 in
theorem r0A_0 : r0A (fm_0g fm_e4) = true := by decide +kernel
theorem R_0 : R (fm_0g fm_e4) := R_of r0I_0 r0A_0 rfl
theorem v_l5 : ((List.range 5).all fun l => (List.range 400).all fun i => decide (n3 l - n3 5 < n3 i)) = true := by decide +kernel
theorem law_c {L i : Nat} (hL : L ≤ 320) (hi : i < 400) : (Int32.ofNat L - 5 < n3 i) = (L < i + 5) := by
  rw [show Int32.ofNat L = n3 L from rfl, n3_k5, eq_iff_iff]
  by_cases c : L < 5
  · have := of_decide_eq_true (List.all_eq_true.mp (List.all_eq_true.mp v_l5 L (List.mem_range.mpr c)) i (List.mem_range.mpr hi))
    exact ⟨fun _ => by omega, fun _ => this⟩
  · rw [n3_sub (by omega), n3_lt (by omega) (by omega)]; omega
theorem law_l {F : Nat} {X : Nat × (Nat → Int32)} (hL : X.1 ≤ 320) (hF : 200000 < F) : ∀ (K i n : Nat) (μ : fm_M), X.1 < i + 5 * K + 5 → i < 395 → K < n → R μ → ∃ μ1, g_law F X n (n3 i) μ = some (1, μ1)
  | 0, i, n + 1, μ, hk, hi, _, h => by
    refine ⟨μ, ?_⟩
    rw [g_law, if_pos (by rw [law_c hL (by omega)]; omega)]
  | K + 1, i, n + 1, μ, hk, hi, hn, h => by
    by_cases c : X.1 < i + 5
    · refine ⟨μ, ?_⟩
      rw [g_law, if_pos (by rw [law_c hL (by omega)]; omega)]
    · have i1 : ab_in (n3 i + 1) X.1 = true := by rw [n3_one, n3_add]; exact n3_in (by omega) (by omega)
      have i2 : ab_in (n3 i + 2) X.1 = true := by rw [n3_k2, n3_add]; exact n3_in (by omega) (by omega)
      have i3 : ab_in (n3 i + 3) X.1 = true := by rw [n3_k3, n3_add]; exact n3_in (by omega) (by omega)
      have i4 : ab_in (n3 i + 4) X.1 = true := by rw [n3_k4, n3_add]; exact n3_in (by omega) (by omega)
      obtain ⟨m1, q1, q2⟩ := lk_all (F := F) (X := X) (l3 := n3 i) h hF (X.2 (n3 i).toNatClampNeg &&& 63) i1 i2 i3 i4
      obtain ⟨m2, r1⟩ := law_l hL hF K (i + 5) n m1 (by omega) (by omega) (by omega) q2
      refine ⟨m2, ?_⟩
      rw [g_law, if_neg (by rw [law_c hL (by omega)]; omega), if_pos (n3_in (by omega) (by omega)), q1, Option.bind_some]
      dsimp only
      rw [if_pos rfl, n3_k5, n3_add]
      exact r1
theorem pure_lawP (L : Nat) (xs : Nat → Int32) (hL : L ≤ 320) : ∃ (F : Nat) (μ1 : fm_M), g_law F (L, xs) F 0 (fm_0g fm_e4) = some (1, μ1) := by
  obtain ⟨μ1, h⟩ := law_l (F := 200001) (X := (L, xs)) hL (by omega) 64 0 200001 (fm_0g fm_e4) (by show L < _; omega) (by omega) (by omega) R_0
  exact ⟨200001, μ1, h⟩
