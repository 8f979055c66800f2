/-! needs: 30.int 31.abs 32.cls 33.upd 34.clw 35.hand 36.upm 37.mod -/
/-! what class and reference have in common -/
def RK (μ : fm_M) : Prop := ∀ k, k < 2 → μ.2.1 122 k = μ.2.1 249 k ∧ (μ.2.1 122 k = n3 0 ∨ (μ.2.1 122 k = n3 1 ∧ ∃ b, WF b ∧ b 37 ≤ 999 ∧ AW μ (204 + 10 * k) b ∧ AP μ (38 * (k + 1)) b))
def RT (μ : fm_M) : Prop := ∃ T, T ≤ 160 ∧ μ.1 123 1 = n3 T ∧ μ.1 232 13 = n3 T ∧ ∀ i, i < T → ∃ c, c < 128 ∧ μ.2.1 124 i = n3 c ∧ μ.2.1 238 i = n3 c
def RS (μ : fm_M) : Prop := ∃ S, S ≤ 6 ∧ μ.1 125 0 = n3 S ∧ μ.1 232 33 = n3 S ∧ ∀ i, i < S → ∃ t v, t ≤ 20 ∧ v ≤ 99 ∧ μ.2.1 126 i = n3 t ∧ μ.2.1 127 i = n3 v ∧ μ.2.1 248 (2 * i) = n3 t ∧ μ.2.1 248 (2 * i + 1) = n3 v
def RH (μ : fm_M) : Prop := ∀ k, k < 4 → (μ.1 (224 + 2 * k) 0 = -n3 1 ∧ μ.2.1 250 k = -n3 4) ∨ ∃ l n, l ≤ 2 ∧ n ≤ 40 ∧ μ.1 (224 + 2 * k) 0 = n3 l ∧ μ.1 (224 + 2 * k) 1 = n3 n ∧ μ.2.1 250 k = n3 l ∧ μ.2.1 251 k = n3 n ∧ ∀ i, i < 40 → μ.2.1 (225 + 2 * k) i = μ.2.1 252 (40 * k + i)
def RF (μ : fm_M) : Prop := μ.1 100 11 = μ.1 232 14 ∧ μ.1 100 12 = μ.1 232 39
def cutsL : List Nat := [0, 5, 10, 15, 19, 22, 26, 30, 34, 39]
def lettersL : List Nat := [112, 108, 97, 105, 110, 102, 108, 105, 110, 116, 115, 108, 97, 116, 101, 115, 111, 97, 112, 109, 97, 110, 100, 101, 98, 116, 111, 118, 101, 110, 119, 105, 110, 100, 112, 114, 105, 99, 101]
def RC (μ : fm_M) : Prop := (∀ i, i < 10 → μ.2.1 239 i = n3 (cutsL.getD i 0)) ∧ (∀ i, i < 39 → μ.2.1 240 i = n3 (lettersL.getD i 0)) ∧ (μ.2.2.2 = (202, 203) ∨ μ.2.2.2 = (203, 202))
def RQ (μ : fm_M) : Prop := RK μ ∧ RT μ ∧ RS μ ∧ RH μ ∧ RF μ ∧ RC μ
def RR (μ : fm_M) (a : Nat → Nat) : Prop := WF a ∧ a 37 ≤ 999 ∧ AW μ 101 a ∧ AP μ 0 a
def R (μ : fm_M) : Prop := (∃ a, RR μ a) ∧ RQ μ
def relI (q j : Nat) : Prop := q = 100 ∨ (q = 123 ∧ j = 1) ∨ (q = 125 ∧ j = 0) ∨ (204 ≤ q ∧ q < 232) ∨ (q = 232 ∧ (j = 1 ∨ j = 3 ∨ j = 13 ∨ j = 14 ∨ j = 33 ∨ j = 39))
def relA (q : Nat) : Prop := q = 122 ∨ q = 124 ∨ q = 126 ∨ q = 127 ∨ (204 ≤ q ∧ q < 232) ∨ q = 234 ∨ q = 235 ∨ q = 238 ∨ q = 239 ∨ q = 240 ∨ (248 ≤ q ∧ q < 253)
/-- alike in all that counts, but for the world itself -/
def Ag (μ ν : fm_M) : Prop := (∀ q j, relI q j → ν.1 q j = μ.1 q j) ∧ (∀ q, relA q → ν.2.1 q = μ.2.1 q) ∧ (∀ k, 38 ≤ k → k < 114 → ν.2.1 233 k = μ.2.1 233 k) ∧ ν.2.2.2 = μ.2.2.2
/-- alike in the world too -/
def AgW (μ ν : fm_M) : Prop := Ag μ ν ∧ (∀ q, 101 ≤ q → q < 111 → ν.1 q = μ.1 q ∧ ν.2.1 q = μ.2.1 q) ∧ (∀ k, k < 38 → ν.2.1 233 k = μ.2.1 233 k)
theorem Ag.refl (μ : fm_M) : Ag μ μ := ⟨fun _ _ _ => rfl, fun _ _ => rfl, fun _ _ _ => rfl, rfl⟩
theorem AgW.refl (μ : fm_M) : AgW μ μ := ⟨Ag.refl μ, fun _ _ _ => ⟨rfl, rfl⟩, fun _ _ => rfl⟩
theorem Ag.trans {μ ν ρ : fm_M} (h : Ag μ ν) (h2 : Ag ν ρ) : Ag μ ρ := ⟨fun q j hq => (h2.1 q j hq).trans (h.1 q j hq), fun q hq => (h2.2.1 q hq).trans (h.2.1 q hq), fun k h3 h4 => (h2.2.2.1 k h3 h4).trans (h.2.2.1 k h3 h4), h2.2.2.2.trans h.2.2.2⟩
theorem AgW.trans {μ ν ρ : fm_M} (h : AgW μ ν) (h2 : AgW ν ρ) : AgW μ ρ := ⟨h.1.trans h2.1, fun q h3 h4 => ⟨(h2.2.1 q h3 h4).1.trans (h.2.1 q h3 h4).1, (h2.2.1 q h3 h4).2.trans (h.2.1 q h3 h4).2⟩, fun k hk => (h2.2.2 k hk).trans (h.2.2 k hk)⟩
theorem Fr.ag {lo hi : Nat} {μ ν : fm_M} (h : Fr lo hi μ ν) (hb : (101 ≤ lo ∧ hi ≤ 121) ∨ (129 ≤ lo ∧ hi ≤ 204)) : Ag μ ν := by
  refine ⟨fun q j hq => ?_, fun q hq => ?_, fun k _ _ => ?_, by rw [h.2]⟩
  · rw [(h.1 q (by unfold relI at hq; omega)).1]
  · exact (h.1 q (by unfold relA at hq; omega)).2
  · rw [(h.1 233 (by omega)).2]
theorem Fr.agW {lo hi : Nat} {μ ν : fm_M} (h : Fr lo hi μ ν) (hb : (111 ≤ lo ∧ hi ≤ 121) ∨ (129 ≤ lo ∧ hi ≤ 204)) : AgW μ ν :=
  ⟨h.ag (by omega), fun q h1 h2 => h.1 q (by omega), fun k _ => by rw [(h.1 233 (by omega)).2]⟩
theorem FM.ag {P : Nat} {μ ν : fm_M} (h : FM P μ ν) (hP : P = 0 ∨ 114 ≤ P) : Ag μ ν := by
  refine ⟨fun q j _ => by rw [h.1], fun q hq => h.2.2.1 q (by unfold relA at hq; omega), fun k h1 h2 => h.2.2.2 k (by omega), by rw [h.2.1]⟩
theorem FM.agW {P : Nat} {μ ν : fm_M} (h : FM P μ ν) (hP : 114 ≤ P) : AgW μ ν :=
  ⟨h.ag (by omega), fun q h1 h2 => ⟨by rw [h.1], h.2.2.1 q (by omega)⟩, fun k hk => h.2.2.2 k (by omega)⟩
theorem AW.agree {μ ν : fm_M} {w : Nat} {a : Nat → Nat} (h : AW μ w a) (hf : ∀ q, w ≤ q → q < w + 10 → (∀ j, ν.1 q j = μ.1 q j) ∧ ν.2.1 q = μ.2.1 q) : AW ν w a := by
  unfold AW
  rw [(hf w (by omega) (by omega)).1, (hf w (by omega) (by omega)).1, (hf w (by omega) (by omega)).1, (hf w (by omega) (by omega)).1, (hf w (by omega) (by omega)).1, (hf w (by omega) (by omega)).1, (hf w (by omega) (by omega)).1, (hf (w + 1) (by omega) (by omega)).2, (hf (w + 2) (by omega) (by omega)).2, (hf (w + 3) (by omega) (by omega)).2, (hf (w + 4) (by omega) (by omega)).2, (hf (w + 5) (by omega) (by omega)).2, (hf (w + 6) (by omega) (by omega)).2, (hf (w + 7) (by omega) (by omega)).2, (hf (w + 8) (by omega) (by omega)).2, (hf (w + 9) (by omega) (by omega)).2]
  exact h
theorem AP.agree {μ ν : fm_M} {Q : Nat} {a : Nat → Nat} (h : AP μ Q a) (wf : WF a) (h1' : ν.1 232 1 = μ.1 232 1) (h3' : ν.1 232 3 = μ.1 232 3) (h4' : ν.2.1 234 = μ.2.1 234) (h5' : ν.2.1 235 = μ.2.1 235) (hf : ∀ k, Q ≤ k → k < Q + 38 → ν.2.1 233 k = μ.2.1 233 k) : AP ν Q a := by
  obtain ⟨⟨h1, h3, hb, ho⟩, ⟨h23, h24, h25, h26, h37⟩, hP, hS, hR, hD⟩ := h; obtain ⟨⟨b38, b23, b39, b24, b25, b25u, b26⟩, wP, wS, wR, wD⟩ := id wf
  unfold AP
  rw [h1', h3', h4', h5', hf (Q + 23) (by omega) (by omega), hf (Q + 24) (by omega) (by omega), hf (Q + 25) (by omega) (by omega), hf (Q + 26) (by omega) (by omega), hf (Q + 37) (by omega) (by omega)]
  refine ⟨⟨h1, h3, hb, ho⟩, ⟨h23, h24, h25, h26, h37⟩, fun i hi => ?_, fun i hi => ?_, fun i hi => ?_, fun i hi => ?_⟩
  · rw [hf (Q + i) (by omega) (by omega), hf (Q + 4 + i) (by omega) (by omega)]; exact hP i hi
  · rw [hf (Q + 8 + i) (by omega) (by omega), hf (Q + 13 + i) (by omega) (by omega), hf (Q + 18 + i) (by omega) (by omega)]; exact hS i hi
  · rw [hf (Q + 27 + i) (by omega) (by omega)]; exact hR i hi
  · rw [hf (Q + 33 + i) (by omega) (by omega)]; exact hD i hi
theorem RQ.ag {μ ν : fm_M} (h : RQ μ) (hg : Ag μ ν) : RQ ν := by
  obtain ⟨hK, ⟨T, t1, t2, t3, t4⟩, ⟨S, s1, s2, s3, s4⟩, hH, hF, hC⟩ := h
  obtain ⟨gI, gA, gP, gW⟩ := hg
  refine ⟨fun k hk => ?_, ⟨T, t1, ?_, ?_, ?_⟩, ⟨S, s1, ?_, ?_, ?_⟩, fun k hk => ?_, ?_, ?_⟩
  · rw [gA 122 (by unfold relA; omega), gA 249 (by unfold relA; omega)]
    refine ⟨(hK k hk).1, ?_⟩
    rcases (hK k hk).2 with c | ⟨c, b, wf, bm, hw, hp⟩
    · exact .inl c
    · exact .inr ⟨c, b, wf, bm, hw.agree (fun q h1 h2 => ⟨fun j => gI q j (by unfold relI; omega), gA q (by unfold relA; omega)⟩), hp.agree wf (gI 232 1 (by unfold relI; omega)) (gI 232 3 (by unfold relI; omega)) (gA 234 (by unfold relA; omega)) (gA 235 (by unfold relA; omega)) (fun j h1 h2 => gP j (by omega) (by omega))⟩
  · rw [gI 123 1 (by unfold relI; omega)]; exact t2
  · rw [gI 232 13 (by unfold relI; omega)]; exact t3
  · rw [gA 124 (by unfold relA; omega), gA 238 (by unfold relA; omega)]; exact t4
  · rw [gI 125 0 (by unfold relI; omega)]; exact s2
  · rw [gI 232 33 (by unfold relI; omega)]; exact s3
  · rw [gA 126 (by unfold relA; omega), gA 127 (by unfold relA; omega), gA 248 (by unfold relA; omega)]; exact s4
  · rw [gI (224 + 2 * k) 0 (by unfold relI; omega), gI (224 + 2 * k) 1 (by unfold relI; omega), gA (225 + 2 * k) (by unfold relA; omega), gA 250 (by unfold relA; omega), gA 251 (by unfold relA; omega), gA 252 (by unfold relA; omega)]; exact hH k hk
  · unfold RF
    rw [gI 100 11 (by unfold relI; omega), gI 100 12 (by unfold relI; omega), gI 232 14 (by unfold relI; omega), gI 232 39 (by unfold relI; omega)]; exact hF
  · unfold RC
    rw [gA 239 (by unfold relA; omega), gA 240 (by unfold relA; omega), gW]; exact hC
theorem RR.ag {μ ν : fm_M} {a : Nat → Nat} (h : RR μ a) (hg : AgW μ ν) : RR ν a := by
  obtain ⟨wf, bm, hw, hp⟩ := h
  obtain ⟨⟨gI, gA, gP, gW⟩, g1, g2⟩ := hg
  exact ⟨wf, bm, hw.agree (fun q h1 h2 => ⟨fun j => by rw [(g1 q (by omega) (by omega)).1], (g1 q (by omega) (by omega)).2⟩), hp.agree wf (gI 232 1 (by unfold relI; omega)) (gI 232 3 (by unfold relI; omega)) (gA 234 (by unfold relA; omega)) (gA 235 (by unfold relA; omega)) (fun j h1 h2 => g2 j (by omega))⟩
theorem R.ag {μ ν : fm_M} (h : R μ) (hg : AgW μ ν) : R ν := by
  obtain ⟨⟨a, ha⟩, hq⟩ := h
  exact ⟨⟨a, ha.ag hg⟩, hq.ag hg.1⟩
/-- the world is another one -/
theorem R.world {μ μ1 μ2 : fm_M} {a : Nat → Nat} (h : R μ) (h1 : Fr 101 121 μ μ1) (h2 : FM 0 μ1 μ2) (wf : WF a) (bm : a 37 ≤ 999) (hw : AW μ1 101 a) (hp : AP μ2 0 a) : R μ2 :=
  ⟨⟨a, wf, bm, hw.fr h2.fr (by omega), hp⟩, h.2.ag ((h1.ag (by omega)).trans (h2.ag (by omega)))⟩
/-- both answer alike, and stay alike -/
def OK2 (f g : fm_M → Option (Int32 × fm_M)) (μ : fm_M) : Prop := ∃ v μ1 μ2, f μ = some (v, μ1) ∧ g μ1 = some (v, μ2) ∧ R μ2
theorem OK2.same {f g : fm_M → Option (Int32 × fm_M)} {μ : fm_M} (h : R μ) {v : Int32} (h1 : f μ = some (v, μ)) (h2 : g μ = some (v, μ)) : OK2 f g μ := ⟨v, μ, μ, h1, h2, h⟩
section VS38
variable {F : Nat} {μ ν : fm_M} {a : Nat → Nat} {w : Nat}
theorem lt_cmp (x y : Int64) : (lg_cmp x y < 0) = (x.toInt < y.toInt) := by
  unfold lg_cmp
  rw [eq_iff_iff]
  by_cases h1 : x > y
  · rw [if_pos h1]
    have := Int64.lt_iff_toInt_lt.mp h1
    constructor
    · intro h; exact absurd h (by decide)
    · intro h; omega
  · rw [if_neg h1]
    have h1 : ¬ y.toInt < x.toInt := fun c => h1 (Int64.lt_iff_toInt_lt.mpr c)
    by_cases h2 : x = y
    · rw [if_pos h2, h2]
      constructor
      · intro h; exact absurd h (by decide)
      · intro h; omega
    · rw [if_neg h2]
      have h2 : ¬ x.toInt = y.toInt := fun c => h2 (Int64.toInt_inj.mp c)
      constructor
      · intro h; omega
      · intro h; decide
theorem gt_cmp (x y : Int64) : (0 < lg_cmp x y) = (y.toInt < x.toInt) := by
  unfold lg_cmp
  rw [eq_iff_iff]
  by_cases h1 : x > y
  · rw [if_pos h1]
    have := Int64.lt_iff_toInt_lt.mp h1
    constructor
    · intro h; exact this
    · intro h; decide
  · rw [if_neg h1]
    have h1 : ¬ y.toInt < x.toInt := fun c => h1 (Int64.lt_iff_toInt_lt.mpr c)
    by_cases h2 : x = y
    · rw [if_pos h2, h2]
      constructor
      · intro h; exact absurd h (by decide)
      · intro h; omega
    · rw [if_neg h2]
      constructor
      · intro h; exact absurd h (by decide)
      · intro h; omega
theorem l_of {n : Nat} (h : n < 2147483648) : (Int64.ofNat n).toInt = n := Int64.toInt_ofNat_of_lt (by omega)
theorem m_in1 {x y z : Int64} (h1 : y.toInt ≤ x.toInt) (h2 : x.toInt ≤ z.toInt) : f_X9_in F x y z μ = some (n3 1, μ) := by
  unfold f_X9_in
  rw [if_neg (by rw [lt_cmp]; omega), if_neg (by rw [gt_cmp]; omega), n3_lit]
theorem m_in0 {x y z : Int64} (h1 : x.toInt < y.toInt ∨ z.toInt < x.toInt) : f_X9_in F x y z μ = some (n3 0, μ) := by
  unfold f_X9_in
  by_cases h : x.toInt < y.toInt
  · rw [if_pos (by rw [lt_cmp]; exact h), n3_lit]
  · rw [if_neg (by rw [lt_cmp]; exact h), if_pos (by rw [gt_cmp]; omega), n3_lit]
theorem m_inT {i l u : Nat} (h1 : l ≤ i) (h2 : i ≤ u) (h3 : u < 2147483648) : f_X9_in F (n3 i).toInt64 (Int64.ofNat l) (Int64.ofNat u) μ = some (n3 1, μ) := by
  refine m_in1 ?_ ?_ <;> rw [Int32.toInt_toInt64, n3_int (by omega), l_of (by omega)] <;> omega
theorem m_inF {i l u : Nat} (h1 : i < l ∨ u < i) (hi : i < 2147483648) (hl : l < 2147483648) (h3 : u < 2147483648) : f_X9_in F (n3 i).toInt64 (Int64.ofNat l) (Int64.ofNat u) μ = some (n3 0, μ) := by
  refine m_in0 ?_
  rw [Int32.toInt_toInt64, n3_int hi, l_of hl, l_of h3]; omega
theorem n3_out {x : Int32} {n : Nat} (hn : n < 2147483648) (h : x < n3 0 ∨ n3 n ≤ x) : x.toInt < 0 ∨ (n : Int) ≤ x.toInt := by
  rw [Int32.lt_iff_toInt_lt, Int32.le_iff_toInt_le, n3_int (by omega), n3_int hn] at h; omega
theorem m_inO {x : Int32} {l u : Nat} (h : x < n3 0 ∨ n3 (u + 1) ≤ x) (hl : l < 2147483648) (hu : u < 2147483647) : f_X9_in F x.toInt64 (Int64.ofNat l) (Int64.ofNat u) μ = some (n3 0, μ) := by
  refine m_in0 ?_
  have := n3_out (by omega) h
  rw [Int32.toInt_toInt64, l_of hl, l_of (by omega)]; omega
theorem c_isInT {i l u : Nat} (h1 : l ≤ i) (h2 : i ≤ u) (h3 : u < 2147483648) : f_X8_isIn F (n3 i) (n3 l) (n3 u) μ = some (n3 1, μ) := by
  simp (disch := omega) only [f_X8_isIn, ↓reduceIte, Option.bind_some, n3_lit, n3_cl, n3_in, n3_ltT, n3_ltF, n3_leT, n3_leF, n3_eqT, n3_eqF, n3_add, n3_sub, not_true_eq_false, not_false_eq_true, true_or, or_true, false_or, or_false, Nat.zero_add, Nat.add_zero, nn_lt, nn_le, nn_gt, nn_ge, nn_eq, nn_qe]
theorem c_isInF {i l u : Nat} (h1 : i < l ∨ u < i) (hi : i < 2147483648) (hl : l < 2147483648) (h3 : u < 2147483648) : f_X8_isIn F (n3 i) (n3 l) (n3 u) μ = some (n3 0, μ) := by
  by_cases h : i < l
  · simp (disch := omega) only [f_X8_isIn, ↓reduceIte, Option.bind_some, n3_lit, n3_cl, n3_in, n3_ltT, n3_ltF, n3_leT, n3_leF, n3_eqT, n3_eqF, n3_add, n3_sub, not_true_eq_false, not_false_eq_true, true_or, or_true, false_or, or_false, Nat.zero_add, Nat.add_zero, nn_lt, nn_le, nn_gt, nn_ge, nn_eq, nn_qe]
  · simp (disch := omega) only [f_X8_isIn, ↓reduceIte, Option.bind_some, n3_lit, n3_cl, n3_in, n3_ltT, n3_ltF, n3_leT, n3_leF, n3_eqT, n3_eqF, n3_add, n3_sub, not_true_eq_false, not_false_eq_true, true_or, or_true, false_or, or_false, Nat.zero_add, Nat.add_zero, nn_lt, nn_le, nn_gt, nn_ge, nn_eq, nn_qe]
theorem c_isInO {x : Int32} {l u : Nat} (h : x < n3 0 ∨ n3 (u + 1) ≤ x) (hl : l < 2147483648) (hu : u < 2147483647) : f_X8_isIn F x (n3 l) (n3 u) μ = some (n3 0, μ) := by
  have := n3_out (by omega) h
  unfold f_X8_isIn
  by_cases h : x < n3 l
  · rw [if_pos h, n3_lit]
  · rw [if_neg h, if_pos, n3_lit]
    rw [Int32.lt_iff_toInt_lt, n3_int (by omega)] at h ⊢; omega
theorem sub1_int {m : Nat} (h : m < 2147483648) : (n3 m - 1).toInt = (m : Int) - 1 := by
  by_cases h0 : m = 0
  · subst h0; decide
  · rw [n3_lit, n3_sub (by omega), n3_int (by omega)]; omega
theorem m_isT {i m : Nat} (h1 : i < m) (h3 : m < 2147483648) : f_X9_in F (n3 i).toInt64 (Int64.ofNat 0) (n3 m - 1).toInt64 μ = some (n3 1, μ) := by
  refine m_in1 ?_ ?_
  · rw [Int32.toInt_toInt64, n3_int (by omega), l_of (by omega)]; omega
  · rw [Int32.toInt_toInt64, Int32.toInt_toInt64, n3_int (by omega), sub1_int h3]; omega
theorem m_isF {x : Int32} {m : Nat} (h : x < n3 0 ∨ n3 m ≤ x) (h3 : m < 2147483648) : f_X9_in F x.toInt64 (Int64.ofNat 0) (n3 m - 1).toInt64 μ = some (n3 0, μ) := by
  refine m_in0 ?_
  have := n3_out h3 h
  rw [Int32.toInt_toInt64, Int32.toInt_toInt64, l_of (by omega), sub1_int h3]; omega
theorem m_oneT (h : AP μ 0 a) (wf : WF a) {p : Nat} (hp : p < a 38) : f_X9_isOne F (n3 p) μ = some (n3 1, μ) := by
  have := wf.1
  unfold f_X9_isOne
  rw [h.1.1, m_isT hp (by omega), Option.bind_some, if_pos (.inr rfl)]
theorem m_oneF (h : AP μ 0 a) (wf : WF a) {x : Int32} (hp : x < n3 0 ∨ n3 (a 38) ≤ x) : f_X9_isOne F x μ = some (n3 0, μ) := by
  have := wf.1
  unfold f_X9_isOne
  rw [h.1.1, m_isF hp (by omega), Option.bind_some, if_pos (.inl rfl)]
theorem m_stoneT (h : AP μ 0 a) (wf : WF a) {p : Nat} (hp : p < a 23) : f_X9_isStone F (n3 p) μ = some (n3 1, μ) := by
  have := wf.1
  have h23 : μ.2.1 233 ((23 : Int32).toNatClampNeg) = n3 (a 23) := h.2.1.1
  unfold f_X9_isStone
  rw [if_pos (by decide), h23, m_isT hp (by omega), Option.bind_some, if_pos (.inr rfl)]
theorem m_stoneF (h : AP μ 0 a) (wf : WF a) {x : Int32} (hp : x < n3 0 ∨ n3 (a 23) ≤ x) : f_X9_isStone F x μ = some (n3 0, μ) := by
  have := wf.1
  have h23 : μ.2.1 233 ((23 : Int32).toNatClampNeg) = n3 (a 23) := h.2.1.1
  unfold f_X9_isStone
  rw [if_pos (by decide), h23, m_isF hp (by omega), Option.bind_some, if_pos (.inl rfl)]
theorem m_debtT (h : AP μ 0 a) (wf : WF a) {p : Nat} (hp : p < a 39) : f_X9_isDebt F (n3 p) μ = some (n3 1, μ) := by
  have := wf.1
  unfold f_X9_isDebt
  rw [h.1.2.1, m_isT hp (by omega), Option.bind_some, if_pos (.inr rfl)]
theorem m_debtF (h : AP μ 0 a) (wf : WF a) {x : Int32} (hp : x < n3 0 ∨ n3 (a 39) ≤ x) : f_X9_isDebt F x μ = some (n3 0, μ) := by
  have := wf.1
  unfold f_X9_isDebt
  rw [h.1.2.1, m_isF hp (by omega), Option.bind_some, if_pos (.inl rfl)]
theorem c_has {x : Int32} {m : Nat} (h : x < n3 0 ∨ n3 m ≤ x) {α : Type} (p q : α) : (if x < 0 then p else if n3 m ≤ x then p else q) = p := by
  by_cases c : x < n3 0
  · exact if_pos c
  · rw [if_neg (show ¬ x < 0 from c), if_pos (h.resolve_left c)]
theorem c_oneT (h : AW μ w a) (wf : WF a) {p : Nat} (hp : p < a 38) : f_X7_hasOne F w (n3 p) μ = some (n3 1, μ) := by
  have := wf.1
  have h0 := h.1.1
  simp (disch := omega) only [f_X7_hasOne, ↓reduceIte, Option.bind_some, n3_lit, n3_cl, n3_in, n3_ltT, n3_ltF, n3_leT, n3_leF, n3_eqT, n3_eqF, n3_add, n3_sub, not_true_eq_false, not_false_eq_true, true_or, or_true, false_or, or_false, Nat.zero_add, Nat.add_zero, nn_lt, nn_le, nn_gt, nn_ge, nn_eq, nn_qe, h0]
theorem c_oneF (h : AW μ w a) {x : Int32} (hp : x < n3 0 ∨ n3 (a 38) ≤ x) : f_X7_hasOne F w x μ = some (n3 0, μ) := by
  unfold f_X7_hasOne
  rw [h.1.1, c_has hp, n3_lit]
theorem c_stoneT (h : AW μ w a) (wf : WF a) {p : Nat} (hp : p < a 23) : f_X7_hasStone F w (n3 p) μ = some (n3 1, μ) := by
  have := wf.1
  have h0 := h.1.2.1
  simp (disch := omega) only [f_X7_hasStone, ↓reduceIte, Option.bind_some, n3_lit, n3_cl, n3_in, n3_ltT, n3_ltF, n3_leT, n3_leF, n3_eqT, n3_eqF, n3_add, n3_sub, not_true_eq_false, not_false_eq_true, true_or, or_true, false_or, or_false, Nat.zero_add, Nat.add_zero, nn_lt, nn_le, nn_gt, nn_ge, nn_eq, nn_qe, h0]
theorem c_stoneF (h : AW μ w a) {x : Int32} (hp : x < n3 0 ∨ n3 (a 23) ≤ x) : f_X7_hasStone F w x μ = some (n3 0, μ) := by
  unfold f_X7_hasStone
  rw [h.1.2.1, c_has hp, n3_lit]
theorem c_debtT (h : AW μ w a) (wf : WF a) {p : Nat} (hp : p < a 39) : f_X7_hasDebt F w (n3 p) μ = some (n3 1, μ) := by
  have := wf.1
  have h0 := h.1.2.2.2.2.2.1
  simp (disch := omega) only [f_X7_hasDebt, ↓reduceIte, Option.bind_some, n3_lit, n3_cl, n3_in, n3_ltT, n3_ltF, n3_leT, n3_leF, n3_eqT, n3_eqF, n3_add, n3_sub, not_true_eq_false, not_false_eq_true, true_or, or_true, false_or, or_false, Nat.zero_add, Nat.add_zero, nn_lt, nn_le, nn_gt, nn_ge, nn_eq, nn_qe, h0]
theorem c_debtF (h : AW μ w a) {x : Int32} (hp : x < n3 0 ∨ n3 (a 39) ≤ x) : f_X7_hasDebt F w x μ = some (n3 0, μ) := by
  unfold f_X7_hasDebt
  rw [h.1.2.2.2.2.2.1, c_has hp, n3_lit]
end VS38
