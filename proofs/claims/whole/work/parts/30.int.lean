/-! numbers: Int32 out of small Nats -/
def n3 (n : Nat) : Int32 := Int32.ofNat n
theorem n3_lit (k : Nat) : (no_index (OfNat.ofNat k) : Int32) = n3 (OfNat.ofNat k) := by rw [n3]; exact (Int32.ofNat_add (OfNat.ofNat k) 0 ▸ (Int32.add_zero _)).symm ▸ rfl
theorem n3_int {i : Nat} (h : i < 2147483648) : (n3 i).toInt = (i : Int) := Int32.toInt_ofNat_of_lt h
theorem n3_cl {i : Nat} (h : i < 2147483648) : (n3 i).toNatClampNeg = i := Int32.toNatClampNeg_ofNat_of_lt h
theorem n3_lt {i j : Nat} (h : i < 2147483648) (h2 : j < 2147483648) : (n3 i < n3 j) = (i < j) := by
  rw [eq_iff_iff, Int32.lt_iff_toInt_lt, n3_int h, n3_int h2]; omega
theorem n3_le {i j : Nat} (h : i < 2147483648) (h2 : j < 2147483648) : (n3 i ≤ n3 j) = (i ≤ j) := by
  rw [eq_iff_iff, Int32.le_iff_toInt_le, n3_int h, n3_int h2]; omega
theorem n3_eq {i j : Nat} (h : i < 2147483648) (h2 : j < 2147483648) : (n3 i = n3 j) = (i = j) := by
  rw [eq_iff_iff, ← Int32.toInt_inj, n3_int h, n3_int h2]; omega
theorem n3_ltT {i j : Nat} (h : i < 2147483648) (h2 : j < 2147483648) (h3 : i < j) : (n3 i < n3 j) = True := by rw [n3_lt h h2]; exact eq_true h3
theorem n3_ltF {i j : Nat} (h : i < 2147483648) (h2 : j < 2147483648) (h3 : j ≤ i) : (n3 i < n3 j) = False := by rw [n3_lt h h2]; exact eq_false (by omega)
theorem n3_leT {i j : Nat} (h : i < 2147483648) (h2 : j < 2147483648) (h3 : i ≤ j) : (n3 i ≤ n3 j) = True := by rw [n3_le h h2]; exact eq_true h3
theorem n3_leF {i j : Nat} (h : i < 2147483648) (h2 : j < 2147483648) (h3 : j < i) : (n3 i ≤ n3 j) = False := by rw [n3_le h h2]; exact eq_false (by omega)
theorem n3_eqT {i j : Nat} (h3 : i = j) : (n3 i = n3 j) = True := by rw [h3]; exact eq_self _
theorem n3_eqF {i j : Nat} (h : i < 2147483648) (h2 : j < 2147483648) (h3 : i ≠ j) : (n3 i = n3 j) = False := by rw [n3_eq h h2]; exact eq_false h3
theorem n3_in {i n : Nat} (h : i < 2147483648) (h2 : i < n) : ab_in (n3 i) n = true := by
  unfold ab_in
  refine decide_eq_true ?_
  rw [n3_cl h, show (0 : Int32) = n3 0 from rfl, n3_lt h (by omega)]
  omega
theorem n3_add (i j : Nat) : n3 i + n3 j = n3 (i + j) := (Int32.ofNat_add i j).symm
theorem n3_mul (i j : Nat) : n3 i * n3 j = n3 (i * j) := (Int32.ofNat_mul i j).symm
theorem n3_sub {i j : Nat} (h : j ≤ i) : n3 i - n3 j = n3 (i - j) := (Int32.ofNat_sub i j h).symm
theorem n3_div {i j : Nat} (h : i < 2147483648) (h2 : j < 2147483648) : n3 i / n3 j = n3 (i / j) := (Int32.ofNat_div h h2).symm
theorem n3_mod {i j : Nat} (h : i < 2147483648) (h2 : j < 2147483648) : n3 i % n3 j = n3 (i % j) := (Int32.ofNat_mod h h2).symm
theorem n3_sc (x y : Int32) : x - y + y = x := Int32.sub_add_cancel x y
/-- an int is a small Nat, or it is out of bounds -/
theorem n3_cases (x : Int32) (n : Nat) (hn : n < 2147483648) : (∃ i, i < n ∧ x = n3 i) ∨ (x < n3 0 ∨ n3 n ≤ x) := by
  by_cases h : 0 ≤ x.toInt ∧ x.toInt < n
  · refine .inl ⟨x.toInt.toNat, by omega, ?_⟩
    rw [← Int32.toInt_inj, n3_int (by omega)]; omega
  · refine .inr ?_
    rw [Int32.lt_iff_toInt_lt, Int32.le_iff_toInt_le, n3_int (by omega), n3_int hn]; omega
theorem fm_sI_1 (μ : fm_M) (a k : Nat) (x : Int32) (b j : Nat) : (fm_sI μ a k x).1 b j = if b = a ∧ j = k then x else μ.1 b j := rfl
theorem fm_sI_2 (μ : fm_M) (a k : Nat) (x : Int32) : (fm_sI μ a k x).2 = μ.2 := rfl
theorem fm_sA_1 (μ : fm_M) (a : Nat) (g : Nat → Int32) : (fm_sA μ a g).1 = μ.1 := rfl
theorem fm_sA_2 (μ : fm_M) (a : Nat) (g : Nat → Int32) (b : Nat) : (fm_sA μ a g).2.1 b = if b = a then g else μ.2.1 b := rfl
theorem fm_sA_3 (μ : fm_M) (a : Nat) (g : Nat → Int32) : (fm_sA μ a g).2.2 = μ.2.2 := rfl
theorem upd_at (g : Nat → Int32) (k : Nat) (x : Int32) (j : Nat) : upd g k x j = if j = k then x else g j := rfl
/-- what lies outside lo .. hi stays -/
def Fr (lo hi : Nat) (μ ν : fm_M) : Prop := (∀ q, q < lo ∨ hi ≤ q → ν.1 q = μ.1 q ∧ ν.2.1 q = μ.2.1 q) ∧ ν.2.2 = μ.2.2
theorem Fr.refl (lo hi : Nat) (μ : fm_M) : Fr lo hi μ μ := ⟨fun _ _ => ⟨rfl, rfl⟩, rfl⟩
theorem Fr.trans {lo hi : Nat} {μ ν ρ : fm_M} (h : Fr lo hi μ ν) (h2 : Fr lo hi ν ρ) : Fr lo hi μ ρ := ⟨fun q hq => ⟨(h2.1 q hq).1.trans (h.1 q hq).1, (h2.1 q hq).2.trans (h.1 q hq).2⟩, h2.2.trans h.2⟩
theorem Fr.weak {lo hi lo' hi' : Nat} {μ ν : fm_M} (h : Fr lo hi μ ν) (h1 : lo' ≤ lo) (h2 : hi ≤ hi') : Fr lo' hi' μ ν := ⟨fun q hq => h.1 q (by omega), h.2⟩
theorem Fr.sI {lo hi : Nat} {μ ν : fm_M} (h : Fr lo hi μ ν) {a k : Nat} {x : Int32} (ha : lo ≤ a ∧ a < hi) : Fr lo hi μ (fm_sI ν a k x) := by
  refine ⟨fun q hq => ⟨?_, (h.1 q hq).2⟩, h.2⟩
  funext j
  show (if q = a ∧ j = k then x else ν.1 q j) = _
  rw [if_neg (by omega), (h.1 q hq).1]
theorem Fr.sA {lo hi : Nat} {μ ν : fm_M} (h : Fr lo hi μ ν) {a : Nat} {g : Nat → Int32} (ha : lo ≤ a ∧ a < hi) : Fr lo hi μ (fm_sA ν a g) := by
  refine ⟨fun q hq => ⟨(h.1 q hq).1, ?_⟩, h.2⟩
  show (if q = a then g else ν.2.1 q) = _
  rw [if_neg (by omega), (h.1 q hq).2]
theorem fm_sI_eq {μ : fm_M} {a k : Nat} {x : Int32} {b j : Nat} (h : b = a ∧ j = k) : (fm_sI μ a k x).1 b j = x := if_pos h
theorem fm_sI_ne {μ : fm_M} {a k : Nat} {x : Int32} {b j : Nat} (h : b ≠ a ∨ j ≠ k) : (fm_sI μ a k x).1 b j = μ.1 b j := if_neg (by omega)
theorem fm_sA_eq {μ : fm_M} {a : Nat} {g : Nat → Int32} {b : Nat} (h : b = a) : (fm_sA μ a g).2.1 b = g := if_pos h
theorem fm_sA_ne {μ : fm_M} {a : Nat} {g : Nat → Int32} {b : Nat} (h : b ≠ a) : (fm_sA μ a g).2.1 b = μ.2.1 b := if_neg h
theorem upd_eq {g : Nat → Int32} {k : Nat} {x : Int32} {j : Nat} (h : j = k) : upd g k x j = x := if_pos h
theorem upd_ne {g : Nat → Int32} {k : Nat} {x : Int32} {j : Nat} (h : j ≠ k) : upd g k x j = g j := if_neg h
theorem cpy_in {f g : Nat → Int32} {sp dp n k : Nat} (h : dp ≤ k ∧ k < dp + n) : va_cpy f g sp dp n k = f (sp + (k - dp)) := if_pos h
theorem cpy_0 {f g : Nat → Int32} {n k : Nat} (h : k < n) : va_cpy f g 0 0 n k = f k := by
  rw [cpy_in (by omega), Nat.zero_add, Nat.sub_zero]
theorem nn_int {j : Nat} (h : j < 2147483648) : (-n3 j).toInt = -(j : Int) := by
  rw [Int32.toInt_neg, n3_int h, Int.bmod_eq_of_le (by omega) (by omega)]
theorem nn_lt {i j : Nat} (h : 0 < j) (hj : j < 2147483648) (hi : i < 2147483648) : (-n3 j < n3 i) = True := by
  rw [eq_iff_iff, iff_true, Int32.lt_iff_toInt_lt, nn_int hj, n3_int hi]; omega
theorem nn_le {i j : Nat} (h : 0 < j) (hj : j < 2147483648) (hi : i < 2147483648) : (-n3 j ≤ n3 i) = True := by
  rw [eq_iff_iff, iff_true, Int32.le_iff_toInt_le, nn_int hj, n3_int hi]; omega
theorem nn_gt {i j : Nat} (h : 0 < j) (hj : j < 2147483648) (hi : i < 2147483648) : (n3 i < -n3 j) = False := by
  rw [eq_iff_iff, iff_false, Int32.lt_iff_toInt_lt, nn_int hj, n3_int hi]; omega
theorem nn_ge {i j : Nat} (h : 0 < j) (hj : j < 2147483648) (hi : i < 2147483648) : (n3 i ≤ -n3 j) = False := by
  rw [eq_iff_iff, iff_false, Int32.le_iff_toInt_le, nn_int hj, n3_int hi]; omega
theorem nn_eq {i j : Nat} (h : 0 < j) (hj : j < 2147483648) (hi : i < 2147483648) : (-n3 j = n3 i) = False := by
  rw [eq_iff_iff, iff_false, ← Int32.toInt_inj, nn_int hj, n3_int hi]; omega
theorem nn_qe {i j : Nat} (h : 0 < j) (hj : j < 2147483648) (hi : i < 2147483648) : (n3 i = -n3 j) = False := by
  rw [eq_iff_iff, iff_false, ← Int32.toInt_inj, nn_int hj, n3_int hi]; omega
