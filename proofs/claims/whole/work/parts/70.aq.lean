/-! the page as the reference reads it -/
def AQ (μ : fm_M) (a : Nat → Nat) : Prop := (μ.1 232 7 = n3 (a 38) ∧ μ.1 232 8 = n3 (a 39) ∧ (∀ i, i < a 39 → μ.2.1 237 (2 * i) = n3 (a (40 + i)) ∧ μ.2.1 237 (2 * i + 1) = n3 (a (44 + i)))) ∧ (μ.2.1 236 23 = n3 (a 23) ∧ μ.2.1 236 24 = n3 (a 24) ∧ μ.2.1 236 25 = n3 (a 25) - n3 50 ∧ μ.2.1 236 26 = n3 (a 26) - n3 2 ∧ μ.2.1 236 37 = n3 (a 37)) ∧ (∀ i, i < a 38 → μ.2.1 236 i = n3 (a i) ∧ μ.2.1 236 (4 + i) = n3 (a (4 + i))) ∧ (∀ i, i < a 23 → μ.2.1 236 (8 + i) = n3 (a (8 + i)) ∧ μ.2.1 236 (13 + i) = n3 (a (13 + i)) ∧ μ.2.1 236 (18 + i) = n3 (a (18 + i))) ∧ (∀ i, i < 6 → μ.2.1 236 (27 + i) = n3 (a (27 + i)) - n3 1) ∧ (∀ i, i < a 39 → μ.2.1 236 (33 + i) = n3 (a (33 + i)))
/-- what was told holds, but for the people that were named -/
def WT (a : Nat → Nat) (h pm : Nat) : Prop := ((a 38 ≤ 4 ∧ a 23 ≤ 5 ∧ a 39 ≤ 4) ∧ a 24 ≤ 9 ∧ 5 ≤ a 25 ∧ a 25 ≤ 99 ∧ a 26 ≤ 10 ∧ a 37 = 0 ∧ h ≤ 4 ∧ pm < 64) ∧ (∀ i, i < a 38 → a i ≤ 5 ∧ a (4 + i) ≤ 9) ∧ (∀ i, i < a 23 → a (8 + i) ≤ 3 ∧ a (13 + i) ≤ 99 ∧ a (18 + i) < h) ∧ (∀ i, i < 6 → 1 ≤ a (27 + i) ∧ a (27 + i) ≤ 9) ∧ (∀ i, i < a 39 → a (33 + i) ≤ 99 ∧ a (40 + i) < h ∧ a (44 + i) < h ∧ a (40 + i) ≠ a (44 + i)) ∧ (h = 0 ∨ (∃ i, i < a 23 ∧ a (18 + i) + 1 = h) ∨ (∃ i, i < a 39 ∧ (a (40 + i) + 1 = h ∨ a (44 + i) + 1 = h)))
def CL (μ : fm_M) (a : Nat → Nat) (o6 o7 : Bool) (pm : Nat) : Prop := AW μ 111 a ∧ μ.1 123 8 = n3 (bi o6) ∧ μ.1 123 9 = n3 (bi o7) ∧ μ.1 123 10 = n3 pm
def ML (μ : fm_M) (a : Nat → Nat) (h : Nat) (o6 o7 : Bool) (pm : Nat) : Prop := AQ μ a ∧ μ.1 232 11 = n3 h - n3 1 ∧ (∃ tm, tm < 512 ∧ μ.1 232 9 = n3 tm ∧ tm / 64 % 2 = bi o6 ∧ tm / 128 % 2 = bi o7) ∧ μ.1 232 10 = n3 pm ∧ NC μ
section VS70
variable {F : Nat} {μ ν : fm_M} {a b : Nat → Nat} {w : Nat} {B : Nat → Nat} {T p h1 pm : Nat} {σ : Nat ⊕ (Nat × Nat)} {o6 o7 : Bool}
theorem WT.wb (wt : WT a h1 pm) : WB a := wt.1.1
theorem WT.wf (wt : WT a h1 pm) (h : h1 ≤ a 38) : WF a := by
  obtain ⟨⟨⟨b1, b2, b3⟩, b4, b5, b6, b7, b8, b9, b10⟩, wP, wS, wR, wD, wX⟩ := wt
  exact ⟨⟨b1, b2, b3, b4, b5, b6, b7⟩, wP, fun i hi => ⟨(wS i hi).1, (wS i hi).2.1, by have := (wS i hi).2.2; omega⟩, wR, fun i hi => ⟨(wD i hi).1, by have := (wD i hi).2.1; omega, by have := (wD i hi).2.2.1; omega, (wD i hi).2.2.2⟩⟩
theorem AQ.ch {pI pA : Nat → Nat → Prop} (h : AQ μ a) (hc : Ch pI pA μ ν) (h7 : ¬ pI 232 7) (h8 : ¬ pI 232 8) (h6 : ∀ j, ¬ pA 236 j) (h77 : ∀ j, ¬ pA 237 j) : AQ ν a := by
  unfold AQ
  rw [hc.1 232 7 h7, hc.1 232 8 h8, show ν.2.1 236 = μ.2.1 236 from funext fun j => hc.2.1 _ _ (h6 j), show ν.2.1 237 = μ.2.1 237 from funext fun j => hc.2.1 _ _ (h77 j)]
  exact h
theorem NC.ch {pI pA : Nat → Nat → Prop} (h : NC μ) (hc : Ch pI pA μ ν) (h6 : ∀ j, ¬ pA 239 j) (h77 : ∀ j, ¬ pA 240 j) : NC ν := by
  unfold NC
  rw [show ν.2.1 239 = μ.2.1 239 from funext fun j => hc.2.1 _ _ (h6 j), show ν.2.1 240 = μ.2.1 240 from funext fun j => hc.2.1 _ _ (h77 j)]
  exact h
theorem aq_man (h : AQ μ a) (wb : WB a) (hn : a 38 < 4) {v q : Nat} (e : ν.2.1 236 = upd (upd (μ.2.1 236) (a 38) (n3 v)) (4 + a 38) (n3 q)) (e7 : ν.1 232 7 = n3 (a 38 + 1)) (e8 : ν.1 232 8 = μ.1 232 8) (ed : ν.2.1 237 = μ.2.1 237) : AQ ν (addP a v q) := by
  obtain ⟨b38, b23, b39⟩ := wb
  obtain ⟨⟨k1, k3, ko⟩, ⟨k23, k24, k25, k26, k37⟩, kP, kS, kR, kD⟩ := h
  unfold AQ addP
  rw [e, e7, e8, ed]
  simp (disch := omega) only [fm_sI_2, fm_sA_1, fm_sA_3, fm_sI_eq, fm_sI_ne, fm_sA_eq, fm_sA_ne, upd_eq, upd_ne, st_ne, st_eq]
  refine ⟨⟨trivial, k3, ko⟩, ⟨k23, k24, k25, k26, k37⟩, fun i hi => ?_, fun i hi => ?_, fun i hi => ?_, fun i hi => ?_⟩
  · by_cases c : i = a 38
    · subst c
      simp (disch := omega) only [fm_sI_2, fm_sA_1, fm_sA_3, fm_sI_eq, fm_sI_ne, fm_sA_eq, fm_sA_ne, upd_eq, upd_ne, st_ne, st_eq, and_self]
    · have := kP i (by omega)
      (try simp (disch := omega) only [fm_sI_2, fm_sA_1, fm_sA_3, fm_sI_eq, fm_sI_ne, fm_sA_eq, fm_sA_ne, upd_eq, upd_ne, st_ne, st_eq]); exact this
  · have := kS i hi
    (try simp (disch := omega) only [fm_sI_2, fm_sA_1, fm_sA_3, fm_sI_eq, fm_sI_ne, fm_sA_eq, fm_sA_ne, upd_eq, upd_ne, st_ne, st_eq]); exact this
  · have := kR i hi
    (try simp (disch := omega) only [fm_sI_2, fm_sA_1, fm_sA_3, fm_sI_eq, fm_sI_ne, fm_sA_eq, fm_sA_ne, upd_eq, upd_ne, st_ne, st_eq]); exact this
  · have := kD i hi
    (try simp (disch := omega) only [fm_sI_2, fm_sA_1, fm_sA_3, fm_sI_eq, fm_sI_ne, fm_sA_eq, fm_sA_ne, upd_eq, upd_ne, st_ne, st_eq]); exact this
theorem aq_stone (h : AQ μ a) (wb : WB a) (hn : a 23 < 5) {k v o : Nat} (e : ν.2.1 236 = upd (upd (upd (upd (μ.2.1 236) (8 + a 23) (n3 k)) (13 + a 23) (n3 v)) (18 + a 23) (n3 o)) 23 (n3 (a 23 + 1))) (e7 : ν.1 232 7 = μ.1 232 7) (e8 : ν.1 232 8 = μ.1 232 8) (ed : ν.2.1 237 = μ.2.1 237) : AQ ν (addS a k v o) := by
  obtain ⟨b38, b23, b39⟩ := wb
  obtain ⟨⟨k1, k3, ko⟩, ⟨k23, k24, k25, k26, k37⟩, kP, kS, kR, kD⟩ := h
  unfold AQ addS
  rw [e, e7, e8, ed]
  simp (disch := omega) only [fm_sI_2, fm_sA_1, fm_sA_3, fm_sI_eq, fm_sI_ne, fm_sA_eq, fm_sA_ne, upd_eq, upd_ne, st_ne, st_eq]
  refine ⟨⟨k1, k3, ko⟩, ⟨trivial, k24, k25, k26, k37⟩, fun i hi => ?_, fun i hi => ?_, fun i hi => ?_, fun i hi => ?_⟩
  · have := kP i hi
    (try simp (disch := omega) only [fm_sI_2, fm_sA_1, fm_sA_3, fm_sI_eq, fm_sI_ne, fm_sA_eq, fm_sA_ne, upd_eq, upd_ne, st_ne, st_eq]); exact this
  · by_cases c : i = a 23
    · subst c
      simp (disch := omega) only [fm_sI_2, fm_sA_1, fm_sA_3, fm_sI_eq, fm_sI_ne, fm_sA_eq, fm_sA_ne, upd_eq, upd_ne, st_ne, st_eq, and_self]
    · have := kS i (by omega)
      (try simp (disch := omega) only [fm_sI_2, fm_sA_1, fm_sA_3, fm_sI_eq, fm_sI_ne, fm_sA_eq, fm_sA_ne, upd_eq, upd_ne, st_ne, st_eq]); exact this
  · have := kR i hi
    (try simp (disch := omega) only [fm_sI_2, fm_sA_1, fm_sA_3, fm_sI_eq, fm_sI_ne, fm_sA_eq, fm_sA_ne, upd_eq, upd_ne, st_ne, st_eq]); exact this
  · have := kD i hi
    (try simp (disch := omega) only [fm_sI_2, fm_sA_1, fm_sA_3, fm_sI_eq, fm_sI_ne, fm_sA_eq, fm_sA_ne, upd_eq, upd_ne, st_ne, st_eq]); exact this
theorem aq_debt (h : AQ μ a) (wb : WB a) (hn : a 39 < 4) {f t m : Nat} (e : ν.2.1 236 = upd (μ.2.1 236) (33 + a 39) (n3 m)) (e7 : ν.1 232 7 = μ.1 232 7) (e8 : ν.1 232 8 = n3 (a 39 + 1)) (ed : ν.2.1 237 = upd (upd (μ.2.1 237) (2 * a 39) (n3 f)) (2 * a 39 + 1) (n3 t)) : AQ ν (addD a f t m) := by
  obtain ⟨b38, b23, b39⟩ := wb
  obtain ⟨⟨k1, k3, ko⟩, ⟨k23, k24, k25, k26, k37⟩, kP, kS, kR, kD⟩ := h
  unfold AQ addD
  rw [e, e7, e8, ed]
  simp (disch := omega) only [fm_sI_2, fm_sA_1, fm_sA_3, fm_sI_eq, fm_sI_ne, fm_sA_eq, fm_sA_ne, upd_eq, upd_ne, st_ne, st_eq]
  refine ⟨⟨k1, trivial, fun i hi => ?_⟩, ⟨k23, k24, k25, k26, k37⟩, fun i hi => ?_, fun i hi => ?_, fun i hi => ?_, fun i hi => ?_⟩
  · by_cases c : i = a 39
    · subst c
      simp (disch := omega) only [fm_sI_2, fm_sA_1, fm_sA_3, fm_sI_eq, fm_sI_ne, fm_sA_eq, fm_sA_ne, upd_eq, upd_ne, st_ne, st_eq, and_self]
    · have := ko i (by omega)
      (try simp (disch := omega) only [fm_sI_2, fm_sA_1, fm_sA_3, fm_sI_eq, fm_sI_ne, fm_sA_eq, fm_sA_ne, upd_eq, upd_ne, st_ne, st_eq]); exact this
  · have := kP i hi
    (try simp (disch := omega) only [fm_sI_2, fm_sA_1, fm_sA_3, fm_sI_eq, fm_sI_ne, fm_sA_eq, fm_sA_ne, upd_eq, upd_ne, st_ne, st_eq]); exact this
  · have := kS i hi
    (try simp (disch := omega) only [fm_sI_2, fm_sA_1, fm_sA_3, fm_sI_eq, fm_sI_ne, fm_sA_eq, fm_sA_ne, upd_eq, upd_ne, st_ne, st_eq]); exact this
  · have := kR i hi
    (try simp (disch := omega) only [fm_sI_2, fm_sA_1, fm_sA_3, fm_sI_eq, fm_sI_ne, fm_sA_eq, fm_sA_ne, upd_eq, upd_ne, st_ne, st_eq]); exact this
  · by_cases c : i = a 39
    · subst c
      simp (disch := omega) only [fm_sI_2, fm_sA_1, fm_sA_3, fm_sI_eq, fm_sI_ne, fm_sA_eq, fm_sA_ne, upd_eq, upd_ne, st_ne, st_eq, and_self]
    · have := kD i (by omega)
      (try simp (disch := omega) only [fm_sI_2, fm_sA_1, fm_sA_3, fm_sI_eq, fm_sI_ne, fm_sA_eq, fm_sA_ne, upd_eq, upd_ne, st_ne, st_eq]); exact this
theorem aq_oven (h : AQ μ a) (wb : WB a) {v t : Nat} (e : ν.2.1 236 = upd (upd (μ.2.1 236) 24 (n3 v)) 25 (n3 t - n3 50)) (e7 : ν.1 232 7 = μ.1 232 7) (e8 : ν.1 232 8 = μ.1 232 8) (ed : ν.2.1 237 = μ.2.1 237) : AQ ν (st (st a 24 v) 25 t) := by
  obtain ⟨b38, b23, b39⟩ := wb
  obtain ⟨⟨k1, k3, ko⟩, ⟨k23, k24, k25, k26, k37⟩, kP, kS, kR, kD⟩ := h
  unfold AQ
  rw [e, e7, e8, ed]
  simp (disch := omega) only [fm_sI_2, fm_sA_1, fm_sA_3, fm_sI_eq, fm_sI_ne, fm_sA_eq, fm_sA_ne, upd_eq, upd_ne, st_ne, st_eq]
  refine ⟨⟨k1, k3, fun i hi => ?_⟩, ⟨k23, trivial, trivial, k26, k37⟩, fun i hi => ?_, fun i hi => ?_, fun i hi => ?_, fun i hi => ?_⟩
  · have := ko i hi
    (try simp (disch := omega) only [fm_sI_2, fm_sA_1, fm_sA_3, fm_sI_eq, fm_sI_ne, fm_sA_eq, fm_sA_ne, upd_eq, upd_ne, st_ne, st_eq]); exact this
  · have := kP i hi
    (try simp (disch := omega) only [fm_sI_2, fm_sA_1, fm_sA_3, fm_sI_eq, fm_sI_ne, fm_sA_eq, fm_sA_ne, upd_eq, upd_ne, st_ne, st_eq]); exact this
  · have := kS i hi
    (try simp (disch := omega) only [fm_sI_2, fm_sA_1, fm_sA_3, fm_sI_eq, fm_sI_ne, fm_sA_eq, fm_sA_ne, upd_eq, upd_ne, st_ne, st_eq]); exact this
  · have := kR i hi
    (try simp (disch := omega) only [fm_sI_2, fm_sA_1, fm_sA_3, fm_sI_eq, fm_sI_ne, fm_sA_eq, fm_sA_ne, upd_eq, upd_ne, st_ne, st_eq]); exact this
  · have := kD i hi
    (try simp (disch := omega) only [fm_sI_2, fm_sA_1, fm_sA_3, fm_sI_eq, fm_sI_ne, fm_sA_eq, fm_sA_ne, upd_eq, upd_ne, st_ne, st_eq]); exact this
theorem aq_wind (h : AQ μ a) (wb : WB a) {v : Nat} (e : ν.2.1 236 = upd (μ.2.1 236) 26 (n3 v - n3 2)) (e7 : ν.1 232 7 = μ.1 232 7) (e8 : ν.1 232 8 = μ.1 232 8) (ed : ν.2.1 237 = μ.2.1 237) : AQ ν (st a 26 v) := by
  obtain ⟨b38, b23, b39⟩ := wb
  obtain ⟨⟨k1, k3, ko⟩, ⟨k23, k24, k25, k26, k37⟩, kP, kS, kR, kD⟩ := h
  unfold AQ
  rw [e, e7, e8, ed]
  simp (disch := omega) only [fm_sI_2, fm_sA_1, fm_sA_3, fm_sI_eq, fm_sI_ne, fm_sA_eq, fm_sA_ne, upd_eq, upd_ne, st_ne, st_eq]
  refine ⟨⟨k1, k3, fun i hi => ?_⟩, ⟨k23, k24, k25, trivial, k37⟩, fun i hi => ?_, fun i hi => ?_, fun i hi => ?_, fun i hi => ?_⟩
  · have := ko i hi
    (try simp (disch := omega) only [fm_sI_2, fm_sA_1, fm_sA_3, fm_sI_eq, fm_sI_ne, fm_sA_eq, fm_sA_ne, upd_eq, upd_ne, st_ne, st_eq]); exact this
  · have := kP i hi
    (try simp (disch := omega) only [fm_sI_2, fm_sA_1, fm_sA_3, fm_sI_eq, fm_sI_ne, fm_sA_eq, fm_sA_ne, upd_eq, upd_ne, st_ne, st_eq]); exact this
  · have := kS i hi
    (try simp (disch := omega) only [fm_sI_2, fm_sA_1, fm_sA_3, fm_sI_eq, fm_sI_ne, fm_sA_eq, fm_sA_ne, upd_eq, upd_ne, st_ne, st_eq]); exact this
  · have := kR i hi
    (try simp (disch := omega) only [fm_sI_2, fm_sA_1, fm_sA_3, fm_sI_eq, fm_sI_ne, fm_sA_eq, fm_sA_ne, upd_eq, upd_ne, st_ne, st_eq]); exact this
  · have := kD i hi
    (try simp (disch := omega) only [fm_sI_2, fm_sA_1, fm_sA_3, fm_sI_eq, fm_sI_ne, fm_sA_eq, fm_sA_ne, upd_eq, upd_ne, st_ne, st_eq]); exact this
theorem aq_price (h : AQ μ a) (wb : WB a) {v t : Nat} (ht : t < 6) (e : ν.2.1 236 = upd (μ.2.1 236) (27 + t) (n3 v - n3 1)) (e7 : ν.1 232 7 = μ.1 232 7) (e8 : ν.1 232 8 = μ.1 232 8) (ed : ν.2.1 237 = μ.2.1 237) : AQ ν (st a (27 + t) v) := by
  obtain ⟨b38, b23, b39⟩ := wb
  obtain ⟨⟨k1, k3, ko⟩, ⟨k23, k24, k25, k26, k37⟩, kP, kS, kR, kD⟩ := h
  unfold AQ
  rw [e, e7, e8, ed]
  simp (disch := omega) only [fm_sI_2, fm_sA_1, fm_sA_3, fm_sI_eq, fm_sI_ne, fm_sA_eq, fm_sA_ne, upd_eq, upd_ne, st_ne, st_eq]
  refine ⟨⟨k1, k3, fun i hi => ?_⟩, ⟨k23, k24, k25, k26, k37⟩, fun i hi => ?_, fun i hi => ?_, fun i hi => ?_, fun i hi => ?_⟩
  · have := ko i hi
    (try simp (disch := omega) only [fm_sI_2, fm_sA_1, fm_sA_3, fm_sI_eq, fm_sI_ne, fm_sA_eq, fm_sA_ne, upd_eq, upd_ne, st_ne, st_eq]); exact this
  · have := kP i hi
    (try simp (disch := omega) only [fm_sI_2, fm_sA_1, fm_sA_3, fm_sI_eq, fm_sI_ne, fm_sA_eq, fm_sA_ne, upd_eq, upd_ne, st_ne, st_eq]); exact this
  · have := kS i hi
    (try simp (disch := omega) only [fm_sI_2, fm_sA_1, fm_sA_3, fm_sI_eq, fm_sI_ne, fm_sA_eq, fm_sA_ne, upd_eq, upd_ne, st_ne, st_eq]); exact this
  · by_cases c : i = t
    · subst c
      simp (disch := omega) only [fm_sI_2, fm_sA_1, fm_sA_3, fm_sI_eq, fm_sI_ne, fm_sA_eq, fm_sA_ne, upd_eq, upd_ne, st_ne, st_eq, and_self]
    · have := kR i hi
      (try simp (disch := omega) only [fm_sI_2, fm_sA_1, fm_sA_3, fm_sI_eq, fm_sI_ne, fm_sA_eq, fm_sA_ne, upd_eq, upd_ne, st_ne, st_eq]); exact this
  · have := kD i hi
    (try simp (disch := omega) only [fm_sI_2, fm_sA_1, fm_sA_3, fm_sI_eq, fm_sI_ne, fm_sA_eq, fm_sA_ne, upd_eq, upd_ne, st_ne, st_eq]); exact this
theorem mx_l (x y : Nat) : x ≤ mx x y := by unfold mx; split <;> omega
theorem mx_r (x y : Nat) : y ≤ mx x y := by unfold mx; split <;> omega
theorem mx_e (x y : Nat) : mx x y = x ∨ mx x y = y := by unfold mx; split <;> omega
theorem wt_man (wt : WT a h1 pm) (hn : a 38 < 4) {v q : Nat} (hv : v ≤ 5) (hq : q ≤ 9) : WT (addP a v q) h1 pm := by
  obtain ⟨⟨⟨b1, b2, b3⟩, b4, b5, b6, b7, b8, b9, b10⟩, wP, wS, wR, wD, wX⟩ := wt
  unfold WT addP
  simp (disch := omega) only [st_ne, st_eq]
  refine ⟨⟨⟨by omega, b2, b3⟩, b4, b5, b6, b7, b8, b9, b10⟩, fun i hi => ?_, fun i hi => ?_, fun i hi => ?_, fun i hi => ?_, ?_⟩
  · by_cases c : i = a 38
    · subst c
      (try simp (disch := omega) only [st_ne, st_eq]); omega
    · have := wP i (by omega)
      (try simp (disch := omega) only [st_ne, st_eq]); exact this
  · have := wS i hi
    (try simp (disch := omega) only [st_ne, st_eq]); exact this
  · have := wR i hi
    (try simp (disch := omega) only [st_ne, st_eq]); exact this
  · have := wD i hi
    (try simp (disch := omega) only [st_ne, st_eq]); exact this
  · rcases wX with c | ⟨i, c1, c2⟩ | ⟨i, c1, c2⟩
    · exact .inl c
    · exact .inr (.inl ⟨i, c1, by (try simp (disch := omega) only [st_ne, st_eq]); exact c2⟩)
    · exact .inr (.inr ⟨i, c1, by (try simp (disch := omega) only [st_ne, st_eq]); exact c2⟩)
theorem wt_stone (wt : WT a h1 pm) (hn : a 23 < 5) {k v o : Nat} (hk : k ≤ 3) (hv : v ≤ 99) (ho : o ≤ 3) : WT (addS a k v o) (mx h1 (o + 1)) pm := by
  obtain ⟨⟨⟨b1, b2, b3⟩, b4, b5, b6, b7, b8, b9, b10⟩, wP, wS, wR, wD, wX⟩ := wt
  have l := mx_l h1 (o + 1)
  have r := mx_r h1 (o + 1)
  have e := mx_e h1 (o + 1)
  generalize mx h1 (o + 1) = h2 at *
  unfold WT addS
  simp (disch := omega) only [st_ne, st_eq]
  refine ⟨⟨⟨b1, by omega, b3⟩, b4, b5, b6, b7, b8, by omega, b10⟩, fun i hi => ?_, fun i hi => ?_, fun i hi => ?_, fun i hi => ?_, ?_⟩
  · have := wP i hi
    (try simp (disch := omega) only [st_ne, st_eq]); exact this
  · by_cases c : i = a 23
    · subst c
      (try simp (disch := omega) only [st_ne, st_eq]); omega
    · have := wS i (by omega)
      (try simp (disch := omega) only [st_ne, st_eq]); omega
  · have := wR i hi
    (try simp (disch := omega) only [st_ne, st_eq]); exact this
  · have := wD i hi
    (try simp (disch := omega) only [st_ne, st_eq]); omega
  · rcases e with e | e
    · rw [e]
      rcases wX with c | ⟨i, c1, c2⟩ | ⟨i, c1, c2⟩
      · exact .inl c
      · exact .inr (.inl ⟨i, by omega, by (try simp (disch := omega) only [st_ne, st_eq]); exact c2⟩)
      · exact .inr (.inr ⟨i, c1, by (try simp (disch := omega) only [st_ne, st_eq]); exact c2⟩)
    · exact .inr (.inl ⟨a 23, by omega, by (try simp (disch := omega) only [st_ne, st_eq]); omega⟩)
theorem wt_debt (wt : WT a h1 pm) (hn : a 39 < 4) {f t m : Nat} (hf : f ≤ 3) (ht : t ≤ 3) (hm : m ≤ 99) (hne : f ≠ t) : WT (addD a f t m) (mx (mx h1 (f + 1)) (t + 1)) pm := by
  obtain ⟨⟨⟨b1, b2, b3⟩, b4, b5, b6, b7, b8, b9, b10⟩, wP, wS, wR, wD, wX⟩ := wt
  have l := mx_l h1 (f + 1)
  have r := mx_r h1 (f + 1)
  have e := mx_e h1 (f + 1)
  generalize mx h1 (f + 1) = h2 at *
  have l2 := mx_l h2 (t + 1)
  have r2 := mx_r h2 (t + 1)
  have e2 := mx_e h2 (t + 1)
  generalize mx h2 (t + 1) = h3 at *
  unfold WT addD
  simp (disch := omega) only [st_ne, st_eq]
  refine ⟨⟨⟨b1, b2, by omega⟩, b4, b5, b6, b7, b8, by omega, b10⟩, fun i hi => ?_, fun i hi => ?_, fun i hi => ?_, fun i hi => ?_, ?_⟩
  · have := wP i hi
    (try simp (disch := omega) only [st_ne, st_eq]); exact this
  · have := wS i hi
    (try simp (disch := omega) only [st_ne, st_eq]); omega
  · have := wR i hi
    (try simp (disch := omega) only [st_ne, st_eq]); exact this
  · clear wX
    by_cases c : i = a 39
    · subst c
      (try simp (disch := omega) only [st_ne, st_eq]); omega
    · have := wD i (by omega)
      (try simp (disch := omega) only [st_ne, st_eq]); omega
  · rcases e2 with e2 | e2
    · rw [e2]
      rcases e with e | e
      · rw [e]
        rcases wX with c | ⟨i, c1, c2⟩ | ⟨i, c1, c2⟩
        · exact .inl c
        · exact .inr (.inl ⟨i, c1, by (try simp (disch := omega) only [st_ne, st_eq]); exact c2⟩)
        · exact .inr (.inr ⟨i, by omega, by (try simp (disch := omega) only [st_ne, st_eq]); exact c2⟩)
      · exact .inr (.inr ⟨a 39, by omega, by (try simp (disch := omega) only [st_ne, st_eq]); omega⟩)
    · exact .inr (.inr ⟨a 39, by omega, by (try simp (disch := omega) only [st_ne, st_eq]); omega⟩)
/-- another of the single figures -/
theorem wt_fig (wt : WT a h1 pm) {i v pm' : Nat} (hi : i = 24 ∧ v ≤ 9 ∨ i = 25 ∧ 5 ≤ v ∧ v ≤ 99 ∨ i = 26 ∧ v ≤ 10 ∨ 27 ≤ i ∧ i < 33 ∧ 1 ≤ v ∧ v ≤ 9) (hpm : pm' < 64) : WT (st a i v) h1 pm' := by
  obtain ⟨⟨⟨b1, b2, b3⟩, b4, b5, b6, b7, b8, b9, b10⟩, wP, wS, wR, wD, wX⟩ := wt
  unfold WT
  have e : ∀ j, j ≠ i → st a i v j = a j := fun j hj => st_ne hj
  rw [e 38 (by omega), e 23 (by omega), e 39 (by omega), e 37 (by omega)]
  refine ⟨⟨⟨b1, b2, b3⟩, ?_, ?_, ?_, ?_, b8, b9, hpm⟩, fun k hk => ?_, fun k hk => ?_, fun k hk => ?_, fun k hk => ?_, ?_⟩
  · by_cases c : i = 24
    · rw [c, st_eq rfl]; omega
    · rw [e 24 (by omega)]; exact b4
  · by_cases c : i = 25
    · rw [c, st_eq rfl]; omega
    · rw [e 25 (by omega)]; exact b5
  · by_cases c : i = 25
    · rw [c, st_eq rfl]; omega
    · rw [e 25 (by omega)]; exact b6
  · by_cases c : i = 26
    · rw [c, st_eq rfl]; omega
    · rw [e 26 (by omega)]; exact b7
  · rw [e k (by omega), e (4 + k) (by omega)]; exact wP k hk
  · rw [e (8 + k) (by omega), e (13 + k) (by omega), e (18 + k) (by omega)]; exact wS k hk
  · clear wX
    by_cases c : i = 27 + k
    · rw [c, st_eq rfl]; omega
    · rw [e (27 + k) (by omega)]; exact wR k hk
  · rw [e (33 + k) (by omega), e (40 + k) (by omega), e (44 + k) (by omega)]; exact wD k hk
  · rcases wX with c | ⟨k, c1, c2⟩ | ⟨k, c1, c2⟩
    · exact .inl c
    · exact .inr (.inl ⟨k, c1, by rw [e (18 + k) (by omega)]; exact c2⟩)
    · exact .inr (.inr ⟨k, c1, by rw [e (40 + k) (by omega), e (44 + k) (by omega)]; exact c2⟩)
/-! the two ways of reading end alike -/
theorem nmC_0 {lo hi q : Nat} : nmC B T lo hi q = 0 ↔ (¬ ((lxK B T q = 2 ∧ 2 < lxE B T q - lxS B T q) ∨ (lxK B T q = 3 ∧ ¬ B (lxS B T q) = 59)) ∧ lxK B T q = 2 ∧ lo ≤ lxV B T q ∧ lxV B T q ≤ hi) := by
  unfold nmC
  by_cases c1 : (lxK B T q = 2 ∧ 2 < lxE B T q - lxS B T q) ∨ (lxK B T q = 3 ∧ ¬ B (lxS B T q) = 59)
  · rw [if_pos c1]; constructor
    · intro h; omega
    · intro h; exact absurd c1 h.1
  · rw [if_neg c1]
    by_cases c2 : lxK B T q = 2
    · rw [if_neg (fun z => z c2)]
      by_cases c3 : lxV B T q < lo ∨ hi < lxV B T q
      · rw [if_pos c3]; constructor
        · intro h; omega
        · intro h; omega
      · rw [if_neg c3]; constructor
        · intro _; exact ⟨c1, c2, by omega, by omega⟩
        · intro _; rfl
    · rw [if_pos c2]; constructor
      · intro h; omega
      · intro h; exact absurd h.2.1 c2
theorem nmT_0 {lo hi q : Nat} (h : nmC B T lo hi q = 0) : nmT B T lo hi (.inl q) = (lxV B T q, .inl (lxE B T q)) := if_pos h
theorem nmT_1 {lo hi q : Nat} (h : ¬ nmC B T lo hi q = 0) : nmT B T lo hi (.inl q) = (lo, .inr (nmC B T lo hi q, lxS B T q)) := if_neg h
theorem pr_eq {q : Nat} : rfT (decide (pm / 2 ^ (nmT B T 0 5 (.inl q)).1 % 2 = 1)) 4 (lxS B T q) (nmT B T 0 5 (.inl q)).2 = (nmT B T 0 5 (prT B T pm (.inl q))).2 ∧ (liv (nmT B T 0 5 (prT B T pm (.inl q))).2 → (nmT B T 0 5 (prT B T pm (.inl q))).1 = (nmT B T 0 5 (.inl q)).1) := by
  by_cases c : nmC B T 0 5 q = 0
  · have c' := nmC_0.mp c
    by_cases cb : pm / 2 ^ lxV B T q % 2 = 1
    · have e : prT B T pm (.inl q) = .inr (4, lxS B T q) := if_pos ⟨c'.1, c'.2.1, c'.2.2.2, cb⟩
      rw [nmT_0 c, e]
      dsimp only
      rw [decide_eq_true cb]
      exact ⟨rfl, fun h => by obtain ⟨x, hx⟩ := h; cases hx⟩
    · have e : prT B T pm (.inl q) = .inl q := if_neg (fun z => cb z.2.2.2)
      rw [e, nmT_0 c]
      dsimp only
      rw [decide_eq_false cb]
      exact ⟨rfl, fun _ => rfl⟩
  · have e : prT B T pm (.inl q) = .inl q := if_neg (fun z => c (nmC_0.mpr ⟨z.1, z.2.1, Nat.zero_le _, z.2.2.1⟩))
    rw [e, nmT_1 c]
    exact ⟨rfl, fun _ => rfl⟩
theorem db_eq : dbT B T σ = (nmT B T 0 3 (eqT B T (nmT B T 0 3 σ).1 (nmT B T 0 3 σ).2)).2 ∧ (liv (dbT B T σ) → (nmT B T 0 3 (eqT B T (nmT B T 0 3 σ).1 (nmT B T 0 3 σ).2)).1 = (nmT B T 0 3 (nmT B T 0 3 σ).2).1 ∧ (nmT B T 0 3 σ).1 ≠ (nmT B T 0 3 (nmT B T 0 3 σ).2).1) := by
  have fl := (nmT_in (B := B) (T := T) (lo := 0) (hi := 3) (by omega) σ).2
  unfold dbT
  generalize (nmT B T 0 3 σ).1 = f at *
  generalize (nmT B T 0 3 σ).2 = τ at *
  cases τ with
  | inr d => exact ⟨rfl, fun h => by obtain ⟨x, hx⟩ := h; cases hx⟩
  | inl q =>
    by_cases c : nmC B T 0 3 q = 0
    · have c' := nmC_0.mp c
      by_cases cb : lxV B T q = f
      · have e : eqT B T f (.inl q) = .inr (3, lxS B T q) := if_pos ⟨c'.1, c'.2.1, cb⟩
        rw [nmT_0 c, e]
        dsimp only
        rw [decide_eq_true cb.symm]
        exact ⟨rfl, fun h => by obtain ⟨x, hx⟩ := h; cases hx⟩
      · have e : eqT B T f (.inl q) = .inl q := if_neg (fun z => cb z.2.2)
        rw [e, nmT_0 c]
        dsimp only
        rw [decide_eq_false (fun z => cb z.symm)]
        exact ⟨rfl, fun _ => ⟨rfl, fun z => cb z.symm⟩⟩
    · have e : eqT B T f (.inl q) = .inl q := if_neg (fun z => c (nmC_0.mpr ⟨z.1, z.2.1, Nat.zero_le _, by omega⟩))
      rw [e, nmT_1 c]
      exact ⟨rfl, fun h => by obtain ⟨x, hx⟩ := h; cases hx⟩
/-! reading goes on -/
def geS (p : Nat) (σ : Nat ⊕ (Nat × Nat)) : Prop := ∀ q, σ = .inl q → p ≤ q
theorem ge_nm {lo hi : Nat} (h : geS p σ) : geS p (nmT B T lo hi σ).2 := by
  cases σ with
  | inr d => intro q hq; cases hq
  | inl r =>
    have := h r rfl
    intro q hq
    by_cases c : nmC B T lo hi r = 0
    · rw [nmT_0 c] at hq
      cases hq
      have := lxS_ge (B := B) (T := T) (p := r)
      have := lxE_ge (B := B) (T := T) (p := r)
      omega
    · rw [nmT_1 c] at hq; cases hq
theorem ge_rf {c : Bool} {k s : Nat} (h : geS p σ) : geS p (rfT c k s σ) := by
  cases σ with
  | inr d => intro q hq; cases hq
  | inl r =>
    cases c with
    | true => intro q hq; cases hq
    | false => exact h
theorem ge_sm (h : geS p σ) : geS (p + 1) (smT B T σ) := by
  cases σ with
  | inr d => intro q hq; cases hq
  | inl r =>
    have := h r rfl
    intro q hq
    by_cases c : smC B T r = 0
    · have e : smT B T (.inl r) = .inl (lxE B T r) := if_pos c
      rw [e] at hq
      cases hq
      have := lxS_ge (B := B) (T := T) (p := r)
      have k : lxK B T r ≠ 0 := by
        unfold smC at c
        split at c
        · omega
        · split at c
          · omega
          · rename_i z; omega
      have := lxE_gt k
      omega
    · have e : smT B T (.inl r) = .inr (smC B T r, lxS B T r) := if_neg c
      rw [e] at hq; cases hq
theorem v_m9 : ((List.range 512).all fun s => (List.range 9).all fun t => decide (((n3 s >>> (n3 t &&& 31)) &&& 1) = n3 (s / 2 ^ t % 2) ∧ (n3 s ||| (1 <<< (n3 t &&& 31))) = n3 (s ||| 2 ^ t) ∧ (s ||| 2 ^ t) < 512 ∧ (s ||| 2 ^ t) / 64 % 2 = (if t = 6 then 1 else s / 64 % 2) ∧ (s ||| 2 ^ t) / 128 % 2 = (if t = 7 then 1 else s / 128 % 2))) = true := by decide +kernel
theorem v_m9' {s t : Nat} (h : s < 512) (h2 : t < 9) : ((n3 s >>> (n3 t &&& 31)) &&& 1) = n3 (s / 2 ^ t % 2) ∧ (n3 s ||| (1 <<< (n3 t &&& 31))) = n3 (s ||| 2 ^ t) ∧ (s ||| 2 ^ t) < 512 ∧ (s ||| 2 ^ t) / 64 % 2 = (if t = 6 then 1 else s / 64 % 2) ∧ (s ||| 2 ^ t) / 128 % 2 = (if t = 7 then 1 else s / 128 % 2) :=
  of_decide_eq_true (List.all_eq_true.mp (List.all_eq_true.mp v_m9 s (List.mem_range.mpr h)) t (List.mem_range.mpr h2))
end VS70
