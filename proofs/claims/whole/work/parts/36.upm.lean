/-! needs: 30.int 31.abs 32.cls 33.upd 34.clw 35.hand -/
/-! the page of the reference: a cell given anew; frames -/
def FM (P : Nat) (μ ν : fm_M) : Prop := ν.1 = μ.1 ∧ ν.2.2 = μ.2.2 ∧ (∀ q, q ≠ 233 → ν.2.1 q = μ.2.1 q) ∧ ∀ k, k < P ∨ P + 38 ≤ k → ν.2.1 233 k = μ.2.1 233 k
theorem FM.refl (P : Nat) (μ : fm_M) : FM P μ μ := ⟨rfl, rfl, fun _ _ => rfl, fun _ _ => rfl⟩
theorem FM.trans {P : Nat} {μ ν ρ : fm_M} (h : FM P μ ν) (h2 : FM P ν ρ) : FM P μ ρ := ⟨h2.1.trans h.1, h2.2.1.trans h.2.1, fun q hq => (h2.2.2.1 q hq).trans (h.2.2.1 q hq), fun k hk => (h2.2.2.2 k hk).trans (h.2.2.2 k hk)⟩
theorem FM.fr {P : Nat} {μ ν : fm_M} (h : FM P μ ν) : Fr 232 253 μ ν := ⟨fun q hq => ⟨by rw [h.1], h.2.2.1 q (by omega)⟩, h.2.1⟩
theorem FM.sA {P : Nat} {μ ν : fm_M} (h : FM P μ ν) {k : Nat} {x : Int32} (hk : P ≤ k ∧ k < P + 38) : FM P μ (fm_sA ν 233 (upd (ν.2.1 233) k x)) := by
  refine ⟨h.1, h.2.1, fun q hq => ?_, fun j hj => ?_⟩
  · rw [fm_sA_ne hq]; exact h.2.2.1 q hq
  · rw [fm_sA_eq rfl, upd_ne (by omega)]; exact h.2.2.2 j hj
theorem AP.fm {P Q : Nat} {μ ν : fm_M} {a : Nat → Nat} (h : AP μ Q a) (wf : WF a) (hf : FM P μ ν) (hd : Q + 38 ≤ P ∨ P + 38 ≤ Q) : AP ν Q a := by
  obtain ⟨⟨h1, h3, hb, ho⟩, ⟨h23, h24, h25, h26, h37⟩, hP, hS, hR, hD⟩ := h; obtain ⟨⟨b38, b23, b39, b24, b25, b25u, b26⟩, wP, wS, wR, wD⟩ := id wf
  unfold AP
  rw [hf.1, hf.2.2.1 234 (by omega), hf.2.2.1 235 (by omega), hf.2.2.2 (Q + 23) (by omega), hf.2.2.2 (Q + 24) (by omega), hf.2.2.2 (Q + 25) (by omega), hf.2.2.2 (Q + 26) (by omega), hf.2.2.2 (Q + 37) (by omega)]
  refine ⟨⟨h1, h3, hb, ho⟩, ⟨h23, h24, h25, h26, h37⟩, fun i hi => ?_, fun i hi => ?_, fun i hi => ?_, fun i hi => ?_⟩
  · rw [hf.2.2.2 (Q + i) (by omega), hf.2.2.2 (Q + 4 + i) (by omega)]; exact hP i hi
  · rw [hf.2.2.2 (Q + 8 + i) (by omega), hf.2.2.2 (Q + 13 + i) (by omega), hf.2.2.2 (Q + 18 + i) (by omega)]; exact hS i hi
  · rw [hf.2.2.2 (Q + 27 + i) (by omega)]; exact hR i hi
  · rw [hf.2.2.2 (Q + 33 + i) (by omega)]; exact hD i hi
section VS36
variable {F : Nat} {μ ν : fm_M} {a : Nat → Nat} {P : Nat}
theorem ap_wool (h : AP μ P a) (wf : WF a) {i : Nat} (hi : i < a 38) (v : Nat) : AP (fm_sA μ 233 (upd (μ.2.1 233) (P + i) (n3 v))) P (st a i v) := by
  obtain ⟨⟨h1, h3, hb, ho⟩, ⟨h23, h24, h25, h26, h37⟩, hP, hS, hR, hD⟩ := h; obtain ⟨⟨b38, b23, b39, b24, b25, b25u, b26⟩, wP, wS, wR, wD⟩ := id wf
  unfold AP
  simp (disch := omega) only [fm_sI_2, fm_sA_1, fm_sA_3, fm_sI_eq, fm_sI_ne, fm_sA_eq, fm_sA_ne, upd_eq, upd_ne, st_ne, st_eq]
  refine ⟨⟨h1, h3, hb, fun k hk => ?_⟩, ⟨h23, h24, h25, h26, h37⟩, fun k hk => ?_, fun k hk => ?_, fun k hk => ?_, fun k hk => ?_⟩
  all_goals
    by_cases e : k = i
    · subst e
      simp (disch := omega) only [fm_sI_2, fm_sA_1, fm_sA_3, fm_sI_eq, fm_sI_ne, fm_sA_eq, fm_sA_ne, upd_eq, upd_ne, st_ne, st_eq, h1, h3, hb, ho, h23, h24, h25, h26, h37, hP, hS, hR, hD, and_self]
    · simp (disch := omega) only [fm_sI_2, fm_sA_1, fm_sA_3, fm_sI_eq, fm_sI_ne, fm_sA_eq, fm_sA_ne, upd_eq, upd_ne, st_ne, st_eq, h1, h3, hb, ho, h23, h24, h25, h26, h37, hP, hS, hR, hD, and_self]
theorem ap_place (h : AP μ P a) (wf : WF a) {i : Nat} (hi : i < a 38) (v : Nat) : AP (fm_sA μ 233 (upd (μ.2.1 233) (P + 4 + i) (n3 v))) P (st a (4 + i) v) := by
  obtain ⟨⟨h1, h3, hb, ho⟩, ⟨h23, h24, h25, h26, h37⟩, hP, hS, hR, hD⟩ := h; obtain ⟨⟨b38, b23, b39, b24, b25, b25u, b26⟩, wP, wS, wR, wD⟩ := id wf
  unfold AP
  simp (disch := omega) only [fm_sI_2, fm_sA_1, fm_sA_3, fm_sI_eq, fm_sI_ne, fm_sA_eq, fm_sA_ne, upd_eq, upd_ne, st_ne, st_eq]
  refine ⟨⟨h1, h3, hb, fun k hk => ?_⟩, ⟨h23, h24, h25, h26, h37⟩, fun k hk => ?_, fun k hk => ?_, fun k hk => ?_, fun k hk => ?_⟩
  all_goals
    by_cases e : k = i
    · subst e
      simp (disch := omega) only [fm_sI_2, fm_sA_1, fm_sA_3, fm_sI_eq, fm_sI_ne, fm_sA_eq, fm_sA_ne, upd_eq, upd_ne, st_ne, st_eq, h1, h3, hb, ho, h23, h24, h25, h26, h37, hP, hS, hR, hD, and_self]
    · simp (disch := omega) only [fm_sI_2, fm_sA_1, fm_sA_3, fm_sI_eq, fm_sI_ne, fm_sA_eq, fm_sA_ne, upd_eq, upd_ne, st_ne, st_eq, h1, h3, hb, ho, h23, h24, h25, h26, h37, hP, hS, hR, hD, and_self]
theorem ap_kind (h : AP μ P a) (wf : WF a) {i : Nat} (hi : i < a 23) (v : Nat) : AP (fm_sA μ 233 (upd (μ.2.1 233) (P + 8 + i) (n3 v))) P (st a (8 + i) v) := by
  obtain ⟨⟨h1, h3, hb, ho⟩, ⟨h23, h24, h25, h26, h37⟩, hP, hS, hR, hD⟩ := h; obtain ⟨⟨b38, b23, b39, b24, b25, b25u, b26⟩, wP, wS, wR, wD⟩ := id wf
  unfold AP
  simp (disch := omega) only [fm_sI_2, fm_sA_1, fm_sA_3, fm_sI_eq, fm_sI_ne, fm_sA_eq, fm_sA_ne, upd_eq, upd_ne, st_ne, st_eq]
  refine ⟨⟨h1, h3, hb, fun k hk => ?_⟩, ⟨h23, h24, h25, h26, h37⟩, fun k hk => ?_, fun k hk => ?_, fun k hk => ?_, fun k hk => ?_⟩
  all_goals
    by_cases e : k = i
    · subst e
      simp (disch := omega) only [fm_sI_2, fm_sA_1, fm_sA_3, fm_sI_eq, fm_sI_ne, fm_sA_eq, fm_sA_ne, upd_eq, upd_ne, st_ne, st_eq, h1, h3, hb, ho, h23, h24, h25, h26, h37, hP, hS, hR, hD, and_self]
    · simp (disch := omega) only [fm_sI_2, fm_sA_1, fm_sA_3, fm_sI_eq, fm_sI_ne, fm_sA_eq, fm_sA_ne, upd_eq, upd_ne, st_ne, st_eq, h1, h3, hb, ho, h23, h24, h25, h26, h37, hP, hS, hR, hD, and_self]
theorem ap_warm (h : AP μ P a) (wf : WF a) {i : Nat} (hi : i < a 23) (v : Nat) : AP (fm_sA μ 233 (upd (μ.2.1 233) (P + 13 + i) (n3 v))) P (st a (13 + i) v) := by
  obtain ⟨⟨h1, h3, hb, ho⟩, ⟨h23, h24, h25, h26, h37⟩, hP, hS, hR, hD⟩ := h; obtain ⟨⟨b38, b23, b39, b24, b25, b25u, b26⟩, wP, wS, wR, wD⟩ := id wf
  unfold AP
  simp (disch := omega) only [fm_sI_2, fm_sA_1, fm_sA_3, fm_sI_eq, fm_sI_ne, fm_sA_eq, fm_sA_ne, upd_eq, upd_ne, st_ne, st_eq]
  refine ⟨⟨h1, h3, hb, fun k hk => ?_⟩, ⟨h23, h24, h25, h26, h37⟩, fun k hk => ?_, fun k hk => ?_, fun k hk => ?_, fun k hk => ?_⟩
  all_goals
    by_cases e : k = i
    · subst e
      simp (disch := omega) only [fm_sI_2, fm_sA_1, fm_sA_3, fm_sI_eq, fm_sI_ne, fm_sA_eq, fm_sA_ne, upd_eq, upd_ne, st_ne, st_eq, h1, h3, hb, ho, h23, h24, h25, h26, h37, hP, hS, hR, hD, and_self]
    · simp (disch := omega) only [fm_sI_2, fm_sA_1, fm_sA_3, fm_sI_eq, fm_sI_ne, fm_sA_eq, fm_sA_ne, upd_eq, upd_ne, st_ne, st_eq, h1, h3, hb, ho, h23, h24, h25, h26, h37, hP, hS, hR, hD, and_self]
theorem ap_owner (h : AP μ P a) (wf : WF a) {i : Nat} (hi : i < a 23) (v : Nat) : AP (fm_sA μ 233 (upd (μ.2.1 233) (P + 18 + i) (n3 v))) P (st a (18 + i) v) := by
  obtain ⟨⟨h1, h3, hb, ho⟩, ⟨h23, h24, h25, h26, h37⟩, hP, hS, hR, hD⟩ := h; obtain ⟨⟨b38, b23, b39, b24, b25, b25u, b26⟩, wP, wS, wR, wD⟩ := id wf
  unfold AP
  simp (disch := omega) only [fm_sI_2, fm_sA_1, fm_sA_3, fm_sI_eq, fm_sI_ne, fm_sA_eq, fm_sA_ne, upd_eq, upd_ne, st_ne, st_eq]
  refine ⟨⟨h1, h3, hb, fun k hk => ?_⟩, ⟨h23, h24, h25, h26, h37⟩, fun k hk => ?_, fun k hk => ?_, fun k hk => ?_, fun k hk => ?_⟩
  all_goals
    by_cases e : k = i
    · subst e
      simp (disch := omega) only [fm_sI_2, fm_sA_1, fm_sA_3, fm_sI_eq, fm_sI_ne, fm_sA_eq, fm_sA_ne, upd_eq, upd_ne, st_ne, st_eq, h1, h3, hb, ho, h23, h24, h25, h26, h37, hP, hS, hR, hD, and_self]
    · simp (disch := omega) only [fm_sI_2, fm_sA_1, fm_sA_3, fm_sI_eq, fm_sI_ne, fm_sA_eq, fm_sA_ne, upd_eq, upd_ne, st_ne, st_eq, h1, h3, hb, ho, h23, h24, h25, h26, h37, hP, hS, hR, hD, and_self]
theorem ap_price (h : AP μ P a) (wf : WF a) {i : Nat} (hi : i < 6) (v : Nat) : AP (fm_sA μ 233 (upd (μ.2.1 233) (P + 27 + i) (n3 v - n3 1))) P (st a (27 + i) v) := by
  obtain ⟨⟨h1, h3, hb, ho⟩, ⟨h23, h24, h25, h26, h37⟩, hP, hS, hR, hD⟩ := h; obtain ⟨⟨b38, b23, b39, b24, b25, b25u, b26⟩, wP, wS, wR, wD⟩ := id wf
  unfold AP
  simp (disch := omega) only [fm_sI_2, fm_sA_1, fm_sA_3, fm_sI_eq, fm_sI_ne, fm_sA_eq, fm_sA_ne, upd_eq, upd_ne, st_ne, st_eq]
  refine ⟨⟨h1, h3, hb, fun k hk => ?_⟩, ⟨h23, h24, h25, h26, h37⟩, fun k hk => ?_, fun k hk => ?_, fun k hk => ?_, fun k hk => ?_⟩
  all_goals
    by_cases e : k = i
    · subst e
      simp (disch := omega) only [fm_sI_2, fm_sA_1, fm_sA_3, fm_sI_eq, fm_sI_ne, fm_sA_eq, fm_sA_ne, upd_eq, upd_ne, st_ne, st_eq, h1, h3, hb, ho, h23, h24, h25, h26, h37, hP, hS, hR, hD, and_self]
    · simp (disch := omega) only [fm_sI_2, fm_sA_1, fm_sA_3, fm_sI_eq, fm_sI_ne, fm_sA_eq, fm_sA_ne, upd_eq, upd_ne, st_ne, st_eq, h1, h3, hb, ho, h23, h24, h25, h26, h37, hP, hS, hR, hD, and_self]
theorem ap_amt (h : AP μ P a) (wf : WF a) {i : Nat} (hi : i < a 39) (v : Nat) : AP (fm_sA μ 233 (upd (μ.2.1 233) (P + 33 + i) (n3 v))) P (st a (33 + i) v) := by
  obtain ⟨⟨h1, h3, hb, ho⟩, ⟨h23, h24, h25, h26, h37⟩, hP, hS, hR, hD⟩ := h; obtain ⟨⟨b38, b23, b39, b24, b25, b25u, b26⟩, wP, wS, wR, wD⟩ := id wf
  unfold AP
  simp (disch := omega) only [fm_sI_2, fm_sA_1, fm_sA_3, fm_sI_eq, fm_sI_ne, fm_sA_eq, fm_sA_ne, upd_eq, upd_ne, st_ne, st_eq]
  refine ⟨⟨h1, h3, hb, fun k hk => ?_⟩, ⟨h23, h24, h25, h26, h37⟩, fun k hk => ?_, fun k hk => ?_, fun k hk => ?_, fun k hk => ?_⟩
  all_goals
    by_cases e : k = i
    · subst e
      simp (disch := omega) only [fm_sI_2, fm_sA_1, fm_sA_3, fm_sI_eq, fm_sI_ne, fm_sA_eq, fm_sA_ne, upd_eq, upd_ne, st_ne, st_eq, h1, h3, hb, ho, h23, h24, h25, h26, h37, hP, hS, hR, hD, and_self]
    · simp (disch := omega) only [fm_sI_2, fm_sA_1, fm_sA_3, fm_sI_eq, fm_sI_ne, fm_sA_eq, fm_sA_ne, upd_eq, upd_ne, st_ne, st_eq, h1, h3, hb, ho, h23, h24, h25, h26, h37, hP, hS, hR, hD, and_self]
theorem ap_oven (h : AP μ P a) (wf : WF a) (v : Nat) : AP (fm_sA μ 233 (upd (μ.2.1 233) (P + 24) (n3 v))) P (st a 24 v) := by
  obtain ⟨⟨h1, h3, hb, ho⟩, ⟨h23, h24, h25, h26, h37⟩, hP, hS, hR, hD⟩ := h; obtain ⟨⟨b38, b23, b39, b24, b25, b25u, b26⟩, wP, wS, wR, wD⟩ := id wf
  unfold AP
  simp (disch := omega) only [fm_sI_2, fm_sA_1, fm_sA_3, fm_sI_eq, fm_sI_ne, fm_sA_eq, fm_sA_ne, upd_eq, upd_ne, st_ne, st_eq]
  refine ⟨⟨h1, h3, hb, fun k hk => ?_⟩, ⟨?_, ?_, ?_, ?_, ?_⟩, fun k hk => ?_, fun k hk => ?_, fun k hk => ?_, fun k hk => ?_⟩
  all_goals simp (disch := omega) only [fm_sI_2, fm_sA_1, fm_sA_3, fm_sI_eq, fm_sI_ne, fm_sA_eq, fm_sA_ne, upd_eq, upd_ne, st_ne, st_eq, h1, h3, hb, ho, h23, h24, h25, h26, h37, hP, hS, hR, hD, and_self]
theorem ap_heat (h : AP μ P a) (wf : WF a) (v : Nat) : AP (fm_sA μ 233 (upd (μ.2.1 233) (P + 25) (n3 v - n3 50))) P (st a 25 v) := by
  obtain ⟨⟨h1, h3, hb, ho⟩, ⟨h23, h24, h25, h26, h37⟩, hP, hS, hR, hD⟩ := h; obtain ⟨⟨b38, b23, b39, b24, b25, b25u, b26⟩, wP, wS, wR, wD⟩ := id wf
  unfold AP
  simp (disch := omega) only [fm_sI_2, fm_sA_1, fm_sA_3, fm_sI_eq, fm_sI_ne, fm_sA_eq, fm_sA_ne, upd_eq, upd_ne, st_ne, st_eq]
  refine ⟨⟨h1, h3, hb, fun k hk => ?_⟩, ⟨?_, ?_, ?_, ?_, ?_⟩, fun k hk => ?_, fun k hk => ?_, fun k hk => ?_, fun k hk => ?_⟩
  all_goals simp (disch := omega) only [fm_sI_2, fm_sA_1, fm_sA_3, fm_sI_eq, fm_sI_ne, fm_sA_eq, fm_sA_ne, upd_eq, upd_ne, st_ne, st_eq, h1, h3, hb, ho, h23, h24, h25, h26, h37, hP, hS, hR, hD, and_self]
theorem ap_wind (h : AP μ P a) (wf : WF a) (v : Nat) : AP (fm_sA μ 233 (upd (μ.2.1 233) (P + 26) (n3 v - n3 2))) P (st a 26 v) := by
  obtain ⟨⟨h1, h3, hb, ho⟩, ⟨h23, h24, h25, h26, h37⟩, hP, hS, hR, hD⟩ := h; obtain ⟨⟨b38, b23, b39, b24, b25, b25u, b26⟩, wP, wS, wR, wD⟩ := id wf
  unfold AP
  simp (disch := omega) only [fm_sI_2, fm_sA_1, fm_sA_3, fm_sI_eq, fm_sI_ne, fm_sA_eq, fm_sA_ne, upd_eq, upd_ne, st_ne, st_eq]
  refine ⟨⟨h1, h3, hb, fun k hk => ?_⟩, ⟨?_, ?_, ?_, ?_, ?_⟩, fun k hk => ?_, fun k hk => ?_, fun k hk => ?_, fun k hk => ?_⟩
  all_goals simp (disch := omega) only [fm_sI_2, fm_sA_1, fm_sA_3, fm_sI_eq, fm_sI_ne, fm_sA_eq, fm_sA_ne, upd_eq, upd_ne, st_ne, st_eq, h1, h3, hb, ho, h23, h24, h25, h26, h37, hP, hS, hR, hD, and_self]
theorem ap_min (h : AP μ P a) (wf : WF a) (v : Nat) : AP (fm_sA μ 233 (upd (μ.2.1 233) (P + 37) (n3 v))) P (st a 37 v) := by
  obtain ⟨⟨h1, h3, hb, ho⟩, ⟨h23, h24, h25, h26, h37⟩, hP, hS, hR, hD⟩ := h; obtain ⟨⟨b38, b23, b39, b24, b25, b25u, b26⟩, wP, wS, wR, wD⟩ := id wf
  unfold AP
  simp (disch := omega) only [fm_sI_2, fm_sA_1, fm_sA_3, fm_sI_eq, fm_sI_ne, fm_sA_eq, fm_sA_ne, upd_eq, upd_ne, st_ne, st_eq]
  refine ⟨⟨h1, h3, hb, fun k hk => ?_⟩, ⟨?_, ?_, ?_, ?_, ?_⟩, fun k hk => ?_, fun k hk => ?_, fun k hk => ?_, fun k hk => ?_⟩
  all_goals simp (disch := omega) only [fm_sI_2, fm_sA_1, fm_sA_3, fm_sI_eq, fm_sI_ne, fm_sA_eq, fm_sA_ne, upd_eq, upd_ne, st_ne, st_eq, h1, h3, hb, ho, h23, h24, h25, h26, h37, hP, hS, hR, hD, and_self]
end VS36
