/-! needs: 30.int 31.abs 32.cls -/
/-! a cell of a world given anew -/
section VS33
variable {F : Nat} {μ ν : fm_M} {a : Nat → Nat} {w : Nat}
theorem aw_wool (h : AW μ w a) (wf : WF a) {i : Nat} (hi : i < a 38) (v : Nat) : AW (fm_sA μ (w + 1) (upd (μ.2.1 (w + 1)) i (n3 v))) w (st a i v) := by
  obtain ⟨⟨h0, h3, h7, h8, h9, h11, h15⟩, hP, hS, hR, hD⟩ := h; obtain ⟨⟨b38, b23, b39, b24, b25, b25u, b26⟩, wP, wS, wR, wD⟩ := id wf
  unfold AW
  simp (disch := omega) only [fm_sI_2, fm_sA_1, fm_sA_3, fm_sI_eq, fm_sI_ne, fm_sA_eq, fm_sA_ne, upd_eq, upd_ne, st_ne, st_eq]
  refine ⟨⟨h0, h3, h7, h8, h9, h11, h15⟩, fun k hk => ?_, fun k hk => ?_, fun k hk => ?_, fun k hk => ?_⟩
  all_goals
    by_cases e : k = i
    · subst e
      simp (disch := omega) only [fm_sI_2, fm_sA_1, fm_sA_3, fm_sI_eq, fm_sI_ne, fm_sA_eq, fm_sA_ne, upd_eq, upd_ne, st_ne, st_eq, h0, h3, h7, h8, h9, h11, h15, hP, hS, hR, hD, and_self]
    · simp (disch := omega) only [fm_sI_2, fm_sA_1, fm_sA_3, fm_sI_eq, fm_sI_ne, fm_sA_eq, fm_sA_ne, upd_eq, upd_ne, st_ne, st_eq, h0, h3, h7, h8, h9, h11, h15, hP, hS, hR, hD, and_self]
theorem aw_place (h : AW μ w a) (wf : WF a) {i : Nat} (hi : i < a 38) (v : Nat) : AW (fm_sA μ (w + 2) (upd (μ.2.1 (w + 2)) i (n3 v))) w (st a (4 + i) v) := by
  obtain ⟨⟨h0, h3, h7, h8, h9, h11, h15⟩, hP, hS, hR, hD⟩ := h; obtain ⟨⟨b38, b23, b39, b24, b25, b25u, b26⟩, wP, wS, wR, wD⟩ := id wf
  unfold AW
  simp (disch := omega) only [fm_sI_2, fm_sA_1, fm_sA_3, fm_sI_eq, fm_sI_ne, fm_sA_eq, fm_sA_ne, upd_eq, upd_ne, st_ne, st_eq]
  refine ⟨⟨h0, h3, h7, h8, h9, h11, h15⟩, fun k hk => ?_, fun k hk => ?_, fun k hk => ?_, fun k hk => ?_⟩
  all_goals
    by_cases e : k = i
    · subst e
      simp (disch := omega) only [fm_sI_2, fm_sA_1, fm_sA_3, fm_sI_eq, fm_sI_ne, fm_sA_eq, fm_sA_ne, upd_eq, upd_ne, st_ne, st_eq, h0, h3, h7, h8, h9, h11, h15, hP, hS, hR, hD, and_self]
    · simp (disch := omega) only [fm_sI_2, fm_sA_1, fm_sA_3, fm_sI_eq, fm_sI_ne, fm_sA_eq, fm_sA_ne, upd_eq, upd_ne, st_ne, st_eq, h0, h3, h7, h8, h9, h11, h15, hP, hS, hR, hD, and_self]
theorem aw_kind (h : AW μ w a) (wf : WF a) {i : Nat} (hi : i < a 23) (v : Nat) : AW (fm_sA μ (w + 3) (upd (μ.2.1 (w + 3)) i (n3 v))) w (st a (8 + i) v) := by
  obtain ⟨⟨h0, h3, h7, h8, h9, h11, h15⟩, hP, hS, hR, hD⟩ := h; obtain ⟨⟨b38, b23, b39, b24, b25, b25u, b26⟩, wP, wS, wR, wD⟩ := id wf
  unfold AW
  simp (disch := omega) only [fm_sI_2, fm_sA_1, fm_sA_3, fm_sI_eq, fm_sI_ne, fm_sA_eq, fm_sA_ne, upd_eq, upd_ne, st_ne, st_eq]
  refine ⟨⟨h0, h3, h7, h8, h9, h11, h15⟩, fun k hk => ?_, fun k hk => ?_, fun k hk => ?_, fun k hk => ?_⟩
  all_goals
    by_cases e : k = i
    · subst e
      simp (disch := omega) only [fm_sI_2, fm_sA_1, fm_sA_3, fm_sI_eq, fm_sI_ne, fm_sA_eq, fm_sA_ne, upd_eq, upd_ne, st_ne, st_eq, h0, h3, h7, h8, h9, h11, h15, hP, hS, hR, hD, and_self]
    · simp (disch := omega) only [fm_sI_2, fm_sA_1, fm_sA_3, fm_sI_eq, fm_sI_ne, fm_sA_eq, fm_sA_ne, upd_eq, upd_ne, st_ne, st_eq, h0, h3, h7, h8, h9, h11, h15, hP, hS, hR, hD, and_self]
theorem aw_warm (h : AW μ w a) (wf : WF a) {i : Nat} (hi : i < a 23) (v : Nat) : AW (fm_sA μ (w + 4) (upd (μ.2.1 (w + 4)) i (n3 v))) w (st a (13 + i) v) := by
  obtain ⟨⟨h0, h3, h7, h8, h9, h11, h15⟩, hP, hS, hR, hD⟩ := h; obtain ⟨⟨b38, b23, b39, b24, b25, b25u, b26⟩, wP, wS, wR, wD⟩ := id wf
  unfold AW
  simp (disch := omega) only [fm_sI_2, fm_sA_1, fm_sA_3, fm_sI_eq, fm_sI_ne, fm_sA_eq, fm_sA_ne, upd_eq, upd_ne, st_ne, st_eq]
  refine ⟨⟨h0, h3, h7, h8, h9, h11, h15⟩, fun k hk => ?_, fun k hk => ?_, fun k hk => ?_, fun k hk => ?_⟩
  all_goals
    by_cases e : k = i
    · subst e
      simp (disch := omega) only [fm_sI_2, fm_sA_1, fm_sA_3, fm_sI_eq, fm_sI_ne, fm_sA_eq, fm_sA_ne, upd_eq, upd_ne, st_ne, st_eq, h0, h3, h7, h8, h9, h11, h15, hP, hS, hR, hD, and_self]
    · simp (disch := omega) only [fm_sI_2, fm_sA_1, fm_sA_3, fm_sI_eq, fm_sI_ne, fm_sA_eq, fm_sA_ne, upd_eq, upd_ne, st_ne, st_eq, h0, h3, h7, h8, h9, h11, h15, hP, hS, hR, hD, and_self]
theorem aw_owner (h : AW μ w a) (wf : WF a) {i : Nat} (hi : i < a 23) (v : Nat) : AW (fm_sA μ (w + 5) (upd (μ.2.1 (w + 5)) i (n3 v))) w (st a (18 + i) v) := by
  obtain ⟨⟨h0, h3, h7, h8, h9, h11, h15⟩, hP, hS, hR, hD⟩ := h; obtain ⟨⟨b38, b23, b39, b24, b25, b25u, b26⟩, wP, wS, wR, wD⟩ := id wf
  unfold AW
  simp (disch := omega) only [fm_sI_2, fm_sA_1, fm_sA_3, fm_sI_eq, fm_sI_ne, fm_sA_eq, fm_sA_ne, upd_eq, upd_ne, st_ne, st_eq]
  refine ⟨⟨h0, h3, h7, h8, h9, h11, h15⟩, fun k hk => ?_, fun k hk => ?_, fun k hk => ?_, fun k hk => ?_⟩
  all_goals
    by_cases e : k = i
    · subst e
      simp (disch := omega) only [fm_sI_2, fm_sA_1, fm_sA_3, fm_sI_eq, fm_sI_ne, fm_sA_eq, fm_sA_ne, upd_eq, upd_ne, st_ne, st_eq, h0, h3, h7, h8, h9, h11, h15, hP, hS, hR, hD, and_self]
    · simp (disch := omega) only [fm_sI_2, fm_sA_1, fm_sA_3, fm_sI_eq, fm_sI_ne, fm_sA_eq, fm_sA_ne, upd_eq, upd_ne, st_ne, st_eq, h0, h3, h7, h8, h9, h11, h15, hP, hS, hR, hD, and_self]
theorem aw_price (h : AW μ w a) (wf : WF a) {i : Nat} (hi : i < 6) (v : Nat) : AW (fm_sA μ (w + 6) (upd (μ.2.1 (w + 6)) i (n3 v))) w (st a (27 + i) v) := by
  obtain ⟨⟨h0, h3, h7, h8, h9, h11, h15⟩, hP, hS, hR, hD⟩ := h; obtain ⟨⟨b38, b23, b39, b24, b25, b25u, b26⟩, wP, wS, wR, wD⟩ := id wf
  unfold AW
  simp (disch := omega) only [fm_sI_2, fm_sA_1, fm_sA_3, fm_sI_eq, fm_sI_ne, fm_sA_eq, fm_sA_ne, upd_eq, upd_ne, st_ne, st_eq]
  refine ⟨⟨h0, h3, h7, h8, h9, h11, h15⟩, fun k hk => ?_, fun k hk => ?_, fun k hk => ?_, fun k hk => ?_⟩
  all_goals
    by_cases e : k = i
    · subst e
      simp (disch := omega) only [fm_sI_2, fm_sA_1, fm_sA_3, fm_sI_eq, fm_sI_ne, fm_sA_eq, fm_sA_ne, upd_eq, upd_ne, st_ne, st_eq, h0, h3, h7, h8, h9, h11, h15, hP, hS, hR, hD, and_self]
    · simp (disch := omega) only [fm_sI_2, fm_sA_1, fm_sA_3, fm_sI_eq, fm_sI_ne, fm_sA_eq, fm_sA_ne, upd_eq, upd_ne, st_ne, st_eq, h0, h3, h7, h8, h9, h11, h15, hP, hS, hR, hD, and_self]
theorem aw_amt (h : AW μ w a) (wf : WF a) {i : Nat} (hi : i < a 39) (v : Nat) : AW (fm_sA μ (w + 9) (upd (μ.2.1 (w + 9)) i (n3 v))) w (st a (33 + i) v) := by
  obtain ⟨⟨h0, h3, h7, h8, h9, h11, h15⟩, hP, hS, hR, hD⟩ := h; obtain ⟨⟨b38, b23, b39, b24, b25, b25u, b26⟩, wP, wS, wR, wD⟩ := id wf
  unfold AW
  simp (disch := omega) only [fm_sI_2, fm_sA_1, fm_sA_3, fm_sI_eq, fm_sI_ne, fm_sA_eq, fm_sA_ne, upd_eq, upd_ne, st_ne, st_eq]
  refine ⟨⟨h0, h3, h7, h8, h9, h11, h15⟩, fun k hk => ?_, fun k hk => ?_, fun k hk => ?_, fun k hk => ?_⟩
  all_goals
    by_cases e : k = i
    · subst e
      simp (disch := omega) only [fm_sI_2, fm_sA_1, fm_sA_3, fm_sI_eq, fm_sI_ne, fm_sA_eq, fm_sA_ne, upd_eq, upd_ne, st_ne, st_eq, h0, h3, h7, h8, h9, h11, h15, hP, hS, hR, hD, and_self]
    · simp (disch := omega) only [fm_sI_2, fm_sA_1, fm_sA_3, fm_sI_eq, fm_sI_ne, fm_sA_eq, fm_sA_ne, upd_eq, upd_ne, st_ne, st_eq, h0, h3, h7, h8, h9, h11, h15, hP, hS, hR, hD, and_self]
theorem aw_oven (h : AW μ w a) (wf : WF a) (v : Nat) : AW (fm_sI μ w 7 (n3 v)) w (st a 24 v) := by
  obtain ⟨⟨h0, h3, h7, h8, h9, h11, h15⟩, hP, hS, hR, hD⟩ := h; obtain ⟨⟨b38, b23, b39, b24, b25, b25u, b26⟩, wP, wS, wR, wD⟩ := id wf
  unfold AW
  simp (disch := omega) only [fm_sI_2, fm_sA_1, fm_sA_3, fm_sI_eq, fm_sI_ne, fm_sA_eq, fm_sA_ne, upd_eq, upd_ne, st_ne, st_eq]
  refine ⟨⟨?_, ?_, ?_, ?_, ?_, ?_, ?_⟩, fun k hk => ?_, fun k hk => ?_, fun k hk => ?_, fun k hk => ?_⟩
  all_goals simp (disch := omega) only [fm_sI_2, fm_sA_1, fm_sA_3, fm_sI_eq, fm_sI_ne, fm_sA_eq, fm_sA_ne, upd_eq, upd_ne, st_ne, st_eq, h0, h3, h7, h8, h9, h11, h15, hP, hS, hR, hD, and_self]
theorem aw_heat (h : AW μ w a) (wf : WF a) (v : Nat) : AW (fm_sI μ w 8 (n3 v)) w (st a 25 v) := by
  obtain ⟨⟨h0, h3, h7, h8, h9, h11, h15⟩, hP, hS, hR, hD⟩ := h; obtain ⟨⟨b38, b23, b39, b24, b25, b25u, b26⟩, wP, wS, wR, wD⟩ := id wf
  unfold AW
  simp (disch := omega) only [fm_sI_2, fm_sA_1, fm_sA_3, fm_sI_eq, fm_sI_ne, fm_sA_eq, fm_sA_ne, upd_eq, upd_ne, st_ne, st_eq]
  refine ⟨⟨?_, ?_, ?_, ?_, ?_, ?_, ?_⟩, fun k hk => ?_, fun k hk => ?_, fun k hk => ?_, fun k hk => ?_⟩
  all_goals simp (disch := omega) only [fm_sI_2, fm_sA_1, fm_sA_3, fm_sI_eq, fm_sI_ne, fm_sA_eq, fm_sA_ne, upd_eq, upd_ne, st_ne, st_eq, h0, h3, h7, h8, h9, h11, h15, hP, hS, hR, hD, and_self]
theorem aw_wind (h : AW μ w a) (wf : WF a) (v : Nat) : AW (fm_sI μ w 9 (n3 v)) w (st a 26 v) := by
  obtain ⟨⟨h0, h3, h7, h8, h9, h11, h15⟩, hP, hS, hR, hD⟩ := h; obtain ⟨⟨b38, b23, b39, b24, b25, b25u, b26⟩, wP, wS, wR, wD⟩ := id wf
  unfold AW
  simp (disch := omega) only [fm_sI_2, fm_sA_1, fm_sA_3, fm_sI_eq, fm_sI_ne, fm_sA_eq, fm_sA_ne, upd_eq, upd_ne, st_ne, st_eq]
  refine ⟨⟨?_, ?_, ?_, ?_, ?_, ?_, ?_⟩, fun k hk => ?_, fun k hk => ?_, fun k hk => ?_, fun k hk => ?_⟩
  all_goals simp (disch := omega) only [fm_sI_2, fm_sA_1, fm_sA_3, fm_sI_eq, fm_sI_ne, fm_sA_eq, fm_sA_ne, upd_eq, upd_ne, st_ne, st_eq, h0, h3, h7, h8, h9, h11, h15, hP, hS, hR, hD, and_self]
theorem aw_min (h : AW μ w a) (wf : WF a) (v : Nat) : AW (fm_sI μ w 15 (n3 v)) w (st a 37 v) := by
  obtain ⟨⟨h0, h3, h7, h8, h9, h11, h15⟩, hP, hS, hR, hD⟩ := h; obtain ⟨⟨b38, b23, b39, b24, b25, b25u, b26⟩, wP, wS, wR, wD⟩ := id wf
  unfold AW
  simp (disch := omega) only [fm_sI_2, fm_sA_1, fm_sA_3, fm_sI_eq, fm_sI_ne, fm_sA_eq, fm_sA_ne, upd_eq, upd_ne, st_ne, st_eq]
  refine ⟨⟨?_, ?_, ?_, ?_, ?_, ?_, ?_⟩, fun k hk => ?_, fun k hk => ?_, fun k hk => ?_, fun k hk => ?_⟩
  all_goals simp (disch := omega) only [fm_sI_2, fm_sA_1, fm_sA_3, fm_sI_eq, fm_sI_ne, fm_sA_eq, fm_sA_ne, upd_eq, upd_ne, st_ne, st_eq, h0, h3, h7, h8, h9, h11, h15, hP, hS, hR, hD, and_self]
theorem wf_wool (wf : WF a) {i : Nat} (hi : i < a 38) {v : Nat} (hv : v ≤ 5) : WF (st a i v) := by
  obtain ⟨⟨b38, b23, b39, b24, b25, b25u, b26⟩, wP, wS, wR, wD⟩ := id wf
  unfold WF
  simp (disch := omega) only [st_ne, st_eq]
  refine ⟨⟨b38, b23, b39, b24, b25, b25u, b26⟩, fun k hk => ?_, fun k hk => ?_, fun k hk => ?_, fun k hk => ?_⟩
  · have := wP k hk
    by_cases e : k = i
    · subst e; (try simp (disch := omega) only [st_ne, st_eq]); omega
    · (try simp (disch := omega) only [st_ne, st_eq]); omega
  · have := wS k hk
    by_cases e : k = i
    · subst e; (try simp (disch := omega) only [st_ne, st_eq]); omega
    · (try simp (disch := omega) only [st_ne, st_eq]); omega
  · have := wR k hk
    by_cases e : k = i
    · subst e; (try simp (disch := omega) only [st_ne, st_eq]); omega
    · (try simp (disch := omega) only [st_ne, st_eq]); omega
  · have := wD k hk
    by_cases e : k = i
    · subst e; (try simp (disch := omega) only [st_ne, st_eq]); omega
    · (try simp (disch := omega) only [st_ne, st_eq]); omega
theorem wf_place (wf : WF a) {i : Nat} (hi : i < a 38) {v : Nat} (hv : v ≤ 9) : WF (st a (4 + i) v) := by
  obtain ⟨⟨b38, b23, b39, b24, b25, b25u, b26⟩, wP, wS, wR, wD⟩ := id wf
  unfold WF
  simp (disch := omega) only [st_ne, st_eq]
  refine ⟨⟨b38, b23, b39, b24, b25, b25u, b26⟩, fun k hk => ?_, fun k hk => ?_, fun k hk => ?_, fun k hk => ?_⟩
  · have := wP k hk
    by_cases e : k = i
    · subst e; (try simp (disch := omega) only [st_ne, st_eq]); omega
    · (try simp (disch := omega) only [st_ne, st_eq]); omega
  · have := wS k hk
    by_cases e : k = i
    · subst e; (try simp (disch := omega) only [st_ne, st_eq]); omega
    · (try simp (disch := omega) only [st_ne, st_eq]); omega
  · have := wR k hk
    by_cases e : k = i
    · subst e; (try simp (disch := omega) only [st_ne, st_eq]); omega
    · (try simp (disch := omega) only [st_ne, st_eq]); omega
  · have := wD k hk
    by_cases e : k = i
    · subst e; (try simp (disch := omega) only [st_ne, st_eq]); omega
    · (try simp (disch := omega) only [st_ne, st_eq]); omega
theorem wf_kind (wf : WF a) {i : Nat} (hi : i < a 23) {v : Nat} (hv : v ≤ 3) : WF (st a (8 + i) v) := by
  obtain ⟨⟨b38, b23, b39, b24, b25, b25u, b26⟩, wP, wS, wR, wD⟩ := id wf
  unfold WF
  simp (disch := omega) only [st_ne, st_eq]
  refine ⟨⟨b38, b23, b39, b24, b25, b25u, b26⟩, fun k hk => ?_, fun k hk => ?_, fun k hk => ?_, fun k hk => ?_⟩
  · have := wP k hk
    by_cases e : k = i
    · subst e; (try simp (disch := omega) only [st_ne, st_eq]); omega
    · (try simp (disch := omega) only [st_ne, st_eq]); omega
  · have := wS k hk
    by_cases e : k = i
    · subst e; (try simp (disch := omega) only [st_ne, st_eq]); omega
    · (try simp (disch := omega) only [st_ne, st_eq]); omega
  · have := wR k hk
    by_cases e : k = i
    · subst e; (try simp (disch := omega) only [st_ne, st_eq]); omega
    · (try simp (disch := omega) only [st_ne, st_eq]); omega
  · have := wD k hk
    by_cases e : k = i
    · subst e; (try simp (disch := omega) only [st_ne, st_eq]); omega
    · (try simp (disch := omega) only [st_ne, st_eq]); omega
theorem wf_warm (wf : WF a) {i : Nat} (hi : i < a 23) {v : Nat} (hv : v ≤ 99) : WF (st a (13 + i) v) := by
  obtain ⟨⟨b38, b23, b39, b24, b25, b25u, b26⟩, wP, wS, wR, wD⟩ := id wf
  unfold WF
  simp (disch := omega) only [st_ne, st_eq]
  refine ⟨⟨b38, b23, b39, b24, b25, b25u, b26⟩, fun k hk => ?_, fun k hk => ?_, fun k hk => ?_, fun k hk => ?_⟩
  · have := wP k hk
    by_cases e : k = i
    · subst e; (try simp (disch := omega) only [st_ne, st_eq]); omega
    · (try simp (disch := omega) only [st_ne, st_eq]); omega
  · have := wS k hk
    by_cases e : k = i
    · subst e; (try simp (disch := omega) only [st_ne, st_eq]); omega
    · (try simp (disch := omega) only [st_ne, st_eq]); omega
  · have := wR k hk
    by_cases e : k = i
    · subst e; (try simp (disch := omega) only [st_ne, st_eq]); omega
    · (try simp (disch := omega) only [st_ne, st_eq]); omega
  · have := wD k hk
    by_cases e : k = i
    · subst e; (try simp (disch := omega) only [st_ne, st_eq]); omega
    · (try simp (disch := omega) only [st_ne, st_eq]); omega
theorem wf_owner (wf : WF a) {i : Nat} (hi : i < a 23) {v : Nat} (hv : v < a 38) : WF (st a (18 + i) v) := by
  obtain ⟨⟨b38, b23, b39, b24, b25, b25u, b26⟩, wP, wS, wR, wD⟩ := id wf
  unfold WF
  simp (disch := omega) only [st_ne, st_eq]
  refine ⟨⟨b38, b23, b39, b24, b25, b25u, b26⟩, fun k hk => ?_, fun k hk => ?_, fun k hk => ?_, fun k hk => ?_⟩
  · have := wP k hk
    by_cases e : k = i
    · subst e; (try simp (disch := omega) only [st_ne, st_eq]); omega
    · (try simp (disch := omega) only [st_ne, st_eq]); omega
  · have := wS k hk
    by_cases e : k = i
    · subst e; (try simp (disch := omega) only [st_ne, st_eq]); omega
    · (try simp (disch := omega) only [st_ne, st_eq]); omega
  · have := wR k hk
    by_cases e : k = i
    · subst e; (try simp (disch := omega) only [st_ne, st_eq]); omega
    · (try simp (disch := omega) only [st_ne, st_eq]); omega
  · have := wD k hk
    by_cases e : k = i
    · subst e; (try simp (disch := omega) only [st_ne, st_eq]); omega
    · (try simp (disch := omega) only [st_ne, st_eq]); omega
theorem wf_price (wf : WF a) {i : Nat} (hi : i < 6) {v : Nat} (hv : 1 ≤ v ∧ v ≤ 9) : WF (st a (27 + i) v) := by
  obtain ⟨⟨b38, b23, b39, b24, b25, b25u, b26⟩, wP, wS, wR, wD⟩ := id wf
  unfold WF
  simp (disch := omega) only [st_ne, st_eq]
  refine ⟨⟨b38, b23, b39, b24, b25, b25u, b26⟩, fun k hk => ?_, fun k hk => ?_, fun k hk => ?_, fun k hk => ?_⟩
  · have := wP k hk
    by_cases e : k = i
    · subst e; (try simp (disch := omega) only [st_ne, st_eq]); omega
    · (try simp (disch := omega) only [st_ne, st_eq]); omega
  · have := wS k hk
    by_cases e : k = i
    · subst e; (try simp (disch := omega) only [st_ne, st_eq]); omega
    · (try simp (disch := omega) only [st_ne, st_eq]); omega
  · have := wR k hk
    by_cases e : k = i
    · subst e; (try simp (disch := omega) only [st_ne, st_eq]); omega
    · (try simp (disch := omega) only [st_ne, st_eq]); omega
  · have := wD k hk
    by_cases e : k = i
    · subst e; (try simp (disch := omega) only [st_ne, st_eq]); omega
    · (try simp (disch := omega) only [st_ne, st_eq]); omega
theorem wf_amt (wf : WF a) {i : Nat} (hi : i < a 39) {v : Nat} (hv : v ≤ 99) : WF (st a (33 + i) v) := by
  obtain ⟨⟨b38, b23, b39, b24, b25, b25u, b26⟩, wP, wS, wR, wD⟩ := id wf
  unfold WF
  simp (disch := omega) only [st_ne, st_eq]
  refine ⟨⟨b38, b23, b39, b24, b25, b25u, b26⟩, fun k hk => ?_, fun k hk => ?_, fun k hk => ?_, fun k hk => ?_⟩
  · have := wP k hk
    by_cases e : k = i
    · subst e; (try simp (disch := omega) only [st_ne, st_eq]); omega
    · (try simp (disch := omega) only [st_ne, st_eq]); omega
  · have := wS k hk
    by_cases e : k = i
    · subst e; (try simp (disch := omega) only [st_ne, st_eq]); omega
    · (try simp (disch := omega) only [st_ne, st_eq]); omega
  · have := wR k hk
    by_cases e : k = i
    · subst e; (try simp (disch := omega) only [st_ne, st_eq]); omega
    · (try simp (disch := omega) only [st_ne, st_eq]); omega
  · have := wD k hk
    by_cases e : k = i
    · subst e; (try simp (disch := omega) only [st_ne, st_eq]); omega
    · (try simp (disch := omega) only [st_ne, st_eq]); omega
theorem wf_oven (wf : WF a) {v : Nat} (hv : v ≤ 9) : WF (st a 24 v) := by
  obtain ⟨⟨b38, b23, b39, b24, b25, b25u, b26⟩, wP, wS, wR, wD⟩ := id wf
  unfold WF
  simp (disch := omega) only [st_ne, st_eq]
  refine ⟨⟨by omega, by omega, by omega, by omega, by omega, by omega, by omega⟩, fun k hk => ?_, fun k hk => ?_, fun k hk => ?_, fun k hk => ?_⟩
  · have := wP k hk; (try simp (disch := omega) only [st_ne]); omega
  · have := wS k hk; (try simp (disch := omega) only [st_ne]); omega
  · have := wR k hk; (try simp (disch := omega) only [st_ne]); omega
  · have := wD k hk; (try simp (disch := omega) only [st_ne]); omega
theorem wf_heat (wf : WF a) {v : Nat} (hv : 5 ≤ v ∧ v ≤ 99) : WF (st a 25 v) := by
  obtain ⟨⟨b38, b23, b39, b24, b25, b25u, b26⟩, wP, wS, wR, wD⟩ := id wf
  unfold WF
  simp (disch := omega) only [st_ne, st_eq]
  refine ⟨⟨by omega, by omega, by omega, by omega, by omega, by omega, by omega⟩, fun k hk => ?_, fun k hk => ?_, fun k hk => ?_, fun k hk => ?_⟩
  · have := wP k hk; (try simp (disch := omega) only [st_ne]); omega
  · have := wS k hk; (try simp (disch := omega) only [st_ne]); omega
  · have := wR k hk; (try simp (disch := omega) only [st_ne]); omega
  · have := wD k hk; (try simp (disch := omega) only [st_ne]); omega
theorem wf_wind (wf : WF a) {v : Nat} (hv : v ≤ 10) : WF (st a 26 v) := by
  obtain ⟨⟨b38, b23, b39, b24, b25, b25u, b26⟩, wP, wS, wR, wD⟩ := id wf
  unfold WF
  simp (disch := omega) only [st_ne, st_eq]
  refine ⟨⟨by omega, by omega, by omega, by omega, by omega, by omega, by omega⟩, fun k hk => ?_, fun k hk => ?_, fun k hk => ?_, fun k hk => ?_⟩
  · have := wP k hk; (try simp (disch := omega) only [st_ne]); omega
  · have := wS k hk; (try simp (disch := omega) only [st_ne]); omega
  · have := wR k hk; (try simp (disch := omega) only [st_ne]); omega
  · have := wD k hk; (try simp (disch := omega) only [st_ne]); omega
theorem wf_min (wf : WF a) {v : Nat} (hv : True) : WF (st a 37 v) := by
  obtain ⟨⟨b38, b23, b39, b24, b25, b25u, b26⟩, wP, wS, wR, wD⟩ := id wf
  unfold WF
  simp (disch := omega) only [st_ne, st_eq]
  refine ⟨⟨by omega, by omega, by omega, by omega, by omega, by omega, by omega⟩, fun k hk => ?_, fun k hk => ?_, fun k hk => ?_, fun k hk => ?_⟩
  · have := wP k hk; (try simp (disch := omega) only [st_ne]); omega
  · have := wS k hk; (try simp (disch := omega) only [st_ne]); omega
  · have := wR k hk; (try simp (disch := omega) only [st_ne]); omega
  · have := wD k hk; (try simp (disch := omega) only [st_ne]); omega
end VS33
