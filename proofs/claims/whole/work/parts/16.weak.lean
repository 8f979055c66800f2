/-! locals that nobody asks for -/
def ab_leL (L L' : ab_L) : Prop := L.length = L'.length ∧ ∀ (i : Nat) (v : Value), L[i]? = some (some v) → L'[i]? = some (some v)
theorem ab_leL.rf (L : ab_L) : ab_leL L L := ⟨rfl, fun _ _ h => h⟩
theorem ab_leL.set {L L' : ab_L} (h : ab_leL L L') (i : Nat) (x : Option Value) : ab_leL (L.set i x) (L'.set i x) := by
  refine ⟨by simp [h.1], fun j v hj => ?_⟩
  by_cases e : j = i
  · subst e
    have hl : j < L.length := by
      have := (List.getElem?_eq_some_iff.mp hj).1
      rwa [List.length_set] at this
    rw [List.getElem?_set_self hl] at hj
    rw [List.getElem?_set_self (by rw [← h.1]; exact hl)]
    exact hj
  · rw [List.getElem?_set_ne (fun q => e q.symm)] at hj ⊢
    exact h.2 j v hj
theorem ab_leL.cut {L L' : ab_L} (h : ab_leL L L') (i : Nat) : ab_leL (ab_cut L i) (ab_cut L' i) := by
  cases i with
  | zero => exact h
  | succ k =>
    refine ⟨by rw [ab_cut_len, ab_cut_len]; exact h.1, fun j v hj => ?_⟩
    obtain ⟨h1, h2⟩ := ab_cut_at hj
    have h3 := h.2 j v h1
    simp only [ab_cut]
    split
    · rename_i w hw
      split
      · rename_i hc
        by_cases e : j = k
        · subst e
          rw [hw] at h3
          cases h3
          exact absurd ⟨rfl, hc⟩ h2
        · rw [List.getElem?_set_ne (fun q => e q.symm)]
          exact h3
      · exact h3
    · exact h3
theorem ab_leL.ld {L L' : ab_L} (h : ab_leL L L') {i : Nat} {v : Value} (hv : ab_ldL L i = some v) : ab_ldL L' i = some v := by
  unfold ab_ldL at hv
  split at hv
  · rename_i w hw
    cases hv
    unfold ab_ldL
    rw [h.2 i _ hw]
  · cases hv
def ab_leO (o o' : ab_O) : Prop := match o, o' with
  | .inl S, .inl S' => S.1 = S'.1 ∧ ab_leL S.2.1 S'.2.1 ∧ S.2.2 = S'.2.2
  | .inr (.inl x), .inr (.inl x') => x.1 = x'.1 ∧ x.2.1 = x'.2.1 ∧ x.2.2.1 = x'.2.2.1 ∧ ab_leL x.2.2.2.1 x'.2.2.2.1 ∧ x.2.2.2.2 = x'.2.2.2.2
  | .inr (.inr r), .inr (.inr r') => r = r'
  | _, _ => False
theorem ab_step_le {rt : Option FieldType} {ins : Instr} {nx : Nat} {L L' : ab_L} {st : List Value} {h : ab_H} {o : ab_O} (hL : ab_leL L L') (hs : ab_step rt ins nx L st h = some o) : ∃ o', ab_step rt ins nx L' st h = some o' ∧ ab_leO o o' := by
  unfold ab_step at hs
  split at hs
  all_goals (try (cases hs; done))
  all_goals (unfold ab_step; dsimp only)
  all_goals (try unfold ab_ib at hs ⊢)
  all_goals (try unfold ab_iu at hs ⊢)
  all_goals (try unfold ab_lb at hs ⊢)
  all_goals (try unfold ab_call1 at hs ⊢)
  all_goals repeat' (split at hs)
  all_goals (try (cases hs; done))
  all_goals (simp only [ab_go1, Option.some.injEq] at hs; subst hs)
  all_goals (try simp only [hL.ld ‹ab_ldL L _ = some _›])
  all_goals first
    | exact ⟨_, rfl, rfl, hL, rfl⟩
    | exact ⟨_, rfl, rfl, rfl, rfl, hL, rfl⟩
    | exact ⟨_, rfl, rfl, (hL.cut _).set _ _, rfl⟩
    | exact ⟨_, rfl, rfl, ((hL.cut _).set _ _).set _ _, rfl⟩
    | exact ⟨_, rfl, rfl⟩
    | (simp only [ab_go1, if_true, if_false, *]; exact ⟨_, rfl, rfl, hL, rfl⟩)
    | (simp only [ab_go1, if_true, if_false, *]; exact ⟨_, rfl, rfl, rfl, rfl, hL, rfl⟩)
    | (simp_all [ab_go1, ab_leO]; done)
theorem ab_go_leL {call : Nat → List Value → ab_H → Option (Option Value × ab_H)} {rt : Option FieldType} {cd : ab_K} : ∀ (n pc : Nat) (L L' : ab_L) (st : List Value) (h : ab_H) (r : Option Value × ab_H), ab_leL L L' → ab_go call rt cd n pc L st h = some r → ab_go call rt cd n pc L' st h = some r
  | 0, _, _, _, _, _, _, _, hg => by simp [ab_go] at hg
  | n + 1, pc, L, L', st, h, r, hL, hg => by
    cases hl : ab_look cd pc with
    | none => simp [ab_go, hl] at hg
    | some x =>
      cases hs : ab_step rt x.1 x.2 L st h with
      | none => simp [ab_go, hl, hs] at hg
      | some o =>
        obtain ⟨o', hs2, hle⟩ := ab_step_le hL hs
        rcases o with S | c | r1 <;> rcases o' with S' | c' | r1'
        all_goals try exact False.elim hle
        · obtain ⟨e1, e2, e3⟩ := hle
          simp only [ab_go, hl, hs] at hg
          simp only [ab_go, hl, hs2]
          rw [← e1, ← e3]
          exact ab_go_leL n _ _ _ _ _ r e2 hg
        · obtain ⟨e1, e2, e3, e4, e5⟩ := hle
          simp only [ab_go, hl, hs] at hg
          simp only [ab_go, hl, hs2]
          rw [← e1, ← e2, ← e3, ← e5]
          split at hg
          · cases hg
          · rename_i r2 hr2
            exact ab_go_leL n _ _ _ _ _ r e4 hg
        · simp only [ab_go, hl, hs] at hg
          simp only [ab_go, hl, hs2]
          rw [← show r1 = r1' from hle]
          exact hg
theorem ab_U.weak {d : Nat} {rt : Option FieldType} {cd : ab_K} {Q : Option Value → ab_H → Prop} {pc : Nat} {L L' : ab_L} {st : List Value} {h : ab_H} (k : ab_U d rt cd (pc, L, st, h) Q) (hL : ab_leL L L') : ab_U d rt cd (pc, L', st, h) Q := by
  obtain ⟨F, n, r, h1, h2⟩ := k
  exact ⟨F, n, r, ab_go_leL n _ _ _ _ _ r hL h1, h2⟩
/-- by the places, one after another -/
def ab_leB : ab_L → ab_L → Prop
  | [], [] => True
  | none :: l, _ :: l' => ab_leB l l'
  | some v :: l, x :: l' => x = some v ∧ ab_leB l l'
  | _, _ => False
theorem ab_leL.of : ∀ {L L' : ab_L}, ab_leB L L' → ab_leL L L'
  | [], [], _ => ab_leL.rf []
  | none :: l, x :: l', h => by
    have ih := ab_leL.of (L := l) (L' := l') h
    refine ⟨by simp [ih.1], fun i v hv => ?_⟩
    cases i with
    | zero => simp at hv
    | succ i => simpa using ih.2 i v (by simpa using hv)
  | some w :: l, x :: l', h => by
    obtain ⟨rfl, h2⟩ := h
    have ih := ab_leL.of (L := l) (L' := l') h2
    refine ⟨by simp [ih.1], fun i v hv => ?_⟩
    cases i with
    | zero => simpa using hv
    | succ i => simpa using ih.2 i v (by simpa using hv)
  | [], _ :: _, h => False.elim h
  | none :: _, [], h => False.elim h
  | some _ :: _, [], h => False.elim h
