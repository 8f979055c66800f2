/-! what our machine does, by rules -/
theorem ab_go_le {call call' : Nat → List Value → ab_H → Option (Option Value × ab_H)} (hc : ∀ j as h r, call j as h = some r → call' j as h = some r) {rt : Option FieldType} {cd : ab_K} : ∀ (n n' pc : Nat) (L : ab_L) (st : List Value) (h : ab_H) (r : Option Value × ab_H), n ≤ n' → ab_go call rt cd n pc L st h = some r → ab_go call' rt cd n' pc L st h = some r
  | 0, _, _, _, _, _, _, _, hg => by simp [ab_go] at hg
  | n + 1, n', pc, L, st, h, r, hn, hg => by
    obtain ⟨k, rfl⟩ : ∃ k, n' = k + 1 := ⟨n' - 1, by omega⟩
    cases hl : ab_look cd pc with
    | none => simp [ab_go, hl] at hg
    | some x =>
      cases hs : ab_step rt x.1 x.2 L st h with
      | none => simp [ab_go, hl, hs] at hg
      | some o =>
        rcases o with S | c | r1
        · simp only [ab_go, hl, hs] at hg ⊢
          exact ab_go_le hc n k _ _ _ _ r (by omega) hg
        · cases hk : call c.1 c.2.1 c.2.2.2.2.2 with
          | none => simp [ab_go, hl, hs, hk] at hg
          | some r2 =>
            simp only [ab_go, hl, hs, hk] at hg
            simp only [ab_go, hl, hs, hc _ _ _ _ hk]
            exact ab_go_le hc n k _ _ _ _ r (by omega) hg
        · simp only [ab_go, hl, hs] at hg ⊢
          exact hg
theorem ab_call_le : ∀ (d d' F F' j : Nat) (as : List Value) (h : ab_H) (r : Option Value × ab_H), d ≤ d' → F ≤ F' → ab_call d F j as h = some r → ab_call d' F' j as h = some r
  | 0, _, _, _, _, _, _, _, _, _, hg => by simp [ab_call] at hg
  | d + 1, d', F, F', j, as, h, r, hd, hF, hg => by
    obtain ⟨k, rfl⟩ : ∃ k, d' = k + 1 := ⟨d' - 1, by omega⟩
    cases hm : ab_mt[j]? with
    | none => simp [ab_call, hm] at hg
    | some mi =>
      simp only [ab_call, hm] at hg ⊢
      split at hg
      · rename_i hl
        rw [if_pos hl]
        exact ab_go_le (fun j as h r hq => ab_call_le d k F F' j as h r (by omega) hF hq) F F' _ _ _ _ r hF hg
      · cases hg
/-- method j, called with these values over this heap, comes to an end, calls no deeper than d, and Q holds of answer and heap -/
def ab_T (d j : Nat) (as : List Value) (h : ab_H) (Q : Option Value → ab_H → Prop) : Prop := ∃ (F : Nat) (r : Option Value × ab_H), ab_call d F j as h = some r ∧ Q r.1 r.2
/-- the same of a state within a method -/
def ab_U (d : Nat) (rt : Option FieldType) (cd : ab_K) (S : ab_S) (Q : Option Value → ab_H → Prop) : Prop := ∃ (F n : Nat) (r : Option Value × ab_H), ab_go (ab_call d F) rt cd n S.1 S.2.1 S.2.2.1 S.2.2.2 = some r ∧ Q r.1 r.2
theorem ab_T.imp {d j : Nat} {as : List Value} {h : ab_H} {Q Q' : Option Value → ab_H → Prop} (hT : ab_T d j as h Q) (hq : ∀ r h', Q r h' → Q' r h') : ab_T d j as h Q' := by
  obtain ⟨F, r, h1, h2⟩ := hT
  exact ⟨F, r, h1, hq _ _ h2⟩
theorem ab_T.le {d d' j : Nat} {as : List Value} {h : ab_H} {Q : Option Value → ab_H → Prop} (hT : ab_T d j as h Q) (hd : d ≤ d') : ab_T d' j as h Q := by
  obtain ⟨F, r, h1, h2⟩ := hT
  exact ⟨F, r, ab_call_le d d' F F j as h r hd (Nat.le_refl F) h1, h2⟩
theorem ab_U.imp {d : Nat} {rt : Option FieldType} {cd : ab_K} {S : ab_S} {Q Q' : Option Value → ab_H → Prop} (hT : ab_U d rt cd S Q) (hq : ∀ r h', Q r h' → Q' r h') : ab_U d rt cd S Q' := by
  obtain ⟨F, n, r, h1, h2⟩ := hT
  exact ⟨F, n, r, h1, hq _ _ h2⟩
section AB12
variable {d : Nat} {rt : Option FieldType} {cd : ab_K} {Q : Option Value → ab_H → Prop} {pc nx : Nat} {L : ab_L} {st : List Value} {h : ab_H} {ins : Instr}
theorem ab_U.go {S : ab_S} (hl : ab_look cd pc = some (ins, nx)) (hs : ab_step rt ins nx L st h = some (.inl S)) (k : ab_U d rt cd S Q) : ab_U d rt cd (pc, L, st, h) Q := by
  obtain ⟨F, n, r, h1, h2⟩ := k
  refine ⟨F, n + 1, r, ?_, h2⟩
  simp only [ab_go, hl, hs]
  exact h1
theorem ab_U.ret {r : Option Value × ab_H} (hl : ab_look cd pc = some (ins, nx)) (hs : ab_step rt ins nx L st h = some (.inr (.inr r))) (k : Q r.1 r.2) : ab_U d rt cd (pc, L, st, h) Q := by
  refine ⟨0, 1, r, ?_, k⟩
  simp only [ab_go, hl, hs]
theorem ab_U.call {c : Nat × List Value × ab_S} (hl : ab_look cd pc = some (ins, nx)) (hs : ab_step rt ins nx L st h = some (.inr (.inl c))) (k : ab_T d c.1 c.2.1 c.2.2.2.2.2 (fun r h' => ab_U d rt cd (c.2.2.1, c.2.2.2.1, r.toList ++ c.2.2.2.2.1, h') Q)) : ab_U d rt cd (pc, L, st, h) Q := by
  obtain ⟨F1, r1, h1, F2, n, r, h2, h3⟩ := k
  refine ⟨max F1 F2, n + 1, r, ?_, h3⟩
  simp only [ab_go, hl, hs, ab_call_le d d F1 (max F1 F2) _ _ _ _ (Nat.le_refl d) (Nat.le_max_left F1 F2) h1]
  exact ab_go_le (fun j as h r hq => ab_call_le d d F2 (max F1 F2) j as h r (Nat.le_refl d) (Nat.le_max_right F1 F2) hq) n n _ _ _ _ r (Nat.le_refl n) h2
theorem ab_T.of {j : Nat} {as : List Value} {mi : ab_M} (hm : ab_mt[j]? = some mi) (hl : (ab_en as).length ≤ mi.2.2.2.1) (k : ab_U d mi.2.2.2.2.1 mi.2.2.2.2.2.2 (0, ab_ent mi.2.2.2.1 as, [], h) Q) : ab_T (d + 1) j as h Q := by
  obtain ⟨F, n, r, h1, h2⟩ := k
  refine ⟨max F n, r, ?_, h2⟩
  simp only [ab_call, hm]
  rw [if_pos hl]
  exact ab_go_le (fun j as h r hq => ab_call_le d d F (max F n) j as h r (Nat.le_refl d) (Nat.le_max_left F n) hq) n (max F n) _ _ _ _ r (Nat.le_max_right F n) h1
end AB12
def ab_steps (rt : Option FieldType) (cd : ab_K) : Nat → ab_S → Option ab_S
  | 0, S => some S
  | n + 1, S => match ab_look cd S.1 with
    | none => none
    | some x => match ab_step rt x.1 x.2 S.2.1 S.2.2.1 S.2.2.2 with
      | some (.inl S') => ab_steps rt cd n S'
      | _ => none
theorem ab_U.run {d : Nat} {rt : Option FieldType} {cd : ab_K} {Q : Option Value → ab_H → Prop} : ∀ (n : Nat) {S S' : ab_S}, ab_steps rt cd n S = some S' → ab_U d rt cd S' Q → ab_U d rt cd S Q
  | 0, S, S', hs, k => by
    obtain rfl := Option.some.inj hs
    exact k
  | n + 1, (pc, L, st, h), S', hs, k => by
    simp only [ab_steps] at hs
    split at hs
    · cases hs
    · rename_i x hl
      split at hs
      · rename_i S1 h1
        exact ab_U.go (ins := x.1) (nx := x.2) hl h1 (ab_U.run n hs k)
      · cases hs
/-- no cell lies at or behind the next address -/
def ab_wf (h : ab_H) : Prop := ∀ q : Nat, h.1 ≤ q → h.2.2 q = none
theorem ab_wf.put {h : ab_H} {a : Nat} {c c' : ab_C} (hw : ab_wf h) (ha : h.2.2 a = some c') : ab_wf (ab_put h a c) := by
  intro q hq
  have hq' : h.1 ≤ q := hq
  simp only [ab_put]
  rw [if_neg]
  · exact hw q hq'
  · rintro rfl
    rw [hw q hq'] at ha
    cases ha
theorem ab_wf.add {h : ab_H} {n : Nat} {c : ab_C} (hw : ab_wf h) : ab_wf (ab_add h n c) := by
  intro q hq
  have hq' : h.1 + 1 ≤ q := hq
  simp only [ab_add]
  rw [if_neg (by omega)]
  exact hw q (by omega)
theorem ab_step_wf {rt : Option FieldType} {ins : Instr} {nx : Nat} {L : ab_L} {st : List Value} {h : ab_H} {S : ab_S} (hw : ab_wf h) (hs : ab_step rt ins nx L st h = some (.inl S)) : ab_wf S.2.2.2 := by
  unfold ab_step at hs
  split at hs
  all_goals (try unfold ab_ib at hs)
  all_goals (try unfold ab_iu at hs)
  all_goals (try unfold ab_lb at hs)
  all_goals (try unfold ab_call1 at hs)
  all_goals repeat' (split at hs)
  all_goals first
    | (cases hs; done)
    | (obtain rfl := ab_go1_eq hs; exact hw)
    | (obtain rfl := ab_go1_eq hs; exact hw.add)
    | (obtain rfl := ab_go1_eq hs; exact hw.put (ab_ob_eq (by assumption)))
    | (obtain rfl := ab_go1_eq hs; exact hw.put (ab_wa_eq (by assumption)))
    | (obtain rfl := ab_go1_eq hs
       intro q hq
       dsimp only at hq ⊢
       rw [if_neg (by omega), if_neg (by omega)]
       exact hw q (by omega))
    | (simp at hs; done)
theorem ab_go_wf {call : Nat → List Value → ab_H → Option (Option Value × ab_H)} (hcall : ∀ j as h r, call j as h = some r → ab_wf h → ab_wf r.2) {rt : Option FieldType} {cd : ab_K} : ∀ (n pc : Nat) (L : ab_L) (st : List Value) (h : ab_H) (r : Option Value × ab_H), ab_go call rt cd n pc L st h = some r → ab_wf h → ab_wf r.2
  | 0, _, _, _, _, _, hg, _ => by simp [ab_go] at hg
  | n + 1, pc, L, st, h, r, hg, hw => by
    simp only [ab_go] at hg
    split at hg
    · cases hg
    · split at hg
      · cases hg
      · rename_i s hs
        exact ab_go_wf hcall n _ _ _ _ r hg (ab_step_wf hw hs)
      · rename_i x hs
        obtain ⟨q, hq, -⟩ := ab_step_call hs
        obtain ⟨-, rfl⟩ := ab_call1_eq hq
        split at hg
        · cases hg
        · rename_i r1 hr1
          exact ab_go_wf hcall n _ _ _ _ r hg (hcall _ _ _ _ hr1 hw)
      · rename_i r1 hs
        obtain rfl := Option.some.inj hg
        obtain ⟨-, e1, -⟩ := ab_step_ret hs
        rw [e1]
        exact hw
theorem ab_call_wf : ∀ (d F j : Nat) (as : List Value) (h : ab_H) (r : Option Value × ab_H), ab_call d F j as h = some r → ab_wf h → ab_wf r.2
  | 0, _, _, _, _, _, hg, _ => by simp [ab_call] at hg
  | d + 1, F, j, as, h, r, hg, hw => by
    simp only [ab_call] at hg
    split at hg
    · cases hg
    · split at hg
      · exact ab_go_wf (fun j as h r => ab_call_wf d F j as h r) F _ _ _ _ r hg hw
      · cases hg
