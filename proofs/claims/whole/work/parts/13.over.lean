/-! cells beside those that a run uses -/
def ab_ov (f : Nat → Option ab_C) (h : ab_H) : ab_H := (h.1, h.2.1, fun q => match h.2.2 q with
  | some c => some c
  | none => f q)
def ab_ovO (f : Nat → Option ab_C) (o : ab_O) : ab_O := match o with
  | .inl S => .inl (S.1, S.2.1, S.2.2.1, ab_ov f S.2.2.2)
  | .inr (.inl x) => .inr (.inl (x.1, x.2.1, (x.2.2.1, x.2.2.2.1, x.2.2.2.2.1, ab_ov f x.2.2.2.2.2)))
  | .inr (.inr r) => .inr (.inr (r.1, ab_ov f r.2))
theorem ab_ob_ov {f : Nat → Option ab_C} {h : ab_H} {a : Nat} {x : Nat × List Value} (hx : ab_ob h a = some x) : ab_ob (ab_ov f h) a = some x := by
  have := ab_ob_eq hx
  simp only [ab_ob, ab_ov, this]
theorem ab_wa_ov {f : Nat → Option ab_C} {h : ab_H} {a : Nat} {x : FieldType × vp_A} (hx : ab_wa h a = some x) : ab_wa (ab_ov f h) a = some x := by
  have := ab_wa_eq hx
  simp only [ab_wa, ab_ov, this]
theorem ab_ra_ov {f : Nat → Option ab_C} {h : ab_H} {a : Nat} {x : FieldType × vp_A} (hx : ab_ra h a = some x) : ab_ra (ab_ov f h) a = some x := by
  rcases ab_ra_eq hx with h1 | h1 <;> simp only [ab_ra, ab_ov, h1]
theorem ab_put_ov (f : Nat → Option ab_C) (h : ab_H) (a : Nat) (c : ab_C) : ab_put (ab_ov f h) a c = ab_ov f (ab_put h a c) := by
  simp only [ab_put, ab_ov, Prod.mk.injEq, true_and]
  funext q
  by_cases hq : q = a
  · simp [hq]
  · simp [hq]
theorem ab_add_ov (f : Nat → Option ab_C) (h : ab_H) (n : Nat) (c : ab_C) : ab_add (ab_ov f h) n c = ab_ov f (ab_add h n c) := by
  simp only [ab_add, ab_ov, Prod.mk.injEq, true_and]
  funext q
  by_cases hq : q = h.1
  · simp [hq]
  · simp [hq]
theorem ab_ov_1 (f : Nat → Option ab_C) (h : ab_H) : (ab_ov f h).1 = h.1 := rfl
theorem ab_mna_ov (f : Nat → Option ab_C) (h : ab_H) (n k : Nat) : ((h.1 + 1 + n, h.2.1 + n + n * k, fun q => if q = h.1 then some (.inl (.array .int, n, .inr (.inr (.inr (.inr (fun i => if i < n then some (h.1 + 1 + i) else none)))))) else if h.1 < q ∧ q < h.1 + 1 + n then some (.inl (.int, k, .inl (fun _ => 0))) else (ab_ov f h).2.2 q) : ab_H) = ab_ov f (h.1 + 1 + n, h.2.1 + n + n * k, fun q => if q = h.1 then some (.inl (.array .int, n, .inr (.inr (.inr (.inr (fun i => if i < n then some (h.1 + 1 + i) else none)))))) else if h.1 < q ∧ q < h.1 + 1 + n then some (.inl (.int, k, .inl (fun _ => 0))) else h.2.2 q) := by
  simp only [ab_ov, Prod.mk.injEq, true_and]
  funext q
  by_cases e1 : q = h.1
  · simp only [e1, if_true]
  · simp only [e1, if_false]
    by_cases e2 : h.1 < q ∧ q < h.1 + 1 + n
    · simp only [e2, and_self, if_true]
    · simp only [e2, if_false]
theorem ab_step_ov (f : Nat → Option ab_C) {rt : Option FieldType} {ins : Instr} {nx : Nat} {L : ab_L} {st : List Value} {h : ab_H} {o : ab_O} (hs : ab_step rt ins nx L st h = some o) : ab_step rt ins nx L st (ab_ov f h) = some (ab_ovO f o) := by
  unfold ab_step at hs
  split at hs
  all_goals (try (cases hs; done))
  all_goals (unfold ab_step; dsimp only)
  all_goals (try unfold ab_ib at hs ⊢)
  all_goals (try unfold ab_iu at hs ⊢)
  all_goals (try unfold ab_lb at hs ⊢)
  all_goals (try unfold ab_call1 at hs ⊢)
  all_goals repeat' (split at hs)
  all_goals (try (cases hs; done))
  all_goals (simp only [ab_go1, Option.some.injEq] at hs; subst hs)
  all_goals (try dsimp only)
  all_goals (try simp only [ab_ob_ov (f := f) ‹ab_ob h _ = some _›])
  all_goals (try simp only [ab_ra_ov (f := f) ‹ab_ra h _ = some _›])
  all_goals (try simp only [ab_wa_ov (f := f) ‹ab_wa h _ = some _›])
  all_goals first
    | rfl
    | (simp only [ab_go1, ab_ovO, ab_put_ov, ab_add_ov, ab_ov_1, if_true, if_false, *]; done)
    | (rename_i h1 h2 hc
       have q1 := ab_wa_ov (f := f) h1
       have q2 := ab_wa_ov (f := f) h2
       simp_all [ab_go1, ab_ovO, ab_put_ov, ab_add_ov, ab_ov_1]
       done)
    | (simp_all [ab_go1, ab_ovO, ab_put_ov, ab_add_ov, ab_ov_1]; done)
    | (rw [if_pos (by assumption)]
       exact congrArg (fun z : ab_H => (some (Sum.inl (nx, L, _, z)) : Option ab_O)) (ab_mna_ov f h _ _))
theorem ab_go_ov (f : Nat → Option ab_C) {call : Nat → List Value → ab_H → Option (Option Value × ab_H)} (hcall : ∀ j as h r, call j as h = some r → call j as (ab_ov f h) = some (r.1, ab_ov f r.2)) {rt : Option FieldType} {cd : ab_K} : ∀ (n pc : Nat) (L : ab_L) (st : List Value) (h : ab_H) (r : Option Value × ab_H), ab_go call rt cd n pc L st h = some r → ab_go call rt cd n pc L st (ab_ov f h) = some (r.1, ab_ov f r.2)
  | 0, _, _, _, _, _, hg => by simp [ab_go] at hg
  | n + 1, pc, L, st, h, r, hg => by
    cases hl : ab_look cd pc with
    | none => simp [ab_go, hl] at hg
    | some x =>
      cases hs : ab_step rt x.1 x.2 L st h with
      | none => simp [ab_go, hl, hs] at hg
      | some o =>
        have hs2 := ab_step_ov f hs
        rcases o with S | c | r1
        · simp only [ab_go, hl, hs] at hg
          simp only [ab_go, hl, hs2, ab_ovO]
          exact ab_go_ov f hcall n _ _ _ _ r hg
        · cases hk : call c.1 c.2.1 c.2.2.2.2.2 with
          | none => simp [ab_go, hl, hs, hk] at hg
          | some r2 =>
            simp only [ab_go, hl, hs, hk] at hg
            simp only [ab_go, hl, hs2, ab_ovO, hcall _ _ _ _ hk]
            exact ab_go_ov f hcall n _ _ _ _ r hg
        · simp only [ab_go, hl, hs] at hg
          simp only [ab_go, hl, hs2, ab_ovO]
          obtain rfl := Option.some.inj hg
          rfl
theorem ab_call_ov (f : Nat → Option ab_C) : ∀ (d F j : Nat) (as : List Value) (h : ab_H) (r : Option Value × ab_H), ab_call d F j as h = some r → ab_call d F j as (ab_ov f h) = some (r.1, ab_ov f r.2)
  | 0, _, _, _, _, _, hg => by simp [ab_call] at hg
  | d + 1, F, j, as, h, r, hg => by
    cases hm : ab_mt[j]? with
    | none => simp [ab_call, hm] at hg
    | some mi =>
      simp only [ab_call, hm] at hg ⊢
      split at hg
      · rename_i hl
        rw [if_pos hl]
        exact ab_go_ov f (fun j as h r hq => ab_call_ov f d F j as h r hq) F _ _ _ _ r hg
      · cases hg
