/-! what a cell, a heap, a state of our machine are on the JVM -/
/-- the first new address, where the things are that were there before, the numbers of classes and slots, the formatter's value -/
abbrev ab_Env : Type := Nat × (Nat → Nat) × va_G × Value
def ab_rho (E : ab_Env) (a : Nat) : Nat := if a < 100 then E.2.1 a else E.1 + (a - 100)
def ab_rv (E : ab_Env) (v : Value) : Value := match v with
  | .ref a => .ref (ab_rho E a)
  | .retAddr _ => E.2.2.2
  | .int x => .int x
  | .long x => .long x
  | .float x => .float x
  | .double x => .double x
  | .null => .null
def ab_mx (E : ab_Env) (x : vp_A) : vp_A := match x with
  | (n, .inr (.inr (.inr (.inr f)))) => (n, .inr (.inr (.inr (.inr (fun j => (f j).map (ab_rho E))))))
  | (n, .inl f) => (n, .inl f)
  | (n, .inr (.inl f)) => (n, .inr (.inl f))
  | (n, .inr (.inr (.inl f))) => (n, .inr (.inr (.inl f)))
  | (n, .inr (.inr (.inr (.inl f)))) => (n, .inr (.inr (.inr (.inl f))))
def ab_val (x : vp_A) (j : Nat) : Value := match x.2 with
  | .inl f => .int (f j)
  | .inr (.inl f) => .long (f j)
  | _ => .null
abbrev ab_A (E : ab_Env) : Nat → Prop := fun q => E.1 ≤ q
def ab_at (E : ab_Env) (s : State) (H : Heap) (a : Nat) (c : ab_C) : Prop := match c with
  | .inl x => 100 ≤ a ∧ ∃ cA : ClassId, H[E.1 + (a - 100)]? = some (vp_cell cA (ab_mx E x.2)) ∧ ArrOfT s cA x.1 ∧ va_RA s cA x.1
  | .inr (.inl o) => (o.1 < 10 ∧ 100 ≤ a ∧ ∃ r : vw_C, vwCl[o.1]? = some r ∧ t_OB (E.1 + (a - 100)) (E.2.2.1.1 o.1) r.2.2 (E.2.2.1.2 o.1) H (vp_V (o.2.map (ab_rv E)))) ∨
      (o.1 = 90 ∧ a < 80 ∧ o.2 = [.ref (a + 20), .int 0] ∧ va_O "java/lang/String" (E.2.1 a) (ab_A E) s H ∧ va_OF "java/lang/String" "value" "[B" (.ref (E.2.1 (a + 20))) (E.2.1 a) (ab_A E) s H ∧ va_OF "java/lang/String" "coder" "B" (.int 0) (E.2.1 a) (ab_A E) s H)
  | .inr (.inr x) => a < 100 ∧ va_T x.1 (E.2.1 a) x.2.1 (ab_val x.2) (ab_A E) s H
def ab_I (E : ab_Env) (s : State) (H : Heap) (h : ab_H) : Prop := H.size = E.1 + (h.1 - 100) ∧ 100 ≤ h.1 ∧ ∀ (a : Nat) (c : ab_C), h.2.2 a = some c → ab_at E s H a c
theorem ab_at.kept {E : ab_Env} {s : State} {H H1 : Heap} {a : Nat} {c : ab_C} (h : ab_at E s H a c) (h1 : ∀ q : Nat, q < H.size → ¬ ab_A E q → H1[q]? = H[q]?) (h2 : 100 ≤ a → H1[E.1 + (a - 100)]? = H[E.1 + (a - 100)]?) : ab_at E s H1 a c := by
  rcases c with x | o | x
  · obtain ⟨g1, cA, g2, g3⟩ := h
    exact ⟨g1, cA, by rw [h2 g1]; exact g2, g3⟩
  · rcases h with ⟨g0, g1, r, g2, g3⟩ | ⟨g1, g2, g3, g4, g5, g6⟩
    · exact Or.inl ⟨g0, g1, r, g2, g3.kept (h2 g1)⟩
    · exact Or.inr ⟨g1, g2, g3, g4.kept h1, g5.kept h1, g6.kept h1⟩
  · exact ⟨h.1, h.2.kept h1⟩
theorem ab_at.moved {E : ab_Env} {u U : State} {H : Heap} {a : Nat} {c : ab_C} (hvm : u.vm.Alike U.vm) (h : ab_at E u H a c) : ab_at E U H a c := by
  rcases c with x | o | x
  · obtain ⟨g1, cA, g2, g3, g4⟩ := h
    exact ⟨g1, cA, g2, arrOfT_moved hvm g3, g4.moved hvm⟩
  · rcases h with ⟨g0, g1, r, g2, g3⟩ | ⟨g1, g2, g3, g4, g5, g6⟩
    · exact Or.inl ⟨g0, g1, r, g2, g3⟩
    · exact Or.inr ⟨g1, g2, g3, g4.moved hvm, g5.moved hvm, g6.moved hvm⟩
  · exact ⟨h.1, h.2.moved hvm⟩
theorem ab_at.lt {E : ab_Env} {s : State} {H : Heap} {a : Nat} {c : ab_C} (h : ab_at E s H a c) (ha : 100 ≤ a) : E.1 + (a - 100) < H.size := by
  rcases c with x | o | x
  · obtain ⟨g1, cA, g2, g3⟩ := h
    exact (Array.getElem?_eq_some_iff.mp g2).1
  · rcases h with ⟨g0, g1, r, g2, cell, g3, -⟩ | ⟨g1, g2, -⟩
    · exact (Array.getElem?_eq_some_iff.mp g3).1
    · omega
  · have := h.1
    omega
theorem ab_I.moved {E : ab_Env} {u U : State} {H : Heap} {h : ab_H} (hvm : u.vm.Alike U.vm) (hI : ab_I E u H h) : ab_I E U H h := ⟨hI.1, hI.2.1, fun a c hc => (hI.2.2 a c hc).moved hvm⟩
theorem ab_I.put {E : ab_Env} {s : State} {H H1 : Heap} {h : ab_H} {b : Nat} {c : ab_C} (hI : ab_I E s H h) (hb : 100 ≤ b) (hz : H1.size = H.size) (ho : ∀ q : Nat, q ≠ E.1 + (b - 100) → H1[q]? = H[q]?) (hc : ab_at E s H1 b c) : ab_I E s H1 (ab_put h b c) := by
  refine ⟨by rw [hz]; exact hI.1, hI.2.1, fun a d hd => ?_⟩
  simp only [ab_put] at hd
  by_cases hab : a = b
  · subst hab
    rw [if_pos rfl] at hd
    cases hd
    exact hc
  · rw [if_neg hab] at hd
    refine (hI.2.2 a d hd).kept (fun q _ h2 => ho q (fun e => h2 (by rw [e]; exact Nat.le_add_right _ _))) (fun ha => ho _ (fun e => hab ?_))
    omega
theorem ab_I.add {E : ab_Env} {s : State} {H H1 : Heap} {h : ab_H} {n : Nat} {c : ab_C} (hI : ab_I E s H h) (hz : H1.size = H.size + 1) (ho : ∀ q : Nat, q < H.size → H1[q]? = H[q]?) (hc : ab_at E s H1 h.1 c) : ab_I E s H1 (ab_add h n c) := by
  have h1 := hI.1
  have h2 := hI.2.1
  refine ⟨by rw [hz, h1]; simp only [ab_add]; omega, by simp only [ab_add]; omega, fun a d hd => ?_⟩
  simp only [ab_add] at hd
  by_cases hab : a = h.1
  · subst hab
    rw [if_pos rfl] at hd
    cases hd
    exact hc
  · rw [if_neg hab] at hd
    have hat := hI.2.2 a d hd
    exact hat.kept (fun q h3 _ => ho q h3) (fun ha => ho _ (hat.lt ha))
/-- the locals -/
def ab_LR (E : ab_Env) (ml : Nat) (L : ab_L) (ls : Array Slot) : Prop := L.length = ml ∧ ls.size = ml ∧ lv_wf ls ∧ ∀ (i : Nat) (v : Value), L[i]? = some (some v) → ls[i]? = some (.val (ab_rv E v))
theorem ab_rv_cat (E : ab_Env) (v : Value) (hf : E.2.2.2.category = 1) : (ab_rv E v).category = v.category := by
  cases v <;> first | rfl | exact hf
/-- the listed locals -/
def ab_asc (E : ab_Env) (L : ab_L) : List (Nat × Value) := (List.range L.length).filterMap (fun i => (ab_ldL L i).map (fun v => (i, ab_rv E v)))
theorem ab_asc_mem {E : ab_Env} {L : ab_L} {i : Nat} {w : Value} : (i, w) ∈ ab_asc E L ↔ ∃ v, L[i]? = some (some v) ∧ w = ab_rv E v := by
  unfold ab_asc
  rw [List.mem_filterMap]
  constructor
  · rintro ⟨j, -, h⟩
    unfold ab_ldL at h
    split at h
    · rename_i v hv
      simp only [Option.map_some, Option.some.injEq, Prod.mk.injEq] at h
      obtain ⟨rfl, rfl⟩ := h
      exact ⟨v, hv, rfl⟩
    · cases h
  · rintro ⟨v, hv, rfl⟩
    refine ⟨i, List.mem_range.mpr (List.getElem?_eq_some_iff.mp hv).1, ?_⟩
    simp only [ab_ldL, hv, Option.map_some]
theorem ab_LR.has {E : ab_Env} {ml : Nat} {L : ab_L} {ls : Array Slot} (h : ab_LR E ml L ls) : lv_has ls ml (ab_asc E L) := ⟨h.2.1, h.2.2.1, fun q hq => by
  obtain ⟨v, hv, e⟩ := ab_asc_mem.mp (show (q.1, q.2) ∈ ab_asc E L from hq)
  rw [e]
  exact h.2.2.2 _ v hv⟩
theorem ab_LR.at {E : ab_Env} {ml : Nat} {L : ab_L} {ls : Array Slot} (h : ab_LR E ml L ls) {i : Nat} {v : Value} (hv : ab_ldL L i = some v) : ls[i]? = some (.val (ab_rv E v)) := by
  unfold ab_ldL at hv
  split at hv
  · rename_i w hw
    cases hv
    exact h.2.2.2 i _ hw
  · cases hv
theorem ab_cut_len (L : ab_L) (i : Nat) : (ab_cut L i).length = L.length := by
  unfold ab_cut
  split
  · rfl
  · split
    · split <;> simp
    · rfl
/-- what stands in the cut locals stood there, and is no long whose second half goes -/
theorem ab_cut_at {L : ab_L} {i j : Nat} {v : Value} (h : (ab_cut L i)[j]? = some (some v)) : L[j]? = some (some v) ∧ ¬ (j + 1 = i ∧ v.category = 2) := by
  unfold ab_cut at h
  split at h
  · exact ⟨h, fun q => by omega⟩
  · rename_i k
    split at h
    · rename_i w hw
      split at h
      · rename_i hc
        by_cases hj : j = k
        · subst hj
          rw [List.getElem?_set_self (by exact (List.getElem?_eq_some_iff.mp hw).1)] at h
          cases h
        · rw [List.getElem?_set_ne (fun e => hj e.symm)] at h
          exact ⟨h, fun q => hj (by omega)⟩
      · rename_i hc
        refine ⟨h, fun q => ?_⟩
        have hj : j = k := by omega
        subst hj
        rw [hw] at h
        cases h
        exact hc q.2
    · rename_i hn
      refine ⟨h, fun q => ?_⟩
      have hj : j = k := by omega
      subst hj
      exact hn v h
theorem ab_LR.of1 {E : ab_Env} {ml : Nat} {L : ab_L} {ls' : Array Slot} {i : Nat} {v : Value} (hf : E.2.2.2.category = 1) (hl : L.length = ml) (h' : lv_has ls' ml ((i, ab_rv E v) :: (ab_asc E L).filter (fun q => !(q.1 == i) && !(q.1 + 1 == i && q.2.category == 2)))) : ab_LR E ml ((ab_cut L i).set i (some v)) ls' := by
  refine ⟨by rw [List.length_set, ab_cut_len]; exact hl, h'.1, h'.2.1, fun j w hw => ?_⟩
  by_cases hj : j = i
  · subst hj
    have hlt : j < (ab_cut L j).length := by
      have := (List.getElem?_eq_some_iff.mp hw).1
      rwa [List.length_set] at this
    rw [List.getElem?_set_self hlt] at hw
    cases hw
    exact h'.2.2 (j, ab_rv E v) List.mem_cons_self
  · rw [List.getElem?_set_ne (fun e => hj e.symm)] at hw
    obtain ⟨h1, h2⟩ := ab_cut_at hw
    refine h'.2.2 (j, ab_rv E w) (List.mem_cons_of_mem _ (List.mem_filter.mpr ⟨ab_asc_mem.mpr ⟨w, h1, rfl⟩, ?_⟩))
    simp only [ab_rv_cat E w hf, Bool.and_eq_true, Bool.not_eq_true', beq_eq_false_iff_ne, ne_eq, Bool.and_eq_false_iff]
    refine ⟨hj, ?_⟩
    by_cases h3 : j + 1 = i
    · exact Or.inr (fun h4 => h2 ⟨h3, h4⟩)
    · exact Or.inl h3
theorem ab_LR.of2 {E : ab_Env} {ml : Nat} {L : ab_L} {ls' : Array Slot} {i : Nat} {v : Value} (hf : E.2.2.2.category = 1) (hl : L.length = ml) (h' : lv_has ls' ml ((i, ab_rv E v) :: (ab_asc E L).filter (fun q => !(q.1 == i) && (!(q.1 == i + 1) && !(q.1 + 1 == i && q.2.category == 2))))) : ab_LR E ml (((ab_cut L i).set i (some v)).set (i + 1) none) ls' := by
  refine ⟨by rw [List.length_set, List.length_set, ab_cut_len]; exact hl, h'.1, h'.2.1, fun j w hw => ?_⟩
  by_cases hj1 : j = i + 1
  · subst hj1
    have hlt : i + 1 < ((ab_cut L i).set i (some v)).length := by
      have := (List.getElem?_eq_some_iff.mp hw).1
      rwa [List.length_set] at this
    rw [List.getElem?_set_self hlt] at hw
    cases hw
  · rw [List.getElem?_set_ne (fun e => hj1 e.symm)] at hw
    by_cases hj : j = i
    · subst hj
      have hlt : j < (ab_cut L j).length := by
        have := (List.getElem?_eq_some_iff.mp hw).1
        rwa [List.length_set] at this
      rw [List.getElem?_set_self hlt] at hw
      cases hw
      exact h'.2.2 (j, ab_rv E v) List.mem_cons_self
    · rw [List.getElem?_set_ne (fun e => hj e.symm)] at hw
      obtain ⟨h1, h2⟩ := ab_cut_at hw
      refine h'.2.2 (j, ab_rv E w) (List.mem_cons_of_mem _ (List.mem_filter.mpr ⟨ab_asc_mem.mpr ⟨w, h1, rfl⟩, ?_⟩))
      simp only [ab_rv_cat E w hf, Bool.and_eq_true, Bool.not_eq_true', beq_eq_false_iff_ne, ne_eq, Bool.and_eq_false_iff]
      refine ⟨hj, hj1, ?_⟩
      by_cases h3 : j + 1 = i
      · exact Or.inr (fun h4 => h2 ⟨h3, h4⟩)
      · exact Or.inl h3
theorem ab_en_args (E : ab_Env) (hf : E.2.2.2.category = 1) : ∀ (vs : List Value) (k j : Nat) (v : Value), (ab_en vs)[j]? = some (some v) → (k + j, ab_rv E v) ∈ lv_args k (vs.map (ab_rv E))
  | [], k, j, v, h => by simp [ab_en] at h
  | w :: vs, k, j, v, h => by
    simp only [ab_en] at h
    simp only [List.map_cons, lv_args, ab_rv_cat E w hf]
    split at h
    · rename_i hc
      rw [if_pos hc]
      match j, h with
      | 0, h => cases h; exact List.mem_cons_self
      | 1, h => simp at h
      | j + 2, h =>
        have := ab_en_args E hf vs (k + 2) j v (by simpa using h)
        rw [show k + (j + 2) = k + 2 + j by omega]
        exact List.mem_cons_of_mem _ this
    · rename_i hc
      rw [if_neg hc]
      match j, h with
      | 0, h => cases h; exact List.mem_cons_self
      | j + 1, h =>
        have := ab_en_args E hf vs (k + 1) j v (by simpa using h)
        rw [show k + (j + 1) = k + 1 + j by omega]
        exact List.mem_cons_of_mem _ this
theorem ab_en_len (E : ab_Env) (hf : E.2.2.2.category = 1) : ∀ vs : List Value, (lg_sl (vs.map (ab_rv E))).length = (ab_en vs).length
  | [] => rfl
  | w :: vs => by
    have ih := ab_en_len E hf vs
    simp only [lg_sl] at ih
    simp only [List.map_cons, lg_sl, ab_en, List.flatMap_cons, List.length_append, ab_rv_cat E w hf, ih]
    split <;> simp <;> omega
theorem ab_entry {E : ab_Env} (hf : E.2.2.2.category = 1) {vs : List Value} {n : Nat} (h : (ab_en vs).length ≤ n) : ab_LR E n (ab_ent n vs) ((lg_sl (vs.map (ab_rv E)) ++ List.replicate (n - (lg_sl (vs.map (ab_rv E))).length) Slot.unset).toArray) := by
  have hh := lv_entry (vs.map (ab_rv E)) (n := n) (by rw [ab_en_len E hf]; exact h)
  refine ⟨by simp only [ab_ent, List.length_append, List.length_replicate]; omega, hh.1, hh.2.1, fun i v hv => ?_⟩
  have : (ab_en vs)[i]? = some (some v) := by
    unfold ab_ent at hv
    by_cases hi : i < (ab_en vs).length
    · rwa [List.getElem?_append_left hi] at hv
    · rw [List.getElem?_append_right (by omega), List.getElem?_replicate] at hv
      split at hv <;> cases hv
  have h2 := ab_en_args E hf vs 0 i v this
  rw [Nat.zero_add] at h2
  exact hh.2.2 _ h2
