/-! the memory: a heap of fixed shape; what changes are ints, longs and the two rows of Walking -/
abbrev fm_M : Type := (Nat → Nat → Int32) × (Nat → Nat → Int32) × (Nat → Nat → Int64) × Nat × Nat
abbrev fm_Sh : Type := Nat ⊕ ((FieldType × Nat) ⊕ (FieldType × Nat))
def fm_sh : List fm_Sh := [.inl 8, .inl 7, .inr (.inl (.int, 4)), .inr (.inl (.int, 4)), .inr (.inl (.int, 5)), .inr (.inl (.int, 5)), .inr (.inl (.int, 5)), .inr (.inl (.int, 6)), .inr (.inl (.int, 4)), .inr (.inl (.int, 4)), .inr (.inl (.int, 4)), .inl 7, .inr (.inl (.int, 4)), .inr (.inl (.int, 4)), .inr (.inl (.int, 5)), .inr (.inl (.int, 5)), .inr (.inl (.int, 5)), .inr (.inl (.int, 6)), .inr (.inl (.int, 4)), .inr (.inl (.int, 4)), .inr (.inl (.int, 4)), .inr (.inr (.object "TepidPurse$World", 2)), .inr (.inl (.boolean, 2)), .inl 5, .inr (.inl (.byte, 160)), .inl 4, .inr (.inl (.int, 6)), .inr (.inl (.int, 6)), .inr (.inr (.object "TepidPurse$Sheet", 4)), .inl 1, .inr (.inl (.int, 4)), .inr (.inl (.int, 4)), .inl 0, .inr (.inl (.int, 5)), .inr (.inr (.array .int, 5)), .inr (.inl (.int, 5)), .inr (.inl (.int, 5)), .inr (.inl (.int, 5)), .inr (.inl (.int, 5)), .inr (.inl (.int, 5)), .inr (.inr (.array .int, 6)), .inr (.inl (.int, 4)), .inr (.inl (.int, 4)), .inr (.inl (.int, 4)), .inr (.inl (.int, 4)), .inr (.inl (.int, 4)), .inr (.inl (.int, 4)), .inl 2, .inr (.inl (.int, 4)), .inr (.inl (.int, 4)), .inr (.inr (.object "TepidPurse$World", 5)), .inl 7, .inr (.inl (.int, 4)), .inr (.inl (.int, 4)), .inr (.inl (.int, 5)), .inr (.inl (.int, 5)), .inr (.inl (.int, 5)), .inr (.inl (.int, 6)), .inr (.inl (.int, 4)), .inr (.inl (.int, 4)), .inr (.inl (.int, 4)), .inl 7, .inr (.inl (.int, 4)), .inr (.inl (.int, 4)), .inr (.inl (.int, 5)), .inr (.inl (.int, 5)), .inr (.inl (.int, 5)), .inr (.inl (.int, 6)), .inr (.inl (.int, 4)), .inr (.inl (.int, 4)), .inr (.inl (.int, 4)), .inl 7, .inr (.inl (.int, 4)), .inr (.inl (.int, 4)), .inr (.inl (.int, 5)), .inr (.inl (.int, 5)), .inr (.inl (.int, 5)), .inr (.inl (.int, 6)), .inr (.inl (.int, 4)), .inr (.inl (.int, 4)), .inr (.inl (.int, 4)), .inl 7, .inr (.inl (.int, 4)), .inr (.inl (.int, 4)), .inr (.inl (.int, 5)), .inr (.inl (.int, 5)), .inr (.inl (.int, 5)), .inr (.inl (.int, 6)), .inr (.inl (.int, 4)), .inr (.inl (.int, 4)), .inr (.inl (.int, 4)), .inl 7, .inr (.inl (.int, 4)), .inr (.inl (.int, 4)), .inr (.inl (.int, 5)), .inr (.inl (.int, 5)), .inr (.inl (.int, 5)), .inr (.inl (.int, 6)), .inr (.inl (.int, 4)), .inr (.inl (.int, 4)), .inr (.inl (.int, 4)), .inl 6, .inr (.inl (.int, 61)), .inr (.inl (.int, 61)), .inl 7, .inr (.inl (.int, 4)), .inr (.inl (.int, 4)), .inr (.inl (.int, 5)), .inr (.inl (.int, 5)), .inr (.inl (.int, 5)), .inr (.inl (.int, 6)), .inr (.inl (.int, 4)), .inr (.inl (.int, 4)), .inr (.inl (.int, 4)), .inl 7, .inr (.inl (.int, 4)), .inr (.inl (.int, 4)), .inr (.inl (.int, 5)), .inr (.inl (.int, 5)), .inr (.inl (.int, 5)), .inr (.inl (.int, 6)), .inr (.inl (.int, 4)), .inr (.inl (.int, 4)), .inr (.inl (.int, 4)), .inl 3, .inr (.inl (.int, 40)), .inl 3, .inr (.inl (.int, 40)), .inl 3, .inr (.inl (.int, 40)), .inl 3, .inr (.inl (.int, 40)), .inl 9, .inr (.inl (.int, 228)), .inr (.inl (.int, 8)), .inr (.inl (.int, 4)), .inr (.inl (.int, 38)), .inr (.inl (.int, 8)), .inr (.inl (.int, 160)), .inr (.inl (.int, 10)), .inr (.inl (.int, 39)), .inr (.inl (.int, 3)), .inr (.inl (.int, 5)), .inr (.inl (.int, 5)), .inr (.inl (.int, 4)), .inr (.inl (.int, 6100)), .inr (.inl (.long, 100)), .inr (.inl (.long, 100)), .inr (.inl (.int, 12)), .inr (.inl (.boolean, 2)), .inr (.inl (.int, 4)), .inr (.inl (.int, 4)), .inr (.inl (.int, 160))]
def fm_pf : List (List Nat) := [[101, 111, 121, 122, 123, 125, 128, 129, 132, 147, 201, 0, 0], [0, 102, 103, 0, 104, 105, 106, 0, 0, 0, 107, 0, 108, 109, 110, 0], [], [], [], [], [], [], [], [], [], [0, 112, 113, 0, 114, 115, 116, 0, 0, 0, 117, 0, 118, 119, 120, 0], [], [], [], [], [], [], [], [], [], [], [], [124, 0, 0, 0, 0, 0, 0, 0, 0, 0, 0], [], [0, 126, 127, 0, 0, 0, 0], [], [], [], [130, 131, 0, 0, 0, 0, 0], [], [], [0, 133, 134, 140, 0], [], [], [], [], [], [], [], [], [], [], [], [], [], [], [0, 148, 149, 150], [], [], [], [0, 152, 153, 0, 154, 155, 156, 0, 0, 0, 157, 0, 158, 159, 160, 0], [], [], [], [], [], [], [], [], [], [0, 162, 163, 0, 164, 165, 166, 0, 0, 0, 167, 0, 168, 169, 170, 0], [], [], [], [], [], [], [], [], [], [0, 172, 173, 0, 174, 175, 176, 0, 0, 0, 177, 0, 178, 179, 180, 0], [], [], [], [], [], [], [], [], [], [0, 182, 183, 0, 184, 185, 186, 0, 0, 0, 187, 0, 188, 189, 190, 0], [], [], [], [], [], [], [], [], [], [0, 192, 193, 0, 194, 195, 196, 0, 0, 0, 197, 0, 198, 199, 200, 0], [], [], [], [], [], [], [], [], [], [202, 203, 0, 0, 0, 0], [], [], [0, 205, 206, 0, 207, 208, 209, 0, 0, 0, 210, 0, 211, 212, 213, 0], [], [], [], [], [], [], [], [], [], [0, 215, 216, 0, 217, 218, 219, 0, 0, 0, 220, 0, 221, 222, 223, 0], [], [], [], [], [], [], [], [], [], [0, 0, 225], [], [0, 0, 227], [], [0, 0, 229], [], [0, 0, 231], [], [233, 0, 234, 0, 235, 236, 237, 0, 0, 0, 0, 0, 238, 0, 0, 0, 0, 0, 0, 0, 0, 239, 240, 241, 0, 242, 243, 244, 245, 246, 247, 0, 248, 0, 0, 249, 250, 251, 252, 0], [], [], [], [], [], [], [], [], [], [], [], [], [], [], [], [], [], [], [], []]
def fm_P (w1 w2 q k : Nat) : Nat := if q = 201 then (if k = 0 then w1 else w2) else ((fm_pf[q - 100]?).getD []).getD k 0
def fm_isI (ty : FieldType) : Bool := match ty with
  | .int => true
  | .boolean => true
  | _ => false
def fm_v (μ : fm_M) (q ci k : Nat) : Value := if fm_isI (ab_ty ci k) then .int (μ.1 q k) else .ref (fm_P μ.2.2.2.1 μ.2.2.2.2 q k)
def fm_c (G : Nat → Nat → Option Nat) (μ : fm_M) (q : Nat) (s : fm_Sh) : ab_C := match s with
  | .inl ci => .inr (.inl (ci, (List.range (ab_nf ci)).map fun k => fm_v μ q ci k))
  | .inr (.inl (.long, n)) => .inl (.long, n, .inr (.inl (μ.2.2.1 q)))
  | .inr (.inl (ty, n)) => .inl (ty, n, .inl (μ.2.1 q))
  | .inr (.inr (ty, n)) => .inl (ty, n, .inr (.inr (.inr (.inr (G q)))))
def fm_mkG (G : Nat → Nat → Option Nat) (f : Nat → Option ab_C) (μ : fm_M) : ab_H := (253, 8160, fun q => if q < 100 then f q else (fm_sh[q - 100]?).map (fm_c G μ q))
/-- the two objects as their constructors leave them, over no other cells -/
def fm_e1 : ab_H := ab_add (100, 0, fun _ => none) 13 (.inr (.inl (8, (List.range (ab_nf 8)).map fun k => defaultValue (ab_ty 8 k))))
def fm_e2 : ab_H := ((ab_call 8 5000 77 [.ref 100] fm_e1).getD (none, fm_e1)).2
def fm_e3 : ab_H := ab_add fm_e2 40 (.inr (.inl (9, (List.range (ab_nf 9)).map fun k => defaultValue (ab_ty 9 k))))
def fm_e4 : ab_H := ((ab_call 8 5000 134 [.ref 232] fm_e3).getD (none, fm_e3)).2
theorem fm_get {o : Option (Option Value × ab_H)} {d : Option Value × ab_H} (h : (match o with
  | some (none, _) => true
  | _ => false) = true) : o = some (none, (o.getD d).2) := by
  match o, h with
  | some (none, g), _ => rfl
  | some (some _, _), h => cases h
  | none, h => cases h
set_option maxRecDepth 100000 in
theorem fm_r1 : ab_call 8 5000 77 [.ref 100] fm_e1 = some (none, fm_e2) := fm_get (by decide +kernel)
set_option maxRecDepth 100000 in
theorem fm_r2 : ab_call 8 5000 134 [.ref 232] fm_e3 = some (none, fm_e4) := fm_get (by decide +kernel)
def fm_Gg (g0 : ab_H) (q : Nat) : Nat → Option Nat := match g0.2.2 q with
  | some (.inl (_, _, .inr (.inr (.inr (.inr g))))) => g
  | _ => fun _ => none
def fm_Ag (g0 : ab_H) (q : Nat) : Nat → Int32 := match g0.2.2 q with
  | some (.inl (_, _, .inl g)) => g
  | _ => fun _ => 0
def fm_Jg (g0 : ab_H) (q : Nat) : Nat → Int64 := match g0.2.2 q with
  | some (.inl (_, _, .inr (.inl g))) => g
  | _ => fun _ => 0
def fm_Ig (g0 : ab_H) (q k : Nat) : Int32 := match g0.2.2 q with
  | some (.inr (.inl (_, fs))) => (match fs[k]? with
    | some (.int x) => x
    | _ => 0)
  | _ => 0
def fm_0g (g0 : ab_H) : fm_M := (fm_Ig g0, fm_Ag g0, fm_Jg g0, 202, 203)
def fm_ok (q : Nat) (c : Option ab_C) (s : fm_Sh) : Bool := match c, s with
  | some (.inr (.inl (ci, fs))), .inl cj => decide (ci = cj) && (decide (fs.length = ab_nf ci) && (List.range (ab_nf ci)).all fun k => match fs[k]? with
    | some (.int _) => fm_isI (ab_ty ci k)
    | some (.ref p) => !fm_isI (ab_ty ci k) && decide (p = fm_P 202 203 q k)
    | _ => false)
  | some (.inl (ty, n, .inl _)), .inr (.inl (ty', n')) => decide (ty = ty') && (decide (n = n') && decide (ty ≠ .long))
  | some (.inl (ty, n, .inr (.inl _))), .inr (.inl (ty', n')) => decide (ty = ty') && (decide (n = n') && decide (ty = .long))
  | some (.inl (ty, n, .inr (.inr (.inr (.inr _))))), .inr (.inr (ty', n')) => decide (ty = ty') && decide (n = n')
  | _, _ => false
theorem fm_ok_eq {g0 : ab_H} {q : Nat} {s : fm_Sh} (h : fm_ok q (g0.2.2 q) s = true) : g0.2.2 q = some (fm_c (fm_Gg g0) (fm_0g g0) q s) := by
  generalize hc : g0.2.2 q = c at h ⊢
  unfold fm_ok at h
  split at h
  · rename_i ci fs cj
    simp only [Bool.and_eq_true, decide_eq_true_eq] at h
    obtain ⟨rfl, h2, h3⟩ := h
    show _ = some (Sum.inr (Sum.inl (ci, (List.range (ab_nf ci)).map fun k => fm_v (fm_0g g0) q ci k)))
    congr 4
    apply List.ext_getElem?
    intro k
    by_cases hk : k < ab_nf ci
    · have h4 := List.all_eq_true.mp h3 k (List.mem_range.mpr hk)
      rw [List.getElem?_map, List.getElem?_range hk]
      split at h4
      · rename_i x hx
        rw [hx]
        show some (Value.int x) = some (fm_v (fm_0g g0) q ci k)
        unfold fm_v
        rw [if_pos h4]
        show _ = some (Value.int (fm_Ig g0 q k))
        unfold fm_Ig
        rw [hc]
        simp only [hx]
      · rename_i p hx
        simp only [Bool.and_eq_true, Bool.not_eq_true', decide_eq_true_eq] at h4
        rw [hx]
        show some (Value.ref p) = some (fm_v (fm_0g g0) q ci k)
        unfold fm_v
        rw [h4.1, h4.2]
        rfl
      · cases h4
    · rw [List.getElem?_eq_none (by omega), List.getElem?_eq_none (by rw [List.length_map, List.length_range]; omega)]
  · rename_i ty n g ty' n'
    simp only [Bool.and_eq_true, decide_eq_true_eq] at h
    obtain ⟨rfl, rfl, h3⟩ := h
    have e : fm_Ag g0 q = g := by unfold fm_Ag; rw [hc]
    show _ = some (fm_c (fm_Gg g0) (fm_0g g0) q (.inr (.inl (ty, n))))
    cases ty <;> first | exact absurd rfl h3 | (show _ = some (Sum.inl (_, n, Sum.inl (fm_Ag g0 q))); rw [e])
  · rename_i ty n g ty' n'
    simp only [Bool.and_eq_true, decide_eq_true_eq] at h
    obtain ⟨rfl, rfl, rfl⟩ := h
    have e : fm_Jg g0 q = g := by unfold fm_Jg; rw [hc]
    show _ = some (Sum.inl (_, n, Sum.inr (Sum.inl (fm_Jg g0 q))))
    rw [e]
  · rename_i ty n g ty' n'
    simp only [Bool.and_eq_true, decide_eq_true_eq] at h
    obtain ⟨rfl, rfl⟩ := h
    have e : fm_Gg g0 q = g := by unfold fm_Gg; rw [hc]
    show _ = some (Sum.inl (ty, n, Sum.inr (Sum.inr (Sum.inr (Sum.inr (fm_Gg g0 q))))))
    rw [e]
  · cases h
set_option maxRecDepth 100000 in
theorem fm_shape : ((List.range 153).all fun i => fm_ok (100 + i) (fm_e4.2.2 (100 + i)) (fm_sh.getD i (.inl 0))) = true := by decide +kernel
set_option maxRecDepth 100000 in
theorem fm_below : ((List.range 100).all fun i => (fm_e4.2.2 i).isNone) = true := by decide +kernel
set_option maxRecDepth 100000 in
theorem fm_size : fm_e4.1 = 253 ∧ fm_e4.2.1 = 8160 := by decide +kernel
theorem fm_wf0 : ab_wf fm_e4 := by
  have w1 : ab_wf fm_e1 := ab_wf.add (fun _ _ => rfl)
  have w2 := ab_call_wf 8 5000 77 [.ref 100] fm_e1 (none, fm_e2) fm_r1 w1
  dsimp only at w2
  have w3 : ab_wf fm_e3 := w2.add
  have w4 := ab_call_wf 8 5000 134 [.ref 232] fm_e3 (none, fm_e4) fm_r2 w3
  dsimp only at w4
  exact w4
theorem fm_startg {g0 : ab_H} (h1 : g0.1 = 253 ∧ g0.2.1 = 8160) (hw : ab_wf g0) (hb : ((List.range 100).all fun i => (g0.2.2 i).isNone) = true) (hs : ((List.range 153).all fun i => fm_ok (100 + i) (g0.2.2 (100 + i)) (fm_sh.getD i (.inl 0))) = true) (f : Nat → Option ab_C) (hf : ∀ q, 100 ≤ q → f q = none) : ab_ov f g0 = fm_mkG (fm_Gg g0) f (fm_0g g0) := by
  show (g0.1, g0.2.1, _) = (253, 8160, _)
  rw [h1.1, h1.2]
  simp only [Prod.mk.injEq, true_and]
  funext q
  by_cases hq : q < 100
  · have := List.all_eq_true.mp hb q (List.mem_range.mpr hq)
    rw [if_pos hq, Option.isNone_iff_eq_none.mp this]
  · rw [if_neg hq]
    by_cases hq2 : q < 253
    · have h3 := List.all_eq_true.mp hs (q - 100) (List.mem_range.mpr (by omega))
      rw [show 100 + (q - 100) = q by omega] at h3
      rw [fm_ok_eq h3]
      have hl : q - 100 < fm_sh.length := by
        show q - 100 < 153
        omega
      rw [List.getD_eq_getElem?_getD, List.getElem?_eq_getElem hl]
      rfl
    · rw [hw q (by rw [h1.1]; omega), hf q (by omega), List.getElem?_eq_none (by show 153 ≤ q - 100; omega)]
      rfl
theorem fm_start (f : Nat → Option ab_C) (hf : ∀ q, 100 ≤ q → f q = none) : ab_ov f fm_e4 = fm_mkG (fm_Gg fm_e4) f (fm_0g fm_e4) := fm_startg fm_size fm_wf0 fm_below fm_shape f hf
