/-! rules for worlds, sheets, rows by their addresses -/
def fm_isW (w : Nat) : Bool := decide (w = 101 ∨ w = 111 ∨ w = 151 ∨ w = 161 ∨ w = 171 ∨ w = 181 ∨ w = 191 ∨ w = 204 ∨ w = 214)
def fm_isS (s : Nat) : Bool := decide (s = 224 ∨ s = 226 ∨ s = 228 ∨ s = 230)
def fm_off (k : Nat) : Nat := ([0, 1, 2, 0, 3, 4, 5, 0, 0, 0, 6, 0, 7, 8, 9, 0] : List Nat).getD k 0
def fm_g (a i : Nat) : Option Nat := if a = 121 then some (204 + 10 * i) else if a = 128 then some (224 + 2 * i) else if a = 134 then some (135 + i) else if a = 140 then some (141 + i) else if a = 150 then some (151 + 10 * i) else none
def fm_gn (a : Nat) : Nat := if a = 121 then 2 else if a = 128 then 4 else if a = 134 then 5 else if a = 140 then 6 else if a = 150 then 5 else 0
/-- may the row at a be asked at i -/
def fm_inA (a : Nat) (i : Int32) : Bool := decide (100 ≤ a) && (match fm_sh[a - 100]? with
  | some (.inr (.inl (.int, n))) => ab_in i n
  | _ => false)
def fm_Gok (G : Nat → Nat → Option Nat) : Prop := ∀ a i, i < fm_gn a → G a i = fm_g a i
theorem ab_ifs {α : Type} {c : Prop} [Decidable c] {x : Option α} {r : α} (h : (if c then x else none) = some r) : c ∧ x = some r := by
  split at h
  · rename_i hc
    exact ⟨hc, h⟩
  · cases h
theorem ab_bnd {α β : Type} {o : Option α} {f : α → Option β} {r : β} (h : o.bind f = some r) : ∃ q, o = some q ∧ f q = some r := Option.bind_eq_some_iff.mp h
theorem fm_WO {w : Nat} (h : fm_isW w = true) : fm_shO w 7 := by
  have h := of_decide_eq_true h
  rcases h with rfl | rfl | rfl | rfl | rfl | rfl | rfl | rfl | rfl <;> exact ⟨by decide, rfl⟩
theorem fm_WA {w : Nat} (h : fm_isW w = true) : fm_shA (w + 1) .int 4 ∧ fm_shA (w + 2) .int 4 ∧ fm_shA (w + 3) .int 5 ∧ fm_shA (w + 4) .int 5 ∧ fm_shA (w + 5) .int 5 ∧ fm_shA (w + 6) .int 6 ∧ fm_shA (w + 7) .int 4 ∧ fm_shA (w + 8) .int 4 ∧ fm_shA (w + 9) .int 4 := by
  have h := of_decide_eq_true h
  rcases h with rfl | rfl | rfl | rfl | rfl | rfl | rfl | rfl | rfl <;> exact ⟨⟨by decide, rfl⟩, ⟨by decide, rfl⟩, ⟨by decide, rfl⟩, ⟨by decide, rfl⟩, ⟨by decide, rfl⟩, ⟨by decide, rfl⟩, ⟨by decide, rfl⟩, ⟨by decide, rfl⟩, ⟨by decide, rfl⟩⟩
theorem fm_WP {w : Nat} (h : fm_isW w = true) (w1 w2 k : Nat) (hk : fm_isI (ab_ty 7 k) = false) (hk2 : k < 16) : fm_P w1 w2 w k = w + fm_off k := by
  have h := of_decide_eq_true h
  have hk3 : k = 1 ∨ k = 2 ∨ k = 4 ∨ k = 5 ∨ k = 6 ∨ k = 10 ∨ k = 12 ∨ k = 13 ∨ k = 14 := by
    match k, hk, hk2 with
    | 0, hk, _ => cases hk
    | 1, _, _ => omega
    | 2, _, _ => omega
    | 3, hk, _ => cases hk
    | 4, _, _ => omega
    | 5, _, _ => omega
    | 6, _, _ => omega
    | 7, hk, _ => cases hk
    | 8, hk, _ => cases hk
    | 9, hk, _ => cases hk
    | 10, _, _ => omega
    | 11, hk, _ => cases hk
    | 12, _, _ => omega
    | 13, _, _ => omega
    | 14, _, _ => omega
    | 15, hk, _ => cases hk
    | k + 16, _, hk2 => omega
  rcases h with rfl | rfl | rfl | rfl | rfl | rfl | rfl | rfl | rfl <;> rcases hk3 with rfl | rfl | rfl | rfl | rfl | rfl | rfl | rfl | rfl <;> rfl
theorem fm_SO {s : Nat} (h : fm_isS s = true) : fm_shO s 3 ∧ fm_shA (s + 1) .int 40 := by
  have h := of_decide_eq_true h
  rcases h with rfl | rfl | rfl | rfl <;> exact ⟨⟨by decide, rfl⟩, ⟨by decide, rfl⟩⟩
theorem fm_SP {s : Nat} (h : fm_isS s = true) (w1 w2 : Nat) : fm_P w1 w2 s 2 = s + 1 := by
  have h := of_decide_eq_true h
  rcases h with rfl | rfl | rfl | rfl <;> rfl
theorem fm_inA_of {a : Nat} {i : Int32} (h : fm_inA a i = true) : ∃ n, fm_shA a .int n ∧ ab_in i n = true := by
  unfold fm_inA at h
  simp only [Bool.and_eq_true, decide_eq_true_eq] at h
  obtain ⟨h1, h2⟩ := h
  split at h2
  · rename_i n hn
    exact ⟨n, ⟨h1, hn⟩, h2⟩
  · cases h2
section AB17
variable {d : Nat} {rt : Option FieldType} {cd : ab_K} {Q : Option Value → ab_H → Prop} {pc nx : Nat} {L : ab_L} {st : List Value} {h : ab_H} {ins : Instr} {x y : Int32}
variable {X : Nat × (Nat → Int32)} {G : Nat → Nat → Option Nat} {μ : fm_M} {a n ci : Nat} {i : Int32}
theorem ab_U.gfW {k9 : Nat} (hl : ab_look cd pc = some (.getfield (100 * 7 + k9), nx)) (hw : fm_isW a = true) (h1 : (100 * 7 + k9) / 100 = 7 ∧ (100 * 7 + k9) % 100 = k9 ∧ k9 < 16 ∧ fm_isI (ab_ty 7 k9) = false) (k : ab_U d rt cd (nx, L, .ref (a + fm_off k9) :: st, hp X G μ) Q) : ab_U d rt cd (pc, L, .ref a :: st, hp X G μ) Q := by
  refine ab_U.gfR hl (fm_WO hw) h1 ?_
  rw [fm_WP hw _ _ k9 h1.2.2.2 h1.2.2.1]
  exact k
theorem ab_U.gfS (hl : ab_look cd pc = some (.getfield 302, nx)) (hw : fm_isS a = true) (k : ab_U d rt cd (nx, L, .ref (a + 1) :: st, hp X G μ) Q) : ab_U d rt cd (pc, L, .ref a :: st, hp X G μ) Q := by
  refine ab_U.gfR (ci := 3) (k9 := 2) hl (fm_SO hw).1 ⟨rfl, rfl, by decide, rfl⟩ ?_
  rw [fm_SP hw]
  exact k
theorem ab_U.ialdA (hl : ab_look cd pc = some (.iaload, nx)) (hi : fm_inA a i = true) (k : ab_U d rt cd (nx, L, .int (μ.2.1 a i.toNatClampNeg) :: st, hp X G μ) Q) : ab_U d rt cd (pc, L, .int i :: .ref a :: st, hp X G μ) Q := by
  obtain ⟨n, h1, h2⟩ := fm_inA_of hi
  exact ab_U.iald hl h1 h2 k
theorem ab_U.iastA (hl : ab_look cd pc = some (.iastore, nx)) (hi : fm_inA a i = true) (k : ab_U d rt cd (nx, L, st, hp X G (fm_sA μ a (upd (μ.2.1 a) i.toNatClampNeg x))) Q) : ab_U d rt cd (pc, L, .int x :: .int i :: .ref a :: st, hp X G μ) Q := by
  obtain ⟨n, h1, h2⟩ := fm_inA_of hi
  exact ab_U.iast hl h1 h2 k
theorem ab_U.aaldG {ty : FieldType} {v : Nat} (hG : fm_Gok G) (hl : ab_look cd pc = some (.aaload, nx)) (ha : fm_shG a ty n) (hn : fm_gn a = n) (hi : ab_in i n = true) (hty : (match ty with
  | .object _ => true
  | .array _ => true
  | _ => false) = true) (hv : fm_g a i.toNatClampNeg = some v) (k : ab_U d rt cd (nx, L, .ref v :: st, hp X G μ) Q) : ab_U d rt cd (pc, L, .int i :: .ref a :: st, hp X G μ) Q := by
  refine ab_U.aald hl ha hi hty ?_ k
  rw [hG a _ (by rw [hn]; have := ab_in_iff hi; exact Nat.not_le.mp fun q => this (Or.inr q))]
  exact hv
theorem ab_U.fnV {e q : Nat} {R : Option Value} {h1 : ab_H} {c : Nat × List Value × ab_S} {rest : List Value} (hl : ab_look cd pc = some (.invokevirtual q, nx)) (hdr : st.drop (q / 100 % 100 - 1) = .ref a :: rest) (ho : fm_shO a (q % 100)) (hs : ab_call1 q nx L st (hp X G μ) = some (.inr (.inl c))) (hT : ab_F e c.1 c.2.1 c.2.2.2.2.2 R h1) (he : e ≤ d) (k : ab_U d rt cd (c.2.2.1, c.2.2.2.1, R.toList ++ c.2.2.2.2.1, h1) Q) : ab_U d rt cd (pc, L, st, hp X G μ) Q :=
  ab_U.fn hl (by simp only [ab_step, hdr, fm_ob ho, if_true]; exact hs) hT he k
theorem ab_U.retZ {h : ab_H} (hl : ab_look cd pc = some (.ireturn, nx)) (hx : x = 0 ∨ x = 1) (k : Q (some (.int x)) h) : ab_U d (some .boolean) cd (pc, L, [.int x], h) Q := by
  refine ab_U.ret (r := (some (.int x), h)) hl ?_ k
  rcases hx with rfl | rfl <;> rfl
theorem ab_U.idv (hl : ab_look cd pc = some (.idiv, nx)) (hy : ¬ y = 0) (k : ab_U d rt cd (nx, L, .int (x / y) :: st, h) Q) : ab_U d rt cd (pc, L, .int y :: .int x :: st, h) Q :=
  ab_U.go hl (by simp only [ab_step, hy, if_false, ab_go1]) k
theorem ab_U.irm (hl : ab_look cd pc = some (.irem, nx)) (hy : ¬ y = 0) (k : ab_U d rt cd (nx, L, .int (x - x / y * y) :: st, h) Q) : ab_U d rt cd (pc, L, .int y :: .int x :: st, h) Q :=
  ab_U.go hl (by simp only [ab_step, hy, if_false, ab_go1]) k
theorem ab_U.ldv {x y : Int64} (hl : ab_look cd pc = some (.ldiv, nx)) (hy : ¬ y = 0) (k : ab_U d rt cd (nx, L, .long (x / y) :: st, h) Q) : ab_U d rt cd (pc, L, .long y :: .long x :: st, h) Q :=
  ab_U.go hl (by simp only [ab_step, hy, if_false, ab_go1]) k
theorem ab_U.lrm {x y : Int64} (hl : ab_look cd pc = some (.lrem, nx)) (hy : ¬ y = 0) (k : ab_U d rt cd (nx, L, .long (x - x / y * y) :: st, h) Q) : ab_U d rt cd (pc, L, .long y :: .long x :: st, h) Q :=
  ab_U.go hl (by simp only [ab_step, hy, if_false, ab_go1]) k
theorem ab_U.tswD {D lo hi : Int} {T : Array Int} (hl : ab_look cd pc = some (.tableswitch D lo hi T, nx)) (hx : x.toInt < lo ∨ hi < x.toInt) (k : ab_U d rt cd (D.toNat, L, st, h) Q) : ab_U d rt cd (pc, L, .int x :: st, h) Q :=
  ab_U.go hl (by simp only [ab_step]; rw [if_pos hx]; rfl) k
theorem ab_U.tswT {D lo hi t : Int} {T : Array Int} (hl : ab_look cd pc = some (.tableswitch D lo hi T, nx)) (hx : ¬ (x.toInt < lo ∨ hi < x.toInt)) (ht : T[(x.toInt - lo).toNat]? = some t) (k : ab_U d rt cd (t.toNat, L, st, h) Q) : ab_U d rt cd (pc, L, .int x :: st, h) Q :=
  ab_U.go hl (by simp only [ab_step]; rw [if_neg hx]; simp only [ht]; rfl) k
end AB17
/-- the rows of Walking change places -/
theorem fm_cW {X : Nat × (Nat → Int32)} {G : Nat → Nat → Option Nat} {μ : fm_M} (w1 w2 : Nat) (fs : List Value) (hfs : fs = (List.range 6).map fun k => fm_v (fm_sW μ w1 w2) 201 6 k) : ab_put (hp X G μ) 201 (.inr (.inl (6, fs))) = hp X G (fm_sW μ w1 w2) := by
  refine fm_ext (fun q => ?_)
  by_cases hq : q = 201
  · subst hq
    rw [if_pos rfl, hfs]
    rfl
  · rw [if_neg hq]
    show (if q < 100 then _ else _) = (if q < 100 then _ else _)
    by_cases h1 : q < 100
    · rw [if_pos h1, if_pos h1]
    · rw [if_neg h1, if_neg h1]
      congr 1
      funext s
      rcases s with c | ⟨t, k9⟩ | ⟨t, k9⟩
      · show Sum.inr (Sum.inl (c, (List.range (ab_nf c)).map fun k' => fm_v μ q c k')) = Sum.inr (Sum.inl (c, (List.range (ab_nf c)).map fun k' => fm_v (fm_sW μ w1 w2) q c k'))
        congr 4
        funext k'
        unfold fm_v
        have e : fm_P (fm_sW μ w1 w2).2.2.2.1 (fm_sW μ w1 w2).2.2.2.2 q k' = fm_P μ.2.2.2.1 μ.2.2.2.2 q k' := by
          unfold fm_P
          rw [if_neg hq, if_neg hq]
        rw [e]
        rfl
      · cases t <;> rfl
      · rfl
theorem ab_U.pfW0 {d : Nat} {rt : Option FieldType} {cd : ab_K} {Q : Option Value → ab_H → Prop} {pc nx : Nat} {L : ab_L} {st : List Value} {X : Nat × (Nat → Int32)} {G : Nat → Nat → Option Nat} {μ : fm_M} {v : Nat} (hl : ab_look cd pc = some (.putfield 600, nx)) (k : ab_U d rt cd (nx, L, st, hp X G (fm_sW μ v μ.2.2.2.2)) Q) : ab_U d rt cd (pc, L, .ref v :: .ref 201 :: st, hp X G μ) Q := by
  rw [← fm_cW v μ.2.2.2.2 _ rfl] at k
  exact ab_U.go hl rfl k
theorem ab_U.pfW1 {d : Nat} {rt : Option FieldType} {cd : ab_K} {Q : Option Value → ab_H → Prop} {pc nx : Nat} {L : ab_L} {st : List Value} {X : Nat × (Nat → Int32)} {G : Nat → Nat → Option Nat} {μ : fm_M} {v : Nat} (hl : ab_look cd pc = some (.putfield 601, nx)) (k : ab_U d rt cd (nx, L, st, hp X G (fm_sW μ μ.2.2.2.1 v)) Q) : ab_U d rt cd (pc, L, .ref v :: .ref 201 :: st, hp X G μ) Q := by
  rw [← fm_cW μ.2.2.2.1 v _ rfl] at k
  exact ab_U.go hl rfl k
def fm_isR (a n : Nat) : Bool := decide (100 ≤ a) && decide (fm_sh[a - 100]? = some (.inr (.inl (.int, n))))
theorem fm_isR_of {a n : Nat} (h : fm_isR a n = true) : fm_shA a .int n := by
  unfold fm_isR at h
  simp only [Bool.and_eq_true, decide_eq_true_eq] at h
  exact h
