/-! the order in which most debts are paid: the class -/
def sStep (b : Nat → Nat) (d : Nat) : Nat → Nat :=
  match fwst b d with
  | none => b
  | some r => pays (b (44 + d)) b r
def sEnd (a : Nat → Nat) (o : List Nat) : Nat → Nat := o.foldl sStep a
def cntC (a b : Nat → Nat) : Nat → Nat
  | 0 => 0
  | i + 1 => cntC a b i + (if ¬ a (33 + i) = 0 ∧ b (33 + i) = 0 then 1 else 0)
def js (a : Nat → Nat) (b : Option (Nat × List Nat)) (o : List Nat) : Option (Nat × List Nat) :=
  match b with
  | none => some (cntC a (sEnd a o) (a 39), o)
  | some q => if q.1 < cntC a (sEnd a o) (a 39) then some (cntC a (sEnd a o) (a 39), o) else some q
def prs (M : Nat) : Nat → List Nat → Nat → List (List Nat)
  | 0, _, _ => []
  | e + 1, tr, used => if M ≤ tr.length then [tr] else plp (fun d => if used / 2 ^ d % 2 = 1 then [] else prs M e (tr ++ [d]) (used ||| 2 ^ d)) M 0
theorem cntC_le (a b : Nat → Nat) : ∀ i, cntC a b i ≤ i
  | 0 => Nat.le_refl _
  | i + 1 => by
    have := cntC_le a b i
    rw [cntC]
    split <;> omega
theorem fw_all {b : Nat → Nat} {d : Nat} {r : List Nat} (wf : WF b) (hd : d < b 39) (h : fwst b d = some r) : ∀ s ∈ r, s < b 23 := by
  have wD := wf.2.2.2.2 d hd
  obtain ⟨j, -, -, j3⟩ := frs_some _ _ h
  exact srch_all j b r wf wD.2.2.1 j3
theorem sStep_n {b : Nat → Nat} {d : Nat} (wf : WF b) (hd : d < b 39) : WF (sStep b d) ∧ ∀ j, (j < 13 ∨ (23 ≤ j ∧ j < 33) ∨ 38 ≤ j) → sStep b d j = b j := by
  have wD := wf.2.2.2.2 d hd
  unfold sStep
  cases hf : fwst b d with
  | none => exact ⟨wf, fun _ _ => rfl⟩
  | some r => exact pays_n r b wf wD.2.2.1 (fw_all wf hd hf)
theorem sEnd_n : ∀ (o : List Nat) (b : Nat → Nat), WF b → (∀ d ∈ o, d < b 39) → WF (sEnd b o) ∧ ∀ j, (j < 13 ∨ (23 ≤ j ∧ j < 33) ∨ 38 ≤ j) → sEnd b o j = b j
  | [], b, wf, _ => ⟨wf, fun _ _ => rfl⟩
  | d :: o, b, wf, h => by
    obtain ⟨q1, q2⟩ := sStep_n wf (h d List.mem_cons_self)
    obtain ⟨r1, r2⟩ := sEnd_n o (sStep b d) q1 (fun t ht => by rw [q2 39 (by omega)]; exact h t (List.mem_cons_of_mem _ ht))
    exact ⟨r1, fun j hj => (r2 j hj).trans (q2 j hj)⟩
theorem sEnd_snoc (a : Nat → Nat) (o : List Nat) (d : Nat) : sEnd a (o ++ [d]) = sStep (sEnd a o) d := by
  unfold sEnd
  rw [List.foldl_append]
  rfl
/-- the class's best order -/
def BS (M : Nat) (μ : fm_M) (b : Option (Nat × List Nat)) : Prop :=
  match b with
  | none => μ.1 147 0 = -n3 1
  | some q => μ.1 147 0 = n3 q.1 ∧ LR μ 148 q.2 ∧ q.1 ≤ 4 ∧ q.2.length = M
def arI (l q j : Nat) : Prop := (q = 132 ∧ (j = 0 ∨ j = 4)) ∨ (q = 147 ∧ j = 0) ∨ (161 + 10 * l ≤ q ∧ q < 204)
def arA (l q j : Nat) : Prop := q = 133 ∨ (135 ≤ q ∧ q < 140) ∨ (141 ≤ q ∧ q < 147) ∨ q = 148 ∨ (q = 149 ∧ l ≤ j) ∨ (161 + 10 * l ≤ q ∧ q < 204)
section VS58
variable {F : Nat} {μ ν : fm_M} {a b : Nat → Nat} {w : Nat}
theorem isW_s {k : Nat} (h : k ≤ 4) : fm_isW (151 + 10 * k) = true := by
  rcases (show k = 0 ∨ k = 1 ∨ k = 2 ∨ k = 3 ∨ k = 4 by omega) with rfl | rfl | rfl | rfl | rfl <;> rfl
theorem BS.ch {M : Nat} {pI pA : Nat → Nat → Prop} {b : Option (Nat × List Nat)} (h : BS M μ b) (hc : Ch pI pA μ ν) (h1 : ¬ pI 147 0) (h2 : ∀ j, ¬ pA 148 j) : BS M ν b := by
  cases b with
  | none => show ν.1 147 0 = _; rw [hc.1 _ _ h1]; exact h
  | some q =>
    obtain ⟨k1, k2, k3⟩ := h
    refine ⟨?_, fun j x hj => ?_, k3⟩
    · rw [hc.1 _ _ h1]; exact k1
    · rw [hc.2.1 _ _ (h2 _)]; exact k2 j x hj
theorem c_sj_l {M : Nat} (h0 : AW μ 151 a) (h1 : AW μ w b) (wf : WF a) (wfb : WF b) (e39 : b 39 = a 39) (hM : M = a 39) : ∀ (K i f : Nat), i + K = M → K < f → g_X2_judge F w f 4 (n3 (cntC a b i)) (n3 i) μ = (if n3 (cntC a b M) ≤ (μ.1 147 0) then some ((), μ) else (Option.bind (some (fm_sI μ 147 0 (n3 (cntC a b M)))) (fun m3 => (Option.bind (some (fm_sA m3 148 (va_cpy (m3.2.1 149) (m3.2.1 148) (0 : Int32).toNatClampNeg (0 : Int32).toNatClampNeg (4 : Int32).toNatClampNeg))) (fun m5 => some ((), m5))))))
  | 0, i, f + 1, hi, _ => by
    obtain rfl : i = M := by omega
    have b4 := wf.1
    have h11 := h1.1.2.2.2.2.2.1
    rw [e39] at h11
    rw [g_X2_judge, if_pos rfl, b_X2_judge_4, h11, if_pos (by rw [n3_le (by omega) (by omega)]; omega)]
  | K + 1, i, f + 1, hi, hf => by
    have b4 := wf.1
    have h11 := h1.1.2.2.2.2.2.1
    rw [e39] at h11
    have ih := c_sj_l h0 h1 wf wfb e39 hM K (i + 1) f (by omega) (by omega)
    have e0 : μ.2.1 160 i = n3 (a (33 + i)) := (h0.2.2.2.2 i (by omega)).2.2
    have e1 : μ.2.1 (w + 9) i = n3 (b (33 + i)) := (h1.2.2.2.2 i (by omega)).2.2
    have w0 := (wf.2.2.2.2 i (by omega)).1
    have w1 := (wfb.2.2.2.2 i (by omega)).1
    rw [g_X2_judge, if_pos rfl, b_X2_judge_4, h11, if_neg (by rw [n3_le (by omega) (by omega)]; omega), if_pos (by decide), if_pos (n3_in (by omega) (by omega)), n3_cl (by omega), e0, if_pos (n3_in (by omega) (by omega)), e1, n3_one, n3_add, n3_add, ← ih, cntC]
    by_cases c0 : a (33 + i) = 0
    · rw [if_pos (show n3 (a (33 + i)) = 0 by rw [c0]; rfl), if_neg (fun q => q.1 c0)]
      rfl
    · rw [if_neg (show ¬ n3 (a (33 + i)) = 0 by rw [n3_k0, n3_eq (by omega) (by omega)]; exact c0)]
      by_cases c1 : b (33 + i) = 0
      · rw [if_neg (show ¬ ¬ n3 (b (33 + i)) = 0 from fun n => n (by rw [c1]; rfl)), if_pos ⟨c0, c1⟩]
      · rw [if_pos (show ¬ n3 (b (33 + i)) = 0 by rw [n3_k0, n3_eq (by omega) (by omega)]; exact c1), if_neg (fun q => c1 q.2)]
        rfl
theorem c_sj {tr : List Nat} {q : Option (Nat × List Nat)} (h0 : AW μ 151 a) (h1 : AW μ w (sEnd a tr)) (wf : WF a) (hall : ∀ d ∈ tr, d < a 39) (hl : tr.length = a 39) (hT : LR μ 149 tr) (hB : BS (a 39) μ q) (hF : 100 < F) : ∃ ν, f_X2_judge F w μ = some ((), ν) ∧ BS (a 39) ν (js a q tr) ∧ Ch (fun q j => q = 147 ∧ j = 0) (fun q _ => q = 148) μ ν := by
  have b4 := wf.1
  obtain ⟨wb, bn⟩ := sEnd_n tr a wf hall
  have st := c_sj_l (F := F) h0 h1 wf wb (bn 39 (by omega)) rfl (a 39) 0 F (by omega) (by omega)
  have st : f_X2_judge F w μ = _ := st
  have cl := cntC_le a (sEnd a tr) (a 39)
  have taken : BS (a 39) (fm_sA (fm_sI μ 147 0 (n3 (cntC a (sEnd a tr) (a 39)))) 148 (va_cpy (μ.2.1 149) (μ.2.1 148) 0 0 4)) (some (cntC a (sEnd a tr) (a 39), tr)) ∧ Ch (fun q j => q = 147 ∧ j = 0) (fun q _ => q = 148) μ (fm_sA (fm_sI μ 147 0 (n3 (cntC a (sEnd a tr) (a 39)))) 148 (va_cpy (μ.2.1 149) (μ.2.1 148) 0 0 4)) := by
    refine ⟨⟨?_, fun j x hj => ?_, by show cntC _ _ _ ≤ 4; omega, hl⟩, ((Ch.refl _ _ μ).sI (by omega)).sG (fun _ => rfl)⟩
    · rw [fm_sA_1]; exact fm_sI_eq ⟨rfl, rfl⟩
    · have hj : tr[j]? = some x := hj
      obtain ⟨hlt, -⟩ := List.getElem?_eq_some_iff.mp hj
      rw [fm_sA_eq rfl, cpy_0 (by omega)]
      exact hT j x hj
  rw [st]
  cases q with
  | none =>
    refine ⟨_, ?_, taken⟩
    have hB : μ.1 147 0 = -n3 1 := hB
    rw [hB, if_neg (by rw [nn_ge (by omega) (by omega) (by omega)]; exact id)]
    rfl
  | some p =>
    obtain ⟨k1, k2, k3, k4⟩ := id hB
    rw [k1]
    by_cases c : p.1 < cntC a (sEnd a tr) (a 39)
    · refine ⟨_, ?_, by rw [js, if_pos c]; exact taken⟩
      rw [if_neg (by rw [n3_le (by omega) (by omega)]; omega)]
      rfl
    · refine ⟨μ, ?_, by rw [js, if_neg c]; exact hB, Ch.refl _ _ μ⟩
      rw [if_pos (by rw [n3_le (by omega) (by omega)]; omega)]
theorem c_p98 {rec : Int32 → Int32 → fm_M → Option (Unit × fm_M)} {x2 x3 : Int32} {d : Nat} {r : List Nat} (hiw : fm_isW w = true) (hwr : 147 ≤ w) (wf : WF b) (hd : d < b 39) (hrl : r.length ≤ 5) (hall : ∀ s ∈ r, s < b 23) (hF : 100 < F) : ∀ (suf pre : List Nat) (f : Nat) (μ : fm_M), r = pre ++ suf → AW μ w (pays (b (44 + d)) b pre) → LR μ 133 r → μ.1 132 0 = n3 r.length → ∃ ν, g_X2_arrange F rec (f + 1 + suf.length) 98 x2 x3 (n3 d) w (n3 pre.length) μ = g_X2_arrange F rec (f + 1) 98 x2 x3 (n3 d) w (n3 r.length) ν ∧ AW ν w (pays (b (44 + d)) b r) ∧ ν.1 132 0 = n3 r.length ∧ Fr w (w + 10) μ ν
  | [], pre, f, μ, hr, hw, h2, h3 => by
    rw [List.append_nil] at hr
    subst hr
    exact ⟨μ, rfl, hw, h3, Fr.refl _ _ μ⟩
  | s :: suf, pre, f, μ, hr, hw, h2, h3 => by
    have b4 := wf.1
    have wD := wf.2.2.2.2 d hd
    have hl : r.length = pre.length + (suf.length + 1) := by rw [hr, List.length_append, List.length_cons]
    have hs : s < b 23 := hall s (by rw [hr]; exact List.mem_append_right _ List.mem_cons_self)
    obtain ⟨wp, pn⟩ := pays_n pre b wf wD.2.2.1 (fun t ht => hall t (by rw [hr]; exact List.mem_append_left _ ht))
    have e23 := pn 23 (by omega)
    have e38 := pn 38 (by omega)
    have e39 := pn 39 (by omega)
    have e44 := pn (44 + d) (by omega)
    have hrow : μ.2.1 133 pre.length = n3 s := h2 pre.length s (by rw [hr, List.getElem?_append_right (Nat.le_refl _), Nat.sub_self]; rfl)
    have hcr : μ.2.1 (w + 8) d = n3 (b (44 + d)) := by rw [(hw.2.2.2.2 d (by omega)).2.1, e44]
    obtain ⟨μ1, q1, q2, q3⟩ := c_hand (F := F) hiw hw wp (s := s) (p := b (44 + d)) (by omega) (by omega) (by omega)
    have e1 : hand (pays (b (44 + d)) b pre) s (b (44 + d)) = pays (b (44 + d)) b (pre ++ [s]) := by unfold pays; rw [List.foldl_append]; rfl
    rw [e1] at q2
    obtain ⟨ν, r1, r2, r3, r4⟩ := c_p98 (rec := rec) (x2 := x2) (x3 := x3) hiw hwr wf hd hrl hall hF suf (pre ++ [s]) f μ1 (by rw [hr, List.append_assoc]; rfl) q2 (fun j x hj => by rw [(q3.1 133 (by omega)).2]; exact h2 j x hj) (by rw [(q3.1 132 (by omega)).1]; exact h3)
    refine ⟨ν, ?_, r2, r3, q3.trans r4⟩
    rw [List.length_append, List.length_singleton] at r1
    rw [← r1, List.length_cons, show f + 1 + (suf.length + 1) = f + 1 + suf.length + 1 by omega, g_X2_arrange, if_neg (by decide), if_pos rfl, b_X2_arrange_98, h3, if_neg (by rw [n3_le (by omega) (by omega)]; omega), if_pos (n3_in (by omega) (by omega)), if_pos hiw, if_pos (n3_in (by omega) (by omega)), n3_cl (by omega), n3_cl (by omega), hrow, hcr, q1, Option.bind_some, n3_one, n3_add]
def AI (a : Nat → Nat) (tr : List Nat) (μ : fm_M) (q : Option (Nat × List Nat)) : Prop := AW μ 151 a ∧ AW μ (151 + 10 * tr.length) (sEnd a tr) ∧ LR μ 149 tr ∧ BS (a 39) μ q
theorem c_ar_l {rec : Int32 → Int32 → fm_M → Option (Unit × fm_M)} {f : Nat → List (List Nat)} {used : Nat} {tr : List Nat} (wf : WF a) (hall : ∀ d ∈ tr, d < a 39) (htr : tr.length < a 39) (hu : used < 32) (hF : 1000 < F)
    (f0 : ∀ d, d < a 39 → used / 2 ^ d % 2 = 1 → f d = [])
    (hrec : ∀ d μ q, d < a 39 → used / 2 ^ d % 2 = 0 → AI a (tr ++ [d]) μ q → ∃ ν, rec (n3 (tr.length + 1)) (n3 (used ||| 2 ^ d)) μ = some ((), ν) ∧ BS (a 39) ν ((f d).foldl (js a) q) ∧ Ch (arI (tr.length + 1)) (arA (tr.length + 1)) μ ν) : ∀ (K i n : Nat) (μ : fm_M) (q : Option (Nat × List Nat)), i + K = a 39 → K * 10 < n → AI a tr μ q → ∃ ν, g_X2_arrange F rec n 32 (n3 tr.length) (n3 used) (n3 i) 0 0 μ = some ((), ν) ∧ BS (a 39) ν ((plp f K i).foldl (js a) q) ∧ Ch (arI tr.length) (arA tr.length) μ ν
  | 0, i, n + 1, μ, q, hi, _, hI => by
    have b4 := wf.1
    have h11 := hI.1.1.2.2.2.2.2.1
    refine ⟨μ, ?_, hI.2.2.2, Ch.refl _ _ μ⟩
    rw [g_X2_arrange, if_pos rfl, b_X2_arrange_32, if_pos (by decide), h11, if_pos (by rw [n3_le (by omega) (by omega)]; omega)]
  | K + 1, i, n + 1, μ, q, hi, hn, hI => by
    have b4 := wf.1
    have h11 := hI.1.1.2.2.2.2.2.1
    have bits := v_m5' hu (show i < 5 by omega)
    have two := Nat.mod_lt (used / 2 ^ i) (show 0 < 2 by omega)
    have ih := c_ar_l (f := f) wf hall htr hu hF f0 hrec K (i + 1)
    rw [plp, List.foldl_append]
    by_cases c : used / 2 ^ i % 2 = 1
    · obtain ⟨ν, r1, r2, r3⟩ := ih n μ q (by omega) (by omega) hI
      refine ⟨ν, ?_, by rw [f0 i (by omega) c]; exact r2, r3⟩
      rw [g_X2_arrange, if_pos rfl, b_X2_arrange_32, if_pos (by decide), h11, if_neg (by rw [n3_le (by omega) (by omega)]; omega), bits.1, if_pos (show ¬ n3 (used / 2 ^ i % 2) = 0 by rw [c]; decide), n3_one, n3_add]
      exact r1
    · have c0 : used / 2 ^ i % 2 = 0 := by omega
      obtain ⟨wb, bn⟩ := sEnd_n tr a wf hall
      have e39 := bn 39 (by omega)
      generalize hm1 : fm_sA μ 149 (upd (μ.2.1 149) tr.length (n3 i)) = m1
      have c1 : Ch (arI tr.length) (arA tr.length) μ m1 := by rw [← hm1]; exact (Ch.refl _ _ μ).sU (by unfold arA; omega)
      have hI1 : AW m1 151 a := hI.1.ch c1 (fun j c => by unfold arI at c; omega) (fun q j h1 h2 c => by unfold arA at c; omega)
      have hI2 : AW m1 (151 + 10 * tr.length) (sEnd a tr) := hI.2.1.ch c1 (fun j c => by unfold arI at c; omega) (fun q j h1 h2 c => by unfold arA at c; omega)
      obtain ⟨m2, p1, p2, p3⟩ := c_copy (F := F) (μ := m1) (w := 151 + 10 * (tr.length + 1)) (w2 := 151 + 10 * tr.length) (by omega)
      have hW2 := p2 _ hI2 wb
      obtain ⟨m3, s1, s2, s3⟩ := c_few (F := F) (d := i) hW2 wb (by omega) (by omega) hF
      have c2 : Ch (arI tr.length) (arA tr.length) m1 m2 := p3.ch.weak (fun q j c => by unfold arI; omega) (fun q j c => by unfold arA; omega)
      have c3 : Ch (arI tr.length) (arA tr.length) m2 m3 := s3.weak (fun q j c => by unfold arI; omega) (fun q j c => by unfold arA; omega)
      have hW3 : AW m3 (151 + 10 * (tr.length + 1)) (sEnd a tr) := hW2.ch s3 (by omega) (by omega)
      have T1 : LR m1 149 (tr ++ [i]) := by
        refine LR.snoc (fun j x hj => ?_) (by rw [← hm1, fm_sA_eq rfl, upd_eq rfl])
        obtain ⟨hlt, -⟩ := List.getElem?_eq_some_iff.mp hj
        rw [← hm1, fm_sA_eq rfl, upd_ne (by omega)]
        exact hI.2.2.1 j x hj
      have B1 : BS (a 39) m1 q := hI.2.2.2.ch ((Ch.refl (fun _ _ => False) (fun q _ => q = 149) μ).sG (q := 149) (g := upd (μ.2.1 149) tr.length (n3 i)) (fun _ => rfl)) id (by omega) |> (fun h => by rw [hm1] at h; exact h)
      -- behind the payments: a memory in which the next world holds the next state
      have fin : ∀ m4 n', K * 10 < n' → Ch (arI tr.length) (arA tr.length) μ m4 → AW m4 (151 + 10 * (tr.length + 1)) (sEnd a (tr ++ [i])) → AW m4 151 a → AW m4 (151 + 10 * tr.length) (sEnd a tr) → LR m4 149 (tr ++ [i]) → BS (a 39) m4 q → ∃ ν, (Option.bind (rec (n3 (tr.length + 1)) (n3 (used ||| 2 ^ i)) m4) (fun q17 => g_X2_arrange F rec n' 32 (n3 tr.length) (n3 used) (n3 (i + 1)) 0 0 q17.2)) = some ((), ν) ∧ BS (a 39) ν ((plp f K (i + 1)).foldl (js a) ((f i).foldl (js a) q)) ∧ Ch (arI tr.length) (arA tr.length) μ ν := by
        intro m4 n' hn2 cc hA hB hC hT hS
        obtain ⟨m5, t1, t2, t3⟩ := hrec i m4 q (by omega) c0 ⟨hB, by rw [List.length_append, List.length_singleton]; exact hA, hT, hS⟩
        have t3w : Ch (arI tr.length) (arA tr.length) m4 m5 := t3.weak (fun q j c => by unfold arI at *; omega) (fun q j c => by unfold arA at *; omega)
        obtain ⟨ν, r1, r2, r3⟩ := ih n' m5 _ (by omega) (by omega) ⟨hB.ch t3 (fun j c => by unfold arI at c; omega) (fun q j h1 h2 c => by unfold arA at c; omega), hC.ch t3 (fun j c => by unfold arI at c; omega) (fun q j h1 h2 c => by unfold arA at c; omega), (fun j x hj => by
          obtain ⟨hlt, -⟩ := List.getElem?_eq_some_iff.mp hj
          rw [t3.2.1 149 j (fun c => by unfold arA at c; omega)]
          exact hT j x (by rw [List.getElem?_append_left hlt]; exact hj)), t2⟩
        refine ⟨ν, ?_, r2, (cc.trans t3w).trans r3⟩
        rw [t1, Option.bind_some]
        exact r1
      have start : g_X2_arrange F rec (n + 1) 32 (n3 tr.length) (n3 used) (n3 i) 0 0 μ = (if oB (fwst (sEnd a tr) i) = 0 then (Option.bind (rec (n3 (tr.length + 1)) (n3 (used ||| 2 ^ i)) m3) (fun q17 => g_X2_arrange F rec n 32 (n3 tr.length) (n3 used) (n3 (i + 1)) 0 0 q17.2)) else g_X2_arrange F rec n 98 (n3 tr.length) (n3 used) (n3 i) (151 + 10 * (tr.length + 1)) 0 m3) := by
        rw [g_X2_arrange, if_pos rfl, b_X2_arrange_32, if_pos (by decide), h11, if_neg (by rw [n3_le (by omega) (by omega)]; omega), bits.1, bits.2.1, if_neg (show ¬ ¬ n3 (used / 2 ^ i % 2) = 0 from fun n => n (by rw [c0]; rfl)), if_pos (n3_in (by omega) (by omega)), Option.bind_some, n3_one, n3_add, n3_add, n3_cl (by omega), n3_cl (by omega), hm1, if_pos (n3_in (by omega) (by omega)), if_pos (n3_in (by omega) (by omega)), if_pos (isW_s (by omega)), if_pos (isW_s (by omega)), p1, Option.bind_some, if_pos (isW_s (by omega))]
        dsimp only
        rw [s1, Option.bind_some]
      rw [start]
      have cc3 := (c1.trans c2).trans c3
      have I3 : AW m3 151 a := hI.1.ch cc3 (fun j c => by unfold arI at c; omega) (fun q j h1 h2 c => by unfold arA at c; omega)
      have J3 : AW m3 (151 + 10 * tr.length) (sEnd a tr) := hI.2.1.ch cc3 (fun j c => by unfold arI at c; omega) (fun q j h1 h2 c => by unfold arA at c; omega)
      have T3 : LR m3 149 (tr ++ [i]) := fun j x hj => by rw [s3.2.1 149 j (by omega), (p3.1 149 (by omega)).2]; exact T1 j x hj
      have B3 : BS (a 39) m3 q := (B1.ch p3.ch (by omega) (by omega)).ch s3 (by omega) (by omega)
      cases hf : fwst (sEnd a tr) i with
      | none =>
        have e : sEnd a (tr ++ [i]) = sEnd a tr := by rw [sEnd_snoc, sStep, hf]
        obtain ⟨ν, r1, r2, r3⟩ := fin m3 n (by omega) cc3 (by rw [e]; exact hW3) I3 J3 T3 B3
        exact ⟨ν, (if_pos rfl).trans r1, r2, r3⟩
      | some r =>
        obtain ⟨k1, k2⟩ := s2 r hf
        have rl := fw_len wb hf
        have ra := fw_all wb (show i < sEnd a tr 39 by omega) hf
        obtain ⟨n', hn'⟩ : ∃ n', n = n' + 1 + r.length := ⟨n - 1 - r.length, by omega⟩
        obtain ⟨m4, u1, u2, u3, u4⟩ := c_p98 (F := F) (rec := rec) (x2 := n3 tr.length) (x3 := n3 used) (w := 151 + 10 * (tr.length + 1)) (isW_s (by omega)) (by omega) wb (show i < sEnd a tr 39 by omega) rl ra (by omega) r [] n' m3 rfl hW3 k2 k1
        have e : sEnd a (tr ++ [i]) = pays (sEnd a tr (44 + i)) (sEnd a tr) r := by rw [sEnd_snoc, sStep, hf]
        have c4 : Ch (arI tr.length) (arA tr.length) m3 m4 := u4.ch.weak (fun q j c => by unfold arI; omega) (fun q j c => by unfold arA; omega)
        obtain ⟨ν, r1, r2, r3⟩ := fin m4 n' (by omega) (cc3.trans c4) (by rw [e]; exact u2) (I3.fr u4 (by omega)) (J3.fr u4 (by omega)) (fun j x hj => by rw [(u4.1 149 (by omega)).2]; exact T3 j x hj) (B3.ch u4.ch (by omega) (by omega))
        refine ⟨ν, ?_, r2, r3⟩
        rw [if_neg (show ¬ oB (some r) = 0 by show ¬ n3 1 = 0; decide), ← r1, hn']
        refine (show _ = _ from u1).trans ?_
        rw [g_X2_arrange, if_neg (by decide), if_pos rfl, b_X2_arrange_98, u3, if_pos (by rw [n3_le (by omega) (by omega)]; omega), bits.2.1, n3_one, n3_add, n3_add]
theorem c_arr (wf : WF a) (hF : 1000 < F) : ∀ (e : Nat) (tr : List Nat) (used : Nat) (μ : fm_M) (q : Option (Nat × List Nat)), a 39 < e + tr.length → tr.length ≤ a 39 → (∀ d ∈ tr, d < a 39) → used < 32 → AI a tr μ q → ∃ ν, f_X2_arrange F e (n3 tr.length) (n3 used) μ = some ((), ν) ∧ BS (a 39) ν ((prs (a 39) e tr used).foldl (js a) q) ∧ Ch (arI tr.length) (arA tr.length) μ ν
  | 0, tr, used, μ, q, he, hl, _, _, _ => by omega
  | e + 1, tr, used, μ, q, he, hl, hall, hu, hI => by
    have b4 := wf.1
    have h11 := hI.1.1.2.2.2.2.2.1
    rw [f_X2_arrange, f0_X2_arrange, if_pos (by decide), h11, prs]
    by_cases c : a 39 ≤ tr.length
    · obtain ⟨ν, q1, q2, q3⟩ := c_sj (F := F) hI.1 hI.2.1 wf hall (by omega) hI.2.2.1 hI.2.2.2 (by omega)
      refine ⟨ν, ?_, by rw [if_pos c]; exact q2, q3.weak (fun q j c => by unfold arI; omega) (fun q j c => by unfold arA; omega)⟩
      rw [if_pos (by rw [n3_le (by omega) (by omega)]; exact c), if_pos (n3_in (by omega) (by omega)), n3_cl (by omega), if_pos (isW_s (by omega)), q1, Option.bind_some]
    · rw [if_neg (by rw [n3_le (by omega) (by omega)]; exact c), if_pos (by rw [n3_k4, n3_lt (by omega) (by omega)]; omega), if_neg c]
      refine c_ar_l (F := F) (rec := f_X2_arrange F e) wf hall (by omega) hu hF (fun d hd c => by rw [if_pos c]) (fun d μ q hd c hI2 => ?_) (a 39) 0 F μ q (by omega) (by omega) hI
      have bits := v_m5' hu (show d < 5 by omega)
      obtain ⟨ν, q1, q2, q3⟩ := c_arr wf hF e (tr ++ [d]) (used ||| 2 ^ d) μ q (by rw [List.length_append, List.length_singleton]; omega) (by rw [List.length_append, List.length_singleton]; omega) (fun t ht => by
        rcases List.mem_append.mp ht with h | h
        · exact hall t h
        · rw [List.mem_singleton.mp h]; exact hd) bits.2.2 hI2
      rw [List.length_append, List.length_singleton] at q1 q3
      exact ⟨ν, q1, by rw [if_neg (by omega)]; exact q2, q3⟩
theorem c_sfind (hw : AW μ 101 a) (wf : WF a) (hF : 1000 < F) : ∃ ν, f_X2_find F μ = some ((), ν) ∧ BS (a 39) ν ((prs (a 39) 8 [] 0).foldl (js a) none) ∧ Ch (fun q _ => 129 ≤ q ∧ q < 204) (fun q _ => 129 ≤ q ∧ q < 204) μ ν := by
  have b4 := wf.1
  obtain ⟨m1, p1, p2, p3⟩ := c_copy (F := F) (μ := μ) (w := 151) (w2 := 101) (by omega)
  have h1 := p2 a hw wf
  have c2 : Ch (fun q j => q = 147 ∧ j = 0) (fun _ _ => False) m1 (fm_sI m1 147 0 (-n3 1)) := (Ch.refl _ _ m1).sI (by omega)
  have h2 : AW (fm_sI m1 147 0 (-n3 1)) 151 a := h1.ch c2 (by omega) (fun _ _ _ _ => id)
  obtain ⟨ν, q1, q2, q3⟩ := c_arr (F := F) wf hF 8 [] 0 (fm_sI m1 147 0 (-n3 1)) none (by simp only [List.length_nil]; omega) (by simp only [List.length_nil]; omega) (fun d hd => by cases hd) (by omega) ⟨h2, h2, (fun j x hj => by cases hj), by show (fm_sI m1 147 0 (-n3 1)).1 147 0 = -n3 1; exact fm_sI_eq ⟨rfl, rfl⟩⟩
  refine ⟨ν, ?_, q2, ((p3.ch.weak (fun q j c => by omega) (fun q j c => by omega)).trans (c2.weak (fun q j c => by omega) (fun _ _ c => False.elim c))).trans (q3.weak (fun q j c => by unfold arI at c; omega) (fun q j c => by unfold arA at c; omega))⟩
  have q1 : f_X2_arrange F 8 (n3 0) (n3 0) (fm_sI m1 147 0 (-n3 1)) = some ((), ν) := q1
  unfold f_X2_find
  rw [if_pos (by decide), p1, Option.bind_some, Option.bind_some]
  dsimp only
  rw [n3_one, n3_k0, q1, Option.bind_some]
end VS58
