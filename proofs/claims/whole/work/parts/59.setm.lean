/-! the order in which most debts are paid: the reference, both -/
def d4 : Nat → Nat → List Nat
  | 0, _ => []
  | m + 1, c => (c / 4 ^ m % 4) :: d4 m c
def vo (M : Nat) : List Nat → Bool
  | [] => true
  | s :: r => vo M r && (decide (s < M) && decide (tld r / 2 ^ s % 2 = 0))
def loR (M c : Nat) : Option (List Nat) := if vo M (d4 M c) = true then some (d4 M c) else none
theorem v_ord : ((List.range 5).all fun M => decide (plp (fun c => (loR M c).toList) (4 ^ M) 0 = prs M 8 [] 0 ∧ prs M 8 [] 0 ≠ [])) = true := by decide +kernel
theorem v_ord' {M : Nat} (h : M ≤ 4) : plp (fun c => (loR M c).toList) (4 ^ M) 0 = prs M 8 [] 0 ∧ prs M 8 [] 0 ≠ [] :=
  of_decide_eq_true (List.all_eq_true.mp v_ord M (List.mem_range.mpr (by omega)))
theorem d4_len : ∀ m c, (d4 m c).length = m
  | 0, _ => rfl
  | m + 1, c => by rw [d4, List.length_cons, d4_len m c]
theorem d4_lt : ∀ m c s, s ∈ d4 m c → s < 5
  | 0, _, s, h => by cases h
  | m + 1, c, s, h => by
    rcases List.mem_cons.mp h with e | e
    · rw [e]; have := Nat.mod_lt (c / 4 ^ m) (show 0 < 4 by omega); omega
    · exact d4_lt m c s e
theorem vo_all (M : Nat) : ∀ r, vo M r = true → ∀ s ∈ r, s < M
  | [], _, s, h => by cases h
  | t :: r, hv, s, h => by
    rw [vo, Bool.and_eq_true, Bool.and_eq_true, decide_eq_true_eq] at hv
    rcases List.mem_cons.mp h with e | e
    · rw [e]; exact hv.2.1
    · exact vo_all M r hv.1 s e
section VS59
variable {F : Nat} {μ ν : fm_M} {a b : Nat → Nat} {w : Nat}
theorem v_nm4 : ((List.range 5).all fun n => (List.range 5).all fun m => decide (n < m + 1 ∨ (n3 n - n3 (m + 1) + -1 = n3 n - n3 (m + 1 + 1)))) = true := by decide +kernel
theorem m_ord_l {M c : Nat} (hM : μ.1 232 3 = n3 M) (hM4 : M ≤ 4) (hc : c < 256) : ∀ (K m f : Nat) (ν : fm_M), m + K = M → K < f → Ch (fun _ _ => False) (fun q _ => q = 244) μ ν → (∀ j x, (d4 m c)[j]? = some x → ν.2.1 244 (M - m + j) = n3 x) → ∃ ρ, g_X9_laysOrder F f 15 (n3 (c / 4 ^ m)) (n3 (tld (d4 m c))) (n3 (bi (vo M (d4 m c)))) (n3 M - n3 (m + 1)) ν = some (n3 (bi (vo M (d4 M c))), ρ) ∧ LR ρ 244 (d4 M c) ∧ Ch (fun _ _ => False) (fun q _ => q = 244) μ ρ
  | 0, m, f + 1, ν, hm, _, hch, hr => by
    obtain rfl : m = M := by omega
    have q := of_decide_eq_true (List.all_eq_true.mp v_nn m (List.mem_range.mpr (by omega)))
    refine ⟨ν, ?_, fun j x hj => ?_, hch⟩
    · rw [g_X9_laysOrder, if_pos rfl, b_X9_laysOrder_15, if_pos q.1, if_pos (by cases vo m (d4 m c); exact .inl rfl; exact .inr rfl)]
    · have := hr j x hj
      rwa [Nat.sub_self, Nat.zero_add] at this
  | K + 1, m, f + 1, ν, hm, hf, hch, hr => by
    have qn := (of_decide_eq_true (List.all_eq_true.mp (List.all_eq_true.mp v_nm4 M (List.mem_range.mpr (by omega))) m (List.mem_range.mpr (by omega)))).resolve_left (by omega)
    have cl : c / 4 ^ m < 256 := Nat.lt_of_le_of_lt (Nat.div_le_self _ _) hc
    have hs4 : c / 4 ^ m % 4 < 4 := Nat.mod_lt _ (by omega)
    obtain ⟨t32, -⟩ := tld_bit (d4 m c) (d4_lt m c)
    have bits := v_m5' t32 (show c / 4 ^ m % 4 < 5 by omega)
    have e1 : n3 (c / 4 ^ m) - n3 (c / 4 ^ m) / 4 * 4 = n3 (c / 4 ^ m % 4) := by rw [n3_k4, n3_rem (by omega) (by omega)]
    have e2 : n3 (c / 4 ^ m) / 4 = n3 (c / 4 ^ (m + 1)) := by rw [n3_k4, n3_div (by omega) (by omega), Nat.pow_succ, Nat.div_div_eq_div_mul]
    have e3 : n3 M - n3 (m + 1) = n3 (M - (m + 1)) := n3_sub (by omega)
    generalize hρ : fm_sA ν 244 (upd (ν.2.1 244) (M - (m + 1)) (n3 (c / 4 ^ m % 4))) = ρ
    have hch2 : Ch (fun _ _ => False) (fun q _ => q = 244) μ ρ := by rw [← hρ]; exact hch.sG (fun _ => rfl)
    have hρ1 : ρ.2.1 244 (M - (m + 1)) = n3 (c / 4 ^ m % 4) := by rw [← hρ, fm_sA_eq rfl, upd_eq rfl]
    have hρ2 : ρ.1 232 3 = n3 M := by rw [hch2.1 232 3 id]; exact hM
    have hr2 : ∀ j x, (d4 (m + 1) c)[j]? = some x → ρ.2.1 244 (M - (m + 1) + j) = n3 x := by
      intro j x hj
      rw [← hρ, fm_sA_eq rfl]
      match j, hj with
      | 0, hj => cases hj; rw [upd_eq (by omega)]
      | j + 1, hj =>
        have := hr j x hj
        rw [upd_ne (by omega), show M - (m + 1) + (j + 1) = M - m + j by omega]; exact this
    obtain ⟨σ, r1, r2, r3⟩ := m_ord_l hM hM4 hc K (m + 1) f ρ (by omega) (by omega) hch2 hr2
    refine ⟨σ, ?_, r2, r3⟩
    have in4 : ab_in (n3 M - n3 (m + 1)) 4 = true := by rw [e3]; exact n3_in (by omega) (by omega)
    have ecl : (n3 M - n3 (m + 1)).toNatClampNeg = M - (m + 1) := by rw [e3, n3_cl (by omega)]
    rw [← r1, g_X9_laysOrder, if_pos rfl, b_X9_laysOrder_15, if_neg (by rw [e3, n3_k0, n3_lt (by omega) (by omega)]; omega), e1, e2, qn, ecl]
    simp only [if_pos in4, Option.bind_some, hρ, hρ1, hρ2, bits.1, bits.2.1]
    have td : tld (d4 (m + 1) c) = tld (d4 m c) ||| 2 ^ (c / 4 ^ m % 4) := rfl
    rw [td]
    have two := Nat.mod_lt (tld (d4 m c) / 2 ^ (c / 4 ^ m % 4)) (show 0 < 2 by omega)
    have vd : vo M (d4 (m + 1) c) = (vo M (d4 m c) && (decide (c / 4 ^ m % 4 < M) && decide (tld (d4 m c) / 2 ^ (c / 4 ^ m % 4) % 2 = 0))) := rfl
    rw [vd]
    generalize c / 4 ^ m % 4 = s at *
    cases hv : vo M (d4 m c) with
    | false =>
      rw [if_pos (show n3 (bi false) = 0 by decide), Bool.false_and]
      rfl
    | true =>
      rw [if_neg (show ¬ n3 (bi true) = 0 by decide), Bool.true_and]
      by_cases c1 : M ≤ s
      · rw [if_pos (by rw [n3_le (by omega) (by omega)]; exact c1), decide_eq_false (show ¬ s < M by omega), Bool.false_and]
        rfl
      · rw [if_neg (by rw [n3_le (by omega) (by omega)]; exact c1), decide_eq_true (show s < M by omega), Bool.true_and]
        by_cases c3 : tld (d4 m c) / 2 ^ s % 2 = 0
        · rw [if_neg (show ¬ ¬ n3 (tld (d4 m c) / 2 ^ s % 2) = 0 from fun n => n (by rw [c3]; rfl)), decide_eq_true c3]
          rfl
        · rw [if_pos (show ¬ n3 (tld (d4 m c) / 2 ^ s % 2) = 0 by rw [n3_k0, n3_eq (by omega) (by omega)]; exact c3), decide_eq_false c3]
          rfl
theorem m_ord {M c : Nat} (hM : μ.1 232 3 = n3 M) (hM4 : M ≤ 4) (hc : c < 256) (hF : 100 < F) : ∃ ρ, f_X9_laysOrder F (n3 c) μ = some (n3 (bi (vo M (d4 M c))), ρ) ∧ LR ρ 244 (d4 M c) ∧ Ch (fun _ _ => False) (fun q _ => q = 244) μ ρ := by
  obtain ⟨ρ, r1, r2⟩ := m_ord_l (F := F) hM hM4 hc M 0 F μ (by omega) (by omega) (Ch.refl _ _ μ) (fun j x hj => by cases hj)
  refine ⟨ρ, ?_, r2⟩
  have q := of_decide_eq_true (List.all_eq_true.mp v_nn M (List.mem_range.mpr (by omega)))
  rw [Nat.pow_zero, Nat.div_one, ← q.2] at r1
  unfold f_X9_laysOrder
  rw [hM]
  exact r1
/-- what settling may change of the reference -/
def seC (q j : Nat) : Prop := (q = 233 ∧ 152 ≤ j) ∨ q = 242 ∨ q = 243
theorem m_p34 {l1 : Nat} {d : Nat} {r : List Nat} (wf : WF b) (hd : d < b 39) (hl1 : l1 < 4) (hrl : r.length ≤ 5) (hall : ∀ s ∈ r, s < b 23) (hF : 1000 < F) : ∀ (suf pre : List Nat) (f : Nat) (μ : fm_M), r = pre ++ suf → AP μ 190 (pays (b (44 + d)) b pre) → LR μ 243 r → μ.2.1 244 l1 = n3 d → ∃ ν, g_X9_settled F (f + suf.length + 1) 34 (n3 l1) (n3 r.length) (n3 pre.length) μ = g_X9_settled F f 10 (n3 (l1 + 1)) 0 0 ν ∧ AP ν 190 (pays (b (44 + d)) b r) ∧ FM 190 μ ν
  | [], pre, f, μ, hr, hp, h2, h3 => by
    rw [List.append_nil] at hr
    subst hr
    refine ⟨μ, ?_, hp, FM.refl _ μ⟩
    rw [List.length_nil, Nat.add_zero, g_X9_settled, if_neg (by decide), if_pos rfl, b_X9_settled_34, if_pos (by rw [n3_le (by omega) (by omega)]; omega), n3_one, n3_add]
  | s :: suf, pre, f, μ, hr, hp, h2, h3 => by
    have b4 := wf.1
    have wD := wf.2.2.2.2 d hd
    have hl : r.length = pre.length + (suf.length + 1) := by rw [hr, List.length_append, List.length_cons]
    have hs : s < b 23 := hall s (by rw [hr]; exact List.mem_append_right _ List.mem_cons_self)
    obtain ⟨wp, pn⟩ := pays_n pre b wf wD.2.2.1 (fun t ht => hall t (by rw [hr]; exact List.mem_append_left _ ht))
    have e23 := pn 23 (by omega)
    have e38 := pn 38 (by omega)
    have e39 := pn 39 (by omega)
    have e44 := pn (44 + d) (by omega)
    have hrow : μ.2.1 243 pre.length = n3 s := h2 pre.length s (by rw [hr, List.getElem?_append_right (Nat.le_refl _), Nat.sub_self]; rfl)
    have hcr : μ.2.1 234 (2 * d + 1) = n3 (b (44 + d)) := by rw [(hp.1.2.2.2 d (by omega)).2, e44]
    obtain ⟨μ1, q1, q2, q3⟩ := m_hand (F := F) hp wp (by omega) (s := s) (p := b (44 + d)) (by omega) (by omega) (by omega)
    have e1 : hand (pays (b (44 + d)) b pre) s (b (44 + d)) = pays (b (44 + d)) b (pre ++ [s]) := by unfold pays; rw [List.foldl_append]; rfl
    rw [e1] at q2
    obtain ⟨ν, r1, r2, r3⟩ := m_p34 (l1 := l1) wf hd hl1 hrl hall hF suf (pre ++ [s]) f μ1 (by rw [hr, List.append_assoc]; rfl) q2 (fun j x hj => by rw [q3.2.2.1 243 (by omega)]; exact h2 j x hj) (by rw [q3.2.2.1 244 (by omega)]; exact h3)
    refine ⟨ν, ?_, r2, q3.trans r3⟩
    rw [List.length_append, List.length_singleton] at r1
    rw [← r1, List.length_cons, ← Nat.add_assoc f suf.length 1, g_X9_settled, if_neg (by decide), if_pos rfl, b_X9_settled_34, if_neg (by rw [n3_le (by omega) (by omega)]; omega), if_pos (n3_in (by omega) (by omega)), if_pos (n3_in (by omega) (by omega)), n3_cl (by omega), n3_cl (by omega), h3, n3_k2, n3_mul, n3_one, n3_add, if_pos (n3_in (by omega) (by omega)), n3_cl (by omega), hrow, hcr, show (190 : Int32) = n3 190 from n3_lit 190, q1, Option.bind_some, n3_add]
theorem m_s10 {o : List Nat} (wf : WF a) (hl : o.length = a 39) (hall : ∀ d ∈ o, d < a 39) (hF : 200000 < F) : ∀ (suf pre : List Nat) (f : Nat) (μ : fm_M), o = pre ++ suf → suf.length * 10 < f → AP μ 0 a → AP μ 190 (sEnd a pre) → LR μ 244 o → ∃ ν f', g_X9_settled F f 10 (n3 pre.length) 0 0 μ = g_X9_settled F f' 84 0 0 0 ν ∧ f ≤ f' + suf.length * 10 + 1 ∧ AP ν 0 a ∧ AP ν 190 (sEnd a o) ∧ Ch (fun _ _ => False) seC μ ν
  | [], pre, f + 1, μ, ho, _, h0, hp, h2 => by
    rw [List.append_nil] at ho
    subst ho
    have b4 := wf.1
    have h3 := h0.1.2.1
    refine ⟨μ, f, ?_, by omega, h0, hp, Ch.refl _ _ μ⟩
    rw [g_X9_settled, if_pos rfl, b_X9_settled_10, h3, if_pos (by rw [n3_le (by omega) (by omega)]; omega)]
  | d :: suf, pre, f + 1, μ, ho, hf, h0, hp, h2 => by
    have b4 := wf.1
    have h3 := h0.1.2.1
    rw [List.length_cons] at hf
    have hl2 : o.length = pre.length + (suf.length + 1) := by rw [ho, List.length_append, List.length_cons]
    have hd : d < a 39 := hall d (by rw [ho]; exact List.mem_append_right _ List.mem_cons_self)
    obtain ⟨wb, bn⟩ := sEnd_n pre a wf (fun t ht => hall t (by rw [ho]; exact List.mem_append_left _ ht))
    have e39 := bn 39 (by omega)
    have hrow : μ.2.1 244 pre.length = n3 d := h2 pre.length d (by rw [ho, List.getElem?_append_right (Nat.le_refl _), Nat.sub_self]; rfl)
    obtain ⟨μ1, q1, q2, q3⟩ := m_few (F := F) (P := 190) (d := d) hp wb (by omega) (by omega) (by omega) hF
    have c1 : Ch (fun _ _ => False) seC μ μ1 := q3.weak (fun _ _ c => c) (fun q j c => by unfold tryC at c; unfold seC; omega)
    have h01 : AP μ1 0 a := h0.ch wf q3 id id (fun j c => by unfold tryC at c; omega) (fun j c => by unfold tryC at c; omega) (fun j h1 h2 c => by unfold tryC at c; omega)
    have hp1 : AP μ1 190 (sEnd a pre) := hp.ch wb q3 id id (fun j c => by unfold tryC at c; omega) (fun j c => by unfold tryC at c; omega) (fun j h1 h2 c => by unfold tryC at c; omega)
    have start : g_X9_settled F (f + 1) 10 (n3 pre.length) 0 0 μ = g_X9_settled F f 34 (n3 pre.length) (oM (fwst (sEnd a pre) d)) 0 μ1 := by
      rw [g_X9_settled, if_pos rfl, b_X9_settled_10, h3, if_neg (by rw [n3_le (by omega) (by omega)]; omega), if_pos (n3_in (by omega) (by omega)), n3_cl (by omega), hrow, show (190 : Int32) = n3 190 from n3_lit 190, q1, Option.bind_some]
    have L1 : LR μ1 244 o := fun j x hj => by rw [q3.2.1 244 j (fun c => by unfold tryC at c; omega)]; exact h2 j x hj
    rw [start]
    cases hfw : fwst (sEnd a pre) d with
    | none =>
      have e : sEnd a (pre ++ [d]) = sEnd a pre := by rw [sEnd_snoc, sStep, hfw]
      obtain ⟨f, rfl⟩ : ∃ f', f = f' + 1 := ⟨f - 1, by omega⟩
      obtain ⟨ν, f', r1, r2, r3, r4, r5⟩ := m_s10 wf hl hall hF suf (pre ++ [d]) f μ1 (by rw [ho, List.append_assoc]; rfl) (by omega) h01 (by rw [e]; exact hp1) L1
      refine ⟨ν, f', ?_, by rw [List.length_cons]; omega, r3, r4, c1.trans r5⟩
      rw [List.length_append, List.length_singleton] at r1
      show g_X9_settled F (f + 1) 34 (n3 pre.length) (-n3 4) 0 μ1 = _
      rw [g_X9_settled, if_neg (by decide), if_pos rfl, b_X9_settled_34, if_pos (by decide), n3_one, n3_add]
      exact r1
    | some r =>
      have e : sEnd a (pre ++ [d]) = pays (sEnd a pre (44 + d)) (sEnd a pre) r := by rw [sEnd_snoc, sStep, hfw]
      have rl := fw_len wb hfw
      have ra := fw_all wb (show d < sEnd a pre 39 by omega) hfw
      obtain ⟨f, rfl⟩ : ∃ f', f = f' + r.length + 1 := ⟨f - 1 - r.length, by omega⟩
      obtain ⟨μ2, s1, s2, s3⟩ := m_p34 (F := F) (l1 := pre.length) wb (show d < sEnd a pre 39 by omega) (by omega) rl ra (by omega) r [] f μ1 rfl hp1 (q2 r hfw) (by rw [q3.2.1 244 _ (fun c => by unfold tryC at c; omega)]; exact hrow)
      have c2 : Ch (fun _ _ => False) seC μ1 μ2 := s3.ch.weak (fun _ _ c => c) (fun q j c => by unfold seC; omega)
      obtain ⟨ν, f', r1, r2, r3, r4, r5⟩ := m_s10 wf hl hall hF suf (pre ++ [d]) f μ2 (by rw [ho, List.append_assoc]; rfl) (by omega) (h01.fm wf s3 (by omega)) (by rw [e]; exact s2) (fun j x hj => by rw [s3.2.2.1 244 (by omega)]; exact L1 j x hj)
      refine ⟨ν, f', ?_, by rw [List.length_cons]; omega, r3, r4, (c1.trans c2).trans r5⟩
      rw [List.length_append, List.length_singleton] at r1
      exact s1.trans r1
theorem m_s84 (h0 : AP μ 0 a) (h1 : AP μ 190 b) (wf : WF a) (wfb : WF b) (e39 : b 39 = a 39) : ∀ (K i f : Nat), i + K = a 39 → K < f → g_X9_settled F f 84 (n3 (cntC a b i)) (n3 i) 0 μ = some (n3 (cntC a b (a 39)), μ)
  | 0, i, f + 1, hi, _ => by
    obtain rfl : i = a 39 := by omega
    have b4 := wf.1
    have h3 := h0.1.2.1
    rw [g_X9_settled, if_neg (by decide), if_neg (by decide), if_pos rfl, b_X9_settled_84, h3, if_pos (by rw [n3_le (by omega) (by omega)]; omega)]
  | K + 1, i, f + 1, hi, hf => by
    have b4 := wf.1
    have h3 := h0.1.2.1
    have ih := m_s84 h0 h1 wf wfb e39 K (i + 1) f (by omega) (by omega)
    have e0 := h0.z.2.2.2.2.2 i (by omega)
    have e1 : μ.2.1 233 (223 + i) = n3 (b (33 + i)) := h1.2.2.2.2.2 i (by omega)
    have w0 := (wf.2.2.2.2 i (by omega)).1
    have w1 := (wfb.2.2.2.2 i (by omega)).1
    rw [g_X9_settled, if_neg (by decide), if_neg (by decide), if_pos rfl, b_X9_settled_84, h3, if_neg (by rw [n3_le (by omega) (by omega)]; omega), show (33 : Int32) = n3 33 from n3_lit 33, n3_add, if_pos (n3_in (by omega) (by omega)), n3_cl (by omega), e0, show (223 : Int32) = n3 223 from n3_lit 223, n3_add, if_pos (n3_in (by omega) (by omega)), n3_cl (by omega), e1, n3_one, n3_add, n3_add, Int32.add_zero, ← ih, cntC]
    by_cases c0 : a (33 + i) = 0
    · rw [if_pos (show n3 (a (33 + i)) ≤ 0 by rw [c0]; decide), if_neg (fun q => q.1 c0)]
      rfl
    · rw [if_neg (show ¬ n3 (a (33 + i)) ≤ 0 by rw [n3_k0, n3_le (by omega) (by omega)]; omega)]
      by_cases c1 : b (33 + i) = 0
      · rw [if_neg (show ¬ ¬ n3 (b (33 + i)) = 0 from fun n => n (by rw [c1]; rfl)), if_pos ⟨c0, c1⟩]
      · rw [if_pos (show ¬ n3 (b (33 + i)) = 0 by rw [n3_k0, n3_eq (by omega) (by omega)]; exact c1), if_neg (fun q => c1 q.2)]
        rfl
theorem m_settled {o : List Nat} (h0 : AP μ 0 a) (wf : WF a) (hl : o.length = a 39) (hall : ∀ d ∈ o, d < a 39) (hL : LR μ 244 o) (hF : 200000 < F) : ∃ ν, f_X9_settled F μ = some (n3 (cntC a (sEnd a o) (a 39)), ν) ∧ AP ν 0 a ∧ Ch (fun _ _ => False) seC μ ν := by
  have b4 := wf.1
  obtain ⟨μ1, q1, q2, q3⟩ := m_copy (F := F) (μ := μ) (P := 190) (Q := 0) (by omega) (by omega) (by omega) (by omega)
  obtain ⟨ν, f', r1, r2, r3, r4, r5⟩ := m_s10 (F := F) wf hl hall hF o [] F μ1 rfl (by omega) (h0.fm wf q3 (by omega)) (q2 a h0 wf) (fun j x hj => by rw [q3.2.2.1 244 (by omega)]; exact hL j x hj)
  obtain ⟨wb, bn⟩ := sEnd_n o a wf hall
  have s1 := m_s84 (F := F) r3 r4 wf wb (bn 39 (by omega)) (a 39) 0 f' (by omega) (by omega)
  refine ⟨ν, ?_, r3, (q3.ch.weak (fun _ _ c => c) (fun q j c => by unfold seC; omega)).trans r5⟩
  unfold f_X9_settled
  rw [n3_k0, show (190 : Int32) = n3 190 from n3_lit 190, q1, Option.bind_some]
  exact r1.trans s1
/-- the reference's best order -/
def BO (M : Nat) (b : Option (Nat × List Nat)) (most which : Int32) : Prop :=
  match b with
  | none => most = -n3 1
  | some q => most = n3 q.1 ∧ q.1 ≤ 4 ∧ ∃ c, c < 256 ∧ which = n3 c ∧ loR M c = some q.2
def sAns (b : Option (Nat × List Nat)) (j : Nat) : Int32 :=
  match b with
  | none => -n3 4
  | some q => if j = 0 then n3 q.1 else match q.2[j - 10]? with | none => -n3 4 | some x => n3 x
theorem v_p4 {n : Nat} (h : n ≤ 4) : 4 ^ n ≤ 256 ∧ 0 < 4 ^ n := by
  rcases (show n = 0 ∨ n = 1 ∨ n = 2 ∨ n = 3 ∨ n = 4 by omega) with rfl | rfl | rfl | rfl | rfl <;> decide
theorem m_s55 (wf : WF a) {j : Nat} (hj : j = 0 ∨ (10 ≤ j ∧ j < 10 + a 39)) (hF : 200000 < F) : ∀ (K c f : Nat) (q : Option (Nat × List Nat)) (most which : Int32) (μ : fm_M), c + K = 4 ^ a 39 → K < f → AP μ 0 a → BO (a 39) q most which → ((plp (fun c => (loR (a 39) c).toList) K c).foldl (js a) q ≠ none) → ∃ ν, g_X9_settle F f 55 (n3 j) (n3 (4 ^ a 39)) most which (n3 c) μ = some (sAns ((plp (fun c => (loR (a 39) c).toList) K c).foldl (js a) q) j, ν) ∧ Ch (fun _ _ => False) (fun q j => seC q j ∨ q = 244) μ ν
  | 0, c, f + 1, q, most, which, μ, hc, _, h0, hb, hne => by
    have b4 := wf.1
    obtain ⟨p1, p2⟩ := v_p4 (n := a 39) (by omega)
    cases q with
    | none => exact absurd rfl hne
    | some q =>
      obtain ⟨k1, k2, c', hc', kw, kr⟩ := hb
      obtain ⟨μ1, r1, r2, r3⟩ := m_ord (F := F) (M := a 39) (c := c') h0.1.2.1 (by omega) hc' (by omega)
      have e : d4 (a 39) c' = q.2 := by
        unfold loR at kr
        split at kr
        · exact Option.some.inj kr
        · cases kr
      rw [e] at r2
      have ql : q.2.length = a 39 := by rw [← e]; exact d4_len _ _
      refine ⟨μ1, ?_, r3.weak (fun _ _ c => c) (fun q j c => .inr c)⟩
      show _ = some (sAns (some q) j, μ1)
      rw [g_X9_settle, if_neg (by decide), if_pos rfl, b_X9_settle_55, if_pos (by rw [n3_le (by omega) (by omega)]; omega), kw, r1, Option.bind_some, sAns]
      by_cases j0 : j = 0
      · rw [if_neg (show ¬ ¬ n3 j = 0 from fun n => n (by rw [j0]; rfl)), if_pos j0, k1]
      · rw [if_pos (show ¬ n3 j = 0 by rw [n3_k0, n3_eq (by omega) (by omega)]; exact j0), if_neg j0, n3_k10, n3_sub (by omega), if_pos (n3_in (by omega) (by omega)), n3_cl (by omega), List.getElem?_eq_getElem (show j - 10 < q.2.length by omega), r2 (j - 10) _ (List.getElem?_eq_getElem (show j - 10 < q.2.length by omega))]
  | K + 1, c, f + 1, q, most, which, μ, hc, hf, h0, hb, hne => by
    have b4 := wf.1
    obtain ⟨p1, p2⟩ := v_p4 (n := a 39) (by omega)
    obtain ⟨μ1, r1, r2, r3⟩ := m_ord (F := F) (M := a 39) (c := c) h0.1.2.1 (by omega) (by omega) (by omega)
    have h01 : AP μ1 0 a := h0.ch wf r3 id id (by omega) (by omega) (by omega)
    have cw : Ch (fun _ _ => False) (fun q j => seC q j ∨ q = 244) μ μ1 := r3.weak (fun _ _ c => c) (fun q j c => .inr c)
    have ih := m_s55 wf hj hF K (c + 1) f
    have mg : ((-1) : Int32) ≤ most := by
      cases q with
      | none => rw [show most = -n3 1 from hb]; decide
      | some q => rw [hb.1, show ((-1) : Int32) = -n3 1 by decide, nn_le (by omega) (by omega) (by have := hb.2.1; omega)]; exact trivial
    rw [plp, List.foldl_append] at hne ⊢
    cases hv : vo (a 39) (d4 (a 39) c) with
    | false =>
      have hr : loR (a 39) c = none := by unfold loR; rw [hv]; exact if_neg (by decide)
      rw [hr] at hne ⊢
      obtain ⟨ν, t1, t2⟩ := ih q most which μ1 (by omega) (by omega) h01 hb hne
      refine ⟨ν, ?_, cw.trans t2⟩
      rw [hv] at r1
      rw [g_X9_settle, if_neg (by decide), if_pos rfl, b_X9_settle_55, if_neg (by rw [n3_le (by omega) (by omega)]; omega), r1, Option.bind_some, if_pos (show n3 (bi false) = 0 by decide), if_pos mg, if_pos mg, n3_one, n3_add]
      exact t1
    | true =>
      have hr : loR (a 39) c = some (d4 (a 39) c) := by unfold loR; rw [hv]; exact if_pos rfl
      rw [hr] at hne ⊢
      obtain ⟨μ2, s1, s2, s3⟩ := m_settled (F := F) h01 wf (d4_len _ _) (vo_all _ _ hv) r2 hF
      have cl := cntC_le a (sEnd a (d4 (a 39) c)) (a 39)
      have cc : Ch (fun _ _ => False) (fun q j => seC q j ∨ q = 244) μ μ2 := cw.trans (s3.weak (fun _ _ c => c) (fun q j c => .inl c))
      have e1 : (Option.some (d4 (a 39) c)).toList.foldl (js a) q = js a q (d4 (a 39) c) := rfl
      rw [e1] at hne ⊢
      rw [hv] at r1
      have start : g_X9_settle F (f + 1) 55 (n3 j) (n3 (4 ^ a 39)) most which (n3 c) μ = (if n3 (cntC a (sEnd a (d4 (a 39) c)) (a 39)) ≤ most then g_X9_settle F f 55 (n3 j) (n3 (4 ^ a 39)) most which (n3 (c + 1)) μ2 else g_X9_settle F f 55 (n3 j) (n3 (4 ^ a 39)) (n3 (cntC a (sEnd a (d4 (a 39) c)) (a 39))) (n3 c) (n3 (c + 1)) μ2) := by
        rw [g_X9_settle, if_neg (by decide), if_pos rfl, b_X9_settle_55, if_neg (by rw [n3_le (by omega) (by omega)]; omega), r1, Option.bind_some, if_neg (show ¬ n3 (bi true) = 0 by decide)]
        dsimp only
        rw [s1, Option.bind_some, n3_one, n3_add]
        dsimp only
        by_cases cq : n3 (cntC a (sEnd a (d4 (a 39) c)) (a 39)) ≤ most
        · rw [if_pos cq, if_pos cq, if_pos cq]
        · rw [if_neg cq, if_neg cq, if_neg cq]
      rw [start]
      generalize hz : cntC a (sEnd a (d4 (a 39) c)) (a 39) = z at *
      have hnew : BO (a 39) (some (z, d4 (a 39) c)) (n3 z) (n3 c) := ⟨rfl, by show z ≤ 4; omega, c, by omega, rfl, hr⟩
      cases q with
      | none =>
        have hq : js a none (d4 (a 39) c) = some (z, d4 (a 39) c) := by rw [js, hz]
        rw [hq] at hne ⊢
        rw [if_neg (by rw [show most = -n3 1 from hb, nn_ge (by omega) (by omega) (by omega)]; exact id)]
        obtain ⟨ν, t1, t2⟩ := ih _ _ _ μ2 (by omega) (by omega) s2 hnew hne
        exact ⟨ν, t1, cc.trans t2⟩
      | some q =>
        have k1 := hb.1
        have k2 := hb.2.1
        by_cases c1 : q.1 < z
        · have hq : js a (some q) (d4 (a 39) c) = some (z, d4 (a 39) c) := by rw [js, hz, if_pos c1]
          rw [hq] at hne ⊢
          rw [if_neg (by rw [k1, n3_le (by omega) (by omega)]; omega)]
          obtain ⟨ν, t1, t2⟩ := ih _ _ _ μ2 (by omega) (by omega) s2 hnew hne
          exact ⟨ν, t1, cc.trans t2⟩
        · have hq : js a (some q) (d4 (a 39) c) = some q := by rw [js, hz, if_neg c1]
          rw [hq] at hne ⊢
          rw [if_pos (by rw [k1, n3_le (by omega) (by omega)]; omega)]
          obtain ⟨ν, t1, t2⟩ := ih _ _ _ μ2 (by omega) (by omega) s2 hb hne
          exact ⟨ν, t1, cc.trans t2⟩
theorem m_s29 (h0 : AP μ 0 a) (wf : WF a) {x : Int32} : ∀ (K i f : Nat), i + K = a 39 → g_X9_settle F (f + K + 1) 29 x (n3 (4 ^ i)) (n3 i) 0 0 μ = g_X9_settle F f 55 x (n3 (4 ^ a 39)) (-n3 1) 0 0 μ
  | 0, i, f, hi => by
    obtain rfl : i = a 39 := by omega
    have b4 := wf.1
    rw [g_X9_settle, if_pos rfl, b_X9_settle_29, h0.1.2.1, if_pos (by rw [n3_le (by omega) (by omega)]; omega), n3_one]
  | K + 1, i, f, hi => by
    have b4 := wf.1
    have ih := m_s29 h0 wf (x := x) K (i + 1) f (by omega)
    rw [← ih, ← Nat.add_assoc f K 1, g_X9_settle, if_pos rfl, b_X9_settle_29, h0.1.2.1, if_neg (by rw [n3_le (by omega) (by omega)]; omega), n3_k4, n3_mul, n3_one, n3_add, Nat.pow_succ]
theorem js_some : ∀ (l : List (List Nat)) (q : Option (Nat × List Nat)), q ≠ none ∨ l ≠ [] → l.foldl (js a) q ≠ none
  | [], q, h => h.resolve_right (fun c => c rfl)
  | p :: l, q, _ => by
    refine js_some l (js a q p) (.inl ?_)
    unfold js
    cases q with
    | none => intro c; cases c
    | some q =>
      dsimp only
      split <;> (intro c; cases c)
theorem ok_settle (h : R μ) (hF : 200000 < F) (x : Int32) : OK2 (f_X8_settle F x) (f_X9_settle F x) μ := by
  obtain ⟨a, wf, bm, hw, hp⟩ := h.1
  have b := wf.1
  have h11 := hw.z.1.2.2.2.2.2.1
  have k3 := hp.z.1.2.1
  have e10 : (10 : Int32) + n3 (a 39) - 1 = n3 (9 + a 39) := by rw [n3_k10, n3_one, n3_add, n3_sub (by omega), show 10 + a 39 - 1 = 9 + a 39 by omega]
  have e9 : (9 + n3 (a 39) : Int32).toInt64 = Int64.ofNat (9 + a 39) := by rw [show (9 : Int32) = n3 9 from n3_lit 9, n3_add, n3_64 (by omega)]
  have bad : ¬ x = n3 0 → f_X8_isIn F x (n3 10) (n3 (9 + a 39)) μ = some (n3 0, μ) → f_X9_in F x.toInt64 (Int64.ofNat 10) (Int64.ofNat (9 + a 39)) μ = some (n3 0, μ) → OK2 (f_X8_settle F x) (f_X9_settle F x) μ := by
    intro c1 c2 c3
    refine OK2.same h (v := -n3 1) ?_ ?_
    · unfold f_X8_settle
      rw [if_neg (show ¬ x = 0 from c1), h11, e10, n3_k10, c2, Option.bind_some, n3_one]
      exact if_neg (fun n => n rfl)
    · unfold f_X9_settle
      rw [if_neg (show ¬ x = 0 from c1), k3, e9, c3, Option.bind_some, n3_one]
      exact if_neg (fun n => n rfl)
  have good : ∀ j, j = 0 ∨ (10 ≤ j ∧ j < 10 + a 39) → OK2 (f_X8_settle F (n3 j)) (f_X9_settle F (n3 j)) μ := by
    intro j hj
    obtain ⟨v1, v2⟩ := v_ord' (M := a 39) (by omega)
    obtain ⟨p1, p2⟩ := v_p4 (n := a 39) (by omega)
    have ne := js_some (a := a) (prs (a 39) 8 [] 0) none (.inr v2)
    obtain ⟨μ1, q1, q2, q3⟩ := c_sfind (F := F) hw wf (by omega)
    have hp1 : AP μ1 0 a := hp.ch wf q3 (by omega) (by omega) (by omega) (by omega) (by omega)
    have k31 := hp1.z.1.2.1
    obtain ⟨f, hf⟩ : ∃ f, F = f + a 39 + 1 := ⟨F - (a 39 + 1), by omega⟩
    have s29 := m_s29 (F := F) hp1 wf (x := n3 j) (a 39) 0 f (by omega)
    rw [← hf] at s29
    obtain ⟨μ2, t1, t2⟩ := m_s55 (F := F) wf (j := j) hj hF (4 ^ a 39) 0 f none (-n3 1) (n3 0) μ1 (by omega) (by omega) hp1 rfl (by rw [v1]; exact ne)
    rw [v1] at t1
    refine ⟨sAns ((prs (a 39) 8 [] 0).foldl (js a) none) j, μ1, μ2, ?_, ?_, h.free ((q3.weak (fun q j c => by omega) (fun q j c => by omega)).trans (t2.weak (fun _ _ c => False.elim c) (fun q j c => by unfold seC at c; omega)))⟩
    · have ans : (if ¬ n3 j = 0 then (if ab_in (n3 j - n3 10) 4 = true then some ((μ1.2.1 148 (n3 j - n3 10).toNatClampNeg), μ1) else none) else some ((μ1.1 147 0), μ1)) = some (sAns ((prs (a 39) 8 [] 0).foldl (js a) none) j, μ1) := by
        cases hz : (prs (a 39) 8 [] 0).foldl (js a) none with
        | none => exact absurd hz ne
        | some q =>
          rw [hz] at q2
          obtain ⟨w1, w2, w3, w4⟩ := q2
          rw [sAns]
          by_cases j0 : j = 0
          · rw [if_neg (show ¬ ¬ n3 j = 0 from fun n => n (by rw [j0]; rfl)), if_pos j0, w1]
          · rw [if_pos (show ¬ n3 j = 0 by rw [n3_k0, n3_eq (by omega) (by omega)]; exact j0), if_neg j0, n3_sub (by omega), if_pos (n3_in (by omega) (by omega)), n3_cl (by omega), List.getElem?_eq_getElem (show j - 10 < q.2.length by omega), w2 (j - 10) _ (List.getElem?_eq_getElem (show j - 10 < q.2.length by omega))]
      rw [← ans]
      unfold f_X8_settle
      rcases hj with c | c
      · rw [if_pos (show n3 j = 0 by rw [c]; rfl), q1, Option.bind_some, n3_k10]
      · rw [if_neg (show ¬ n3 j = 0 by rw [n3_k0, n3_eq (by omega) (by omega)]; omega), h11, e10, n3_k10, c_isInT (by omega) (by omega) (by omega), Option.bind_some, if_pos (show ¬ n3 1 = 0 by decide)]
        dsimp only
        rw [q1, Option.bind_some]
    · rw [← t1]
      unfold f_X9_settle
      rcases hj with c | c
      · rw [if_pos (show n3 j = 0 by rw [c]; rfl)]
        exact s29
      · rw [if_neg (show ¬ n3 j = 0 by rw [n3_k0, n3_eq (by omega) (by omega)]; omega), k31, e9, m_inT (by omega) (by omega) (by omega), Option.bind_some, if_pos (show ¬ n3 1 = 0 by decide)]
        exact s29
  rcases n3_cases x (10 + a 39) (by omega) with ⟨j, hj, rfl⟩ | hx
  · by_cases cj : j = 0 ∨ (10 ≤ j ∧ j < 10 + a 39)
    · exact good j cj
    · exact bad (by rw [n3_eq (by omega) (by omega)]; omega) (c_isInF (by omega) (by omega) (by omega) (by omega)) (m_inF (by omega) (by omega) (by omega) (by omega))
  · have hx2 : x < n3 0 ∨ n3 (9 + a 39 + 1) ≤ x := by rw [show 9 + a 39 + 1 = 10 + a 39 by omega]; exact hx
    exact bad (n3_outA (by omega) hx 0 (by omega)) (c_isInO hx2 (by omega) (by omega)) (m_inO hx2 (by omega) (by omega))
end VS59
