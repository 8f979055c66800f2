/-! the warmest way: the reference, both -/
section VS54
variable {F : Nat} {μ ν : fm_M} {a : Nat → Nat} {w : Nat}
theorem m_lays {M frm to code : Nat} (hM : μ.1 232 1 = n3 M) (hM4 : M ≤ 4) (hf : frm < M) (hto : to < 4) (hc : code < 125) (hF : 100 < F) : ∃ ν, f_X9_laysHands F (n3 code) (n3 frm) (n3 to) μ = some ((match lhR M frm to code with | none => -n3 4 | some p => n3 p.length), ν) ∧ (∀ p, lhR M frm to code = some p → LR ν 241 p) ∧ Ch (fun _ _ => False) (fun q _ => q = 241) μ ν := by
  obtain ⟨m, hm⟩ : ∃ m, F = m + 1 + 1 + 1 + 1 := ⟨F - 4, by omega⟩
  have hp2 : 2 ^ frm < 32 := by
    rcases (show frm = 0 ∨ frm = 1 ∨ frm = 2 ∨ frm = 3 by omega) with rfl | rfl | rfl | rfl <;> decide
  generalize hs0 : ((0, code, 2 ^ frm, true) : Nat × Nat × Nat × Bool) = s0
  have a0 : s0.1 = 0 ∧ s0.2.1 = code ∧ s0.2.2.1 = 2 ^ frm ∧ s0.2.2.2 = true := by rw [← hs0]; exact ⟨rfl, rfl, rfl, rfl⟩
  have l0 := lhS_le M s0 0
  have t0 := (v_m5' (show s0.2.2.1 < 32 by omega) (show s0.2.1 / 25 < 5 by omega)).2.2
  have g1 := m_lh1 (F := F) (μ := μ) (to := to) (many := s0.1) (left := s0.2.1) (told := s0.2.2.1) (is := s0.2.2.2) (k := 0) (n := m + 1 + 1 + 1) hM hM4 (by omega) (by omega) (by omega) (by omega)
  generalize hs1 : lhS M s0 0 = s1 at l0
  have hs1' : lhS M (s0.1, s0.2.1, s0.2.2.1, s0.2.2.2) 0 = s1 := hs1
  rw [hs1'] at g1
  have l1 := lhS_le M s1 1
  have t1 := (v_m5' (show s1.2.2.1 < 32 by omega) (show s1.2.1 / 25 < 5 by omega)).2.2
  have g2 := m_lh1 (F := F) (μ := fm_sA μ 241 (upd (μ.2.1 241) 0 (n3 (s0.2.1 / 25)))) (to := to) (many := s1.1) (left := s1.2.1) (told := s1.2.2.1) (is := s1.2.2.2) (k := 0 + 1) (n := m + 1 + 1) hM hM4 (by omega) (by omega) (by omega) (by omega)
  generalize hs2 : lhS M s1 1 = s2 at l1
  have hs2' : lhS M (s1.1, s1.2.1, s1.2.2.1, s1.2.2.2) (0 + 1) = s2 := hs2
  rw [hs2'] at g2
  have l2 := lhS_le M s2 2
  have g3 := m_lh1 (F := F) (μ := fm_sA (fm_sA μ 241 (upd (μ.2.1 241) 0 (n3 (s0.2.1 / 25)))) 241 (upd ((fm_sA μ 241 (upd (μ.2.1 241) 0 (n3 (s0.2.1 / 25)))).2.1 241) (0 + 1) (n3 (s1.2.1 / 25)))) (to := to) (many := s2.1) (left := s2.2.1) (told := s2.2.2.1) (is := s2.2.2.2) (k := 0 + 1 + 1) (n := m + 1) hM hM4 (by omega) (by omega) (by omega) (by omega)
  generalize hs3 : lhS M s2 2 = s3 at l2
  have hs3' : lhS M (s2.1, s2.2.1, s2.2.2.1, s2.2.2.2) (0 + 1 + 1) = s3 := hs3
  rw [hs3'] at g3
  have hE : lhE M code frm = s3 := by
    unfold lhE
    rw [hs0, hs1, hs2, hs3]
  have g4 := g1.trans (g2.trans g3)
  generalize hμ : fm_sA (fm_sA (fm_sA μ 241 (upd (μ.2.1 241) 0 (n3 (s0.2.1 / 25)))) 241 (upd ((fm_sA μ 241 (upd (μ.2.1 241) 0 (n3 (s0.2.1 / 25)))).2.1 241) (0 + 1) (n3 (s1.2.1 / 25)))) 241 (upd ((fm_sA (fm_sA μ 241 (upd (μ.2.1 241) 0 (n3 (s0.2.1 / 25)))) 241 (upd ((fm_sA μ 241 (upd (μ.2.1 241) 0 (n3 (s0.2.1 / 25)))).2.1 241) (0 + 1) (n3 (s1.2.1 / 25)))).2.1 241) (0 + 1 + 1) (n3 (s2.2.1 / 25))) = μ3 at g4
  have cc : Ch (fun _ _ => False) (fun q _ => q = 241) μ μ3 := by
    rw [← hμ]
    exact (((Ch.refl _ _ μ).sG (fun _ => rfl)).sG (fun _ => rfl)).sG (fun _ => rfl)
  have hd : ∀ j x, (dgs code)[j]? = some x → μ3.2.1 241 j = n3 x := by
    intro j x hj
    have d0 : s0.2.1 = code := a0.2.1
    have d1 : s1.2.1 = code % 25 * 5 := by rw [l0.2.1, d0]
    have d2 : s2.2.1 = code % 25 * 5 % 25 * 5 := by rw [l1.2.1, d1]
    rw [← hμ, d0, d1, d2]
    match j, hj with
    | 0, hj => cases hj; simp (disch := omega) only [fm_sA_eq, upd_ne, upd_eq]
    | 1, hj => cases hj; simp (disch := omega) only [fm_sA_eq, upd_ne, upd_eq]
    | 2, hj => cases hj; simp (disch := omega) only [fm_sA_eq, upd_ne, upd_eq]
    | j + 3, hj => cases hj
  have m3 : s3.1 ≤ 3 := by rw [← hE]; exact (v_lh' hM4 hf hto hc).1
  have fin : f_X9_laysHands F (n3 code) (n3 frm) (n3 to) μ = g_X9_laysHands F (m + 1) 17 (n3 to) (n3 s3.1) (n3 s3.2.1) (n3 s3.2.2.1) (n3 (bi s3.2.2.2)) (n3 (0 + 1 + 1 + 1)) μ3 := by
    rw [← g4, a0.1, a0.2.1, a0.2.2.1, a0.2.2.2, ← hm]
    unfold f_X9_laysHands
    rw [v_two' (by omega)]
    rfl
  refine ⟨μ3, ?_, ?_, cc⟩
  · rw [fin, g_X9_laysHands, if_pos rfl, b_X9_laysHands_17, if_pos (by decide), lhR, hE]
    cases his : s3.2.2.2 with
    | false =>
      rw [if_pos (show n3 (bi false) = 0 by decide), if_neg (by rintro ⟨c, -⟩; cases c), n3_k4]
    | true =>
      rw [if_neg (show ¬ n3 (bi true) = 0 by decide)]
      by_cases c0 : s3.1 = 0
      · rw [if_pos (by rw [n3_k0, n3_le (by omega) (by omega)]; omega), if_neg (by omega), n3_k4]
      · have hlt : s3.1 - 1 < (dgs code).length := by show s3.1 - 1 < 3; omega
        have hx := hd (s3.1 - 1) ((dgs code)[s3.1 - 1]) (List.getElem?_eq_getElem hlt)
        have hg : (dgs code).getD (s3.1 - 1) 0 = (dgs code)[s3.1 - 1] := by rw [List.getD_eq_getElem?_getD, List.getElem?_eq_getElem hlt]; rfl
        have hxl : (dgs code)[s3.1 - 1] < 1000 := by
          have hmem := List.getElem_mem hlt
          have : ∀ x ∈ dgs code, x < 1000 := by
            intro x hx
            simp only [dgs, List.mem_cons, List.not_mem_nil, or_false] at hx
            omega
          exact this _ hmem
        rw [if_neg (by rw [n3_k0, n3_le (by omega) (by omega)]; omega), n3_one, n3_sub (by omega), if_pos (n3_in (by omega) (by omega)), n3_cl (by omega), hx, hg]
        by_cases ct : (dgs code)[s3.1 - 1] = to
        · rw [if_neg (show ¬ ¬ n3 _ = n3 to from fun n => n (by rw [ct])), if_pos ⟨rfl, by omega, ct⟩]
          dsimp only
          rw [List.length_take, show min s3.1 (dgs code).length = s3.1 from by show min s3.1 3 = s3.1; omega]
        · rw [if_pos (show ¬ n3 _ = n3 to by rw [n3_eq (by omega) (by omega)]; exact ct), if_neg (fun c => ct c.2.2), n3_k4]
  · intro p hp j x hj
    unfold lhR at hp
    split at hp
    · cases hp
      obtain ⟨hlt, -⟩ := List.getElem?_eq_some_iff.mp hj
      rw [List.length_take] at hlt
      rw [List.getElem?_take_of_lt (by omega)] at hj
      exact hd j x hj
    · cases hp
theorem m_hand_l (wf : WF a) {s : Nat} {p : List Nat} (hs : s < a 23) (hl : p.length ≤ 3) (hall : ∀ x ∈ p, x < a 38) (hF : 100 < F) : ∀ (suf pre : List Nat) (n : Nat) (z : Nat × Nat × Nat) (μ : fm_M), p = pre ++ suf → suf.length < n → AP μ 0 a → LR μ 241 p → z.1 < a 38 → z.2.1 ≤ 99 → μ.1 232 24 = n3 z.2.2 → ∃ ν, g_X9_handed F n 29 (n3 s) (n3 p.length) (n3 z.2.1) (n3 z.1) (n3 pre.length) μ = some (n3 (suf.foldl (hst a (a (8 + s))) z).2.1, ν) ∧ ν.1 232 24 = n3 (suf.foldl (hst a (a (8 + s))) z).2.2 ∧ Ch (fun q j => q = 232 ∧ j = 24) (fun _ _ => False) μ ν
  | [], pre, n + 1, z, μ, hp, _, ha, hL, h1, h2, h3 => by
    refine ⟨μ, ?_, h3, Ch.refl _ _ μ⟩
    have e : p.length = pre.length := by rw [hp, List.append_nil]
    rw [g_X9_handed, if_pos rfl, b_X9_handed_29, if_pos (by rw [n3_le (by omega) (by omega)]; omega)]
    rfl
  | x :: suf, pre, n + 1, z, μ, hp, hn, ha, hL, h1, h2, h3 => by
    have b4 := wf.1
    have wS := wf.2.2.1 s hs
    have e : p.length = pre.length + (suf.length + 1) := by rw [hp, List.length_append, List.length_cons]
    have hx : x < a 38 := hall x (by rw [hp]; exact List.mem_append_right _ List.mem_cons_self)
    have hh : μ.2.1 241 pre.length = n3 x := hL pre.length x (by rw [hp, List.getElem?_append_right (Nat.le_refl _), Nat.sub_self]; rfl)
    have hb : f_X9_wayOn F 0 (n3 z.1) (n3 x) μ = some (n3 (betw a z.1 x), μ) := m_wayOn (F := F) ha wf (by omega) h1 hx
    have bb := betw_le wf h1 hx
    have wP := wf.2.1 z.1 h1
    have r8 := rateA_le (a (8 + s)) (a z.1)
    have kS := (ha.z.2.2.2.1 s hs).1
    have kP := (ha.z.2.2.1 z.1 h1).1
    have kb := ha.z.1.2.2.1 (a (8 + s)) (by omega)
    have hr : f_X9_rateOf F (n3 (base (a (8 + s)))) (n3 (a z.1)) μ = some (n3 (rateA (a (8 + s)) (a z.1)), μ) := m_rateOf (by omega) (by omega)
    have hc : f_X9_afterOf F (n3 z.2.1) (n3 (rateA (a (8 + s)) (a z.1))) (n3 (betw a z.1 x)) μ = some (n3 (coolN z.2.1 (rateA (a (8 + s)) (a z.1)) (betw a z.1 x)), μ) := m_afterOf (by omega) (by omega) (by omega) (by omega)
    have cl := coolN_le z.2.1 (rateA (a (8 + s)) (a z.1)) (betw a z.1 x)
    have c1 : Ch (fun q j => q = 232 ∧ j = 24) (fun _ _ => False) μ (fm_sI μ 232 24 (n3 (z.2.2 + betw a z.1 x))) := (Ch.refl _ _ μ).sI (by omega)
    obtain ⟨ν, r1, r2, r3⟩ := m_hand_l wf hs hl hall hF suf (pre ++ [x]) n (hst a (a (8 + s)) z x) (fm_sI μ 232 24 (n3 (z.2.2 + betw a z.1 x))) (by rw [hp, List.append_assoc]; rfl) (by simp only [List.length_cons] at hn; omega) (ha.ch wf c1 (by omega) (by omega) (fun _ => id) (fun _ => id) (fun _ _ _ => id)) hL hx (by show coolN _ _ _ ≤ 99; omega) (fm_sI_eq ⟨rfl, rfl⟩)
    refine ⟨ν, ?_, r2, c1.trans r3⟩
    rw [List.length_append, List.length_singleton] at r1
    rw [g_X9_handed, if_pos rfl, b_X9_handed_29, if_neg (by rw [n3_le (by omega) (by omega)]; omega), if_pos (n3_in (by omega) (by omega)), n3_cl (by omega), hh, hb, Option.bind_some, n3_k8, n3_add, if_pos (n3_in (by omega) (by omega)), n3_cl (by omega)]
    dsimp only
    rw [kS, if_pos (n3_in (by omega) (by omega)), n3_cl (by omega), kb, if_pos (n3_in (by omega) (by omega)), n3_cl (by omega), kP, hr, Option.bind_some]
    dsimp only
    rw [hc, Option.bind_some, Option.bind_some, if_pos (n3_in (by omega) (by omega)), n3_one, n3_add]
    dsimp only
    rw [h3, n3_add, fm_sA_hand, hh]
    exact r1
where
  fm_sA_hand : ∀ {μ : fm_M} {x : Int32} {q : Nat}, (fm_sI μ 232 24 x).2.1 q = μ.2.1 q := rfl
theorem m_handed (hp : AP μ 0 a) (wf : WF a) {s : Nat} {p : List Nat} (hs : s < a 23) (hl : p.length ≤ 3) (hall : ∀ x ∈ p, x < a 38) (hL : LR μ 241 p) (hF : 100 < F) : ∃ ν, f_X9_handed F (n3 s) (n3 p.length) μ = some (n3 (p.foldl (hst a (a (8 + s))) (a (18 + s), a (13 + s), 0)).2.1, ν) ∧ ν.1 232 24 = n3 (p.foldl (hst a (a (8 + s))) (a (18 + s), a (13 + s), 0)).2.2 ∧ Ch (fun q j => q = 232 ∧ j = 24) (fun _ _ => False) μ ν := by
  have b4 := wf.1
  have wS := wf.2.2.1 s hs
  have e := hp.z.2.2.2.1 s hs
  have c1 : Ch (fun q j => q = 232 ∧ j = 24) (fun _ _ => False) μ (fm_sI μ 232 24 (n3 0)) := (Ch.refl _ _ μ).sI (by omega)
  obtain ⟨ν, r1, r2, r3⟩ := m_hand_l (F := F) wf hs hl hall hF p [] F (a (18 + s), a (13 + s), 0) (fm_sI μ 232 24 (n3 0)) rfl (by omega) (hp.ch wf c1 (by omega) (by omega) (fun _ => id) (fun _ => id) (fun _ _ _ => id)) hL wS.2.2 (by show a (13 + s) ≤ 99; omega) (fm_sI_eq ⟨rfl, rfl⟩)
  refine ⟨ν, ?_, r2, c1.trans r3⟩
  unfold f_X9_handed
  rw [n3_k13, n3_add, if_pos (n3_in (by omega) (by omega)), n3_k18, n3_add, if_pos (n3_in (by omega) (by omega)), Option.bind_some, n3_cl (by omega), n3_cl (by omega), e.2.1, e.2.2, n3_k0]
  exact r1
/-- what the reference has as its best -/
def BM (a : Nat → Nat) (s M frm to : Nat) (b : Option (Nat × Nat × List Nat)) (most few which : Int32) : Prop :=
  match b with
  | none => most = -n3 1
  | some q => most = n3 q.1 ∧ few = n3 q.2.2.length ∧ q.1 ≤ 99 ∧ q.1 = (q.2.2.foldl (hst a (a (8 + s))) (a (18 + s), a (13 + s), 0)).2.1 ∧ q.2.1 = (q.2.2.foldl (hst a (a (8 + s))) (a (18 + s), a (13 + s), 0)).2.2 ∧ ∃ c, c < 125 ∧ which = n3 c ∧ lhR M frm to c = some q.2.2
theorem hst_le {k : Nat} : ∀ (p : List Nat) (z : Nat × Nat × Nat), z.2.1 ≤ 99 → (p.foldl (hst a k) z).2.1 ≤ 99
  | [], z, h => h
  | x :: p, z, h => by
    have cl := coolN_le z.2.1 (rateA k (a z.1)) (betw a z.1 x)
    exact hst_le p (hst a k z x) (by show coolN _ _ _ ≤ 99; omega)
def wAns (b : Option (Nat × Nat × List Nat)) (j : Nat) : Int32 :=
  match b with
  | none => -n3 4
  | some q => if j = 0 then n3 q.1 else if j = 1 then n3 q.2.1 else match q.2.2[j - 10]? with | none => -n3 4 | some x => n3 x
theorem m_way_l (wf : WF a) {s to j : Nat} (hs : s < a 23) (hto : to < a 38) (hj : j ≤ 1 ∨ (10 ≤ j ∧ j ≤ 13)) (hF : 200 < F) : ∀ (K code n : Nat) (b : Option (Nat × Nat × List Nat)) (most few which : Int32) (μ : fm_M), code + K = 125 → K < n → AP μ 0 a → BM a s (a 38) (a (18 + s)) to b most few which → ((plp (fun c => (lhR (a 38) (a (18 + s)) to c).toList) K code).foldl (jz a (a (8 + s)) (a (18 + s), a (13 + s), 0)) b ≠ none) → ∃ ν, g_X9_way F n 75 (n3 s) (n3 to) (n3 j) (n3 (a (18 + s))) most few which (n3 code) μ = some (wAns ((plp (fun c => (lhR (a 38) (a (18 + s)) to c).toList) K code).foldl (jz a (a (8 + s)) (a (18 + s), a (13 + s), 0)) b) j, ν) ∧ Ch (fun q j => q = 232 ∧ j = 24) (fun q _ => q = 241) μ ν
  | 0, code, n + 1, b, most, few, which, μ, hK, _, ha, hb, hne => by
    have b4 := wf.1
    have wS := wf.2.2.1 s hs
    obtain rfl : code = 125 := by omega
    cases b with
    | none => exact absurd rfl hne
    | some q =>
      obtain ⟨k1, k2, k3, k4, k5, c, hc, kc, kr⟩ := hb
      obtain ⟨-, lp⟩ := v_lh' (M := a 38) (f := a (18 + s)) (t := to) (c := c) (by omega) wS.2.2 (by omega) hc
      obtain ⟨lp1, lp2⟩ := lp _ kr
      obtain ⟨μ1, r1, r2, r3⟩ := m_lays (F := F) (μ := μ) (M := a 38) (frm := a (18 + s)) (to := to) (code := c) ha.1.1 (by omega) wS.2.2 (by omega) hc (by omega)
      rw [kr] at r1
      have ha1 := ha.ch wf r3 id id (by omega) (by omega) (by omega)
      obtain ⟨μ2, t1, t2, t3⟩ := m_handed (F := F) ha1 wf hs lp1 lp2 (r2 _ kr) (by omega)
      have hh : ∀ i x, q.2.2[i]? = some x → μ2.2.1 241 i = n3 x := fun i x hi => by rw [t3.2.1 241 i id]; exact r2 _ kr i x hi
      refine ⟨μ2, ?_, (r3.weak (fun _ _ c => False.elim c) (fun q j c => c)).trans (t3.weak (fun _ _ c => c) (fun _ _ c => False.elim c))⟩
      rw [g_X9_way, if_pos rfl, b_X9_way_75, if_pos (by decide), kc, r1, Option.bind_some]
      dsimp only
      rw [t1, Option.bind_some]
      dsimp only
      show _ = some (wAns (some q) j, μ2)
      rw [wAns]
      by_cases j0 : j = 0
      · rw [if_neg (show ¬ ¬ n3 j = 0 from fun n => n (by rw [j0]; rfl)), if_pos j0, k1]
      · rw [if_pos (show ¬ n3 j = 0 by rw [n3_k0, n3_eq (by omega) (by omega)]; exact j0), if_neg j0]
        by_cases j1 : j = 1
        · rw [if_neg (show ¬ ¬ n3 j = 1 from fun n => n (by rw [j1]; rfl)), if_pos j1, t2, k5]
        · rw [if_pos (show ¬ n3 j = 1 by rw [n3_one, n3_eq (by omega) (by omega)]; exact j1), if_neg j1, n3_k10, n3_sub (by omega)]
          by_cases c1 : q.2.2.length ≤ j - 10
          · rw [if_pos (by rw [n3_le (by omega) (by omega)]; exact c1), List.getElem?_eq_none c1, n3_k4]
          · rw [if_neg (by rw [n3_le (by omega) (by omega)]; exact c1), if_pos (n3_in (by omega) (by omega)), n3_cl (by omega), List.getElem?_eq_getElem (show j - 10 < q.2.2.length by omega), hh (j - 10) _ (List.getElem?_eq_getElem (show j - 10 < q.2.2.length by omega))]
  | K + 1, code, n + 1, b, most, few, which, μ, hK, hn, ha, hb, hne => by
    have b4 := wf.1
    have wS := wf.2.2.1 s hs
    obtain ⟨μ1, r1, r2, r3⟩ := m_lays (F := F) (μ := μ) (M := a 38) (frm := a (18 + s)) (to := to) (code := code) ha.1.1 (by omega) wS.2.2 (by omega) (by omega) (by omega)
    have ha1 := ha.ch wf r3 id id (by omega) (by omega) (by omega)
    have ih := m_way_l wf hs hto hj hF K (code + 1) n
    rw [plp, List.foldl_append] at hne ⊢
    cases hr : lhR (a 38) (a (18 + s)) to code with
    | none =>
      rw [hr] at r1 hne
      obtain ⟨ν, t1, t2⟩ := ih b most few which μ1 (by omega) (by omega) ha1 hb hne
      refine ⟨ν, ?_, (r3.weak (fun _ _ c => False.elim c) (fun q j c => c)).trans t2⟩
      rw [g_X9_way, if_pos rfl, b_X9_way_75, if_neg (by rw [n3_lit, n3_le (by omega) (by omega)]; omega), r1, Option.bind_some, if_pos (show -n3 4 = -4 by decide), n3_one, n3_add]
      exact t1
    | some p =>
      rw [hr] at r1 hne
      obtain ⟨-, lp⟩ := v_lh' (M := a 38) (f := a (18 + s)) (t := to) (c := code) (by omega) wS.2.2 (by omega) (by omega)
      obtain ⟨lp1, lp2⟩ := lp _ hr
      obtain ⟨μ2, t1, t2, t3⟩ := m_handed (F := F) ha1 wf hs lp1 lp2 (r2 _ hr) (by omega)
      have ha2 := ha1.ch wf t3 (by omega) (by omega) (fun _ => id) (fun _ => id) (fun _ _ _ => id)
      have vl := hst_le (a := a) (k := a (8 + s)) p (a (18 + s), a (13 + s), 0) (by show a (13 + s) ≤ 99; omega)
      have cc : Ch (fun q j => q = 232 ∧ j = 24) (fun q _ => q = 241) μ μ2 := (r3.weak (fun _ _ c => False.elim c) (fun q j c => c)).trans (t3.weak (fun _ _ c => c) (fun _ _ c => False.elim c))
      have e1 : (Option.some p).toList.foldl (jz a (a (8 + s)) (a (18 + s), a (13 + s), 0)) b = jz a (a (8 + s)) (a (18 + s), a (13 + s), 0) b p := rfl
      rw [e1] at hne
      have start : g_X9_way F (n + 1) 75 (n3 s) (n3 to) (n3 j) (n3 (a (18 + s))) most few which (n3 code) μ = (if most < n3 (p.foldl (hst a (a (8 + s))) (a (18 + s), a (13 + s), 0)).2.1 then g_X9_way F n 75 (n3 s) (n3 to) (n3 j) (n3 (a (18 + s))) (n3 (p.foldl (hst a (a (8 + s))) (a (18 + s), a (13 + s), 0)).2.1) (n3 p.length) (n3 code) (n3 (code + 1)) μ2 else (if ¬ n3 (p.foldl (hst a (a (8 + s))) (a (18 + s), a (13 + s), 0)).2.1 = most then g_X9_way F n 75 (n3 s) (n3 to) (n3 j) (n3 (a (18 + s))) most few which (n3 (code + 1)) μ2 else (if few ≤ n3 p.length then g_X9_way F n 75 (n3 s) (n3 to) (n3 j) (n3 (a (18 + s))) most few which (n3 (code + 1)) μ2 else g_X9_way F n 75 (n3 s) (n3 to) (n3 j) (n3 (a (18 + s))) (n3 (p.foldl (hst a (a (8 + s))) (a (18 + s), a (13 + s), 0)).2.1) (n3 p.length) (n3 code) (n3 (code + 1)) μ2))) := by
        rw [g_X9_way, if_pos rfl, b_X9_way_75, if_neg (by rw [n3_lit, n3_le (by omega) (by omega)]; omega), r1, Option.bind_some, if_neg (show ¬ n3 p.length = -4 by rw [show (-4 : Int32) = -n3 4 from by decide, nn_qe (by omega) (by omega) (by omega)]; exact id)]
        dsimp only
        rw [t1, Option.bind_some, n3_one, n3_add]
      rw [start, e1]
      generalize hz : p.foldl (hst a (a (8 + s))) (a (18 + s), a (13 + s), 0) = z at *
      have hnew : BM a s (a 38) (a (18 + s)) to (some (z.2.1, z.2.2, p)) (n3 z.2.1) (n3 p.length) (n3 code) := ⟨rfl, rfl, vl, by show z.2.1 = (p.foldl (hst a (a (8 + s))) (a (18 + s), a (13 + s), 0)).2.1; rw [hz], by show z.2.2 = (p.foldl (hst a (a (8 + s))) (a (18 + s), a (13 + s), 0)).2.2; rw [hz], code, by omega, rfl, hr⟩
      have take : jz a (a (8 + s)) (a (18 + s), a (13 + s), 0) b p = some (z.2.1, z.2.2, p) → ∃ ν, g_X9_way F n 75 (n3 s) (n3 to) (n3 j) (n3 (a (18 + s))) (n3 z.2.1) (n3 p.length) (n3 code) (n3 (code + 1)) μ2 = some (wAns ((plp (fun c => (lhR (a 38) (a (18 + s)) to c).toList) K (code + 1)).foldl (jz a (a (8 + s)) (a (18 + s), a (13 + s), 0)) (jz a (a (8 + s)) (a (18 + s), a (13 + s), 0) b p)) j, ν) ∧ Ch (fun q j => q = 232 ∧ j = 24) (fun q _ => q = 241) μ ν := by
        intro hq
        rw [hq] at hne ⊢
        obtain ⟨ν, u1, u2⟩ := ih _ _ _ _ μ2 (by omega) (by omega) ha2 hnew hne
        exact ⟨ν, u1, cc.trans u2⟩
      have leave : jz a (a (8 + s)) (a (18 + s), a (13 + s), 0) b p = b → ∃ ν, g_X9_way F n 75 (n3 s) (n3 to) (n3 j) (n3 (a (18 + s))) most few which (n3 (code + 1)) μ2 = some (wAns ((plp (fun c => (lhR (a 38) (a (18 + s)) to c).toList) K (code + 1)).foldl (jz a (a (8 + s)) (a (18 + s), a (13 + s), 0)) (jz a (a (8 + s)) (a (18 + s), a (13 + s), 0) b p)) j, ν) ∧ Ch (fun q j => q = 232 ∧ j = 24) (fun q _ => q = 241) μ ν := by
        intro hq
        rw [hq] at hne ⊢
        obtain ⟨ν, u1, u2⟩ := ih _ _ _ _ μ2 (by omega) (by omega) ha2 hb hne
        exact ⟨ν, u1, cc.trans u2⟩
      cases b with
      | none =>
        have hb : most = -n3 1 := hb
        rw [if_pos (by rw [hb, nn_lt (by omega) (by omega) (by omega)]; exact trivial)]
        exact take (by rw [jz, hz]; rfl)
      | some q =>
        obtain ⟨k1, k2, k3, -, -, c', hc', -, kr⟩ := id hb
        have lq := ((v_lh' (M := a 38) (f := a (18 + s)) (t := to) (c := c') (by omega) wS.2.2 (by omega) hc').2 _ kr).1
        by_cases c1 : q.1 < z.2.1
        · rw [if_pos (by rw [k1, n3_lt (by omega) (by omega)]; exact c1)]
          exact take (by rw [jz, hz, jdg, if_pos (.inl c1)])
        · rw [if_neg (by rw [k1, n3_lt (by omega) (by omega)]; exact c1)]
          by_cases c2 : z.2.1 = q.1
          · rw [if_neg (show ¬ ¬ n3 z.2.1 = most from fun n => n (by rw [k1, c2]))]
            by_cases c3 : q.2.2.length ≤ p.length
            · rw [if_pos (by rw [k2, n3_le (by omega) (by omega)]; exact c3)]
              exact leave (by rw [jz, hz, jdg, if_neg (by omega)])
            · rw [if_neg (by rw [k2, n3_le (by omega) (by omega)]; exact c3)]
              exact take (by rw [jz, hz, jdg, if_pos (by omega)])
          · rw [if_pos (by rw [k1, n3_eq (by omega) (by omega)]; exact c2)]
            exact leave (by rw [jz, hz, jdg, if_neg (by omega)])
theorem jz_some {k : Nat} {z0 : Nat × Nat × Nat} : ∀ (l : List (List Nat)) (b : Option (Nat × Nat × List Nat)), b ≠ none ∨ l ≠ [] → l.foldl (jz a k z0) b ≠ none
  | [], b, h => h.resolve_right (fun c => c rfl)
  | p :: l, b, _ => by
    refine jz_some l (jz a k z0 b p) (.inl ?_)
    unfold jz jdg
    cases b with
    | none => intro c; cases c
    | some q =>
      dsimp only
      split <;> (intro c; cases c)
theorem c_wans {b : Option (Nat × Nat × List Nat)} {j : Nat} (h : BR ν b) (hne : b ≠ none) (hj : j ≤ 1 ∨ (10 ≤ j ∧ j ≤ 13)) : (if ¬ n3 j = 0 then (if ¬ n3 j = 1 then (if (ν.1 129 2) ≤ (n3 j - 10) then some ((-4 : Int32), ν) else (if ab_in (n3 j - 10) 4 = true then some ((ν.2.1 131 (n3 j - 10).toNatClampNeg), ν) else none)) else some ((ν.1 129 4), ν)) else some ((ν.1 129 3), ν)) = some (wAns b j, ν) := by
  cases b with
  | none => exact absurd rfl hne
  | some q =>
    obtain ⟨k1, k2, k3, k4, k5, k6⟩ := h
    rw [wAns]
    by_cases j0 : j = 0
    · rw [if_neg (show ¬ ¬ n3 j = 0 from fun n => n (by rw [j0]; rfl)), if_pos j0, k2]
    · rw [if_pos (show ¬ n3 j = 0 by rw [n3_k0, n3_eq (by omega) (by omega)]; exact j0), if_neg j0]
      by_cases j1 : j = 1
      · rw [if_neg (show ¬ ¬ n3 j = 1 from fun n => n (by rw [j1]; rfl)), if_pos j1, k3]
      · rw [if_pos (show ¬ n3 j = 1 by rw [n3_one, n3_eq (by omega) (by omega)]; exact j1), if_neg j1, n3_k10, n3_sub (by omega), k1]
        by_cases c1 : q.2.2.length ≤ j - 10
        · rw [if_pos (by rw [n3_le (by omega) (by omega)]; exact c1), List.getElem?_eq_none c1, n3_k4]
        · rw [if_neg (by rw [n3_le (by omega) (by omega)]; exact c1), if_pos (n3_in (by omega) (by omega)), n3_cl (by omega), List.getElem?_eq_getElem (show j - 10 < q.2.2.length by omega), k4 (j - 10) _ (List.getElem?_eq_getElem (show j - 10 < q.2.2.length by omega))]
theorem c_inany (z : Int32) : ∃ v, f_X8_isIn F z 10 13 μ = some (v, μ) := by
  unfold f_X8_isIn
  split
  · exact ⟨_, rfl⟩
  · split <;> exact ⟨_, rfl⟩
theorem ok_way (h : R μ) (hF : 200 < F) (x y z : Int32) : OK2 (f_X8_way F x y z) (f_X9_way F x y z) μ := by
  obtain ⟨a, wf, bm, hw, hp⟩ := h.1
  have b := wf.1
  rcases n3_cases x (a 23) (by omega) with ⟨s, hs, rfl⟩ | hx
  · have hd := fun μ (hw : AW μ 101 a) => c_stoneT (F := F) hw wf hs
    have kd := m_stoneT (F := F) hp wf hs
    rcases n3_cases y (a 38) (by omega) with ⟨p, hq, rfl⟩ | hy
    · have hd2 := c_oneT (F := F) hw wf hq
      have kd2 := m_oneT (F := F) hp wf hq
      have hd := hd μ hw
      have e := hw.z.2.2.1 s hs
      have e' := hp.z.2.2.2.1 s hs
      have wS := wf.2.2.1 s hs
      have bad : f_X8_isIn F z (n3 10) (n3 13) μ = some (n3 0, μ) → f_X8_isIn F z (n3 0) (n3 1) μ = some (n3 0, μ) → ¬ z = n3 0 → ¬ z = n3 1 → f_X9_in F z.toInt64 (Int64.ofNat 10) (Int64.ofNat 13) μ = some (n3 0, μ) → OK2 (f_X8_way F (n3 s) (n3 p) z) (f_X9_way F (n3 s) (n3 p) z) μ := by
        intro c1 c2 c3 c4 c5
        refine OK2.same h (v := -n3 1) ?_ ?_
        · unfold f_X8_way
          rw [n3_k10, n3_k13, c1, Option.bind_some]
          dsimp only
          rw [hd, Option.bind_some, if_neg (show ¬ n3 1 = 0 by decide)]
          dsimp only
          rw [hd2, Option.bind_some, if_neg (show ¬ n3 1 = 0 by decide)]
          dsimp only
          rw [n3_k0, n3_one, c2, Option.bind_some, if_neg (show ¬ ¬ n3 0 = n3 0 from fun n => n rfl)]
          exact if_neg (fun n => n rfl)
        · simp (disch := omega) only [f_X9_way, ↓reduceIte, Option.bind_some, n3_lit, n3_cl, n3_in, n3_ltT, n3_ltF, n3_leT, n3_leF, n3_eqT, n3_eqF, n3_add, n3_sub, not_true_eq_false, not_false_eq_true, true_or, or_true, false_or, or_false, Nat.zero_add, Nat.add_zero, nn_lt, nn_le, nn_gt, nn_ge, nn_eq, nn_qe, kd, kd2, eq_false c3, eq_false c4, c5]
      rcases n3_cases z 14 (by decide) with ⟨j, hj, rfl⟩ | hz
      · by_cases cj : 2 ≤ j ∧ j ≤ 9
        · exact bad (c_isInF (by omega) (by omega) (by omega) (by omega)) (c_isInF (by omega) (by omega) (by omega) (by omega)) (by rw [n3_eq (by omega) (by omega)]; omega) (by rw [n3_eq (by omega) (by omega)]; omega) (m_inF (by omega) (by omega) (by omega) (by omega))
        · have hj2 : j ≤ 1 ∨ (10 ≤ j ∧ j ≤ 13) := by omega
          by_cases cs : a (18 + s) = p
          · refine OK2.same h (v := -n3 2) ?_ ?_
            · unfold f_X8_way
              rcases hj2 with c | c
              · rw [n3_k10, n3_k13, c_isInF (by omega) (by omega) (by omega) (by omega), Option.bind_some]
                dsimp only
                rw [hd, Option.bind_some, if_neg (show ¬ n3 1 = 0 by decide)]
                dsimp only
                rw [hd2, Option.bind_some, if_neg (show ¬ n3 1 = 0 by decide)]
                dsimp only
                rw [n3_k0, n3_one, c_isInT (by omega) (by omega) (by omega), Option.bind_some, if_pos (show ¬ n3 1 = n3 0 by decide), if_pos (n3_in (by omega) (by omega)), n3_cl (by omega)]
                dsimp only
                rw [e.2.2, cs, n3_k2]
                exact if_neg (fun n => n rfl)
              · rw [n3_k10, n3_k13, c_isInT (by omega) (by omega) (by omega), Option.bind_some]
                dsimp only
                rw [hd, Option.bind_some, if_neg (show ¬ n3 1 = 0 by decide)]
                dsimp only
                rw [hd2, Option.bind_some, if_neg (show ¬ n3 1 = 0 by decide)]
                dsimp only
                rw [n3_k0, n3_one, c_isInF (by omega) (by omega) (by omega) (by omega), Option.bind_some, if_neg (show ¬ ¬ n3 0 = n3 0 from fun n => n rfl), if_pos (show ¬ n3 1 = n3 0 by decide), if_pos (n3_in (by omega) (by omega)), n3_cl (by omega)]
                dsimp only
                rw [e.2.2, cs, n3_k2]
                exact if_neg (fun n => n rfl)
            · rcases hj2 with c | c
              · rcases (show j = 0 ∨ j = 1 by omega) with rfl | rfl
                · simp (disch := omega) only [f_X9_way, ↓reduceIte, Option.bind_some, n3_lit, n3_cl, n3_in, n3_ltT, n3_ltF, n3_leT, n3_leF, n3_eqT, n3_eqF, n3_add, n3_sub, not_true_eq_false, not_false_eq_true, true_or, or_true, false_or, or_false, Nat.zero_add, Nat.add_zero, nn_lt, nn_le, nn_gt, nn_ge, nn_eq, nn_qe, kd, kd2, e'.2.2, cs]
                · simp (disch := omega) only [f_X9_way, ↓reduceIte, Option.bind_some, n3_lit, n3_cl, n3_in, n3_ltT, n3_ltF, n3_leT, n3_leF, n3_eqT, n3_eqF, n3_add, n3_sub, not_true_eq_false, not_false_eq_true, true_or, or_true, false_or, or_false, Nat.zero_add, Nat.add_zero, nn_lt, nn_le, nn_gt, nn_ge, nn_eq, nn_qe, kd, kd2, e'.2.2, cs]
              · simp (disch := omega) only [f_X9_way, ↓reduceIte, Option.bind_some, n3_lit, n3_cl, n3_in, n3_ltT, n3_ltF, n3_leT, n3_leF, n3_eqT, n3_eqF, n3_add, n3_sub, not_true_eq_false, not_false_eq_true, true_or, or_true, false_or, or_false, Nat.zero_add, Nat.add_zero, nn_lt, nn_le, nn_gt, nn_ge, nn_eq, nn_qe, kd, kd2, m_inT, e'.2.2, cs]
          · obtain ⟨μ1, q1, q2, q3⟩ := c_wfind (F := F) hw wf hs hq (by omega)
            obtain ⟨v1, v2⟩ := v_ways' (M := a 38) (f := a (18 + s)) (t := p) (by omega) wS.2.2 hq cs
            have ne := jz_some (a := a) (k := a (8 + s)) (z0 := (a (18 + s), a (13 + s), 0)) (pths (a 38) p 8 [] (a (18 + s)) (2 ^ a (18 + s))) none (.inr v2)
            have hp1 : AP μ1 0 a := hp.ch wf q3 (by omega) (by omega) (by omega) (by omega) (by omega)
            obtain ⟨μ2, t1, t2⟩ := m_way_l (F := F) wf (s := s) (to := p) (j := j) hs hq hj2 hF 125 0 F none (-n3 1) (n3 1000) (n3 0) μ1 (by omega) (by omega) hp1 rfl (by rw [v1]; exact ne)
            rw [v1] at t1
            have ans := c_wans (j := j) q2 ne hj2
            have kd1 := m_stoneT (F := F) hp1 wf hs
            have kd21 := m_oneT (F := F) hp1 wf hq
            have e1 := hp1.z.2.2.2.1 s hs
            refine ⟨wAns ((pths (a 38) p 8 [] (a (18 + s)) (2 ^ a (18 + s))).foldl (jz a (a (8 + s)) (a (18 + s), a (13 + s), 0)) none) j, μ1, μ2, ?_, ?_, h.free ((q3.weak (fun q j c => by omega) (fun q j c => by omega)).trans (t2.weak (fun q j c => by omega) (fun q j c => by omega)))⟩
            · rw [← ans]
              have nn : ¬ n3 (a (18 + s)) = n3 p := by rw [n3_eq (by omega) (by omega)]; exact cs
              unfold f_X8_way
              rcases hj2 with c | c
              · rw [n3_k10, n3_k13, c_isInF (by omega) (by omega) (by omega) (by omega), Option.bind_some]
                dsimp only
                rw [hd, Option.bind_some, if_neg (show ¬ n3 1 = 0 by decide)]
                dsimp only
                rw [hd2, Option.bind_some, if_neg (show ¬ n3 1 = 0 by decide)]
                dsimp only
                rw [n3_k0, n3_one, c_isInT (by omega) (by omega) (by omega), Option.bind_some, if_pos (show ¬ n3 1 = n3 0 by decide), if_pos (n3_in (by omega) (by omega)), n3_cl (by omega)]
                dsimp only
                rw [e.2.2, if_pos nn, q1, Option.bind_some]
              · rw [n3_k10, n3_k13, c_isInT (by omega) (by omega) (by omega), Option.bind_some]
                dsimp only
                rw [hd, Option.bind_some, if_neg (show ¬ n3 1 = 0 by decide)]
                dsimp only
                rw [hd2, Option.bind_some, if_neg (show ¬ n3 1 = 0 by decide)]
                dsimp only
                rw [n3_k0, n3_one, c_isInF (by omega) (by omega) (by omega) (by omega), Option.bind_some, if_neg (show ¬ ¬ n3 0 = n3 0 from fun n => n rfl), if_pos (show ¬ n3 1 = n3 0 by decide), if_pos (n3_in (by omega) (by omega)), n3_cl (by omega)]
                dsimp only
                rw [e.2.2, if_pos nn, q1, Option.bind_some]
            · rw [← t1]
              have nn : ¬ n3 (a (18 + s)) = n3 p := by rw [n3_eq (by omega) (by omega)]; exact cs
              rcases hj2 with c | c
              · rcases (show j = 0 ∨ j = 1 by omega) with rfl | rfl
                · simp (disch := omega) only [f_X9_way, ↓reduceIte, Option.bind_some, n3_lit, n3_cl, n3_in, n3_ltT, n3_ltF, n3_leT, n3_leF, n3_eqT, n3_eqF, n3_add, n3_sub, not_true_eq_false, not_false_eq_true, true_or, or_true, false_or, or_false, Nat.zero_add, Nat.add_zero, nn_lt, nn_le, nn_gt, nn_ge, nn_eq, nn_qe, kd1, kd21, e1.2.2, nn]
                · simp (disch := omega) only [f_X9_way, ↓reduceIte, Option.bind_some, n3_lit, n3_cl, n3_in, n3_ltT, n3_ltF, n3_leT, n3_leF, n3_eqT, n3_eqF, n3_add, n3_sub, not_true_eq_false, not_false_eq_true, true_or, or_true, false_or, or_false, Nat.zero_add, Nat.add_zero, nn_lt, nn_le, nn_gt, nn_ge, nn_eq, nn_qe, kd1, kd21, e1.2.2, nn]
              · simp (disch := omega) only [f_X9_way, ↓reduceIte, Option.bind_some, n3_lit, n3_cl, n3_in, n3_ltT, n3_ltF, n3_leT, n3_leF, n3_eqT, n3_eqF, n3_add, n3_sub, not_true_eq_false, not_false_eq_true, true_or, or_true, false_or, or_false, Nat.zero_add, Nat.add_zero, nn_lt, nn_le, nn_gt, nn_ge, nn_eq, nn_qe, kd1, kd21, m_inT, e1.2.2, nn]
      · have hz2 : z < n3 0 ∨ n3 2 ≤ z := by
          have := n3_out (by decide) hz
          rw [Int32.lt_iff_toInt_lt, Int32.le_iff_toInt_le, n3_int (by omega), n3_int (by omega)]; omega
        exact bad (c_isInO hz (by omega) (by omega)) (c_isInO hz2 (by omega) (by omega)) (n3_outA (by decide) hz 0 (by omega)) (n3_outA (by decide) hz 1 (by omega)) (m_inO hz (by omega) (by omega))
    · refine OK2.same h (v := -n3 1) ?_ ?_
      · have hd := hd μ hw
        obtain ⟨v, q8⟩ := c_inany (F := F) (μ := μ) z
        unfold f_X8_way
        rw [q8, Option.bind_some]
        dsimp only
        rw [hd, Option.bind_some, if_neg (show ¬ n3 1 = 0 by decide)]
        dsimp only
        rw [c_oneF hw hy, Option.bind_some, n3_one]
        exact if_pos rfl
      · simp (disch := omega) only [f_X9_way, ↓reduceIte, Option.bind_some, n3_lit, n3_cl, n3_in, n3_ltT, n3_ltF, n3_leT, n3_leF, n3_eqT, n3_eqF, n3_add, n3_sub, not_true_eq_false, not_false_eq_true, true_or, or_true, false_or, or_false, Nat.zero_add, Nat.add_zero, nn_lt, nn_le, nn_gt, nn_ge, nn_eq, nn_qe, kd, m_oneF hp wf hy]
  · refine OK2.same h (v := -n3 1) ?_ ?_
    · obtain ⟨v, q8⟩ := c_inany (F := F) (μ := μ) z
      unfold f_X8_way
      rw [q8, Option.bind_some]
      dsimp only
      rw [c_stoneF hw hx, Option.bind_some, n3_one]
      exact if_pos rfl
    · simp (disch := omega) only [f_X9_way, ↓reduceIte, Option.bind_some, n3_lit, n3_cl, n3_in, n3_ltT, n3_ltF, n3_leT, n3_leF, n3_eqT, n3_eqF, n3_add, n3_sub, not_true_eq_false, not_false_eq_true, true_or, or_true, false_or, or_false, Nat.zero_add, Nat.add_zero, nn_lt, nn_le, nn_gt, nn_ge, nn_eq, nn_qe, m_stoneF hp wf hx]
end VS54
