/-! the fewest stones: the reference, both -/
def dg : Nat → Nat → List Nat
  | 0, _ => []
  | m + 1, c => (c / 5 ^ m % 5) :: dg m c
def tld : List Nat → Nat
  | [] => 0
  | s :: r => tld r ||| 2 ^ s
def vld (b : Nat → Nat) (who : Nat) : List Nat → Bool
  | [] => true
  | s :: r => vld b who r && (decide (s < b 23) && (decide (b (18 + s) = who) && decide (tld r / 2 ^ s % 2 = 0)))
def pays (cr : Nat) (b : Nat → Nat) (r : List Nat) : Nat → Nat := r.foldl (fun b s => hand b s cr) b
theorem dg_len : ∀ m c, (dg m c).length = m
  | 0, _ => rfl
  | m + 1, c => by rw [dg, List.length_cons, dg_len m c]
theorem dg_lt : ∀ m c s, s ∈ dg m c → s < 5
  | 0, _, s, h => by cases h
  | m + 1, c, s, h => by
    rcases List.mem_cons.mp h with e | e
    · rw [e]; exact Nat.mod_lt _ (by omega)
    · exact dg_lt m c s e
theorem tld_bit : ∀ (r : List Nat), (∀ s ∈ r, s < 5) → tld r < 32 ∧ ∀ t, t < 5 → (tld r / 2 ^ t % 2 = 1 ↔ t ∈ r)
  | [], _ => ⟨by decide, fun t ht => by
      show 0 / 2 ^ t % 2 = 1 ↔ _
      rw [Nat.zero_div]
      constructor
      · intro c; cases c
      · intro c; cases c⟩
  | s :: r, h => by
    have h5 := h s List.mem_cons_self
    obtain ⟨i1, i2⟩ := tld_bit r (fun t ht => h t (List.mem_cons_of_mem _ ht))
    refine ⟨(v_m5' i1 h5).2.2, fun t ht => ?_⟩
    rw [tld, v_set' i1 h5 ht]
    by_cases c : t = s
    · rw [if_pos c]
      constructor
      · intro _; rw [c]; exact List.mem_cons_self
      · intro _; rfl
    · rw [if_neg c, i2 t ht]
      constructor
      · intro q; exact List.mem_cons_of_mem _ q
      · intro q
        rcases List.mem_cons.mp q with e | e
        · exact absurd e c
        · exact e
theorem vld_cons (b : Nat → Nat) (who s : Nat) (r : List Nat) : vld b who (s :: r) = true ↔ (vld b who r = true ∧ s < b 23 ∧ b (18 + s) = who ∧ tld r / 2 ^ s % 2 = 0) := by
  rw [vld, Bool.and_eq_true, Bool.and_eq_true, Bool.and_eq_true, decide_eq_true_eq, decide_eq_true_eq, decide_eq_true_eq]
theorem vld_all (b : Nat → Nat) (who : Nat) : ∀ r, vld b who r = true → ∀ s ∈ r, s < b 23
  | [], _, s, h => by cases h
  | t :: r, hv, s, h => by
    rw [vld_cons] at hv
    rcases List.mem_cons.mp h with e | e
    · rw [e]; exact hv.2.1
    · exact vld_all b who r hv.1 s e
theorem vld_hand {b : Nat → Nat} {dbt cr s : Nat} (wf : WF b) (hs : s < b 23) (ho : b (18 + s) = dbt) (hne : cr ≠ dbt) : ∀ (r : List Nat), (∀ t ∈ r, t < 5) → (vld (hand b s cr) dbt r = true ↔ (vld b dbt r = true ∧ ¬ s ∈ r))
  | [], _ => by
    constructor
    · intro _; exact ⟨rfl, fun c => by cases c⟩
    · intro _; rfl
  | t :: r, h => by
    have h5 := h t List.mem_cons_self
    have ih := vld_hand wf hs ho hne r (fun t ht => h t (List.mem_cons_of_mem _ ht))
    rw [vld_cons, vld_cons, ih, hand_n wf hs (by omega), hand_o wf hs h5]
    by_cases c : t = s
    · rw [if_pos c]
      constructor
      · intro q; exact absurd q.2.2.1 hne
      · intro q; exact absurd (by rw [c]; exact List.mem_cons_self) q.2
    · rw [if_neg c]
      constructor
      · rintro ⟨⟨q1, q2⟩, q3, q4, q5⟩
        refine ⟨⟨q1, q3, q4, q5⟩, fun m => ?_⟩
        rcases List.mem_cons.mp m with e | e
        · exact c e.symm
        · exact q2 e
      · rintro ⟨⟨q1, q3, q4, q5⟩, q2⟩
        exact ⟨⟨q1, fun m => q2 (List.mem_cons_of_mem _ m)⟩, q3, q4, q5⟩
theorem frs_map {α β : Type} {g : Nat → Option α} {h : α → β} : ∀ (k i : Nat), frs (fun c => (g c).map h) k i = (frs g k i).map h
  | 0, _ => rfl
  | k + 1, i => by
    rw [frs, frs]
    cases g i with
    | some r => rfl
    | none => exact frs_map k (i + 1)
theorem frs_mul {α : Type} {f : Nat → Option α} {N : Nat} : ∀ (k i : Nat), frs f (k * N) (i * N) = frs (fun s => frs f N (s * N)) k i
  | 0, i => by rw [Nat.zero_mul]; rfl
  | k + 1, i => by
    rw [show (k + 1) * N = N + k * N by rw [Nat.add_mul, Nat.one_mul, Nat.add_comm], frs_add N (k * N) (i * N), frs, ← frs_mul k (i + 1), Nat.add_mul, Nat.one_mul]
theorem v_dg : ((List.range 5).all fun n => (List.range 5).all fun s => (List.range (5 ^ n)).all fun c => decide (dg (n + 1) (s * 5 ^ n + c) = s :: dg n c)) = true := by decide +kernel
theorem v_dg' {n s c : Nat} (hn : n < 5) (hs : s < 5) (hc : c < 5 ^ n) : dg (n + 1) (s * 5 ^ n + c) = s :: dg n c :=
  of_decide_eq_true (List.all_eq_true.mp (List.all_eq_true.mp (List.all_eq_true.mp v_dg n (List.mem_range.mpr hn)) s (List.mem_range.mpr hs)) c (List.mem_range.mpr hc))
/-- what a code of the reference's search gives -/
def rfC (dbt cr d n : Nat) (b : Nat → Nat) (c : Nat) : Option (List Nat) := if vld b dbt (dg n c) = true ∧ pays cr b (dg n c) (33 + d) = 0 then some (dg n c) else none
theorem rf_srch {dbt cr d : Nat} (hne : cr ≠ dbt) : ∀ (n : Nat) (b : Nat → Nat), n ≤ 5 → WF b → cr < b 38 → frs (rfC dbt cr d n b) (5 ^ n) 0 = srch dbt cr d n b
  | 0, b, _, wf, hc => by
    rw [Nat.pow_zero, frs, frs, srch]
    unfold rfC
    by_cases c : b (33 + d) = 0
    · rw [if_pos ⟨rfl, c⟩, if_pos c]; rfl
    · rw [if_neg (fun q => c q.2), if_neg c]
  | n + 1, b, hn, wf, hc => by
    have b4 := wf.1
    have e0 : frs (rfC dbt cr d (n + 1) b) (5 ^ (n + 1)) 0 = frs (fun s => frs (rfC dbt cr d (n + 1) b) (5 ^ n) (s * 5 ^ n)) 5 0 := by
      have := frs_mul (f := rfC dbt cr d (n + 1) b) (N := 5 ^ n) 5 0
      rw [Nat.zero_mul] at this
      rw [← this, Nat.pow_succ, Nat.mul_comm]
    rw [e0, srch]
    refine frs_congr 5 0 0 (fun s hs => ?_)
    rw [Nat.zero_add]
    by_cases c : s < b 23 ∧ b (18 + s) = dbt
    · rw [if_pos c, ← rf_srch hne n (hand b s cr) (by omega) (hand_wf wf c.1 hc) (by rw [hand_n wf c.1 (by omega)]; exact hc), ← frs_map]
      refine frs_congr _ _ _ (fun q hq => ?_)
      rw [Nat.zero_add]
      unfold rfC
      rw [v_dg' (by omega) (by omega) hq]
      have vh := vld_hand wf c.1 c.2 hne (dg n q) (dg_lt n q)
      have tb := (tld_bit (dg n q) (dg_lt n q)).2 s (by omega)
      have two := Nat.mod_lt (tld (dg n q) / 2 ^ s) (show 0 < 2 by omega)
      have pe : pays cr b (s :: dg n q) = pays cr (hand b s cr) (dg n q) := rfl
      rw [pe]
      by_cases v : vld b dbt (s :: dg n q) = true
      · have v' := (vld_cons b dbt s (dg n q)).mp v
        have vv : vld (hand b s cr) dbt (dg n q) = true := vh.mpr ⟨v'.1, fun m => by have := tb.mpr m; omega⟩
        by_cases z : pays cr (hand b s cr) (dg n q) (33 + d) = 0
        · rw [if_pos ⟨v, z⟩, if_pos ⟨vv, z⟩]; rfl
        · rw [if_neg (fun q => z q.2), if_neg (fun q => z q.2)]; rfl
      · have vv : ¬ vld (hand b s cr) dbt (dg n q) = true := fun m => v ((vld_cons b dbt s (dg n q)).mpr ⟨(vh.mp m).1, c.1, c.2, by
          by_cases z : tld (dg n q) / 2 ^ s % 2 = 1
          · exact absurd (tb.mp z) (vh.mp m).2
          · omega⟩)
        rw [if_neg (fun q => v q.1), if_neg (fun q => vv q.1)]; rfl
    · rw [if_neg c]
      refine frs_none _ _ (fun j h1 h2 => ?_)
      obtain ⟨q, rfl⟩ : ∃ q, j = s * 5 ^ n + q := ⟨j - s * 5 ^ n, by omega⟩
      unfold rfC
      rw [v_dg' (by omega) (by omega) (by omega), if_neg (fun z => c (by
        have := (vld_cons b dbt s (dg n q)).mp z.1
        exact ⟨this.2.1, this.2.2.1⟩))]
section VS57
variable {F : Nat} {μ ν : fm_M} {a b : Nat → Nat} {w : Nat}
theorem v_nm : ((List.range 6).all fun n => (List.range 6).all fun m => decide (n < m + 1 ∨ (n3 n - n3 (m + 1) + -1 = n3 n - n3 (m + 1 + 1)))) = true := by decide +kernel
theorem v_nn : ((List.range 6).all fun n => decide ((n3 n - n3 (n + 1)) < 0 ∧ (n3 n - 1 = n3 n - n3 (0 + 1)))) = true := by decide +kernel
theorem m_row_l {P who n c : Nat} (hP : AP μ P b) (wf : WF b) (hPl : P ≤ 190) (hn : n ≤ 5) (hwho : who < 1000) (hc : c < 3125) : ∀ (K m f : Nat) (ν : fm_M), m + K = n → K < f → Ch (fun _ _ => False) (fun q _ => q = 242) μ ν → (∀ j x, (dg m c)[j]? = some x → ν.2.1 242 (n - m + j) = n3 x) → ∃ ρ, g_X9_laysRow F f 14 (n3 P) (n3 who) (n3 (c / 5 ^ m)) (n3 (tld (dg m c))) (n3 (bi (vld b who (dg m c)))) (n3 n - n3 (m + 1)) ν = some (n3 (bi (vld b who (dg n c))), ρ) ∧ LR ρ 242 (dg n c) ∧ Ch (fun _ _ => False) (fun q _ => q = 242) μ ρ
  | 0, m, f + 1, ν, hm, _, hch, hr => by
    obtain rfl : m = n := by omega
    have q := of_decide_eq_true (List.all_eq_true.mp v_nn m (List.mem_range.mpr (by omega)))
    refine ⟨ν, ?_, fun j x hj => ?_, hch⟩
    · rw [g_X9_laysRow, if_pos rfl, b_X9_laysRow_14, if_pos q.1, if_pos (by cases vld b who (dg m c); exact .inl rfl; exact .inr rfl)]
    · have := hr j x hj
      rwa [Nat.sub_self, Nat.zero_add] at this
  | K + 1, m, f + 1, ν, hm, hf, hch, hr => by
    have b4 := wf.1
    have hP2 := hP.ch wf hch id id (by omega) (by omega) (by omega)
    have qn := (of_decide_eq_true (List.all_eq_true.mp (List.all_eq_true.mp v_nm n (List.mem_range.mpr (by omega))) m (List.mem_range.mpr (by omega)))).resolve_left (by omega)
    have h23 := hP2.2.1.1
    have cl : c / 5 ^ m < 3125 := Nat.lt_of_le_of_lt (Nat.div_le_self _ _) hc
    have hs5 : c / 5 ^ m % 5 < 5 := Nat.mod_lt _ (by omega)
    obtain ⟨t32, -⟩ := tld_bit (dg m c) (dg_lt m c)
    have bits := v_m5' t32 hs5
    have e1 : n3 (c / 5 ^ m) - n3 (c / 5 ^ m) / 5 * 5 = n3 (c / 5 ^ m % 5) := by rw [n3_k5, n3_rem (by omega) (by omega)]
    have e2 : n3 (c / 5 ^ m) / 5 = n3 (c / 5 ^ (m + 1)) := by rw [n3_k5, n3_div (by omega) (by omega), Nat.pow_succ, Nat.div_div_eq_div_mul]
    have e3 : n3 n - n3 (m + 1) = n3 (n - (m + 1)) := n3_sub (by omega)
    generalize hρ : fm_sA ν 242 (upd (ν.2.1 242) (n - (m + 1)) (n3 (c / 5 ^ m % 5))) = ρ
    have hch2 : Ch (fun _ _ => False) (fun q _ => q = 242) μ ρ := by rw [← hρ]; exact hch.sG (fun _ => rfl)
    have hr2 : ∀ j x, (dg (m + 1) c)[j]? = some x → ρ.2.1 242 (n - (m + 1) + j) = n3 x := by
      intro j x hj
      rw [← hρ, fm_sA_eq rfl]
      match j, hj with
      | 0, hj => cases hj; rw [upd_eq (by omega)]
      | j + 1, hj =>
        have := hr j x hj
        rw [upd_ne (by omega), show n - (m + 1) + (j + 1) = n - m + j by omega]; exact this
    obtain ⟨σ, r1, r2, r3⟩ := m_row_l hP wf hPl hn hwho hc K (m + 1) f ρ (by omega) (by omega) hch2 hr2
    refine ⟨σ, ?_, r2, r3⟩
    have in5 : ab_in (n3 n - n3 (m + 1)) 5 = true := by rw [e3]; exact n3_in (by omega) (by omega)
    have ecl : (n3 n - n3 (m + 1)).toNatClampNeg = n - (m + 1) := by rw [e3, n3_cl (by omega)]
    rw [← r1, g_X9_laysRow, if_pos rfl, b_X9_laysRow_14, if_neg (by rw [e3, n3_k0, n3_lt (by omega) (by omega)]; omega), e1, e2, bits.1, bits.2.1, qn, ecl]
    simp only [if_pos in5, Option.bind_some, hρ]
    have td : tld (dg (m + 1) c) = tld (dg m c) ||| 2 ^ (c / 5 ^ m % 5) := rfl
    rw [td]
    have two := Nat.mod_lt (tld (dg m c) / 2 ^ (c / 5 ^ m % 5)) (show 0 < 2 by omega)
    have vd : vld b who (dg (m + 1) c) = (vld b who (dg m c) && (decide (c / 5 ^ m % 5 < b 23) && (decide (b (18 + c / 5 ^ m % 5) = who) && decide (tld (dg m c) / 2 ^ (c / 5 ^ m % 5) % 2 = 0)))) := rfl
    rw [vd]
    generalize c / 5 ^ m % 5 = s at *
    cases hv : vld b who (dg m c) with
    | false =>
      rw [if_pos (show n3 (bi false) = 0 by decide), Bool.false_and]
      rfl
    | true =>
      rw [if_neg (show ¬ n3 (bi true) = 0 by decide), Bool.true_and, show (23 : Int32) = n3 23 from n3_lit 23, n3_add, if_pos (n3_in (by omega) (by omega)), n3_cl (by omega), h23]
      by_cases c1 : b 23 ≤ s
      · rw [if_pos (by rw [n3_le (by omega) (by omega)]; exact c1), decide_eq_false (show ¬ s < b 23 by omega), Bool.false_and]
        rfl
      · have eo := (hP2.2.2.2.1 s (by omega)).2.2
        have wo := wf.2.2.1 s (by omega)
        rw [if_neg (by rw [n3_le (by omega) (by omega)]; exact c1), decide_eq_true (show s < b 23 by omega), Bool.true_and, n3_k18, n3_add, n3_add, if_pos (n3_in (by omega) (by omega)), n3_cl (by omega), eo]
        by_cases c2 : b (18 + s) = who
        · rw [if_neg (show ¬ ¬ n3 (b (18 + s)) = n3 who from fun n => n (by rw [c2])), decide_eq_true c2, Bool.true_and]
          by_cases c3 : tld (dg m c) / 2 ^ s % 2 = 0
          · rw [if_neg (show ¬ ¬ n3 (tld (dg m c) / 2 ^ s % 2) = 0 from fun n => n (by rw [c3]; rfl)), decide_eq_true c3]
            rfl
          · rw [if_pos (show ¬ n3 (tld (dg m c) / 2 ^ s % 2) = 0 by rw [n3_k0, n3_eq (by omega) (by omega)]; exact c3), decide_eq_false c3]
            rfl
        · rw [if_pos (show ¬ n3 (b (18 + s)) = n3 who by rw [n3_eq (by omega) (by omega)]; exact c2), decide_eq_false c2, Bool.false_and]
          rfl
theorem m_row {P who n c : Nat} (hP : AP μ P b) (wf : WF b) (hPl : P ≤ 190) (hn : n ≤ 5) (hwho : who < 1000) (hc : c < 3125) (hF : 100 < F) : ∃ ρ, f_X9_laysRow F (n3 P) (n3 c) (n3 n) (n3 who) μ = some (n3 (bi (vld b who (dg n c))), ρ) ∧ LR ρ 242 (dg n c) ∧ Ch (fun _ _ => False) (fun q _ => q = 242) μ ρ := by
  obtain ⟨ρ, r1, r2⟩ := m_row_l (F := F) hP wf hPl hn hwho hc n 0 F μ (by omega) (by omega) (Ch.refl _ _ μ) (fun j x hj => by cases hj)
  refine ⟨ρ, ?_, r2⟩
  have q := of_decide_eq_true (List.all_eq_true.mp v_nn n (List.mem_range.mpr (by omega)))
  rw [Nat.pow_zero, Nat.div_one, ← q.2] at r1
  exact r1
theorem pays_n {cr : Nat} : ∀ (r : List Nat) (b : Nat → Nat), WF b → cr < b 38 → (∀ s ∈ r, s < b 23) → WF (pays cr b r) ∧ ∀ j, (j < 13 ∨ (23 ≤ j ∧ j < 33) ∨ 38 ≤ j) → pays cr b r j = b j
  | [], b, wf, _, _ => ⟨wf, fun _ _ => rfl⟩
  | s :: r, b, wf, hc, h => by
    have hs := h s List.mem_cons_self
    obtain ⟨q1, q2⟩ := pays_n (cr := cr) r (hand b s cr) (hand_wf wf hs hc) (by rw [hand_n wf hs (by omega)]; exact hc) (fun t ht => by rw [hand_n wf hs (by omega)]; exact h t (List.mem_cons_of_mem _ ht))
    exact ⟨q1, fun j hj => (q2 j hj).trans (hand_n wf hs hj)⟩
def tryC (q j : Nat) : Prop := (q = 233 ∧ 152 ≤ j ∧ j < 190) ∨ q = 242 ∨ q = 243
theorem m_pay59 {P d : Nat} {x3 : Int32} {c : Nat} {r : List Nat} (wf : WF a) (hd : d < a 39) (hrl : r.length ≤ 5) (hall : ∀ s ∈ r, s < a 23) (hF : 1000 < F) : ∀ (suf pre : List Nat) (f : Nat) (μ : fm_M), r = pre ++ suf → AP μ 152 (pays (a (44 + d)) a pre) → LR μ 242 r → LR μ 243 pre → (∀ i, i < a 39 → μ.2.1 234 (2 * i) = n3 (a (40 + i)) ∧ μ.2.1 234 (2 * i + 1) = n3 (a (44 + i))) → ∃ ν, g_X9_fewestFrom F (f + suf.length + 1) 59 (n3 P) (n3 d) x3 (n3 r.length) (n3 c) (n3 pre.length) μ = (if pays (a (44 + d)) a r (33 + d) = 0 then some (n3 r.length, ν) else g_X9_fewestFrom F f 22 (n3 P) (n3 d) x3 (n3 r.length) (n3 (c + 1)) 0 ν) ∧ LR ν 243 r ∧ Ch (fun _ _ => False) tryC μ ν
  | [], pre, f, μ, hr, hp, h2, h3, ho => by
    have b4 := wf.1
    rw [List.append_nil] at hr
    subst hr
    have wD := wf.2.2.2.2 d hd
    obtain ⟨wp, pn⟩ := pays_n r a wf wD.2.2.1 hall
    have e39 := pn 39 (by omega)
    have hdd := hp.2.2.2.2.2 d (by omega)
    have wd := (wp.2.2.2.2 d (by omega)).1
    refine ⟨μ, ?_, h3, Ch.refl _ _ μ⟩
    rw [List.length_nil, Nat.add_zero, g_X9_fewestFrom, if_neg (by decide), if_neg (by decide), if_pos rfl, b_X9_fewestFrom_59, if_pos (by rw [n3_le (by omega) (by omega)]; omega), show (185 : Int32) = n3 185 from n3_lit 185, n3_add, if_pos (n3_in (by omega) (by omega)), n3_cl (by omega), show 185 + d = 152 + 33 + d by omega, hdd]
    by_cases z : pays (a (44 + d)) a r (33 + d) = 0
    · rw [if_neg (show ¬ ¬ n3 (pays (a (44 + d)) a r (33 + d)) = 0 from fun n => n (by rw [z]; rfl)), if_pos z]
    · rw [if_pos (show ¬ n3 (pays (a (44 + d)) a r (33 + d)) = 0 by rw [n3_k0, n3_eq (by omega) (by omega)]; exact z), if_neg z, n3_one, n3_add]
  | s :: suf, pre, f, μ, hr, hp, h2, h3, ho => by
    have b4 := wf.1
    have wD := wf.2.2.2.2 d hd
    have hl : r.length = pre.length + (suf.length + 1) := by rw [hr, List.length_append, List.length_cons]
    have hs : s < a 23 := hall s (by rw [hr]; exact List.mem_append_right _ List.mem_cons_self)
    obtain ⟨wp, pn⟩ := pays_n pre a wf wD.2.2.1 (fun t ht => hall t (by rw [hr]; exact List.mem_append_left _ ht))
    have e23 := pn 23 (by omega)
    have e38 := pn 38 (by omega)
    have hrow : μ.2.1 242 pre.length = n3 s := h2 pre.length s (by rw [hr, List.getElem?_append_right (Nat.le_refl _), Nat.sub_self]; rfl)
    obtain ⟨μ1, q1, q2, q3⟩ := m_hand (F := F) hp wp (by omega) (s := s) (p := a (44 + d)) (by omega) (by omega) (by omega)
    have q1' : f_X9_paysOn F 152 (n3 s) (n3 (a (44 + d))) μ = some (n3 (pass (pays (a (44 + d)) a pre) (betw (pays (a (44 + d)) a pre) (pays (a (44 + d)) a pre (18 + s)) (a (44 + d))) (13 + s)), μ1) := by rw [n3_k152]; exact q1
    have r242 : μ1.2.1 242 = μ.2.1 242 := q3.2.2.1 242 (by omega)
    have r243 : μ1.2.1 243 = μ.2.1 243 := q3.2.2.1 243 (by omega)
    generalize hρ : fm_sA μ1 243 (upd (μ1.2.1 243) pre.length (n3 s)) = ρ
    have c1 : Ch (fun _ _ => False) tryC μ ρ := by
      rw [← hρ]
      exact (q3.ch.weak (fun _ _ c => c) (fun q j c => .inl ⟨c.1, by omega, by omega⟩)).sG (fun _ => .inr (.inr rfl))
    have hp2 : AP ρ 152 (pays (a (44 + d)) a (pre ++ [s])) := by
      have : pays (a (44 + d)) a (pre ++ [s]) = hand (pays (a (44 + d)) a pre) s (a (44 + d)) := by unfold pays; rw [List.foldl_append]; rfl
      rw [this, ← hρ]
      exact q2.ch (hand_wf wp (by omega) (by omega)) ((Ch.refl (fun _ _ => False) (fun q _ => q = 243) μ1).sG (fun _ => rfl)) id id (by omega) (by omega) (by omega)
    obtain ⟨ν, r1, r2, r3⟩ := m_pay59 (P := P) (x3 := x3) (c := c) wf hd hrl hall hF suf (pre ++ [s]) f ρ (by rw [hr, List.append_assoc]; rfl) hp2 (by
      intro j x hj
      rw [← hρ, fm_sA_ne (by omega), r242]; exact h2 j x hj) (by
      refine LR.snoc (fun j x hj => ?_) ?_
      · obtain ⟨hlt, -⟩ := List.getElem?_eq_some_iff.mp hj
        rw [← hρ, fm_sA_eq rfl, upd_ne (by omega), r243]; exact h3 j x hj
      · rw [← hρ, fm_sA_eq rfl, upd_eq rfl]) (by
      rw [← hρ, fm_sA_ne (by omega), q3.2.2.1 234 (by omega)]; exact ho)
    refine ⟨ν, ?_, r2, c1.trans r3⟩
    rw [List.length_append, List.length_singleton] at r1
    rw [← r1, List.length_cons, ← Nat.add_assoc f suf.length 1, g_X9_fewestFrom, if_neg (by decide), if_neg (by decide), if_pos rfl, b_X9_fewestFrom_59, if_neg (by rw [n3_le (by omega) (by omega)]; omega), if_pos (n3_in (by omega) (by omega)), n3_k2, n3_mul, n3_one, n3_add, if_pos (n3_in (by omega) (by omega)), n3_cl (by omega), n3_cl (by omega), hrow, (ho d hd).2, q1', Option.bind_some]
    dsimp only
    rw [if_pos (n3_in (by omega) (by omega)), if_pos (n3_in (by omega) (by omega)), Option.bind_some, r242, hrow, n3_add, hρ]
theorem m_code22 {P d n : Nat} (wf : WF a) (hd : d < a 39) (hPl : P ≤ 190) (hPr : P + 38 ≤ 152 ∨ 190 ≤ P) (hn : n ≤ 5) (hn5 : 5 ^ n ≤ 3125) (hF : 1000 < F) : ∀ (K c f : Nat) (μ : fm_M), c + K = 5 ^ n → K * (n + 2) < f → AP μ P a → (∃ r ν, frs (rfC (a (40 + d)) (a (44 + d)) d n a) K c = some r ∧ g_X9_fewestFrom F f 22 (n3 P) (n3 d) (n3 (5 ^ n)) (n3 n) (n3 c) 0 μ = some (n3 n, ν) ∧ LR ν 243 r ∧ Ch (fun _ _ => False) tryC μ ν) ∨ (∃ ν f', frs (rfC (a (40 + d)) (a (44 + d)) d n a) K c = none ∧ g_X9_fewestFrom F f 22 (n3 P) (n3 d) (n3 (5 ^ n)) (n3 n) (n3 c) 0 μ = g_X9_fewestFrom F f' 5 (n3 P) (n3 d) (n3 (5 ^ n * 5)) (n3 (n + 1)) 0 0 ν ∧ f ≤ f' + K * (n + 2) + 1 ∧ Ch (fun _ _ => False) tryC μ ν)
  | 0, c, f + 1, μ, hc, _, hp => by
    refine .inr ⟨μ, f, rfl, ?_, by omega, Ch.refl _ _ μ⟩
    rw [g_X9_fewestFrom, if_neg (by decide), if_pos rfl, b_X9_fewestFrom_22, if_pos (by rw [n3_le (by omega) (by omega)]; omega), n3_k5, n3_mul, n3_one, n3_add]
  | K + 1, c, f + 1, μ, hc, hf, hp => by
    have b4 := wf.1
    have wD := wf.2.2.2.2 d hd
    have ho := hp.1.2.2.2
    rw [Nat.add_mul, Nat.one_mul] at hf
    obtain ⟨μ1, r1, r2, r3⟩ := m_row (F := F) (who := a (40 + d)) (n := n) (c := c) hp wf hPl hn (by omega) (by omega) (by omega)
    have hp1 : AP μ1 P a := hp.ch wf r3 id id (by omega) (by omega) (by omega)
    have cw : Ch (fun _ _ => False) tryC μ μ1 := r3.weak (fun _ _ c => c) (fun q j c => .inr (.inl c))
    have hlen := dg_len n c
    have start : g_X9_fewestFrom F (f + 1) 22 (n3 P) (n3 d) (n3 (5 ^ n)) (n3 n) (n3 c) 0 μ = (if n3 (bi (vld a (a (40 + d)) (dg n c))) = 0 then g_X9_fewestFrom F f 22 (n3 P) (n3 d) (n3 (5 ^ n)) (n3 n) (n3 (c + 1)) 0 μ1 else (Option.bind (f_X9_copies F (n3 P) (n3 152) μ1) (fun q8 => g_X9_fewestFrom F f 59 (n3 P) (n3 d) (n3 (5 ^ n)) (n3 n) (n3 c) 0 q8.2))) := by
      rw [g_X9_fewestFrom, if_neg (by decide), if_pos rfl, b_X9_fewestFrom_22, if_neg (by rw [n3_le (by omega) (by omega)]; omega), n3_k2, n3_mul, if_pos (n3_in (by omega) (by omega)), n3_cl (by omega), (ho d hd).1, r1, Option.bind_some, n3_one, n3_add, n3_k152]
    rw [start, frs]
    cases hv : vld a (a (40 + d)) (dg n c) with
    | false =>
      have hc0 : rfC (a (40 + d)) (a (44 + d)) d n a c = none := by
        unfold rfC
        rw [hv]
        exact if_neg (fun q => by cases q.1)
      rw [hc0, if_pos (show n3 (bi false) = 0 by decide)]
      rcases m_code22 wf hd hPl hPr hn hn5 hF K (c + 1) f μ1 (by omega) (by omega) hp1 with ⟨r, ν, t1, t2, t3, t4⟩ | ⟨ν, f', t1, t2, t3, t4⟩
      · exact .inl ⟨r, ν, t1, t2, t3, cw.trans t4⟩
      · exact .inr ⟨ν, f', t1, t2, by rw [Nat.add_mul, Nat.one_mul]; omega, cw.trans t4⟩
    | true =>
      have hall := vld_all a _ _ hv
      rw [if_neg (show ¬ n3 (bi true) = 0 by decide)]
      obtain ⟨μ2, q1, q2, q3⟩ := m_copy (F := F) (μ := μ1) (P := 152) (Q := P) (by omega) hPl (by omega) (by omega)
      have cw2 : Ch (fun _ _ => False) tryC μ1 μ2 := q3.ch.weak (fun _ _ c => c) (fun q j c => .inl ⟨c.1, by omega, by omega⟩)
      obtain ⟨f1, rfl⟩ : ∃ f1, f = f1 + (dg n c).length + 1 := ⟨f - (n + 1), by omega⟩
      obtain ⟨μ3, s1, s2, s3⟩ := m_pay59 (F := F) (P := P) (x3 := n3 (5 ^ n)) (c := c) wf hd (r := dg n c) (by omega) hall hF (dg n c) [] f1 μ2 rfl (q2 a hp1 wf) (by
        intro j x hj
        rw [q3.2.2.1 242 (by omega)]; exact r2 j x hj) (fun j x hj => by cases hj) (by
        rw [q3.2.2.1 234 (by omega)]; exact hp1.1.2.2.2)
      have cw3 := (cw.trans cw2).trans s3
      rw [hlen] at s1
      rw [q1, Option.bind_some]
      dsimp only
      have s1 : g_X9_fewestFrom F (f1 + (dg n c).length + 1) 59 (n3 P) (n3 d) (n3 (5 ^ n)) (n3 n) (n3 c) 0 μ2 = (if pays (a (44 + d)) a (dg n c) (33 + d) = 0 then some (n3 n, μ3) else g_X9_fewestFrom F f1 22 (n3 P) (n3 d) (n3 (5 ^ n)) (n3 n) (n3 (c + 1)) 0 μ3) := by rw [hlen]; exact s1
      rw [s1]
      by_cases z : pays (a (44 + d)) a (dg n c) (33 + d) = 0
      · have hc1 : rfC (a (40 + d)) (a (44 + d)) d n a c = some (dg n c) := if_pos ⟨hv, z⟩
        rw [hc1, if_pos z]
        exact .inl ⟨dg n c, μ3, rfl, rfl, s2, cw3⟩
      · have hc0 : rfC (a (40 + d)) (a (44 + d)) d n a c = none := if_neg (fun q => z q.2)
        rw [hc0, if_neg z]
        have hp3 : AP μ3 P a := (hp1.fm wf q3 (by omega)).ch wf s3 id id (fun j c => by unfold tryC at c; omega) (fun j c => by unfold tryC at c; omega) (fun j h1 h2 c => by unfold tryC at c; omega)
        rcases m_code22 wf hd hPl hPr hn hn5 hF K (c + 1) f1 μ3 (by omega) (by omega) hp3 with ⟨r, ν, t1, t2, t3, t4⟩ | ⟨ν, f', t1, t2, t3, t4⟩
        · exact .inl ⟨r, ν, t1, t2, t3, cw3.trans t4⟩
        · exact .inr ⟨ν, f', t1, t2, by rw [Nat.add_mul, Nat.one_mul]; omega, cw3.trans t4⟩
/-- the reference's answer for a search -/
def oM : Option (List Nat) → Int32
  | none => -n3 4
  | some r => n3 r.length
theorem v_p5 {n : Nat} (h : n ≤ 5) : 5 ^ n ≤ 3125 ∧ 5 ^ n * (n + 2) ≤ 21875 := by
  rcases (show n = 0 ∨ n = 1 ∨ n = 2 ∨ n = 3 ∨ n = 4 ∨ n = 5 by omega) with rfl | rfl | rfl | rfl | rfl | rfl <;> decide
theorem m_few_l {P d C : Nat} (hC : 30000 ≤ C) (wf : WF a) (hd : d < a 39) (hPl : P ≤ 190) (hPr : P + 38 ≤ 152 ∨ 190 ≤ P) (hF : 1000 < F) : ∀ (K n f : Nat) (μ : fm_M), n + K = a 23 + 1 → K * C < f → AP μ P a → ∃ ν, g_X9_fewestFrom F f 5 (n3 P) (n3 d) (n3 (5 ^ n)) (n3 n) 0 0 μ = some (oM (frs (fun n => srch (a (40 + d)) (a (44 + d)) d n a) K n), ν) ∧ (∀ r, frs (fun n => srch (a (40 + d)) (a (44 + d)) d n a) K n = some r → LR ν 243 r) ∧ Ch (fun _ _ => False) tryC μ ν
  | 0, n, f + 1, μ, hn, _, hp => by
    have b4 := wf.1
    refine ⟨μ, ?_, (fun r hr => by cases hr), Ch.refl _ _ μ⟩
    rw [g_X9_fewestFrom, if_pos rfl, b_X9_fewestFrom_5, show (23 : Int32) = n3 23 from n3_lit 23, n3_add, if_pos (n3_in (by omega) (by omega)), n3_cl (by omega), hp.2.1.1, if_pos (by rw [n3_lt (by omega) (by omega)]; omega), n3_k4]
    rfl
  | K + 1, n, f + 1, μ, hn, hf, hp => by
    have b4 := wf.1
    have wD := wf.2.2.2.2 d hd
    obtain ⟨p1, p2⟩ := v_p5 (n := n) (by omega)
    rw [Nat.add_mul, Nat.one_mul] at hf
    have rf := rf_srch (dbt := a (40 + d)) (cr := a (44 + d)) (d := d) (fun c => wD.2.2.2 c.symm) n a (by omega) wf wD.2.2.1
    have start : g_X9_fewestFrom F (f + 1) 5 (n3 P) (n3 d) (n3 (5 ^ n)) (n3 n) 0 0 μ = g_X9_fewestFrom F f 22 (n3 P) (n3 d) (n3 (5 ^ n)) (n3 n) (n3 0) 0 μ := by
      rw [g_X9_fewestFrom, if_pos rfl, b_X9_fewestFrom_5, show (23 : Int32) = n3 23 from n3_lit 23, n3_add, if_pos (n3_in (by omega) (by omega)), n3_cl (by omega), hp.2.1.1, if_neg (by rw [n3_lt (by omega) (by omega)]; omega)]
      rfl
    rw [start, frs]
    rcases m_code22 (F := F) (P := P) (d := d) (n := n) wf hd hPl hPr (by omega) p1 hF (5 ^ n) 0 f μ (by omega) (by omega) hp with ⟨r, ν, t1, t2, t3, t4⟩ | ⟨ν, f', t1, t2, t3, t4⟩
    · rw [rf] at t1
      rw [t1]
      have hl := srch_len _ _ _ t1
      refine ⟨ν, ?_, (fun r' hr' => by cases hr'; exact t3), t4⟩
      rw [t2]
      show _ = some (n3 r.length, ν)
      rw [hl]
    · rw [rf] at t1
      rw [t1, t2]
      have hp1 : AP ν P a := hp.ch wf t4 id id (fun j c => by unfold tryC at c; omega) (fun j c => by unfold tryC at c; omega) (fun j h1 h2 c => by unfold tryC at c; omega)
      obtain ⟨ρ, u1, u2, u3⟩ := m_few_l hC wf hd hPl hPr hF K (n + 1) f' ν (by omega) (by omega) hp1
      refine ⟨ρ, ?_, u2, t4.trans u3⟩
      rw [← Nat.pow_succ]
      exact u1
theorem m_few {P d : Nat} (hp : AP μ P a) (wf : WF a) (hd : d < a 39) (hPl : P ≤ 190) (hPr : P + 38 ≤ 152 ∨ 190 ≤ P) (hF : 200000 < F) : ∃ ν, f_X9_fewestFrom F (n3 P) (n3 d) μ = some (oM (fwst a d), ν) ∧ (∀ r, fwst a d = some r → LR ν 243 r) ∧ Ch (fun _ _ => False) tryC μ ν := by
  have b4 := wf.1
  exact m_few_l (F := F) (P := P) (d := d) (C := 30000) (Nat.le_refl _) wf hd hPl hPr (by omega) (a 23 + 1) 0 F μ (by omega) (by omega) hp
def fAns (o : Option (List Nat)) (j : Nat) : Int32 :=
  match o with
  | none => -n3 4
  | some r => if j = 0 then n3 r.length else match r[j - 10]? with | none => -n3 4 | some x => n3 x
theorem fw_len {d : Nat} {r : List Nat} (wf : WF a) (h : fwst a d = some r) : r.length ≤ 5 := by
  have b4 := wf.1
  obtain ⟨j, j1, j2, j3⟩ := frs_some _ _ h
  have := srch_len _ _ _ j3
  omega
theorem ok_fewest (h : R μ) (hF : 200000 < F) (x y : Int32) : OK2 (f_X8_fewest F x y) (f_X9_fewest F x y) μ := by
  obtain ⟨a, wf, bm, hw, hp⟩ := h.1
  have b := wf.1
  have any : ∃ v, f_X8_isIn F y 10 14 μ = some (v, μ) := by
    unfold f_X8_isIn
    split
    · exact ⟨_, rfl⟩
    · split <;> exact ⟨_, rfl⟩
  rcases n3_cases x (a 39) (by omega) with ⟨d, hd, rfl⟩ | hx
  · have hd8 := c_debtT (F := F) hw wf hd
    have kd := m_debtT (F := F) hp wf hd
    have bad : f_X8_isIn F y (n3 10) (n3 14) μ = some (n3 0, μ) → ¬ y = n3 0 → f_X9_in F y.toInt64 (Int64.ofNat 10) (Int64.ofNat 14) μ = some (n3 0, μ) → OK2 (f_X8_fewest F (n3 d) y) (f_X9_fewest F (n3 d) y) μ := by
      intro c1 c2 c3
      refine OK2.same h (v := -n3 1) ?_ ?_
      · unfold f_X8_fewest
        rw [n3_k10, show (14 : Int32) = n3 14 from n3_lit 14, c1, Option.bind_some]
        dsimp only
        rw [hd8, Option.bind_some, if_neg (show ¬ n3 1 = 0 by decide), if_neg (show ¬ y = 0 from c2), n3_one]
        exact if_neg (fun n => n rfl)
      · unfold f_X9_fewest
        rw [kd, Option.bind_some, if_neg (show ¬ n3 1 = 0 by decide), if_neg (show ¬ y = 0 from c2)]
        dsimp only
        rw [c3, Option.bind_some, n3_one]
        exact if_neg (fun n => n rfl)
    have good : ∀ j, j = 0 ∨ (10 ≤ j ∧ j ≤ 14) → OK2 (f_X8_fewest F (n3 d) (n3 j)) (f_X9_fewest F (n3 d) (n3 j)) μ := by
      intro j hj
      obtain ⟨μ1, q1, q2, q3⟩ := c_few (F := F) hw wf hd (by omega) (by omega)
      have hp1 : AP μ1 0 a := hp.ch wf q3 (by omega) (by omega) (by omega) (by omega) (by omega)
      have kd1 := m_debtT (F := F) hp1 wf hd
      obtain ⟨μ2, r1, r2, r3⟩ := m_few (F := F) (P := 0) (d := d) hp1 wf hd (by omega) (by omega) hF
      have t8 : f_X8_fewest F (n3 d) (n3 j) μ = (if ¬ oB (fwst a d) = 0 then (if ¬ n3 j = 0 then (if (μ1.1 132 0) ≤ (n3 j - n3 10) then some ((-4), μ1) else (if ab_in (n3 j - n3 10) 5 = true then some ((μ1.2.1 133 (n3 j - n3 10).toNatClampNeg), μ1) else none)) else some ((μ1.1 132 0), μ1)) else some ((-4), μ1)) := by
        unfold f_X8_fewest
        rcases hj with c | c
        · obtain ⟨v, c8⟩ : ∃ v, f_X8_isIn F (n3 j) 10 14 μ = some (v, μ) := by
            unfold f_X8_isIn
            split
            · exact ⟨_, rfl⟩
            · split <;> exact ⟨_, rfl⟩
          rw [c8, Option.bind_some]
          dsimp only
          rw [hd8, Option.bind_some, if_neg (show ¬ n3 1 = 0 by decide), if_pos (show n3 j = 0 by rw [c]; rfl)]
          dsimp only
          rw [q1, Option.bind_some, n3_k10]
        · rw [n3_k10, show (14 : Int32) = n3 14 from n3_lit 14, c_isInT (by omega) (by omega) (by omega), Option.bind_some]
          dsimp only
          rw [hd8, Option.bind_some, if_neg (show ¬ n3 1 = 0 by decide), if_neg (show ¬ n3 j = 0 by rw [n3_k0, n3_eq (by omega) (by omega)]; omega), if_pos (show ¬ n3 1 = 0 by decide)]
          dsimp only
          rw [q1, Option.bind_some]
      have t9 : f_X9_fewest F (n3 d) (n3 j) μ1 = (if n3 j = 0 then some (oM (fwst a d), μ2) else (if ¬ oM (fwst a d) = -4 then (if oM (fwst a d) ≤ (n3 j - n3 10) then some ((-4), μ2) else (if ab_in (n3 j - n3 10) 5 = true then some ((μ2.2.1 243 (n3 j - n3 10).toNatClampNeg), μ2) else none)) else some (oM (fwst a d), μ2))) := by
        unfold f_X9_fewest
        rcases hj with c | c
        · rw [kd1, Option.bind_some, if_neg (show ¬ n3 1 = 0 by decide), if_pos (show n3 j = 0 by rw [c]; rfl), n3_k0]
          dsimp only
          rw [r1, Option.bind_some, n3_k10]
        · rw [kd1, Option.bind_some, if_neg (show ¬ n3 1 = 0 by decide), if_neg (show ¬ n3 j = 0 by rw [n3_k0, n3_eq (by omega) (by omega)]; omega)]
          dsimp only
          rw [m_inT (by omega) (by omega) (by omega), Option.bind_some, if_pos (show ¬ n3 1 = 0 by decide)]
          dsimp only
          rw [n3_k0, r1, Option.bind_some, n3_k10]
      refine ⟨fAns (fwst a d) j, μ1, μ2, ?_, ?_, h.free ((q3.weak (fun q j c => by omega) (fun q j c => by omega)).trans (r3.weak (fun _ _ c => False.elim c) (fun q j c => by unfold tryC at c; omega)))⟩
      · rw [t8]
        cases hf : fwst a d with
        | none => exact if_neg (fun n => n rfl)
        | some r =>
          obtain ⟨s1, s2⟩ := q2 r hf
          have hl := fw_len wf hf
          rw [if_pos (show ¬ oB (some r) = 0 by show ¬ n3 1 = 0; decide), s1, fAns]
          by_cases j0 : j = 0
          · rw [if_neg (show ¬ ¬ n3 j = 0 from fun n => n (by rw [j0]; rfl)), if_pos j0]
          · rw [if_pos (show ¬ n3 j = 0 by rw [n3_k0, n3_eq (by omega) (by omega)]; exact j0), if_neg j0, n3_sub (by omega)]
            by_cases c1 : r.length ≤ j - 10
            · rw [if_pos (by rw [n3_le (by omega) (by omega)]; exact c1), List.getElem?_eq_none c1, n3_k4]
            · rw [if_neg (by rw [n3_le (by omega) (by omega)]; exact c1), if_pos (n3_in (by omega) (by omega)), n3_cl (by omega), List.getElem?_eq_getElem (show j - 10 < r.length by omega), s2 (j - 10) _ (List.getElem?_eq_getElem (show j - 10 < r.length by omega))]
      · rw [t9]
        cases hf : fwst a d with
        | none =>
          show (if n3 j = 0 then some (-n3 4, μ2) else (if ¬ -n3 4 = -4 then _ else some (-n3 4, μ2))) = some (-n3 4, μ2)
          rw [if_neg (show ¬ ¬ -n3 4 = -4 from fun n => n (by decide))]
          split <;> rfl
        | some r =>
          have hl := fw_len wf hf
          have s2 := r2 r hf
          show (if n3 j = 0 then some (n3 r.length, μ2) else (if ¬ n3 r.length = -4 then (if n3 r.length ≤ (n3 j - n3 10) then some ((-4), μ2) else (if ab_in (n3 j - n3 10) 5 = true then some ((μ2.2.1 243 (n3 j - n3 10).toNatClampNeg), μ2) else none)) else some (n3 r.length, μ2))) = some (fAns (some r) j, μ2)
          rw [fAns]
          by_cases j0 : j = 0
          · rw [if_pos (show n3 j = 0 by rw [j0]; rfl), if_pos j0]
          · rw [if_neg (show ¬ n3 j = 0 by rw [n3_k0, n3_eq (by omega) (by omega)]; exact j0), if_neg j0, if_pos (show ¬ n3 r.length = -4 by rw [show (-4 : Int32) = -n3 4 from by decide, nn_qe (by omega) (by omega) (by omega)]; exact id), n3_sub (by omega)]
            by_cases c1 : r.length ≤ j - 10
            · rw [if_pos (by rw [n3_le (by omega) (by omega)]; exact c1), List.getElem?_eq_none c1, n3_k4]
            · rw [if_neg (by rw [n3_le (by omega) (by omega)]; exact c1), if_pos (n3_in (by omega) (by omega)), n3_cl (by omega), List.getElem?_eq_getElem (show j - 10 < r.length by omega), s2 (j - 10) _ (List.getElem?_eq_getElem (show j - 10 < r.length by omega))]
    rcases n3_cases y 15 (by decide) with ⟨j, hj, rfl⟩ | hy
    · by_cases cj : j = 0 ∨ (10 ≤ j ∧ j ≤ 14)
      · exact good j cj
      · exact bad (c_isInF (by omega) (by omega) (by omega) (by omega)) (by rw [n3_eq (by omega) (by omega)]; omega) (m_inF (by omega) (by omega) (by omega) (by omega))
    · exact bad (c_isInO hy (by omega) (by omega)) (n3_outA (by decide) hy 0 (by omega)) (m_inO hy (by omega) (by omega))
  · refine OK2.same h (v := -n3 1) ?_ ?_
    · obtain ⟨v, c8⟩ := any
      unfold f_X8_fewest
      rw [c8, Option.bind_some]
      dsimp only
      rw [c_debtF hw hx, Option.bind_some, n3_one]
      exact if_pos rfl
    · unfold f_X9_fewest
      rw [m_debtF hp wf hx, Option.bind_some, n3_one]
      exact if_pos rfl
end VS57
