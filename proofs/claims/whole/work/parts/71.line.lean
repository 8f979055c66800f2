/-! a line, both -/
def mI (q j : Nat) : Prop := q = 232 ∧ ((7 ≤ j ∧ j ≤ 11) ∨ (15 ≤ j ∧ j ≤ 20))
def mA (q _j : Nat) : Prop := q = 236 ∨ q = 237
def cI (q j : Nat) : Prop := (q = 123 ∧ 2 ≤ j ∧ j ≤ 10) ∨ (111 ≤ q ∧ q < 121)
def JL (B : Nat → Nat) (T p : Nat) (μ ν : fm_M) (X Y : Option (Unit × fm_M)) : Prop := ∃ μ' ν' σ, X = some ((), μ') ∧ Y = some ((), ν') ∧ Cs B T σ μ' ∧ Ms B T σ ν' ∧ (∀ p', σ = .inl p' → p < p' ∧ ∃ a h1 o6 o7 pm, WT a h1 pm ∧ CL μ' a o6 o7 pm ∧ ML ν' a h1 o6 o7 pm) ∧ Ch cI lcA μ μ' ∧ Ch mI mA ν ν'
section VS71
variable {F : Nat} {μ ν : fm_M} {a b : Nat → Nat} {w : Nat} {B : Nat → Nat} {T p h1 pm : Nat} {σ : Nat ⊕ (Nat × Nat)} {o6 o7 : Bool}
theorem tk_m (h : Ch tkM noA μ ν) : Ch mI mA μ ν := h.weak (fun q j c => by unfold tkM at c; unfold mI; omega) (fun _ _ c => False.elim c)
theorem lc_c (h : Ch lcI lcA μ ν) : Ch cI lcA μ ν := h.weak (fun q j c => by unfold lcI at c; unfold cI; omega) (fun _ _ c => c)
theorem nm_F {lo hi q : Nat} (h : lxF B T q) : (nmT B T lo hi (.inl q)).2 = .inr (1, lxS B T q) := by
  have e : nmC B T lo hi q = 1 := if_pos h
  rw [nmT_1 (by omega), e]
theorem ML.tk (h : ML μ a h1 o6 o7 pm) (hc : Ch tkM noA μ ν) : ML ν a h1 o6 o7 pm := by
  obtain ⟨k1, k2, ⟨tm, t1, t2, t3⟩, k4, k5⟩ := h
  exact ⟨k1.ch hc (by unfold tkM; omega) (by unfold tkM; omega) (fun _ => id) (fun _ => id), by rw [hc.1 232 11 (by unfold tkM; omega)]; exact k2, ⟨tm, t1, by rw [hc.1 232 9 (by unfold tkM; omega)]; exact t2, t3⟩, by rw [hc.1 232 10 (by unfold tkM; omega)]; exact k4, k5.ch hc (fun _ => id) (fun _ => id)⟩
theorem rlT_dead {d : Nat × Nat} (h : Ms B T (.inr d) ν) (x : Int32) : ∃ ν', rlT F x ν = some ((), ν') ∧ Ms B T (.inr d) ν' ∧ Ch mI mA ν ν' := by
  have c0 : Ch (fun q j => q = 232 ∧ j = 9) noA ν (fm_sI ν 232 9 ((ν.1 232 9) ||| (1 <<< (x &&& 31)))) := (Ch.refl _ _ ν).sI ⟨rfl, rfl⟩
  have h2 := h.ch c0 (by omega) (fun _ => id)
  obtain ⟨d1, d2⟩ := h2.dead
  obtain ⟨k, e1, e2⟩ := d2
  refine ⟨_, ?_, h2, c0.weak (fun q j c => by unfold mI; omega) (fun _ _ c => False.elim c)⟩
  unfold rlT
  rw [Option.bind_some, m_stD d1 ⟨k, e1, e2⟩, Option.bind_some]
  dsimp only
  rw [if_neg]
  rw [e1] at d1 ⊢
  rw [n3_eq (by omega) (by omega)] at d1
  rw [n3_k0, n3_le (by omega) (by omega)]
  omega
theorem rlM_dead {d : Nat × Nat} {n : Nat} (hn : n < 9) (h : Ms B T (.inr d) ν) : ∃ ν', rlM F (n3 n) ν = some ((), ν') ∧ Ms B T (.inr d) ν' ∧ Ch mI mA ν ν' := by
  obtain ⟨ν', q1, q2, q3⟩ := rlT_dead (F := F) h (n3 n)
  obtain ⟨d1, d2⟩ := h.dead
  refine ⟨ν', ?_, q2, q3⟩
  unfold rlM
  by_cases c : 6 ≤ n ∧ n ≤ 7
  · rw [m_inT c.1 c.2 (by omega), Option.bind_some]
    dsimp only
    rw [m_flD 4 d1, Option.bind_some]
    dsimp only
    rw [q1]
    split
    · rfl
    · split <;> rfl
  · rw [m_inF (by omega) (by omega) (by omega) (by omega), Option.bind_some]
    dsimp only
    rw [if_pos (show n3 0 = 0 from rfl), q1]
theorem m_killB {k n : Nat} {x : Int32} (hT : T ≤ 160) (hp : p ≤ T) (hn : n < 9) (h : MT B T p ν) (hk : 0 < k) (hk6 : k ≤ 6) (hx : x = n3 k) (g : fm_M → Option (Unit × fm_M)) (hg : ∀ m, Ms B T (.inr (k, lxS B T p)) m → ∃ ν', g m = some ((), ν') ∧ Ms B T (.inr (k, lxS B T p)) ν' ∧ Ch mI mA m ν') : ∃ ν', (Option.bind (f_X9_fails F x ν) (fun q => g q.2)) = some ((), ν') ∧ Ms B T (.inr (k, lxS B T p)) ν' ∧ Ch mI mA ν ν' := by
  obtain ⟨s1, s2⟩ := m_kill hT hp h hk hk6
  obtain ⟨ν', q1, q2, q3⟩ := hg _ s1
  refine ⟨ν', ?_, q2, (tk_m s2).trans q3⟩
  rw [m_fl x h.2.1, h.2.2.2.1, Option.bind_some, hx]
  exact q1
theorem rlM_o {n : Nat} (hn : n < 9) (h : ¬ (6 ≤ n ∧ n ≤ 7)) : rlM F (n3 n) ν = rlT F (n3 n) ν := by
  unfold rlM
  rw [m_inF (by omega) (by omega) (by omega) (by omega), Option.bind_some]
  exact if_pos rfl
theorem rlM_s {n tm : Nat} (h : 6 ≤ n ∧ n ≤ 7) (ht : tm < 512) (h9 : ν.1 232 9 = n3 tm) : rlM F (n3 n) ν = (if tm / 2 ^ n % 2 = 1 then (Option.bind (f_X9_fails F 4 ν) (fun q => rlT F (n3 n) q.2)) else rlT F (n3 n) ν) := by
  have two := Nat.mod_lt (tm / 2 ^ n) (show 0 < 2 by omega)
  unfold rlM
  rw [m_inT h.1 h.2 (by omega), Option.bind_some]
  dsimp only
  rw [if_neg (show ¬ n3 1 = 0 by decide), h9, (v_m9' ht (show n < 9 by omega)).1]
  by_cases c : tm / 2 ^ n % 2 = 1
  · rw [if_pos c, if_neg (fun q => q (by rw [c]; rfl))]
  · rw [if_neg c, if_pos (by rw [n3_one, n3_eq (by omega) (by omega)]; exact c)]
theorem m_rlT {n tm : Nat} {τ : Nat ⊕ (Nat × Nat)} {Q : fm_M → Prop} (hn : n < 9) (ht : tm < 512) (hT : T ≤ 160) (hB : ∀ i, i < T → B i < 128) (hp : p ≤ T) (h : MT B T p ν) (h9 : ν.1 232 9 = n3 tm) (hd : lxF B T (lxE B T p) → smT B T τ = .inr (1, lxS B T (lxE B T p))) (H : ∀ m, Ms B T (.inl (lxE B T p)) m → m.1 232 9 = n3 (tm ||| 2 ^ n) → Ch (fun q j => q = 232 ∧ (j = 9 ∨ (15 ≤ j ∧ j ≤ 20))) noA ν m → ∃ m', f_X9_readMore F (n3 n) m = some ((), m') ∧ Ms B T τ m' ∧ Q m' ∧ Ch mI mA m m') (hQ : ∀ m m', Ch tkM noA m m' → Q m → Q m') (hF : 1000 < F) : ∃ ν', rlT F (n3 n) ν = some ((), ν') ∧ Ms B T (smT B T τ) ν' ∧ (liv (smT B T τ) → Q ν') ∧ Ch mI mA ν ν' := by
  unfold rlT
  rw [h9, (v_m9' ht hn).2.1, Option.bind_some]
  generalize hm : fm_sI ν 232 9 (n3 (tm ||| 2 ^ n)) = m0
  have c0 : Ch (fun q j => q = 232 ∧ j = 9) noA ν m0 := by rw [← hm]; exact (Ch.refl _ _ ν).sI ⟨rfl, rfl⟩
  obtain ⟨m1, s1, s2, s3⟩ := m_on (F := F) hT hB hp (h.ch c0 (by omega) (fun _ => id)) hF
  have e9 : m1.1 232 9 = n3 (tm ||| 2 ^ n) := by rw [s3.1 232 9 (by unfold tkM; omega), ← hm]; exact fm_sI_eq ⟨rfl, rfl⟩
  have c1 : Ch (fun q j => q = 232 ∧ (j = 9 ∨ (15 ≤ j ∧ j ≤ 20))) noA ν m1 := (c0.weak (fun q j c => by omega) (fun _ _ c => c)).trans (s3.weak (fun q j c => by unfold tkM at c; omega) (fun _ _ c => c))
  have c1' : Ch mI mA ν m1 := c1.weak (fun q j c => by unfold mI; omega) (fun _ _ c => False.elim c)
  have sl := lxS_le (B := B) (lxE_le (B := B) hp)
  rw [s1, Option.bind_some]
  dsimp only
  by_cases cF : lxF B T (lxE B T p)
  · obtain ⟨r1, r2⟩ := s2.2.2.2 cF
    refine ⟨m1, if_neg (by rw [r1]; decide), ?_, (fun q => by obtain ⟨x, hx⟩ := q; rw [hd cF] at hx; cases hx), c1'⟩
    rw [hd cF]
    exact ⟨s2.1, r1, r2, (Nat.le_of_ble_eq_true rfl), (Nat.le_of_ble_eq_true rfl), (by show lxS B T (lxE B T p) ≤ 160; omega)⟩
  · have mt := s2.2.2.1 cF
    obtain ⟨m2, q1, q2, q3, q4⟩ := H m1 s2 e9 c1
    obtain ⟨m3, r1, r2, r3⟩ := m_sem (F := F) hT hB q2 hF
    rw [if_pos (by rw [mt.2.1]; decide), q1, Option.bind_some]
    exact ⟨m3, r1, r2, fun _ => hQ m2 m3 r3 q3, (c1'.trans q4).trans (tk_m r3)⟩
theorem CT.cs (h : CT B T p μ) (hp : p ≤ T) : Cs B T (.inl (lxE B T p)) μ := ⟨h.1, lxE_le hp, h.2.1, h.2.2.1⟩
/-- a line that is too many, or told twice -/
theorem j_kill {k n : Nat} {x : Int32} {X : Option (Unit × fm_M)} (hT : T ≤ 160) (hp : p ≤ T) (hn : n < 9) (h : MT B T p ν) (hk : 0 < k) (hk6 : k ≤ 6) (hx : x = n3 k) (g : fm_M → Option (Unit × fm_M)) (hg : ∀ m, Ms B T (.inr (k, lxS B T p)) m → ∃ ν', g m = some ((), ν') ∧ Ms B T (.inr (k, lxS B T p)) ν' ∧ Ch mI mA m ν') (hX : ∃ μ', X = some ((), μ') ∧ Cs B T (.inr (k, lxS B T p)) μ' ∧ Ch cI lcA μ μ') : JL B T p μ ν X (Option.bind (f_X9_fails F x ν) (fun q => g q.2)) := by
  obtain ⟨μ', w1, w2, w3⟩ := hX
  obtain ⟨ν', q1, q2, q3⟩ := m_killB (F := F) hT hp hn h hk hk6 hx g hg
  exact ⟨μ', ν', _, w1, q1, w2, q2, (fun p' q => by cases q), w3, q3⟩
theorem j_man (hT : T ≤ 160) (hB : ∀ i, i < T → B i < 128) (hp : p ≤ T) (hC : CT B T p μ) (hM : MT B T p ν) (cl : CL μ a o6 o7 pm) (ml : ML ν a h1 o6 o7 pm) (wt : WT a h1 pm) (hF : 1000 < F) : JL B T p μ ν (f_X5_readMan F μ) (if (ν.1 232 7) = 4 then (Option.bind (f_X9_fails F 5 ν) (fun q => rlM F (n3 4) q.2)) else rlM F (n3 4) ν) := by
  obtain ⟨cw, c8, c9, c10⟩ := cl
  obtain ⟨aq, k11, ⟨tm, t1, t2, t3, t4⟩, k10, nc⟩ := ml
  have sl := lxS_le (B := B) hp
  have b := wt.1.1
  obtain ⟨μ', w1, w2, w3, w4⟩ := c_man (F := F) hT hB (hC.cs hp) hC.2.2.2.2.1 (by omega) cw wt.wb hF
  by_cases c : 4 ≤ a 38
  · rw [if_pos (by rw [aq.1.1, n3_k4, n3_eq (by omega) (by omega)]; omega)]
    rw [decide_eq_true c] at w2
    exact j_kill hT hp (n := 4) (by omega) hM (k := 5) (by omega) (by omega) (by rfl) (fun m => rlM F (n3 4) m) (fun m hm => rlM_dead (by omega) hm) ⟨μ', w1, w2, lc_c w4⟩
  · have e : rfT (decide (4 ≤ a 38)) 5 (lxS B T p) (.inl (lxE B T p)) = .inl (lxE B T p) := by rw [decide_eq_false c]; rfl
    rw [e] at w2 w3
    rw [if_neg (by rw [aq.1.1, n3_k4, n3_eq (by omega) (by omega)]; omega), rlM_o (by omega) (by omega)]
    obtain ⟨-, v1⟩ := nmT_in (B := B) (T := T) (lo := 0) (hi := 5) (by omega) (.inl (lxE B T p))
    obtain ⟨-, v2⟩ := nmT_in (B := B) (T := T) (lo := 0) (hi := 9) (by omega) (nmT B T 0 5 (.inl (lxE B T p))).2
    obtain ⟨ν', q1, q2, q3, q4⟩ := m_rlT (F := F) (n := 4) (Q := fun m => ML m (addP a (nmT B T 0 5 (.inl (lxE B T p))).1 (nmT B T 0 9 (nmT B T 0 5 (.inl (lxE B T p))).2).1) h1 o6 o7 pm) (by omega) t1 hT hB hp hM t2 (τ := (nmT B T 0 9 (nmT B T 0 5 (.inl (lxE B T p))).2).2) (fun c => by rw [nm_F c]; rfl) (fun m hm m9 hc => by
      have aq' : AQ m a := aq.ch hc (by omega) (by omega) (fun _ => id) (fun _ => id)
      obtain ⟨m', r1, r2, r3, r4, r5⟩ := m_man (F := F) hT hB hm aq'.1.1 (by omega) hF
      have bits := v_m9' t1 (show 4 < 9 by omega)
      refine ⟨m', r1, r2, ⟨aq_man aq' wt.wb (by omega) r3 r4 (r5.1 232 8 (by omega)) (funext fun j => r5.2.1 237 j (by omega)), ?_, ⟨tm ||| 2 ^ 4, bits.2.2.1, ?_, ?_, ?_⟩, ?_, ?_⟩, r5.weak (fun q j c => by unfold mI; omega) (fun q j c => .inl c)⟩
      · rw [r5.1 232 11 (by omega), hc.1 232 11 (by omega)]; exact k11
      · rw [r5.1 232 9 (by omega)]; exact m9
      · rw [bits.2.2.2.1]; exact t3
      · rw [bits.2.2.2.2]; exact t4
      · rw [r5.1 232 10 (by omega), hc.1 232 10 (by omega)]; exact k10
      · exact (nc.ch hc (fun _ => id) (fun _ => id)).ch r5 (by omega) (by omega)) (fun m m' hc hm => hm.tk hc) hF
    refine ⟨μ', ν', _, w1, q1, w2, q2, (fun p' hp' => ?_), lc_c w4, q4⟩
    refine ⟨?_, _, h1, o6, o7, pm, wt_man wt (by omega) v1 v2, ⟨w3 ⟨p', hp'⟩, ?_, ?_, ?_⟩, q3 ⟨p', hp'⟩⟩
    · have g0 : geS p (.inl (lxE B T p)) := fun q hq => by cases hq; have := lxS_ge (B := B) (T := T) (p := p); have := lxE_ge (B := B) (T := T) (p := p); omega
      exact ge_sm (ge_nm (ge_nm g0)) p' hp'
    · rw [w4.1 123 8 (by unfold lcI; omega)]; exact c8
    · rw [w4.1 123 9 (by unfold lcI; omega)]; exact c9
    · rw [w4.1 123 10 (by unfold lcI; omega)]; exact c10
theorem ge0 : geS p (.inl (lxE B T p)) := fun q hq => by cases hq; have := lxS_ge (B := B) (T := T) (p := p); have := lxE_ge (B := B) (T := T) (p := p); omega
theorem j_stone {k : Nat} (hk : k ≤ 3) (hT : T ≤ 160) (hB : ∀ i, i < T → B i < 128) (hp : p ≤ T) (hC : CT B T p μ) (hM : MT B T p ν) (cl : CL μ a o6 o7 pm) (ml : ML ν a h1 o6 o7 pm) (wt : WT a h1 pm) (hF : 1000 < F) : JL B T p μ ν (f_X5_readStone F (n3 k) μ) (if (ν.2.1 236 23) = 5 then (Option.bind (f_X9_fails F 5 ν) (fun q => rlM F (n3 k) q.2)) else rlM F (n3 k) ν) := by
  obtain ⟨cw, c8, c9, c10⟩ := cl
  obtain ⟨aq, k11, ⟨tm, t1, t2, t3, t4⟩, k10, nc⟩ := ml
  have sl := lxS_le (B := B) hp
  have b := wt.1.1
  have b9 := wt.1.2.2.2.2.2.2.1
  obtain ⟨μ', w1, w2, w3, w4⟩ := c_stoneL (F := F) (k := k) hT hB (hC.cs hp) hC.2.2.2.2.1 (by omega) cw wt.wb hF
  by_cases c : 5 ≤ a 23
  · rw [if_pos (by rw [aq.2.1.1, n3_k5, n3_eq (by omega) (by omega)]; omega)]
    rw [decide_eq_true c] at w2
    exact j_kill hT hp (n := k) (by omega) hM (k := 5) (by omega) (by omega) (by rfl) (fun m => rlM F (n3 k) m) (fun m hm => rlM_dead (by omega) hm) ⟨μ', w1, w2, lc_c w4⟩
  · have e : rfT (decide (5 ≤ a 23)) 5 (lxS B T p) (.inl (lxE B T p)) = .inl (lxE B T p) := by rw [decide_eq_false c]; rfl
    rw [e] at w2 w3
    rw [if_neg (by rw [aq.2.1.1, n3_k5, n3_eq (by omega) (by omega)]; omega), rlM_o (by omega) (by omega)]
    obtain ⟨-, v1⟩ := nmT_in (B := B) (T := T) (lo := 0) (hi := 99) (by omega) (.inl (lxE B T p))
    obtain ⟨-, v2⟩ := nmT_in (B := B) (T := T) (lo := 0) (hi := 3) (by omega) (nmT B T 0 99 (.inl (lxE B T p))).2
    obtain ⟨ν', q1, q2, q3, q4⟩ := m_rlT (F := F) (n := k) (Q := fun m => ML m (addS a k (nmT B T 0 99 (.inl (lxE B T p))).1 (nmT B T 0 3 (nmT B T 0 99 (.inl (lxE B T p))).2).1) (mx h1 ((nmT B T 0 3 (nmT B T 0 99 (.inl (lxE B T p))).2).1 + 1)) o6 o7 pm) (by omega) t1 hT hB hp hM t2 (τ := (nmT B T 0 3 (nmT B T 0 99 (.inl (lxE B T p))).2).2) (fun c => by rw [nm_F c]; rfl) (fun m hm m9 hc => by
      have aq' : AQ m a := aq.ch hc (by omega) (by omega) (fun _ => id) (fun _ => id)
      obtain ⟨m', r1, r2, r3, r4, r5⟩ := m_stoneL (F := F) (k := k) (h1 := h1) hT hB hm aq'.2.1.1 (by omega) hk (by rw [hc.1 232 11 (by omega)]; exact k11) b9 hF
      have bits := v_m9' t1 (show k < 9 by omega)
      refine ⟨m', r1, r2, ⟨aq_stone aq' wt.wb (by omega) r3 (r5.1 232 7 (by omega)) (r5.1 232 8 (by omega)) (funext fun j => r5.2.1 237 j (by omega)), r4, ⟨tm ||| 2 ^ k, bits.2.2.1, ?_, ?_, ?_⟩, ?_, ?_⟩, r5.weak (fun q j c => by unfold mI; omega) (fun q j c => .inl c)⟩
      · rw [r5.1 232 9 (by omega)]; exact m9
      · rw [bits.2.2.2.1, if_neg (by omega)]; exact t3
      · rw [bits.2.2.2.2, if_neg (by omega)]; exact t4
      · rw [r5.1 232 10 (by omega), hc.1 232 10 (by omega)]; exact k10
      · exact (nc.ch hc (fun _ => id) (fun _ => id)).ch r5 (by omega) (by omega)) (fun m m' hc hm => hm.tk hc) hF
    refine ⟨μ', ν', _, w1, q1, w2, q2, (fun p' hp' => ?_), lc_c w4, q4⟩
    refine ⟨ge_sm (ge_nm (ge_nm ge0)) p' hp', _, _, o6, o7, pm, wt_stone wt (by omega) hk v1 v2, ⟨w3 ⟨p', hp'⟩, ?_, ?_, ?_⟩, q3 ⟨p', hp'⟩⟩
    · rw [w4.1 123 8 (by unfold lcI; omega)]; exact c8
    · rw [w4.1 123 9 (by unfold lcI; omega)]; exact c9
    · rw [w4.1 123 10 (by unfold lcI; omega)]; exact c10
theorem j_debt (hT : T ≤ 160) (hB : ∀ i, i < T → B i < 128) (hp : p ≤ T) (hC : CT B T p μ) (hM : MT B T p ν) (cl : CL μ a o6 o7 pm) (ml : ML ν a h1 o6 o7 pm) (wt : WT a h1 pm) (hF : 1000 < F) : JL B T p μ ν (f_X5_readDebt F μ) (if ¬ (ν.1 232 8) = 4 then rlM F (n3 5) ν else (Option.bind (f_X9_fails F 5 ν) (fun q => rlM F (n3 5) q.2))) := by
  obtain ⟨cw, c8, c9, c10⟩ := cl
  obtain ⟨aq, k11, ⟨tm, t1, t2, t3, t4⟩, k10, nc⟩ := ml
  have sl := lxS_le (B := B) hp
  have b := wt.1.1
  have b9 := wt.1.2.2.2.2.2.2.1
  obtain ⟨μ', w1, w2, w3, w4⟩ := c_debt (F := F) hT hB (hC.cs hp) hC.2.2.2.2.1 (by omega) cw wt.wb hF
  by_cases c : 4 ≤ a 39
  · rw [if_neg (fun q => q (by rw [aq.1.2.1, n3_k4, n3_eq (by omega) (by omega)]; omega))]
    rw [decide_eq_true c] at w2
    exact j_kill hT hp (n := 5) (by omega) hM (k := 5) (by omega) (by omega) (by rfl) (fun m => rlM F (n3 5) m) (fun m hm => rlM_dead (by omega) hm) ⟨μ', w1, w2, lc_c w4⟩
  · have e : rfT (decide (4 ≤ a 39)) 5 (lxS B T p) (.inl (lxE B T p)) = .inl (lxE B T p) := by rw [decide_eq_false c]; rfl
    rw [e] at w2 w3
    rw [if_pos (by rw [aq.1.2.1, n3_k4, n3_eq (by omega) (by omega)]; omega), rlM_o (by omega) (by omega)]
    obtain ⟨-, v1⟩ := nmT_in (B := B) (T := T) (lo := 0) (hi := 3) (by omega) (.inl (lxE B T p))
    obtain ⟨-, v2⟩ := nmT_in (B := B) (T := T) (lo := 0) (hi := 3) (by omega) (nmT B T 0 3 (.inl (lxE B T p))).2
    obtain ⟨d1, d2⟩ := db_eq (B := B) (T := T) (σ := .inl (lxE B T p))
    obtain ⟨-, v3⟩ := nmT_in (B := B) (T := T) (lo := 0) (hi := 99) (by omega) (dbT B T (.inl (lxE B T p)))
    have hd : lxF B T (lxE B T p) → smT B T (nmT B T 0 99 (nmT B T 0 3 (eqT B T (nmT B T 0 3 (.inl (lxE B T p))).1 (nmT B T 0 3 (.inl (lxE B T p))).2)).2).2 = .inr (1, lxS B T (lxE B T p)) := fun c => by rw [nm_F c]; rfl
    have gg : geS (p + 1) (smT B T (nmT B T 0 99 (dbT B T (.inl (lxE B T p)))).2) := ge_sm (ge_nm (ge_rf (ge_nm (ge_nm ge0))))
    rw [← d1] at hd
    generalize hf : (nmT B T 0 3 (.inl (lxE B T p))).1 = f at *
    generalize ht : (nmT B T 0 3 (eqT B T f (nmT B T 0 3 (.inl (lxE B T p))).2)).1 = t at *
    generalize hs : dbT B T (.inl (lxE B T p)) = τ at *
    obtain ⟨ν', q1, q2, q3, q4⟩ := m_rlT (F := F) (n := 5) (Q := fun m => ML m (addD a f t (nmT B T 0 99 τ).1) (mx (mx h1 (f + 1)) (t + 1)) o6 o7 pm) (by omega) t1 hT hB hp hM t2 (τ := (nmT B T 0 99 τ).2) hd (fun m hm m9 hc => by
      have aq' : AQ m a := aq.ch hc (by omega) (by omega) (fun _ => id) (fun _ => id)
      obtain ⟨m', r1, r2, r3, r4, r5, r6, r7⟩ := m_debt (F := F) (h1 := h1) hT hB hm aq'.1.2.1 (by omega) (by rw [hc.1 232 11 (by omega)]; exact k11) b9 hF
      rw [hf, ← d1] at r2
      rw [hf, ht] at r3
      rw [hf, ← d1] at r4
      rw [hf, ht] at r6
      have bits := v_m9' t1 (show 5 < 9 by omega)
      refine ⟨m', r1, r2, ⟨aq_debt aq' wt.wb (by omega) r4 (r7.1 232 7 (by omega)) r5 r3, r6, ⟨tm ||| 2 ^ 5, bits.2.2.1, ?_, ?_, ?_⟩, ?_, ?_⟩, r7.weak (fun q j c => by unfold mI; omega) (fun q j c => c)⟩
      · rw [r7.1 232 9 (by omega)]; exact m9
      · rw [bits.2.2.2.1, if_neg (by omega)]; exact t3
      · rw [bits.2.2.2.2, if_neg (by omega)]; exact t4
      · rw [r7.1 232 10 (by omega), hc.1 232 10 (by omega)]; exact k10
      · exact (nc.ch hc (fun _ => id) (fun _ => id)).ch r7 (by omega) (by omega)) (fun m m' hc hm => hm.tk hc) hF
    refine ⟨μ', ν', _, w1, q1, w2, q2, (fun p' hp' => ?_), lc_c w4, q4⟩
    obtain ⟨e1, e2⟩ := d2 (liv_nm (liv_sm ⟨p', hp'⟩))
    have w5 := w3 ⟨p', hp'⟩
    rw [← e1] at w5 e2 v2
    refine ⟨gg p' hp', _, _, o6, o7, pm, wt_debt wt (by omega) v1 v2 v3 e2, ⟨w5, ?_, ?_, ?_⟩, q3 ⟨p', hp'⟩⟩
    · rw [w4.1 123 8 (by unfold lcI; omega)]; exact c8
    · rw [w4.1 123 9 (by unfold lcI; omega)]; exact c9
    · rw [w4.1 123 10 (by unfold lcI; omega)]; exact c10
theorem j_oven (hT : T ≤ 160) (hB : ∀ i, i < T → B i < 128) (hp : p ≤ T) (hC : CT B T p μ) (hM : MT B T p ν) (cl : CL μ a o6 o7 pm) (ml : ML ν a h1 o6 o7 pm) (wt : WT a h1 pm) (hF : 1000 < F) : JL B T p μ ν (f_X5_readOven F μ) (rlM F (n3 6) ν) := by
  obtain ⟨cw, c8, c9, c10⟩ := cl
  obtain ⟨aq, k11, ⟨tm, t1, t2, t3, t4⟩, k10, nc⟩ := ml
  have sl := lxS_le (B := B) hp
  obtain ⟨μ', w1, w2, w3, w4, w5⟩ := c_oven (F := F) hT hB (hC.cs hp) hC.2.2.2.2.1 (by omega) cw wt.wb c8 hF
  have w5' : Ch cI lcA μ μ' := w5.weak (fun q j c => by unfold lcI at c; unfold cI; omega) (fun _ _ c => c)
  rw [rlM_s (by omega) t1 t2, show (2 : Nat) ^ 6 = 64 from rfl, t3]
  cases o6 with
  | true =>
    rw [if_pos (show bi true = 1 from rfl)]
    exact j_kill hT hp (n := 6) (by omega) hM (k := 4) (by omega) (by omega) (by rfl) (fun m => rlT F (n3 6) m) (fun m hm => rlT_dead hm _) ⟨μ', w1, w2, w5'⟩
  | false =>
    rw [if_neg (by decide)]
    have e : rfT false 4 (lxS B T p) (.inl (lxE B T p)) = .inl (lxE B T p) := rfl
    rw [e] at w2 w3
    obtain ⟨-, v1⟩ := nmT_in (B := B) (T := T) (lo := 0) (hi := 9) (by omega) (.inl (lxE B T p))
    obtain ⟨v2, v3⟩ := nmT_in (B := B) (T := T) (lo := 5) (hi := 99) (by omega) (nmT B T 0 9 (.inl (lxE B T p))).2
    obtain ⟨ν', q1, q2, q3, q4⟩ := m_rlT (F := F) (n := 6) (Q := fun m => ML m (st (st a 24 (nmT B T 0 9 (.inl (lxE B T p))).1) 25 (nmT B T 5 99 (nmT B T 0 9 (.inl (lxE B T p))).2).1) h1 true o7 pm) (by omega) t1 hT hB hp hM t2 (τ := (nmT B T 5 99 (nmT B T 0 9 (.inl (lxE B T p))).2).2) (fun c => by rw [nm_F c]; rfl) (fun m hm m9 hc => by
      have aq' : AQ m a := aq.ch hc (by omega) (by omega) (fun _ => id) (fun _ => id)
      obtain ⟨m', r1, r2, r3, r5⟩ := m_oven (F := F) hT hB hm hF
      have bits := v_m9' t1 (show 6 < 9 by omega)
      refine ⟨m', r1, r2, ⟨aq_oven aq' wt.wb r3 (r5.1 232 7 (by omega)) (r5.1 232 8 (by omega)) (funext fun j => r5.2.1 237 j (by omega)), ?_, ⟨tm ||| 2 ^ 6, bits.2.2.1, ?_, ?_, ?_⟩, ?_, ?_⟩, r5.weak (fun q j c => by unfold mI; omega) (fun q j c => .inl c)⟩
      · rw [r5.1 232 11 (by omega), hc.1 232 11 (by omega)]; exact k11
      · rw [r5.1 232 9 (by omega)]; exact m9
      · rw [bits.2.2.2.1]; rfl
      · rw [bits.2.2.2.2, if_neg (by omega)]; exact t4
      · rw [r5.1 232 10 (by omega), hc.1 232 10 (by omega)]; exact k10
      · exact (nc.ch hc (fun _ => id) (fun _ => id)).ch r5 (by omega) (by omega)) (fun m m' hc hm => hm.tk hc) hF
    refine ⟨μ', ν', _, w1, q1, w2, q2, (fun p' hp' => ?_), w5', q4⟩
    refine ⟨ge_sm (ge_nm (ge_nm ge0)) p' hp', _, h1, true, o7, pm, wt_fig (wt_fig wt (.inl ⟨rfl, v1⟩) wt.1.2.2.2.2.2.2.2) (.inr (.inl ⟨rfl, v2, v3⟩)) wt.1.2.2.2.2.2.2.2, ⟨w3 ⟨p', hp'⟩, w4, ?_, ?_⟩, q3 ⟨p', hp'⟩⟩
    · rw [w5.1 123 9 (by unfold lcI; omega)]; exact c9
    · rw [w5.1 123 10 (by unfold lcI; omega)]; exact c10
theorem j_wind (hT : T ≤ 160) (hB : ∀ i, i < T → B i < 128) (hp : p ≤ T) (hC : CT B T p μ) (hM : MT B T p ν) (cl : CL μ a o6 o7 pm) (ml : ML ν a h1 o6 o7 pm) (wt : WT a h1 pm) (hF : 1000 < F) : JL B T p μ ν (f_X5_readWind F μ) (rlM F (n3 7) ν) := by
  obtain ⟨cw, c8, c9, c10⟩ := cl
  obtain ⟨aq, k11, ⟨tm, t1, t2, t3, t4⟩, k10, nc⟩ := ml
  have sl := lxS_le (B := B) hp
  obtain ⟨μ', w1, w2, w3, w4, w5⟩ := c_wind (F := F) hT hB (hC.cs hp) hC.2.2.2.2.1 (by omega) cw wt.wb c9 hF
  have w5' : Ch cI lcA μ μ' := w5.weak (fun q j c => by unfold lcI at c; unfold cI; omega) (fun _ _ c => c)
  rw [rlM_s (by omega) t1 t2, show (2 : Nat) ^ 7 = 128 from rfl, t4]
  cases o7 with
  | true =>
    rw [if_pos (show bi true = 1 from rfl)]
    exact j_kill hT hp (n := 7) (by omega) hM (k := 4) (by omega) (by omega) (by rfl) (fun m => rlT F (n3 7) m) (fun m hm => rlT_dead hm _) ⟨μ', w1, w2, w5'⟩
  | false =>
    rw [if_neg (by decide)]
    have e : rfT false 4 (lxS B T p) (.inl (lxE B T p)) = .inl (lxE B T p) := rfl
    rw [e] at w2 w3
    obtain ⟨-, v1⟩ := nmT_in (B := B) (T := T) (lo := 0) (hi := 10) (by omega) (.inl (lxE B T p))
    obtain ⟨ν', q1, q2, q3, q4⟩ := m_rlT (F := F) (n := 7) (Q := fun m => ML m (st a 26 (nmT B T 0 10 (.inl (lxE B T p))).1) h1 o6 true pm) (by omega) t1 hT hB hp hM t2 (τ := (nmT B T 0 10 (.inl (lxE B T p))).2) (fun c => by rw [nm_F c]; rfl) (fun m hm m9 hc => by
      have aq' : AQ m a := aq.ch hc (by omega) (by omega) (fun _ => id) (fun _ => id)
      obtain ⟨m', r1, r2, r3, r5⟩ := m_wind (F := F) hT hB hm hF
      have bits := v_m9' t1 (show 7 < 9 by omega)
      refine ⟨m', r1, r2, ⟨aq_wind aq' wt.wb r3 (r5.1 232 7 (by omega)) (r5.1 232 8 (by omega)) (funext fun j => r5.2.1 237 j (by omega)), ?_, ⟨tm ||| 2 ^ 7, bits.2.2.1, ?_, ?_, ?_⟩, ?_, ?_⟩, r5.weak (fun q j c => by unfold mI; omega) (fun q j c => .inl c)⟩
      · rw [r5.1 232 11 (by omega), hc.1 232 11 (by omega)]; exact k11
      · rw [r5.1 232 9 (by omega)]; exact m9
      · rw [bits.2.2.2.1, if_neg (by omega)]; exact t3
      · rw [bits.2.2.2.2]; rfl
      · rw [r5.1 232 10 (by omega), hc.1 232 10 (by omega)]; exact k10
      · exact (nc.ch hc (fun _ => id) (fun _ => id)).ch r5 (by omega) (by omega)) (fun m m' hc hm => hm.tk hc) hF
    refine ⟨μ', ν', _, w1, q1, w2, q2, (fun p' hp' => ?_), w5', q4⟩
    refine ⟨ge_sm (ge_nm ge0) p' hp', _, h1, o6, true, pm, wt_fig wt (.inr (.inr (.inl ⟨rfl, v1⟩))) wt.1.2.2.2.2.2.2.2, ⟨w3 ⟨p', hp'⟩, ?_, w4, ?_⟩, q3 ⟨p', hp'⟩⟩
    · rw [w5.1 123 8 (by unfold lcI; omega)]; exact c8
    · rw [w5.1 123 10 (by unfold lcI; omega)]; exact c10
theorem j_price (hT : T ≤ 160) (hB : ∀ i, i < T → B i < 128) (hp : p ≤ T) (hC : CT B T p μ) (hM : MT B T p ν) (cl : CL μ a o6 o7 pm) (ml : ML ν a h1 o6 o7 pm) (wt : WT a h1 pm) (hF : 1000 < F) : JL B T p μ ν (f_X5_readPrice F μ) (rlM F (n3 8) ν) := by
  obtain ⟨cw, c8, c9, c10⟩ := cl
  obtain ⟨aq, k11, ⟨tm, t1, t2, t3, t4⟩, k10, nc⟩ := ml
  have hpm : pm < 64 := wt.1.2.2.2.2.2.2.2
  obtain ⟨μ', w1, w2, w3, w4, w5⟩ := c_price (F := F) hT hB (hC.cs hp) cw wt.wb c10 hpm hF
  have w5' : Ch cI lcA μ μ' := w5.weak (fun q j c => by unfold lcI at c; unfold cI; omega) (fun _ _ c => c)
  rw [rlM_o (by omega) (by omega)]
  obtain ⟨-, v1⟩ := nmT_in (B := B) (T := T) (lo := 0) (hi := 5) (by omega) (prT B T pm (.inl (lxE B T p)))
  obtain ⟨d1, d2⟩ := pr_eq (B := B) (T := T) (pm := pm) (q := lxE B T p)
  have gg : geS (p + 1) (smT B T (nmT B T 1 9 (rfT (decide (pm / 2 ^ (nmT B T 0 5 (.inl (lxE B T p))).1 % 2 = 1)) 4 (lxS B T (lxE B T p)) (nmT B T 0 5 (.inl (lxE B T p))).2)).2) := ge_sm (ge_nm (ge_rf (ge_nm ge0)))
  rw [d1] at w2 w3 gg
  have hd : lxF B T (lxE B T p) → smT B T (nmT B T 1 9 (nmT B T 0 5 (prT B T pm (.inl (lxE B T p)))).2).2 = .inr (1, lxS B T (lxE B T p)) := fun c => by
    have e : prT B T pm (.inl (lxE B T p)) = .inl (lxE B T p) := if_neg (fun z => z.1 c)
    rw [e, nm_F c]; rfl
  obtain ⟨v2, v3⟩ := nmT_in (B := B) (T := T) (lo := 1) (hi := 9) (by omega) (nmT B T 0 5 (prT B T pm (.inl (lxE B T p)))).2
  have b6 := v_m6' hpm (show (nmT B T 0 5 (prT B T pm (.inl (lxE B T p)))).1 < 6 by omega)
  obtain ⟨ν', q1, q2, q3, q4⟩ := m_rlT (F := F) (n := 8) (Q := fun m => ML m (st a (27 + (nmT B T 0 5 (prT B T pm (.inl (lxE B T p)))).1) (nmT B T 1 9 (nmT B T 0 5 (prT B T pm (.inl (lxE B T p)))).2).1) h1 o6 o7 (pm ||| 2 ^ (nmT B T 0 5 (prT B T pm (.inl (lxE B T p)))).1)) (by omega) t1 hT hB hp hM t2 (τ := (nmT B T 1 9 (nmT B T 0 5 (prT B T pm (.inl (lxE B T p)))).2).2) hd (fun m hm m9 hc => by
    have aq' : AQ m a := aq.ch hc (by omega) (by omega) (fun _ => id) (fun _ => id)
    obtain ⟨m', r1, r2, r3, r4, r5⟩ := m_price (F := F) hT hB hm (by rw [hc.1 232 10 (by omega)]; exact k10) hpm hF
    have bits := v_m9' t1 (show 8 < 9 by omega)
    refine ⟨m', r1, r2, ⟨aq_price aq' wt.wb (by omega) r3 (r5.1 232 7 (by omega)) (r5.1 232 8 (by omega)) (funext fun j => r5.2.1 237 j (by omega)), ?_, ⟨tm ||| 2 ^ 8, bits.2.2.1, ?_, ?_, ?_⟩, r4, ?_⟩, r5.weak (fun q j c => by unfold mI; omega) (fun q j c => .inl c)⟩
    · rw [r5.1 232 11 (by omega), hc.1 232 11 (by omega)]; exact k11
    · rw [r5.1 232 9 (by omega)]; exact m9
    · rw [bits.2.2.2.1, if_neg (by omega)]; exact t3
    · rw [bits.2.2.2.2, if_neg (by omega)]; exact t4
    · exact (nc.ch hc (fun _ => id) (fun _ => id)).ch r5 (by omega) (by omega)) (fun m m' hc hm => hm.tk hc) hF
  refine ⟨μ', ν', _, w1, q1, w2, q2, (fun p' hp' => ?_), w5', q4⟩
  have e1 := d2 (liv_nm (liv_sm ⟨p', hp'⟩))
  have w6 := w3 ⟨p', hp'⟩
  rw [← e1] at w6 w4
  refine ⟨gg p' hp', _, h1, o6, o7, _, wt_fig wt (.inr (.inr (.inr ⟨by omega, by omega, v2, v3⟩))) b6.2.2, ⟨w6, ?_, ?_, w4⟩, q3 ⟨p', hp'⟩⟩
  · rw [w5.1 123 8 (by unfold lcI; omega)]; exact c8
  · rw [w5.1 123 9 (by unfold lcI; omega)]; exact c9
end VS71
