/-! the fewest stones: what is sought, and the class -/
def frs {α : Type} (f : Nat → Option α) : Nat → Nat → Option α
  | 0, _ => none
  | k + 1, i => match f i with
    | some r => some r
    | none => frs f k (i + 1)
theorem frs_none {α : Type} {f : Nat → Option α} : ∀ (k i : Nat), (∀ j, i ≤ j → j < i + k → f j = none) → frs f k i = none
  | 0, _, _ => rfl
  | k + 1, i, h => by
    rw [frs, h i (Nat.le_refl _) (by omega)]
    exact frs_none k (i + 1) (fun j h1 h2 => h j (by omega) (by omega))
theorem frs_add {α : Type} {f : Nat → Option α} : ∀ (k m i : Nat), frs f (k + m) i = match frs f k i with
    | some r => some r
    | none => frs f m (i + k)
  | 0, m, i => by rw [Nat.zero_add]; rfl
  | k + 1, m, i => by
    rw [show k + 1 + m = k + m + 1 by omega, frs, frs]
    cases f i with
    | some r => rfl
    | none =>
      dsimp only
      rw [frs_add k m (i + 1), show i + 1 + k = i + (k + 1) by omega]
theorem frs_congr {α : Type} {f g : Nat → Option α} : ∀ (k i j : Nat), (∀ d, d < k → f (i + d) = g (j + d)) → frs f k i = frs g k j
  | 0, _, _, _ => rfl
  | k + 1, i, j, h => by
    have h0 := h 0 (by omega)
    rw [Nat.add_zero, Nat.add_zero] at h0
    rw [frs, frs, h0, frs_congr k (i + 1) (j + 1) (fun d hd => by have := h (d + 1) (by omega); rw [show i + 1 + d = i + (d + 1) by omega, show j + 1 + d = j + (d + 1) by omega]; exact this)]
theorem frs_some {α : Type} {f : Nat → Option α} {r : α} : ∀ (k i : Nat), frs f k i = some r → ∃ j, i ≤ j ∧ j < i + k ∧ f j = some r
  | 0, _, h => by cases h
  | k + 1, i, h => by
    rw [frs] at h
    cases hf : f i with
    | some q =>
      rw [hf] at h
      cases h
      exact ⟨i, Nat.le_refl _, by omega, hf⟩
    | none =>
      rw [hf] at h
      obtain ⟨j, j1, j2, j3⟩ := frs_some k (i + 1) h
      exact ⟨j, by omega, by omega, j3⟩
/-- rows of stones by which the debt d is paid, of so many stones: the first -/
def srch (dbt cr d : Nat) : Nat → (Nat → Nat) → Option (List Nat)
  | 0, b => if b (33 + d) = 0 then some [] else none
  | k + 1, b => frs (fun s => if s < b 23 ∧ b (18 + s) = dbt then (srch dbt cr d k (hand b s cr)).map (fun r => s :: r) else none) 5 0
def fwst (a : Nat → Nat) (d : Nat) : Option (List Nat) := frs (fun n => srch (a (40 + d)) (a (44 + d)) d n a) (a 23 + 1) 0
theorem srch_len {dbt cr d : Nat} : ∀ (k : Nat) (b : Nat → Nat) (r : List Nat), srch dbt cr d k b = some r → r.length = k
  | 0, b, r, h => by
    rw [srch] at h
    split at h
    · cases h; rfl
    · cases h
  | k + 1, b, r, h => by
    rw [srch] at h
    obtain ⟨s, -, -, hs⟩ := frs_some _ _ h
    (try dsimp only at hs)
    split at hs
    · cases hq : srch dbt cr d k (hand b s cr) with
      | none => rw [hq] at hs; cases hs
      | some q =>
        rw [hq] at hs
        cases hs
        rw [List.length_cons, srch_len k _ q hq]
    · cases hs
theorem srch_all {dbt cr d : Nat} : ∀ (k : Nat) (b : Nat → Nat) (r : List Nat), (WF b) → cr < b 38 → srch dbt cr d k b = some r → ∀ s ∈ r, s < b 23
  | 0, b, r, wf, hc, h => by
    rw [srch] at h
    split at h
    · cases h; intro s hs; cases hs
    · cases h
  | k + 1, b, r, wf, hc, h => by
    rw [srch] at h
    obtain ⟨s, -, -, hs⟩ := frs_some _ _ h
    (try dsimp only at hs)
    split at hs
    · rename_i c
      cases hq : srch dbt cr d k (hand b s cr) with
      | none => rw [hq] at hs; cases hs
      | some q =>
        rw [hq] at hs
        cases hs
        intro t ht
        rcases List.mem_cons.mp ht with e | e
        · rw [e]; exact c.1
        · have := srch_all k (hand b s cr) q (hand_wf wf c.1 hc) (by rw [hand_n wf c.1 (by omega)]; exact hc) hq t e
          rwa [hand_n wf c.1 (by omega)] at this
    · cases hs
section VS55
variable {F : Nat} {μ ν : fm_M} {a b : Nat → Nat} {w : Nat}
theorem hand_w {s p t : Nat} (wf : WF b) (hs : s < b 23) (ht : t < 5) : hand b s p (13 + t) = pass b (betw b (b (18 + s)) p) (13 + t) := by
  have b4 := wf.1
  unfold hand
  rw [lessO_n (by omega) (fun i hi => by have := fo_lt _ _ _ hi; omega), st_ne (by omega)]
theorem hand_o {s p t : Nat} (wf : WF b) (hs : s < b 23) (ht : t < 5) : hand b s p (18 + t) = if t = s then p else b (18 + t) := by
  have b4 := wf.1
  unfold hand
  rw [lessO_n (by omega) (fun i hi => by have := fo_lt _ _ _ hi; omega)]
  by_cases c : t = s
  · rw [st_eq (by omega), if_pos c]
  · rw [st_ne (by omega), if_neg c, pass_n (by omega) (by omega)]
/-- what is owed behind a payment -/
def dO (a o : Nat → Nat) (f t x i : Nat) : Nat :=
  match fo a o f t 0 (a 39) with
  | none => o i
  | some q => if i = q then less (o q) x else o i
theorem hand_d {s p i : Nat} (wf : WF b) (hs : s < b 23) (hi : i < 4) : hand b s p (33 + i) = dO b (fun i => b (33 + i)) (b (18 + s)) p (pass b (betw b (b (18 + s)) p) (13 + s)) i := by
  have b4 := wf.1
  unfold hand dO
  cases hf : fo b (fun i => b (33 + i)) (b (18 + s)) p 0 (b 39) with
  | none =>
    show st _ _ _ _ = _
    rw [st_ne (by omega), pass_n (by omega) (by omega)]
  | some q =>
    have hq := fo_lt _ _ _ hf
    show st _ _ _ _ = if i = q then _ else _
    by_cases c : i = q
    · rw [if_pos c, st_eq (by omega), st_ne (by omega), pass_n (by omega) (by omega)]
    · rw [if_neg c, st_ne (by omega), st_ne (by omega), pass_n (by omega) (by omega)]
def PI (a : Nat → Nat) (dbt each k : Nat) (b : Nat → Nat) : Prop := WF b ∧ (∀ j, (j < 13 ∨ (23 ≤ j ∧ j < 33) ∨ 38 ≤ j) → b j = a j) ∧ ∀ s, s < a 23 → b (18 + s) = dbt → a (18 + s) = dbt ∧ b (13 + s) = coolN (a (13 + s)) (rate a s) (k * each)
theorem PI_0 (wf : WF a) (dbt each : Nat) : PI a dbt each 0 a := ⟨wf, fun _ _ => rfl, fun s _ h => ⟨h, by rw [Nat.zero_mul]; rfl⟩⟩
theorem PI_rate {dbt each k s : Nat} (wf : WF a) (h : PI a dbt each k b) (hs : s < a 23) (ho : b (18 + s) = dbt) : rate b s = rate a s := by
  have b4 := wf.1
  have e := (h.2.2 s hs ho).1
  have := (wf.2.2.1 s hs).2.2
  unfold rate
  rw [h.2.1 (8 + s) (by omega), ho, e, h.2.1 dbt (by omega)]
theorem PI_betw {dbt each k cr : Nat} (wf : WF a) (h : PI a dbt each k b) (hd : dbt < a 38) (hc : cr < a 38) : betw b dbt cr = betw a dbt cr := by
  have b4 := wf.1
  unfold betw
  rw [h.2.1 (4 + dbt) (by omega), h.2.1 (4 + cr) (by omega)]
theorem PI_hand {dbt each k s cr : Nat} (wf : WF a) (h : PI a dbt each k b) (hs : s < a 23) (ho : b (18 + s) = dbt) (hd : dbt < a 38) (hc : cr < a 38) (hne : cr ≠ dbt) (he : betw a dbt cr = each) : PI a dbt each (k + 1) (hand b s cr) := by
  have b4 := wf.1
  have e23 := h.2.1 23 (by omega)
  have e38 := h.2.1 38 (by omega)
  refine ⟨hand_wf h.1 (by omega) (by omega), fun j hj => by rw [hand_n h.1 (by omega) hj]; exact h.2.1 j hj, fun t ht ho2 => ?_⟩
  rw [hand_o h.1 (by omega) (by omega)] at ho2
  by_cases c : t = s
  · rw [if_pos c] at ho2; omega
  · rw [if_neg c] at ho2
    have q := h.2.2 t ht ho2
    refine ⟨q.1, ?_⟩
    rw [hand_w h.1 (by omega) (by omega), pass_w (by omega), ho, PI_betw wf h hd hc, he, PI_rate wf h ht ho2, q.2, ← coolN_add, Nat.add_mul, Nat.one_mul]
/-- the class's cells when stones are chosen -/
def CI (a : Nat → Nat) (w d each m : Nat) (b : Nat → Nat) (μ : fm_M) : Prop := AW μ w a ∧ μ.1 132 4 = n3 d ∧ (∀ i, i < a 39 → μ.2.1 (141 + m) i = n3 (b (33 + i))) ∧ ∀ s, s < a 23 → a (18 + s) = a (40 + d) → ∀ i, i < 5 → μ.2.1 (135 + s) i = n3 (coolN (a (13 + s)) (rate a s) ((i + 1) * each))
theorem inA_135 {s i : Nat} (hs : s < 5) (hi : i < 5) : fm_inA (135 + s) (n3 i) = true := by
  rcases (show s = 0 ∨ s = 1 ∨ s = 2 ∨ s = 3 ∨ s = 4 by omega) with rfl | rfl | rfl | rfl | rfl <;> exact n3_in (by omega) hi
theorem inA_141 {m i : Nat} (hm : m < 6) (hi : i < 4) : fm_inA (141 + m) (n3 i) = true := by
  rcases (show m = 0 ∨ m = 1 ∨ m = 2 ∨ m = 3 ∨ m = 4 ∨ m = 5 by omega) with rfl | rfl | rfl | rfl | rfl | rfl <;> exact n3_in (by omega) hi
theorem isR_141 {m : Nat} (hm : m < 6) : fm_isR (141 + m) 4 = true := by
  rcases (show m = 0 ∨ m = 1 ∨ m = 2 ∨ m = 3 ∨ m = 4 ∨ m = 5 by omega) with rfl | rfl | rfl | rfl | rfl | rfl <;> rfl
theorem c_lessen {d m x : Nat} {o : Nat → Nat} (hw : AW μ w a) (wf : WF a) (hd : d < a 39) (hwr : w + 10 ≤ 132 ∨ 147 ≤ w) (h4 : μ.1 132 4 = n3 d) (hm : m < 5) (hx : x ≤ 99) (ho : ∀ i, i < a 39 → μ.2.1 (141 + m) i = n3 (o i) ∧ o i ≤ 99) (hF : 100 < F) : ∃ ν, f_X0_lessen F w (n3 m) (n3 x) μ = some ((), ν) ∧ (∀ i, i < a 39 → ν.2.1 (141 + (m + 1)) i = n3 (dO a o (a (40 + d)) (a (44 + d)) x i)) ∧ Ch (fun _ _ => False) (fun q _ => q = 141 + (m + 1)) μ ν := by
  have b4 := wf.1
  have wD := wf.2.2.2.2 d hd
  generalize hm1 : fm_sA μ (141 + (m + 1)) (va_cpy (μ.2.1 (141 + m)) (μ.2.1 (141 + (m + 1))) 0 0 4) = m1
  have c1 : Ch (fun _ _ => False) (fun q _ => q = 141 + (m + 1)) μ m1 := by rw [← hm1]; exact (Ch.refl _ _ μ).sG (fun _ => rfl)
  have hw1 : AW m1 w a := hw.ch c1 (fun _ => id) (by omega)
  have ho1 : ∀ i, i < a 39 → m1.2.1 (141 + (m + 1)) i = n3 (o i) ∧ o i ≤ 99 := by
    intro i hi
    rw [← hm1, fm_sA_eq rfl, cpy_0 (by omega)]
    exact ho i hi
  have hD := hw1.2.2.2.2 d hd
  have h41 : m1.1 132 4 = n3 d := by rw [c1.1 132 4 id]; exact h4
  have hfo := c_fo (F := F) hw1 wf (b := 141 + (m + 1)) (o := o) (f := a (40 + d)) (t := a (44 + d)) (fun i hi => inA_141 (by omega) hi) ho1 (by omega) (by omega) (by omega)
  have start : f_X0_lessen F w (n3 m) (n3 x) μ = (if (oi (fo a o (a (40 + d)) (a (44 + d)) 0 (a 39))) < 0 then some ((), m1) else (if fm_inA ((141 + (m + 1))) (oi (fo a o (a (40 + d)) (a (44 + d)) 0 (a 39))) = true then (Option.bind (f_X7_lessened F (m1.2.1 ((141 + (m + 1))) (oi (fo a o (a (40 + d)) (a (44 + d)) 0 (a 39))).toNatClampNeg) (n3 x) m1) (fun q13 => (if fm_inA ((141 + (m + 1))) (oi (fo a o (a (40 + d)) (a (44 + d)) 0 (a 39))) = true then (Option.bind (some (fm_sA q13.2 ((141 + (m + 1))) (upd (q13.2.2.1 ((141 + (m + 1)))) (oi (fo a o (a (40 + d)) (a (44 + d)) 0 (a 39))).toNatClampNeg q13.1))) (fun m16 => some ((), m16))) else none))) else none)) := by
    unfold f_X0_lessen
    rw [n3_one, n3_add, if_pos (n3_in (by omega) (by omega)), if_pos (n3_in (by omega) (by omega)), n3_cl (by omega), n3_cl (by omega), if_pos (isR_141 (by omega)), if_pos (isR_141 (by omega)), Option.bind_some, show (0 : Int32).toNatClampNeg = 0 from rfl, show (4 : Int32).toNatClampNeg = 4 from rfl, hm1, h41, if_pos (n3_in (by omega) (by omega)), if_pos (n3_in (by omega) (by omega)), n3_cl (by omega), hD.1, hD.2.1, hfo, Option.bind_some]
  rw [start]
  unfold dO
  cases hq : fo a o (a (40 + d)) (a (44 + d)) 0 (a 39) with
  | none =>
    refine ⟨m1, ?_, fun i hi => (ho1 i hi).1, c1⟩
    rw [oi_none]
    exact if_pos (by decide)
  | some q =>
    have hlt := fo_lt _ _ _ hq
    have h1 := ho1 q (by omega)
    refine ⟨fm_sA m1 (141 + (m + 1)) (upd (m1.2.1 (141 + (m + 1))) q (n3 (less (o q) x))), ?_, fun i hi => ?_, c1.sU rfl⟩
    · rw [oi_some, if_neg (by rw [n3_k0, n3_lt (by omega) (by omega)]; omega), if_pos (inA_141 (by omega) (by omega)), n3_cl (by omega), h1.1, c_less h1.2 hx, Option.bind_some, if_pos (inA_141 (by omega) (by omega)), Option.bind_some]
    · rw [fm_sA_eq rfl]
      dsimp only
      by_cases c : i = q
      · rw [upd_eq c, if_pos c]
      · rw [upd_ne c, if_neg c]; exact (ho1 i hi).1
theorem v_clr : ((List.range 32).all fun u => (List.range 5).all fun s => decide (u / 2 ^ s % 2 = 0 ∨ ((n3 u &&& ((1 <<< (n3 s &&& 31)) ^^^ (-1))) = n3 (u - 2 ^ s) ∧ ((List.range 5).all fun t => decide ((u - 2 ^ s) / 2 ^ t % 2 = if t = s then 0 else u / 2 ^ t % 2)) = true))) = true := by decide +kernel
theorem v_clr' {u s : Nat} (hu : u < 32) (hs : s < 5) (h : u / 2 ^ s % 2 = 1) : (n3 u &&& ((1 <<< (n3 s &&& 31)) ^^^ (-1))) = n3 (u - 2 ^ s) ∧ ∀ t, t < 5 → (u - 2 ^ s) / 2 ^ t % 2 = if t = s then 0 else u / 2 ^ t % 2 := by
  have q := (of_decide_eq_true (List.all_eq_true.mp (List.all_eq_true.mp v_clr u (List.mem_range.mpr hu)) s (List.mem_range.mpr hs))).resolve_left (by omega)
  exact ⟨q.1, fun t ht => of_decide_eq_true (List.all_eq_true.mp q.2 t (List.mem_range.mpr ht))⟩
/-- the mask of the stones that are his -/
def UM (dbt u : Nat) (b : Nat → Nat) : Prop := u < 32 ∧ ∀ s, s < 5 → (u / 2 ^ s % 2 = 1 ↔ (s < b 23 ∧ b (18 + s) = dbt))
theorem UM_hand {dbt u s cr : Nat} (wf : WF b) (h : UM dbt u b) (hs : s < b 23) (ho : b (18 + s) = dbt) (hne : cr ≠ dbt) : UM dbt (u - 2 ^ s) (hand b s cr) := by
  have b4 := wf.1
  have hb := (h.2 s (by omega)).mpr ⟨hs, ho⟩
  have q := (v_clr' h.1 (by omega) hb).2
  refine ⟨Nat.lt_of_le_of_lt (Nat.sub_le _ _) h.1, fun t ht => ?_⟩
  rw [q t ht, hand_n wf hs (by omega), hand_o wf hs ht]
  by_cases c : t = s
  · rw [if_pos c, if_pos c]
    constructor
    · intro c; omega
    · intro c; exact absurd c.2 hne
  · rw [if_neg c, if_neg c]; exact h.2 t ht
/-- the class's answer for a search -/
def oB {α : Type} : Option α → Int32
  | none => n3 0
  | some _ => n3 1
theorem c_ch_l {rec : Nat → Int32 → Int32 → Int32 → fm_M → Option (Int32 × fm_M)} {d n u each : Nat} {pre : List Nat} {f : Nat → Option (List Nat)} (wf : WF a) (hd : d < a 39) (hwr : w + 10 ≤ 132 ∨ 147 ≤ w) (hpl : pre.length < 5) (hb : PI a (a (40 + d)) each pre.length b) (hu : UM (a (40 + d)) u b) (he : betw a (a (40 + d)) (a (44 + d)) = each) (hF : 100 < F)
    (f0 : ∀ s, ¬ (s < b 23 ∧ b (18 + s) = a (40 + d)) → f s = none)
    (hrec : ∀ s μ, s < b 23 → b (18 + s) = a (40 + d) → CI a w d each (pre.length + 1) (hand b s (a (44 + d))) μ → LR μ 133 (pre ++ [s]) → ∃ ν, rec w (n3 (pre.length + 1)) (n3 n) (n3 (u - 2 ^ s)) μ = some (oB (f s), ν) ∧ (∀ r, f s = some r → LR ν 133 (pre ++ r)) ∧ Ch (fun _ _ => False) (fun q j => (q = 133 ∧ pre.length + 1 ≤ j) ∨ (141 + (pre.length + 1) < q ∧ q < 147)) μ ν) : ∀ (K i m : Nat) (μ : fm_M), i + K = a 23 → K < m → CI a w d each pre.length b μ → LR μ 133 pre → ∃ ν, g_X0_choose F rec w m 33 (n3 pre.length) (n3 n) (n3 u) (n3 i) μ = some (oB (frs f (5 - i) i), ν) ∧ (∀ r, frs f (5 - i) i = some r → LR ν 133 (pre ++ r)) ∧ Ch (fun _ _ => False) (fun q j => (q = 133 ∧ pre.length ≤ j) ∨ (141 + pre.length < q ∧ q < 147)) μ ν
  | 0, i, m + 1, μ, hi, _, hI, hT => by
    have b4 := wf.1
    have h3 := hI.1.1.2.1
    have e23 := hb.2.1 23 (by omega)
    have fn : frs f (5 - i) i = none := frs_none _ _ (fun j h1 h2 => f0 j (by omega))
    refine ⟨μ, ?_, (fun r hr => by rw [fn] at hr; cases hr), Ch.refl _ _ μ⟩
    rw [fn, g_X0_choose, if_pos rfl, b_X0_choose_33, h3, if_pos (by rw [n3_le (by omega) (by omega)]; omega)]
    rfl
  | K + 1, i, m + 1, μ, hi, hm, hI, hT => by
    have b4 := wf.1
    have h3 := hI.1.1.2.1
    have e23 := hb.2.1 23 (by omega)
    have e39 := hb.2.1 39 (by omega)
    have bits := v_m5' hu.1 (show i < 5 by omega)
    have two := Nat.mod_lt (u / 2 ^ i) (show 0 < 2 by omega)
    have wD := wf.2.2.2.2 d hd
    have ih := c_ch_l (f := f) wf hd hwr hpl hb hu he hF f0 hrec K (i + 1) m
    rw [show 5 - i = 5 - (i + 1) + 1 by omega, frs, g_X0_choose, if_pos rfl, b_X0_choose_33, h3, if_neg (by rw [n3_le (by omega) (by omega)]; omega), bits.1]
    by_cases c : u / 2 ^ i % 2 = 1
    · obtain ⟨o1, o2⟩ := (hu.2 i (by omega)).mp c
      have cl := v_clr' hu.1 (show i < 5 by omega) c
      have ai := hb.2.2 i (by omega) o2
      have wS := wf.2.2.1 i (by omega)
      generalize hm1 : fm_sA μ 133 (upd (μ.2.1 133) pre.length (n3 i)) = m1
      have c1 : Ch (fun _ _ => False) (fun q j => q = 133 ∧ pre.length ≤ j) μ m1 := by rw [← hm1]; exact (Ch.refl _ _ μ).sU ⟨rfl, Nat.le_refl _⟩
      have hw1 : AW m1 w a := hI.1.ch c1 (fun _ => id) (by omega)
      have h41 : m1.1 132 4 = n3 d := by rw [c1.1 132 4 id]; exact hI.2.1
      have ar : m1.2.1 (135 + i) pre.length = n3 (coolN (a (13 + i)) (rate a i) ((pre.length + 1) * each)) := by
        rw [c1.2.1 _ _ (by omega)]; exact hI.2.2.2 i (by omega) ai.1 pre.length hpl
      have xl := coolN_le (a (13 + i)) (rate a i) ((pre.length + 1) * each)
      have px : pass b (betw b (b (18 + i)) (a (44 + d))) (13 + i) = coolN (a (13 + i)) (rate a i) ((pre.length + 1) * each) := by
        rw [pass_w o1, o2, PI_betw wf hb wD.2.1 wD.2.2.1, he, PI_rate wf hb (by omega) o2, ai.2, ← coolN_add, Nat.add_mul, Nat.one_mul]
      obtain ⟨μ2, q1, q2, q3⟩ := c_lessen (F := F) (o := fun i => b (33 + i)) hw1 wf hd hwr h41 hpl (x := coolN (a (13 + i)) (rate a i) ((pre.length + 1) * each)) (by omega) (fun j hj => ⟨by rw [c1.2.1 _ _ (by omega)]; exact hI.2.2.1 j hj, (hb.1.2.2.2.2 j (by omega)).1⟩) hF
      have T2 : LR μ2 133 (pre ++ [i]) := by
        refine LR.snoc ?_ ?_
        · intro j x hj
          obtain ⟨hlt, -⟩ := List.getElem?_eq_some_iff.mp hj
          rw [q3.2.1 133 j (by omega), c1.2.1 133 j (by omega)]
          exact hT j x hj
        · rw [q3.2.1 133 _ (by omega), ← hm1, fm_sA_eq rfl, upd_eq rfl]
      have ff : fo b (fun i => b (33 + i)) (b (18 + i)) (a (44 + d)) 0 (b 39) = fo a (fun i => b (33 + i)) (a (40 + d)) (a (44 + d)) 0 (a 39) := by
        rw [o2, e39]
        exact fo_congr _ _ (fun j _ hj => ⟨hb.2.1 _ (by omega), hb.2.1 _ (by omega), rfl⟩)
      have C2 : CI a w d each (pre.length + 1) (hand b i (a (44 + d))) μ2 := by
        refine ⟨hw1.ch q3 (fun _ => id) (by omega), by rw [q3.1 132 4 id]; exact h41, fun j hj => ?_, fun s hs hs2 j hj => ?_⟩
        · rw [q2 j hj, hand_d hb.1 o1 (by omega), px]
          unfold dO
          rw [ff]
        · rw [q3.2.1 _ _ (by omega), c1.2.1 _ _ (by omega)]; exact hI.2.2.2 s hs hs2 j hj
      obtain ⟨μ3, r1, r2, r3⟩ := hrec i μ2 o1 o2 C2 T2
      have cc : Ch (fun _ _ => False) (fun q j => (q = 133 ∧ pre.length ≤ j) ∨ (141 + pre.length < q ∧ q < 147)) μ μ3 := ((c1.weak (fun _ _ c => c) (fun q j c => .inl c)).trans (q3.weak (fun _ _ c => c) (fun q j c => by omega))).trans (r3.weak (fun _ _ c => c) (fun q j c => by omega))
      have step : (if (n3 (u / 2 ^ i % 2)) = 0 then g_X0_choose F rec w m 33 (n3 pre.length) (n3 n) (n3 u) (n3 i + 1) μ else (if ab_in (n3 pre.length) 5 = true then (Option.bind (some (fm_sA μ 133 (upd (μ.2.1 133) (n3 pre.length).toNatClampNeg (n3 i)))) (fun m4 => (if ab_in (n3 i) 5 = true then (if fm_inA ((135 + (n3 i).toNatClampNeg)) (n3 pre.length) = true then (Option.bind (f_X0_lessen F w (n3 pre.length) (m4.2.1 ((135 + (n3 i).toNatClampNeg)) (n3 pre.length).toNatClampNeg) m4) (fun q8 => (Option.bind (rec w (n3 pre.length + 1) (n3 n) (n3 u &&& ((1 <<< (n3 i &&& 31)) ^^^ (-1))) q8.2) (fun q10 => (if q10.1 = 0 then g_X0_choose F rec w m 33 (n3 pre.length) (n3 n) (n3 u) (n3 i + 1) q10.2 else some (1, q10.2)))))) else none) else none))) else none)) = (if oB (f i) = 0 then g_X0_choose F rec w m 33 (n3 pre.length) (n3 n) (n3 u) (n3 (i + 1)) μ3 else some (n3 1, μ3)) := by
        rw [if_neg (show ¬ n3 (u / 2 ^ i % 2) = 0 by rw [c]; decide), if_pos (n3_in (by omega) hpl), Option.bind_some, n3_cl (by omega), n3_cl (by omega), hm1, if_pos (n3_in (by omega) (by omega)), if_pos (inA_135 (by omega) hpl), ar, q1, Option.bind_some, cl.1, n3_one, n3_add, n3_add]
        dsimp only
        rw [r1, Option.bind_some]
      rw [step]
      cases hfi : f i with
      | some r =>
        refine ⟨μ3, ?_, (fun r' hr' => by cases hr'; exact r2 r hfi), cc⟩
        exact if_neg (by show ¬ n3 1 = 0; decide)
      | none =>
        have C3 : CI a w d each pre.length b μ3 := by
          refine ⟨hI.1.ch cc (fun _ => id) (by omega), by rw [cc.1 132 4 id]; exact hI.2.1, fun j hj => ?_, fun s hs hs2 j hj => ?_⟩
          · rw [cc.2.1 _ _ (by omega)]; exact hI.2.2.1 j hj
          · rw [cc.2.1 _ _ (by omega)]; exact hI.2.2.2 s hs hs2 j hj
        obtain ⟨ν, s1, s2, s3⟩ := ih μ3 (by omega) (by omega) C3 (fun j x hj => by
          obtain ⟨hlt, -⟩ := List.getElem?_eq_some_iff.mp hj
          rw [cc.2.1 133 j (by omega)]; exact hT j x hj)
        refine ⟨ν, ?_, s2, cc.trans s3⟩
        exact (if_pos rfl).trans s1
    · have hfi : f i = none := f0 i (fun q => c ((hu.2 i (by omega)).mpr q))
      obtain ⟨ν, s1, s2, s3⟩ := ih μ (by omega) (by omega) hI hT
      rw [hfi]
      refine ⟨ν, ?_, s2, s3⟩
      rw [if_pos (show n3 (u / 2 ^ i % 2) = 0 by rw [show u / 2 ^ i % 2 = 0 by omega]; rfl), n3_one, n3_add]
      exact s1
theorem c_choose {d each : Nat} (wf : WF a) (hd : d < a 39) (hwr : w + 10 ≤ 132 ∨ 147 ≤ w) (he : betw a (a (40 + d)) (a (44 + d)) = each) (hF : 100 < F) : ∀ (k e : Nat) (pre : List Nat) (b : Nat → Nat) (u : Nat) (μ : fm_M), pre.length + k ≤ 5 → k < e → PI a (a (40 + d)) each pre.length b → UM (a (40 + d)) u b → CI a w d each pre.length b μ → LR μ 133 pre → ∃ ν, f_X0_choose F e w (n3 pre.length) (n3 (pre.length + k)) (n3 u) μ = some (oB (srch (a (40 + d)) (a (44 + d)) d k b), ν) ∧ (∀ r, srch (a (40 + d)) (a (44 + d)) d k b = some r → LR ν 133 (pre ++ r)) ∧ Ch (fun _ _ => False) (fun q j => (q = 133 ∧ pre.length ≤ j) ∨ (141 + pre.length < q ∧ q < 147)) μ ν
  | 0, e + 1, pre, b, u, μ, hl, _, hb, hu, hI, hT => by
    have b4 := wf.1
    have hbd := hI.2.2.1 d hd
    have e39 := hb.2.1 39 (by omega)
    have l99 := (hb.1.2.2.2.2 d (by omega)).1
    refine ⟨μ, ?_, fun r hr => ?_, Ch.refl _ _ μ⟩
    · rw [f_X0_choose, f0_X0_choose, if_pos (by rw [n3_le (by omega) (by omega)]; omega), if_pos (n3_in (by omega) (by omega)), n3_cl (by omega), hI.2.1, if_pos (inA_141 (by omega) (by omega)), n3_cl (by omega), hbd, srch]
      by_cases c : b (33 + d) = 0
      · rw [if_neg (show ¬ ¬ n3 (b (33 + d)) = 0 from fun n => n (by rw [c]; rfl)), if_pos c]; rfl
      · rw [if_pos (show ¬ n3 (b (33 + d)) = 0 by rw [n3_k0, n3_eq (by omega) (by omega)]; exact c), if_neg c]; rfl
    · rw [srch] at hr
      split at hr
      · cases hr; rw [List.append_nil]; exact hT
      · cases hr
  | k + 1, e + 1, pre, b, u, μ, hl, he2, hb, hu, hI, hT => by
    have b4 := wf.1
    have e23 := hb.2.1 23 (by omega)
    have wD := wf.2.2.2.2 d hd
    obtain ⟨ν, q1, q2, q3⟩ := c_ch_l (F := F) (rec := f_X0_choose F e) (n := pre.length + (k + 1)) (pre := pre) (f := fun s => if s < b 23 ∧ b (18 + s) = a (40 + d) then (srch (a (40 + d)) (a (44 + d)) d k (hand b s (a (44 + d)))).map (fun r => s :: r) else none) wf hd hwr (by omega) hb hu he hF (fun s hs => if_neg hs) (fun s μ h1 h2 hI2 hT2 => by
      have hl2 : (pre ++ [s]).length = pre.length + 1 := by rw [List.length_append, List.length_singleton]
      obtain ⟨ν, r1, r2, r3⟩ := c_choose wf hd hwr he hF k e (pre ++ [s]) (hand b s (a (44 + d))) (u - 2 ^ s) μ (by omega) (by omega) (by rw [hl2]; exact PI_hand wf hb (by omega) h2 wD.2.1 wD.2.2.1 (fun c => wD.2.2.2 c.symm) he) (UM_hand hb.1 hu h1 h2 (fun c => wD.2.2.2 c.symm)) (by rw [hl2]; exact hI2) hT2
      rw [hl2] at r1 r3
      rw [if_pos ⟨h1, h2⟩]
      refine ⟨ν, ?_, fun r hr => ?_, r3⟩
      · rw [show pre.length + (k + 1) = pre.length + 1 + k by omega, r1]
        cases srch (a (40 + d)) (a (44 + d)) d k (hand b s (a (44 + d))) <;> rfl
      · cases hq : srch (a (40 + d)) (a (44 + d)) d k (hand b s (a (44 + d))) with
        | none => rw [hq] at hr; cases hr
        | some q =>
          rw [hq] at hr
          cases hr
          have := r2 q hq
          rwa [List.append_assoc] at this) (a 23) 0 F μ (by omega) (by omega) hI hT
    refine ⟨ν, ?_, ?_, q3⟩
    · rw [f_X0_choose, f0_X0_choose, if_neg (by rw [n3_le (by omega) (by omega)]; omega), if_pos (by rw [n3_k5, n3_lt (by omega) (by omega)]; omega), n3_k0, srch]
      exact q1
    · rw [srch]; exact q2
end VS55
