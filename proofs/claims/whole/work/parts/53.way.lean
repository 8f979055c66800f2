/-! the warmest way -/
def hst (a : Nat → Nat) (k : Nat) (z : Nat × Nat × Nat) (n : Nat) : Nat × Nat × Nat := (n, coolN z.2.1 (rateA k (a z.1)) (betw a z.1 n), z.2.2 + betw a z.1 n)
def jdg (b : Option (Nat × Nat × List Nat)) (v m : Nat) (p : List Nat) : Option (Nat × Nat × List Nat) :=
  match b with
  | none => some (v, m, p)
  | some q => if q.1 < v ∨ (v = q.1 ∧ p.length < q.2.2.length) then some (v, m, p) else some q
def jz (a : Nat → Nat) (k : Nat) (z0 : Nat × Nat × Nat) (b : Option (Nat × Nat × List Nat)) (p : List Nat) : Option (Nat × Nat × List Nat) := jdg b (p.foldl (hst a k) z0).2.1 (p.foldl (hst a k) z0).2.2 p
def plp (f : Nat → List (List Nat)) : Nat → Nat → List (List Nat)
  | 0, _ => []
  | k + 1, i => f i ++ plp f k (i + 1)
def pths (M tgt : Nat) : Nat → List Nat → Nat → Nat → List (List Nat)
  | 0, _, _, _ => []
  | e + 1, tr, h, vis => if h = tgt then [tr] else if 4 ≤ tr.length then [] else plp (fun n => if vis / 2 ^ n % 2 = 1 then [] else pths M tgt e (tr ++ [n]) n (vis ||| 2 ^ n)) M 0
def lhS (M : Nat) (st : Nat × Nat × Nat × Bool) (k : Nat) : Nat × Nat × Nat × Bool :=
  (st.1 + (if st.2.2.2 = true ∧ k ≤ st.1 ∧ st.2.1 / 25 < 4 ∧ st.2.1 / 25 < M ∧ st.2.2.1 / 2 ^ (st.2.1 / 25) % 2 = 0 then 1 else 0), st.2.1 % 25 * 5, st.2.2.1 ||| 2 ^ (st.2.1 / 25), st.2.2.2 && (decide (st.2.1 / 25 = 4) || (decide (k ≤ st.1) && (decide (st.2.1 / 25 < M) && decide (st.2.2.1 / 2 ^ (st.2.1 / 25) % 2 = 0)))))
def lhE (M code frm : Nat) : Nat × Nat × Nat × Bool := lhS M (lhS M (lhS M (0, code, 2 ^ frm, true) 0) 1) 2
def dgs (code : Nat) : List Nat := [code / 25, code % 25 * 5 / 25, code % 25 * 5 % 25 * 5 / 25]
def lhR (M frm to code : Nat) : Option (List Nat) := if (lhE M code frm).2.2.2 = true ∧ 0 < (lhE M code frm).1 ∧ (dgs code).getD ((lhE M code frm).1 - 1) 0 = to then some ((dgs code).take (lhE M code frm).1) else none
theorem v_ways : ((List.range 5).all fun M => (List.range 4).all fun f => (List.range 4).all fun t => decide (M ≤ f ∨ M ≤ t ∨ f = t ∨ (plp (fun c => (lhR M f t c).toList) 125 0 = pths M t 8 [] f (2 ^ f) ∧ pths M t 8 [] f (2 ^ f) ≠ []))) = true := by decide +kernel
theorem v_lh : ((List.range 5).all fun M => (List.range 4).all fun f => (List.range 4).all fun t => (List.range 125).all fun c => decide (M ≤ f ∨ ((lhE M c f).1 ≤ 3 ∧ ∀ p ∈ lhR M f t c, p.length ≤ 3 ∧ p.all (fun x => decide (x < M)) = true))) = true := by decide +kernel
theorem v_m5 : ((List.range 32).all fun s => (List.range 5).all fun t => decide (((n3 s >>> (n3 t &&& 31)) &&& 1) = n3 (s / 2 ^ t % 2) ∧ (n3 s ||| (1 <<< (n3 t &&& 31))) = n3 (s ||| 2 ^ t) ∧ (s ||| 2 ^ t) < 32)) = true := by decide +kernel
theorem v_m5' {s t : Nat} (h : s < 32) (h2 : t < 5) : ((n3 s >>> (n3 t &&& 31)) &&& 1) = n3 (s / 2 ^ t % 2) ∧ (n3 s ||| (1 <<< (n3 t &&& 31))) = n3 (s ||| 2 ^ t) ∧ (s ||| 2 ^ t) < 32 :=
  of_decide_eq_true (List.all_eq_true.mp (List.all_eq_true.mp v_m5 s (List.mem_range.mpr h)) t (List.mem_range.mpr h2))
theorem v_ways' {M f t : Nat} (h : M ≤ 4) (hf : f < M) (ht : t < M) (hn : f ≠ t) : plp (fun c => (lhR M f t c).toList) 125 0 = pths M t 8 [] f (2 ^ f) ∧ pths M t 8 [] f (2 ^ f) ≠ [] := by
  have := of_decide_eq_true (List.all_eq_true.mp (List.all_eq_true.mp (List.all_eq_true.mp v_ways M (List.mem_range.mpr (by omega))) f (List.mem_range.mpr (by omega))) t (List.mem_range.mpr (by omega)))
  rcases this with c | c | c | c
  · omega
  · omega
  · omega
  · exact c
theorem v_lh' {M f t c : Nat} (h : M ≤ 4) (hf : f < M) (ht : t < 4) (hc : c < 125) : (lhE M c f).1 ≤ 3 ∧ ∀ p, lhR M f t c = some p → p.length ≤ 3 ∧ ∀ x ∈ p, x < M := by
  have := of_decide_eq_true (List.all_eq_true.mp (List.all_eq_true.mp (List.all_eq_true.mp (List.all_eq_true.mp v_lh M (List.mem_range.mpr (by omega))) f (List.mem_range.mpr (by omega))) t (List.mem_range.mpr (by omega))) c (List.mem_range.mpr hc))
  rcases this with c | ⟨c, d⟩
  · omega
  · refine ⟨c, fun p hp => ?_⟩
    obtain ⟨d1, d2⟩ := d p (by rw [hp]; rfl)
    exact ⟨d1, fun x hx => of_decide_eq_true (List.all_eq_true.mp d2 x hx)⟩
theorem Ch.sG {pI pA : Nat → Nat → Prop} {μ ν : fm_M} (h : Ch pI pA μ ν) {q : Nat} {g : Nat → Int32} (hp : ∀ j, pA q j) : Ch pI pA μ (fm_sA ν q g) := by
  refine ⟨h.1, fun b j hq => ?_, h.2.2⟩
  rw [← h.2.1 b j hq]
  by_cases e : b = q
  · subst e; exact absurd (hp j) hq
  · rw [fm_sA_ne e]
/-- a row in memory -/
def LR (μ : fm_M) (q : Nat) (p : List Nat) : Prop := ∀ j x, p[j]? = some x → μ.2.1 q j = n3 x
theorem LR.snoc {μ : fm_M} {q : Nat} {p : List Nat} {x : Nat} (h : LR μ q p) (hx : μ.2.1 q p.length = n3 x) : LR μ q (p ++ [x]) := by
  intro j y hj
  by_cases c : j < p.length
  · rw [List.getElem?_append_left c] at hj
    exact h j y hj
  · rw [List.getElem?_append_right (by omega)] at hj
    by_cases c2 : j = p.length
    · subst c2
      rw [Nat.sub_self] at hj
      cases hj
      exact hx
    · rw [List.getElem?_eq_none (by simp only [List.length_singleton]; omega)] at hj
      cases hj
def BR (μ : fm_M) (b : Option (Nat × Nat × List Nat)) : Prop :=
  match b with
  | none => μ.1 129 3 = -n3 1
  | some q => μ.1 129 2 = n3 q.2.2.length ∧ μ.1 129 3 = n3 q.1 ∧ μ.1 129 4 = n3 q.2.1 ∧ LR μ 131 q.2.2 ∧ q.1 ≤ 99 ∧ q.2.2.length ≤ 4
section VS53
variable {F : Nat} {μ ν : fm_M} {a : Nat → Nat} {w : Nat}
theorem BR.ch {pI pA : Nat → Nat → Prop} {b : Option (Nat × Nat × List Nat)} (h : BR μ b) (hc : Ch pI pA μ ν) (h1 : ∀ j, ¬ pI 129 j) (h2 : ∀ j, ¬ pA 131 j) : BR ν b := by
  cases b with
  | none => show ν.1 129 3 = _; rw [hc.1 _ _ (h1 _)]; exact h
  | some q =>
    obtain ⟨k1, k2, k3, k4, k5⟩ := h
    refine ⟨?_, ?_, ?_, fun j x hj => ?_, k5⟩
    · rw [hc.1 _ _ (h1 _)]; exact k1
    · rw [hc.1 _ _ (h1 _)]; exact k2
    · rw [hc.1 _ _ (h1 _)]; exact k3
    · rw [hc.2.1 _ _ (h2 _)]; exact k4 j x hj
theorem c_judge {b : Option (Nat × Nat × List Nat)} {v m : Nat} {p : List Nat} (h : BR μ b) (ht : LR μ 130 p) (hv : v ≤ 99) (hl : p.length ≤ 4) : ∃ ν, f_X1_judge F (n3 p.length) (n3 v) (n3 m) μ = some ((), ν) ∧ BR ν (jdg b v m p) ∧ Ch (fun q j => q = 129 ∧ (j = 2 ∨ j = 3 ∨ j = 4)) (fun q _ => q = 131) μ ν := by
  have taken : BR (fm_sA (fm_sI (fm_sI (fm_sI μ 129 2 (n3 p.length)) 129 3 (n3 v)) 129 4 (n3 m)) 131 (va_cpy (μ.2.1 130) (μ.2.1 131) 0 0 4)) (some (v, m, p)) ∧ Ch (fun q j => q = 129 ∧ (j = 2 ∨ j = 3 ∨ j = 4)) (fun q _ => q = 131) μ (fm_sA (fm_sI (fm_sI (fm_sI μ 129 2 (n3 p.length)) 129 3 (n3 v)) 129 4 (n3 m)) 131 (va_cpy (μ.2.1 130) (μ.2.1 131) 0 0 4)) := by
    refine ⟨⟨?_, ?_, ?_, fun j x hj => ?_, hv, hl⟩, ((((Ch.refl _ _ μ).sI (by omega)).sI (by omega)).sI (by omega)).sG (fun _ => rfl)⟩
    · simp (disch := omega) only [fm_sA_1, fm_sI_ne, fm_sI_eq]
    · simp (disch := omega) only [fm_sA_1, fm_sI_ne, fm_sI_eq]
    · simp (disch := omega) only [fm_sA_1, fm_sI_ne, fm_sI_eq]
    · have hj : p[j]? = some x := hj
      obtain ⟨hlt, -⟩ := List.getElem?_eq_some_iff.mp hj
      rw [fm_sA_eq rfl, cpy_0 (by omega)]
      exact ht j x hj
  have e4 : (0 : Int32).toNatClampNeg = 0 ∧ (4 : Int32).toNatClampNeg = 4 := ⟨rfl, rfl⟩
  unfold f_X1_judge
  cases b with
  | none =>
    refine ⟨_, ?_, taken⟩
    have h : μ.1 129 3 = -n3 1 := h
    rw [h, if_pos (by rw [nn_lt (by omega) (by omega) (by omega)]; exact trivial)]
    rfl
  | some q =>
    obtain ⟨k1, k2, k3, k4, k5, k6⟩ := id h
    rw [k1, k2]
    by_cases c1 : q.1 < v
    · refine ⟨_, ?_, by rw [jdg, if_pos (.inl c1)]; exact taken⟩
      rw [if_pos (by rw [n3_lt (by omega) (by omega)]; exact c1)]
      rfl
    · rw [if_neg (by rw [n3_lt (by omega) (by omega)]; exact c1)]
      by_cases c2 : v = q.1
      · rw [if_neg (show ¬ ¬ n3 v = n3 q.1 from fun n => n (by rw [c2]))]
        by_cases c3 : q.2.2.length ≤ p.length
        · refine ⟨μ, ?_, by rw [jdg, if_neg (by omega)]; exact h, Ch.refl _ _ μ⟩
          rw [if_pos (by rw [n3_le (by omega) (by omega)]; exact c3)]
        · refine ⟨_, ?_, by rw [jdg, if_pos (by omega)]; exact taken⟩
          rw [if_neg (by rw [n3_le (by omega) (by omega)]; exact c3)]
          rfl
      · refine ⟨μ, ?_, by rw [jdg, if_neg (by omega)]; exact h, Ch.refl _ _ μ⟩
        rw [if_pos (by rw [n3_eq (by omega) (by omega)]; exact c2)]
def WI (a : Nat → Nat) (k tgt : Nat) (μ : fm_M) (b : Option (Nat × Nat × List Nat)) : Prop := AW μ 101 a ∧ μ.1 129 5 = n3 k ∧ μ.1 129 6 = n3 tgt ∧ BR μ b
theorem c_wl {rec : Int32 → Int32 → Int32 → Int32 → Int32 → fm_M → Option (Unit × fm_M)} {f : Nat → List (List Nat)} {k tgt h v m vis : Nat} {z0 : Nat × Nat × Nat} {tr : List Nat} (wf : WF a) (hk : k < 4) (hh : h < a 38) (hv : v ≤ 99) (hvis : vis < 32) (htr : tr.length < 4) (hF : 100 < F)
    (f0 : ∀ n, n < a 38 → vis / 2 ^ n % 2 = 1 → f n = [])
    (hrec : ∀ n μ b, n < a 38 → vis / 2 ^ n % 2 = 0 → WI a k tgt μ b → LR μ 130 (tr ++ [n]) → ∃ ν, rec (n3 (tr.length + 1)) (n3 n) (n3 (coolN v (rateA k (a h)) (betw a h n))) (n3 (m + betw a h n)) (n3 (vis ||| 2 ^ n)) μ = some ((), ν) ∧ WI a k tgt ν ((f n).foldl (jz a k z0) b) ∧ Ch (fun q j => q = 129 ∧ (j = 2 ∨ j = 3 ∨ j = 4)) (fun q j => q = 131 ∨ (q = 130 ∧ tr.length + 1 ≤ j)) μ ν) : ∀ (K i n : Nat) (μ : fm_M) (b : Option (Nat × Nat × List Nat)), i + K = a 38 → K < n → WI a k tgt μ b → LR μ 130 tr → ∃ ν, g_X1_step F rec n 27 (n3 tr.length) (n3 h) (n3 v) (n3 m) (n3 vis) (n3 i) μ = some ((), ν) ∧ WI a k tgt ν ((plp f K i).foldl (jz a k z0) b) ∧ Ch (fun q j => q = 129 ∧ (j = 2 ∨ j = 3 ∨ j = 4)) (fun q j => q = 131 ∨ (q = 130 ∧ tr.length ≤ j)) μ ν
  | 0, i, n + 1, μ, b, hi, _, hI, hT => by
    have b4 := wf.1
    refine ⟨μ, ?_, hI, Ch.refl _ _ μ⟩
    have h0 := hI.1.z.1.1
    rw [g_X1_step, if_pos rfl, b_X1_step_27, h0, if_pos (by rw [n3_le (by omega) (by omega)]; omega)]
  | K + 1, i, n + 1, μ, b, hi, hn, hI, hT => by
    have b4 := wf.1
    have h0 := hI.1.z.1.1
    have bits := v_m5' hvis (show i < 5 by omega)
    have two := Nat.mod_lt (vis / 2 ^ i) (show 0 < 2 by omega)
    rw [plp, List.foldl_append, g_X1_step, if_pos rfl, b_X1_step_27, h0, if_neg (by rw [n3_le (by omega) (by omega)]; omega), bits.1]
    by_cases c : vis / 2 ^ i % 2 = 1
    · obtain ⟨ν, r1, r2, r3⟩ := c_wl (f := f) wf hk hh hv hvis htr hF f0 hrec K (i + 1) n μ b (by omega) (by omega) hI hT
      refine ⟨ν, ?_, by rw [f0 i (by omega) c]; exact r2, r3⟩
      rw [if_pos (show ¬ n3 (vis / 2 ^ i % 2) = 0 by rw [c]; decide), n3_one, n3_add]
      exact r1
    · have c0 : vis / 2 ^ i % 2 = 0 := by omega
      have hb := c_betw (F := F) hI.1 wf hh (show i < a 38 by omega)
      have bb := betw_le wf hh (show i < a 38 by omega)
      have wP := wf.2.1 h hh
      have hP := (hI.1.z.2.1 h hh).1
      have hr : f_X8_rate F (n3 k) (n3 (a h)) μ = some (n3 (rateA k (a h)), μ) := c_rate hk (by omega)
      have r8 := rateA_le k (a h)
      have hc : f_X8_cooledFor F (n3 v) (n3 (rateA k (a h))) (n3 (betw a h i)) μ = some (n3 (coolN v (rateA k (a h)) (betw a h i)), μ) := c_cooledFor (by omega) (by omega) (by omega) (by omega)
      have c1 : Ch (fun q j => q = 129 ∧ (j = 2 ∨ j = 3 ∨ j = 4)) (fun q j => q = 131 ∨ (q = 130 ∧ tr.length ≤ j)) μ (fm_sA μ 130 (upd (μ.2.1 130) tr.length (n3 i))) := (Ch.refl _ _ μ).sU (by omega)
      have c1' : Ch (fun _ _ => False) (fun q j => q = 130 ∧ tr.length ≤ j) μ (fm_sA μ 130 (upd (μ.2.1 130) tr.length (n3 i))) := (Ch.refl _ _ μ).sU (by omega)
      have T1 : LR (fm_sA μ 130 (upd (μ.2.1 130) tr.length (n3 i))) 130 tr := by
        intro j x hj
        obtain ⟨hlt, -⟩ := List.getElem?_eq_some_iff.mp hj
        rw [fm_sA_eq rfl, upd_ne (by omega)]
        exact hT j x hj
      obtain ⟨μ1, q1, q2, q3⟩ := hrec i (fm_sA μ 130 (upd (μ.2.1 130) tr.length (n3 i))) b (by omega) c0 ⟨hI.1.ch c1' (fun _ c => c) (by omega), hI.2.1, hI.2.2.1, hI.2.2.2.ch c1' (fun _ c => c) (by omega)⟩ (T1.snoc (by rw [fm_sA_eq rfl, upd_eq rfl]))
      obtain ⟨ν, r1, r2, r3⟩ := c_wl (f := f) wf hk hh hv hvis htr hF f0 hrec K (i + 1) n μ1 _ (by omega) (by omega) q2 (by
        intro j x hj
        obtain ⟨hlt, -⟩ := List.getElem?_eq_some_iff.mp hj
        rw [q3.2.1 130 j (by omega)]
        exact T1 j x hj)
      refine ⟨ν, ?_, r2, (c1.trans (q3.weak (fun q j c => c) (fun q j c => by omega))).trans r3⟩
      rw [if_neg (show ¬ ¬ n3 (vis / 2 ^ i % 2) = 0 from fun n => n (by rw [c0]; rfl)), hb, Option.bind_some, if_pos (n3_in (by omega) (by omega))]
      dsimp only
      rw [hI.2.1, n3_cl (by omega), hP, hr, Option.bind_some]
      dsimp only
      rw [hc, Option.bind_some, if_pos (n3_in (by omega) htr), Option.bind_some, n3_cl (by omega), bits.2.1, n3_add, n3_one, n3_add]
      dsimp only
      rw [q1, Option.bind_some, n3_add]
      exact r1
theorem c_step {k tgt : Nat} {z0 : Nat × Nat × Nat} (wf : WF a) (hk : k < 4) (htg : tgt < a 38) (hF : 100 < F) : ∀ (e : Nat) (tr : List Nat) (h v m vis : Nat) (μ : fm_M) (b : Option (Nat × Nat × List Nat)), 5 ≤ e + tr.length → tr.length ≤ 4 → tr.foldl (hst a k) z0 = (h, v, m) → h < a 38 → v ≤ 99 → vis < 32 → WI a k tgt μ b → LR μ 130 tr → ∃ ν, f_X1_step F e (n3 tr.length) (n3 h) (n3 v) (n3 m) (n3 vis) μ = some ((), ν) ∧ WI a k tgt ν ((pths (a 38) tgt e tr h vis).foldl (jz a k z0) b) ∧ Ch (fun q j => q = 129 ∧ (j = 2 ∨ j = 3 ∨ j = 4)) (fun q j => q = 131 ∨ (q = 130 ∧ tr.length ≤ j)) μ ν
  | 0, tr, h, v, m, vis, μ, b, he, hl, _, _, _, _, _, _ => by omega
  | e + 1, tr, h, v, m, vis, μ, b, he, hl, hz, hh, hv, hvis, hI, hT => by
    have b4 := wf.1
    rw [f_X1_step, f0_X1_step, pths, hI.2.2.1]
    by_cases c : h = tgt
    · obtain ⟨ν, q1, q2, q3⟩ := c_judge (F := F) (v := v) (m := m) hI.2.2.2 hT hv hl
      refine ⟨ν, ?_, ?_, q3.weak (fun _ _ c => c) (fun q j c => .inl c)⟩
      · rw [if_neg (show ¬ ¬ n3 h = n3 tgt from fun n => n (by rw [c])), q1, Option.bind_some]
      · rw [if_pos c]
        refine ⟨hI.1.ch q3 (by omega) (by omega), ?_, ?_, ?_⟩
        · rw [q3.1 _ _ (by omega)]; exact hI.2.1
        · rw [q3.1 _ _ (by omega)]; exact hI.2.2.1
        · show BR ν (jz a k z0 b tr)
          rw [jz, hz]; exact q2
    · rw [if_pos (show ¬ n3 h = n3 tgt by rw [n3_eq (by omega) (by omega)]; exact c), if_neg c]
      by_cases c2 : 4 ≤ tr.length
      · refine ⟨μ, ?_, by rw [if_pos c2]; exact hI, Ch.refl _ _ μ⟩
        rw [if_neg (by rw [n3_lit, n3_lt (by omega) (by omega)]; omega)]
      · rw [if_pos (by rw [n3_lit, n3_lt (by omega) (by omega)]; omega), if_neg c2]
        refine c_wl (F := F) (rec := f_X1_step F e) (z0 := z0) wf hk hh hv hvis (by omega) hF (fun n hn c => by rw [if_pos c]) (fun n μ b hn c hI2 hT2 => ?_) (a 38) 0 F μ b (by omega) (by omega) hI hT
        have bits := v_m5' hvis (show n < 5 by omega)
        have cl := coolN_le v (rateA k (a h)) (betw a h n)
        obtain ⟨ν, q1, q2, q3⟩ := c_step wf hk htg hF e (tr ++ [n]) n (coolN v (rateA k (a h)) (betw a h n)) (m + betw a h n) (vis ||| 2 ^ n) μ b (by rw [List.length_append]; simp only [List.length_singleton]; omega) (by rw [List.length_append]; simp only [List.length_singleton]; omega) (by rw [List.foldl_append, hz]; rfl) hn (by omega) bits.2.2 hI2 hT2
        rw [List.length_append, List.length_singleton] at q1 q3
        exact ⟨ν, q1, by rw [if_neg (by omega)]; exact q2, q3⟩
theorem c_wfind (hw : AW μ 101 a) (wf : WF a) {s p : Nat} (hs : s < a 23) (hp : p < a 38) (hF : 100 < F) : ∃ ν, f_X1_find F (n3 s) (n3 p) μ = some ((), ν) ∧ BR ν ((pths (a 38) p 8 [] (a (18 + s)) (2 ^ a (18 + s))).foldl (jz a (a (8 + s)) (a (18 + s), a (13 + s), 0)) none) ∧ Ch (fun q _ => q = 129) (fun q _ => q = 131 ∨ q = 130) μ ν := by
  have b4 := wf.1
  have wS := wf.2.2.1 s hs
  have e := hw.z.2.2.1 s hs
  have v2 : 2 ^ a (18 + s) < 32 ∧ (1 <<< (n3 (a (18 + s)) &&& 31) : Int32) = n3 (2 ^ a (18 + s)) := by
    refine ⟨?_, v_two' (by omega)⟩
    rcases (show a (18 + s) = 0 ∨ a (18 + s) = 1 ∨ a (18 + s) = 2 ∨ a (18 + s) = 3 by omega) with c | c | c | c <;> rw [c] <;> decide
  generalize hm : fm_sI (fm_sI (fm_sI (fm_sI (fm_sI μ 129 5 (n3 (a (8 + s)))) 129 6 (n3 p)) 129 2 (n3 0)) 129 3 (-n3 1)) 129 4 (n3 0) = m
  have c0 : Ch (fun q _ => q = 129) (fun q _ => q = 131 ∨ q = 130) μ m := by rw [← hm]; exact (((((Ch.refl _ _ μ).sI (by omega)).sI (by omega)).sI (by omega)).sI (by omega)).sI (by omega)
  have mA : m.2.1 = μ.2.1 := by rw [← hm]; rfl
  have hI : WI a (a (8 + s)) p m none := by
    refine ⟨hw.ch c0 (by omega) (by omega), ?_, ?_, ?_⟩
    · rw [← hm]; simp (disch := omega) only [fm_sI_ne, fm_sI_eq]
    · rw [← hm]; simp (disch := omega) only [fm_sI_ne, fm_sI_eq]
    · show m.1 129 3 = _
      rw [← hm]; simp (disch := omega) only [fm_sI_ne, fm_sI_eq]
  obtain ⟨ν, q1, q2, q3⟩ := c_step (F := F) (z0 := (a (18 + s), a (13 + s), 0)) wf (k := a (8 + s)) (tgt := p) (by omega) hp hF 8 [] (a (18 + s)) (a (13 + s)) 0 (2 ^ a (18 + s)) m none (by simp only [List.length_nil]; omega) (by simp only [List.length_nil]; omega) rfl wS.2.2 (by omega) v2.1 hI (fun j x hj => by cases hj)
  refine ⟨ν, ?_, q2.2.2.2, c0.trans (q3.weak (fun q j c => c.1) (fun q j c => by omega))⟩
  have q1 : f_X1_step F 8 (n3 0) (n3 (a (18 + s))) (n3 (a (13 + s))) (n3 0) (n3 (2 ^ a (18 + s))) m = some ((), ν) := q1
  unfold f_X1_find
  simp only [Option.bind_some, n3_in (show s < 2147483648 by omega) (show s < 5 by omega), if_true, n3_cl (show s < 2147483648 by omega), e.1, n3_k0, n3_one, hm, mA, e.2.1, e.2.2]
  rw [← n3_one, v2.2, q1, Option.bind_some]
/-- the reference lays hands out of a code -/
theorem m_lh1 {to many left told k M n : Nat} {is : Bool} (hM : μ.1 232 1 = n3 M) (hM4 : M ≤ 4) (hk : k < 3) (hl : left < 125) (ht : told < 32) (hm : many ≤ 3) : g_X9_laysHands F (n + 1) 17 (n3 to) (n3 many) (n3 left) (n3 told) (n3 (bi is)) (n3 k) μ = g_X9_laysHands F n 17 (n3 to) (n3 (lhS M (many, left, told, is) k).1) (n3 (lhS M (many, left, told, is) k).2.1) (n3 (lhS M (many, left, told, is) k).2.2.1) (n3 (bi (lhS M (many, left, told, is) k).2.2.2)) (n3 (k + 1)) (fm_sA μ 241 (upd (μ.2.1 241) k (n3 (left / 25)))) := by
  have p4 : left / 25 ≤ 4 := by omega
  have e1 : n3 left / 25 = n3 (left / 25) := by rw [n3_k25, n3_div (by omega) (by omega)]
  have e2 : (n3 left - n3 (left / 25) * 25) * 5 = n3 (left % 25 * 5) := by
    rw [← e1, n3_k25, n3_rem (by omega) (by omega), n3_k5, n3_mul]
  have bits := v_m5' ht (show left / 25 < 5 by omega)
  have two := Nat.mod_lt (told / 2 ^ (left / 25)) (show 0 < 2 by omega)
  have in3 : ab_in (n3 k) 3 = true := n3_in (by omega) hk
  have z1 : ∀ x : Int32, x + 0 = x := Int32.add_zero
  rw [g_X9_laysHands, if_pos rfl, b_X9_laysHands_17, if_neg (by rw [n3_lit, n3_le (by omega) (by omega)]; omega), e1, e2, bits.1, bits.2.1, n3_cl (by omega), hM]
  simp only [if_pos in3, Option.bind_some, z1, n3_one, n3_add]
  generalize hp : left / 25 = p at *
  have t0 : (n3 (bi true) = 0) = False := eq_false (by decide)
  have t1 : (n3 (bi false) = 0) = True := eq_true rfl
  by_cases ck : k ≤ many
  · rw [if_pos (by rw [n3_le (by omega) (by omega)]; exact ck)]
    cases is with
    | false =>
      rw [if_pos (show n3 (bi false) = 0 by decide)]
      simp only [lhS, hp, Bool.false_and, Bool.false_eq_true, false_and, if_false, Nat.add_zero]
      rfl
    | true =>
      rw [if_neg (show ¬ n3 (bi true) = 0 by decide)]
      by_cases c4 : p = 4
      · rw [if_pos (show n3 p = 4 by rw [c4]; rfl), if_pos (show (4 : Int32) ≤ n3 p by rw [c4]; decide)]
        simp only [lhS, hp, c4, Nat.lt_irrefl, false_and, and_false, if_false, Nat.add_zero, decide_true, Bool.true_or, Bool.true_and]
        rfl
      · rw [if_neg (show ¬ n3 p = 4 by rw [n3_lit, n3_eq (by omega) (by omega)]; exact c4)]
        by_cases cM : M ≤ p
        · rw [if_pos (by rw [n3_le (by omega) (by omega)]; exact cM)]
          simp only [lhS, hp, eq_false c4, eq_false (show ¬ p < M by omega), false_and, and_false, if_false, Nat.add_zero, decide_false, Bool.false_and, Bool.and_false, Bool.or_false]
          rfl
        · rw [if_neg (by rw [n3_le (by omega) (by omega)]; exact cM)]
          by_cases cb : told / 2 ^ p % 2 = 0
          · rw [if_neg (show ¬ ¬ n3 (told / 2 ^ p % 2) = 0 from fun n => n (by rw [cb]; rfl)), if_neg (show ¬ (4 : Int32) ≤ n3 p by rw [n3_lit, n3_le (by omega) (by omega)]; omega)]
            simp only [lhS, hp, cb, eq_true ck, eq_true (show p < 4 by omega), eq_true (show p < M by omega), and_self, if_true, decide_true, Bool.and_self, Bool.or_true]
            rfl
          · rw [if_pos (show ¬ n3 (told / 2 ^ p % 2) = 0 by rw [n3_k0, n3_eq (by omega) (by omega)]; exact cb)]
            simp only [lhS, hp, eq_false c4, eq_false cb, and_false, if_false, Nat.add_zero, decide_false, Bool.and_false, Bool.or_false]
            rfl
  · rw [if_neg (by rw [n3_le (by omega) (by omega)]; exact ck)]
    cases is with
    | false =>
      rw [if_pos (show n3 (bi false) = 0 by decide)]
      simp only [lhS, hp, Bool.false_and, Bool.false_eq_true, false_and, if_false, Nat.add_zero]
      rfl
    | true =>
      rw [if_neg (show ¬ n3 (bi true) = 0 by decide)]
      by_cases c4 : p = 4
      · rw [if_pos (show n3 p = 4 by rw [c4]; rfl), if_pos (show (4 : Int32) ≤ n3 p by rw [c4]; decide)]
        simp only [lhS, hp, c4, Nat.lt_irrefl, false_and, and_false, if_false, Nat.add_zero, decide_true, Bool.true_or, Bool.true_and]
        rfl
      · rw [if_neg (show ¬ n3 p = 4 by rw [n3_lit, n3_eq (by omega) (by omega)]; exact c4)]
        simp only [lhS, hp, eq_false c4, eq_false ck, false_and, and_false, if_false, Nat.add_zero, decide_false, Bool.false_and, Bool.and_false, Bool.or_false]
        rfl
theorem lhS_le (M : Nat) (st : Nat × Nat × Nat × Bool) (k : Nat) : (lhS M st k).1 ≤ st.1 + 1 ∧ (lhS M st k).2.1 = st.2.1 % 25 * 5 ∧ (lhS M st k).2.2.1 = st.2.2.1 ||| 2 ^ (st.2.1 / 25) := by
  refine ⟨?_, rfl, rfl⟩
  unfold lhS
  dsimp only
  split <;> omega
end VS53
