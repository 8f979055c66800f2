/-! needs: 30.int 31.abs 32.cls 33.upd 34.clw 35.hand 36.upm 37.mod 38.rel -/
/-! what a call may change, and what of the relation stays -/
def Ch (pI pA : Nat → Nat → Prop) (μ ν : fm_M) : Prop := (∀ q j, ¬ pI q j → ν.1 q j = μ.1 q j) ∧ (∀ q j, ¬ pA q j → ν.2.1 q j = μ.2.1 q j) ∧ ν.2.2.2 = μ.2.2.2
theorem Ch.refl (pI pA : Nat → Nat → Prop) (μ : fm_M) : Ch pI pA μ μ := ⟨fun _ _ _ => rfl, fun _ _ _ => rfl, rfl⟩
theorem Ch.trans {pI pA : Nat → Nat → Prop} {μ ν ρ : fm_M} (h : Ch pI pA μ ν) (h2 : Ch pI pA ν ρ) : Ch pI pA μ ρ := ⟨fun q j hq => (h2.1 q j hq).trans (h.1 q j hq), fun q j hq => (h2.2.1 q j hq).trans (h.2.1 q j hq), h2.2.2.trans h.2.2⟩
theorem Ch.weak {pI pA qI qA : Nat → Nat → Prop} {μ ν : fm_M} (h : Ch pI pA μ ν) (h1 : ∀ q j, pI q j → qI q j) (h2 : ∀ q j, pA q j → qA q j) : Ch qI qA μ ν := ⟨fun q j hq => h.1 q j (fun c => hq (h1 q j c)), fun q j hq => h.2.1 q j (fun c => hq (h2 q j c)), h.2.2⟩
theorem Ch.sI {pI pA : Nat → Nat → Prop} {μ ν : fm_M} (h : Ch pI pA μ ν) {a k : Nat} {x : Int32} (hp : pI a k) : Ch pI pA μ (fm_sI ν a k x) := by
  refine ⟨fun q j hq => ?_, h.2.1, h.2.2⟩
  rw [← h.1 q j hq]
  refine fm_sI_ne ?_
  by_cases e : q = a
  · by_cases e2 : j = k
    · subst e e2; exact absurd hp hq
    · exact .inr e2
  · exact .inl e
theorem Ch.sU {pI pA : Nat → Nat → Prop} {μ ν : fm_M} (h : Ch pI pA μ ν) {a k : Nat} {x : Int32} (hp : pA a k) : Ch pI pA μ (fm_sA ν a (upd (ν.2.1 a) k x)) := by
  refine ⟨h.1, fun q j hq => ?_, h.2.2⟩
  rw [← h.2.1 q j hq]
  by_cases e : q = a
  · rw [fm_sA_eq e]
    by_cases e2 : j = k
    · subst e e2; exact absurd hp hq
    · rw [upd_ne e2, e]
  · rw [fm_sA_ne e]
theorem Fr.ch {lo hi : Nat} {μ ν : fm_M} (h : Fr lo hi μ ν) : Ch (fun q _ => lo ≤ q ∧ q < hi) (fun q _ => lo ≤ q ∧ q < hi) μ ν := ⟨fun q j hq => by rw [(h.1 q (by omega)).1], fun q j hq => by rw [(h.1 q (by omega)).2], by rw [h.2]⟩
theorem FM.ch {P : Nat} {μ ν : fm_M} (h : FM P μ ν) : Ch (fun _ _ => False) (fun q j => q = 233 ∧ P ≤ j ∧ j < P + 38) μ ν := ⟨fun q j hq => by rw [h.1], fun q j hq => by
  by_cases e : q = 233
  · subst e; exact h.2.2.2 j (by omega)
  · rw [h.2.2.1 q e], by rw [h.2.1]⟩
section VS39
variable {pI pA : Nat → Nat → Prop} {μ ν : fm_M} {a : Nat → Nat}
theorem AW.ch {w : Nat} (h : AW μ w a) (hc : Ch pI pA μ ν) (h1 : ∀ j, ¬ pI w j) (h2 : ∀ q j, w < q → q < w + 10 → ¬ pA q j) : AW ν w a := by
  unfold AW
  have g : ∀ k, 0 < k → k < 10 → ν.2.1 (w + k) = μ.2.1 (w + k) := fun k hk hk2 => funext fun j => hc.2.1 _ j (h2 _ j (by omega) (by omega))
  rw [hc.1 w 0 (h1 _), hc.1 w 3 (h1 _), hc.1 w 7 (h1 _), hc.1 w 8 (h1 _), hc.1 w 9 (h1 _), hc.1 w 11 (h1 _), hc.1 w 15 (h1 _), g 1 (by omega) (by omega), g 2 (by omega) (by omega), g 3 (by omega) (by omega), g 4 (by omega) (by omega), g 5 (by omega) (by omega), g 6 (by omega) (by omega), g 7 (by omega) (by omega), g 8 (by omega) (by omega), g 9 (by omega) (by omega)]
  exact h
theorem AP.ch {P : Nat} (h : AP μ P a) (wf : WF a) (hc : Ch pI pA μ ν) (h1 : ¬ pI 232 1) (h2 : ¬ pI 232 3) (h3 : ∀ j, ¬ pA 234 j) (h4 : ∀ j, ¬ pA 235 j) (h5 : ∀ j, P ≤ j → j < P + 38 → ¬ pA 233 j) : AP ν P a :=
  h.agree wf (hc.1 _ _ h1) (hc.1 _ _ h2) (funext fun j => hc.2.1 _ j (h3 j)) (funext fun j => hc.2.1 _ j (h4 j)) (fun k hk hk2 => hc.2.1 _ _ (h5 k hk hk2))
theorem RR.ch (h : RR μ a) (hc : Ch pI pA μ ν) (h1 : ∀ q j, pI q j → ¬ (q = 101 ∨ (q = 232 ∧ (j = 1 ∨ j = 3)))) (h2 : ∀ q j, pA q j → ¬ ((101 < q ∧ q < 111) ∨ (q = 233 ∧ j < 38) ∨ q = 234 ∨ q = 235)) : RR ν a :=
  ⟨h.1, h.2.1, h.2.2.1.ch hc (fun j c => h1 _ _ c (by omega)) (fun q j hq hq2 c => h2 _ _ c (by omega)), h.2.2.2.ch h.1 hc (fun c => h1 _ _ c (by omega)) (fun c => h1 _ _ c (by omega)) (fun j c => h2 _ _ c (by omega)) (fun j c => h2 _ _ c (by omega)) (fun j hj hj2 c => h2 _ _ c (by omega))⟩
theorem RK.ch (h : RK μ) (hc : Ch pI pA μ ν) (h1 : ∀ q j, pI q j → ¬ (q = 204 ∨ q = 214 ∨ (q = 232 ∧ (j = 1 ∨ j = 3)))) (h2 : ∀ q j, pA q j → ¬ (q = 122 ∨ q = 249 ∨ (204 ≤ q ∧ q < 224) ∨ (q = 233 ∧ 38 ≤ j ∧ j < 114) ∨ q = 234 ∨ q = 235)) : RK ν := by
  intro k hk
  rw [hc.2.1 122 k (fun c => h2 _ _ c (by omega)), hc.2.1 249 k (fun c => h2 _ _ c (by omega))]
  refine ⟨(h k hk).1, ?_⟩
  rcases (h k hk).2 with c | ⟨c, b, wf, bm, hw, hp⟩
  · exact .inl c
  · exact .inr ⟨c, b, wf, bm, hw.ch hc (fun j c => h1 _ _ c (by omega)) (fun q j hq hq2 c => h2 _ _ c (by omega)), hp.ch wf hc (fun c => h1 _ _ c (by omega)) (fun c => h1 _ _ c (by omega)) (fun j c => h2 _ _ c (by omega)) (fun j c => h2 _ _ c (by omega)) (fun j hj hj2 c => h2 _ _ c (by omega))⟩
theorem RT.ch (h : RT μ) (hc : Ch pI pA μ ν) (h1 : ∀ q j, pI q j → ¬ ((q = 123 ∧ j = 1) ∨ (q = 232 ∧ j = 13))) (h2 : ∀ q j, pA q j → ¬ (q = 124 ∨ q = 238)) : RT ν := by
  obtain ⟨T, t1, t2, t3, t4⟩ := h
  refine ⟨T, t1, ?_, ?_, fun i hi => ?_⟩
  · rw [hc.1 _ _ (fun c => h1 _ _ c (by omega))]; exact t2
  · rw [hc.1 _ _ (fun c => h1 _ _ c (by omega))]; exact t3
  · rw [hc.2.1 _ _ (fun c => h2 _ _ c (by omega)), hc.2.1 238 _ (fun c => h2 _ _ c (by omega))]; exact t4 i hi
theorem RS.ch (h : RS μ) (hc : Ch pI pA μ ν) (h1 : ∀ q j, pI q j → ¬ ((q = 125 ∧ j = 0) ∨ (q = 232 ∧ j = 33))) (h2 : ∀ q j, pA q j → ¬ (q = 126 ∨ q = 127 ∨ q = 248)) : RS ν := by
  obtain ⟨S, s1, s2, s3, s4⟩ := h
  refine ⟨S, s1, ?_, ?_, fun i hi => ?_⟩
  · rw [hc.1 _ _ (fun c => h1 _ _ c (by omega))]; exact s2
  · rw [hc.1 _ _ (fun c => h1 _ _ c (by omega))]; exact s3
  · rw [hc.2.1 126 _ (fun c => h2 _ _ c (by omega)), hc.2.1 127 _ (fun c => h2 _ _ c (by omega)), hc.2.1 248 _ (fun c => h2 _ _ c (by omega)), hc.2.1 248 _ (fun c => h2 _ _ c (by omega))]; exact s4 i hi
theorem RH.ch (h : RH μ) (hc : Ch pI pA μ ν) (h1 : ∀ q j, pI q j → ¬ (224 ≤ q ∧ q < 232)) (h2 : ∀ q j, pA q j → ¬ ((224 ≤ q ∧ q < 232) ∨ q = 250 ∨ q = 251 ∨ q = 252)) : RH ν := by
  intro k hk
  rw [hc.1 (224 + 2 * k) 0 (fun c => h1 _ _ c (by omega)), hc.1 (224 + 2 * k) 1 (fun c => h1 _ _ c (by omega)), hc.2.1 250 _ (fun c => h2 _ _ c (by omega)), hc.2.1 251 _ (fun c => h2 _ _ c (by omega)), show ν.2.1 (225 + 2 * k) = μ.2.1 (225 + 2 * k) from funext fun j => hc.2.1 _ _ (fun c => h2 _ _ c (by omega)), show ν.2.1 252 = μ.2.1 252 from funext fun j => hc.2.1 _ _ (fun c => h2 _ _ c (by omega))]
  exact h k hk
theorem RF.ch (h : RF μ) (hc : Ch pI pA μ ν) (h1 : ∀ q j, pI q j → ¬ (q = 100 ∨ (q = 232 ∧ (j = 14 ∨ j = 39)))) : RF ν := by
  unfold RF
  rw [hc.1 100 11 (fun c => h1 _ _ c (by omega)), hc.1 100 12 (fun c => h1 _ _ c (by omega)), hc.1 232 14 (fun c => h1 _ _ c (by omega)), hc.1 232 39 (fun c => h1 _ _ c (by omega))]; exact h
theorem RC.ch (h : RC μ) (hc : Ch pI pA μ ν) (h2 : ∀ q j, pA q j → ¬ (q = 239 ∨ q = 240)) : RC ν := by
  unfold RC
  rw [show ν.2.1 239 = μ.2.1 239 from funext fun j => hc.2.1 _ _ (fun c => h2 _ _ c (by omega)), show ν.2.1 240 = μ.2.1 240 from funext fun j => hc.2.1 _ _ (fun c => h2 _ _ c (by omega)), hc.2.2]; exact h
/-- the tape alone is another one -/
theorem R.tape (h : R μ) (hc : Ch (fun q j => (q = 123 ∧ j = 1) ∨ (q = 232 ∧ j = 13)) (fun q _ => q = 124 ∨ q = 238) μ ν) (ht : RT ν) : R ν := by
  obtain ⟨⟨a, ha⟩, hK, hT, hS, hH, hF, hC⟩ := h
  exact ⟨⟨a, ha.ch hc (by intro q j c; (try dsimp only at c); omega) (by intro q j c; (try dsimp only at c); omega)⟩, hK.ch hc (by intro q j c; (try dsimp only at c); omega) (by intro q j c; (try dsimp only at c); omega), ht, hS.ch hc (by intro q j c; (try dsimp only at c); omega) (by intro q j c; (try dsimp only at c); omega), hH.ch hc (by intro q j c; (try dsimp only at c); omega) (by intro q j c; (try dsimp only at c); omega), hF.ch hc (by intro q j c; (try dsimp only at c); omega), hC.ch hc (by intro q j c; (try dsimp only at c); omega)⟩
/-- what was seen alone is another one -/
theorem R.seen (h : R μ) (hc : Ch (fun q j => (q = 125 ∧ j = 0) ∨ (q = 232 ∧ j = 33)) (fun q _ => q = 126 ∨ q = 127 ∨ q = 248) μ ν) (ht : RS ν) : R ν := by
  obtain ⟨⟨a, ha⟩, hK, hT, hS, hH, hF, hC⟩ := h
  exact ⟨⟨a, ha.ch hc (by intro q j c; (try dsimp only at c); omega) (by intro q j c; (try dsimp only at c); omega)⟩, hK.ch hc (by intro q j c; (try dsimp only at c); omega) (by intro q j c; (try dsimp only at c); omega), hT.ch hc (by intro q j c; (try dsimp only at c); omega) (by intro q j c; (try dsimp only at c); omega), ht, hH.ch hc (by intro q j c; (try dsimp only at c); omega) (by intro q j c; (try dsimp only at c); omega), hF.ch hc (by intro q j c; (try dsimp only at c); omega), hC.ch hc (by intro q j c; (try dsimp only at c); omega)⟩
/-- the sheets alone are others -/
theorem R.sheet (h : R μ) (hc : Ch (fun q _ => 224 ≤ q ∧ q < 232) (fun q _ => (224 ≤ q ∧ q < 232) ∨ q = 250 ∨ q = 251 ∨ q = 252) μ ν) (ht : RH ν) : R ν := by
  obtain ⟨⟨a, ha⟩, hK, hT, hS, hH, hF, hC⟩ := h
  exact ⟨⟨a, ha.ch hc (by intro q j c; (try dsimp only at c); omega) (by intro q j c; (try dsimp only at c); omega)⟩, hK.ch hc (by intro q j c; (try dsimp only at c); omega) (by intro q j c; (try dsimp only at c); omega), hT.ch hc (by intro q j c; (try dsimp only at c); omega) (by intro q j c; (try dsimp only at c); omega), hS.ch hc (by intro q j c; (try dsimp only at c); omega) (by intro q j c; (try dsimp only at c); omega), ht, hF.ch hc (by intro q j c; (try dsimp only at c); omega), hC.ch hc (by intro q j c; (try dsimp only at c); omega)⟩
/-- the images alone are others -/
theorem R.kept (h : R μ) (hc : Ch (fun q _ => 204 ≤ q ∧ q < 224) (fun q j => q = 122 ∨ q = 249 ∨ (204 ≤ q ∧ q < 224) ∨ (q = 233 ∧ 38 ≤ j ∧ j < 114)) μ ν) (ht : RK ν) : R ν := by
  obtain ⟨⟨a, ha⟩, hK, hT, hS, hH, hF, hC⟩ := h
  exact ⟨⟨a, ha.ch hc (by intro q j c; (try dsimp only at c); omega) (by intro q j c; (try dsimp only at c); omega)⟩, ht, hT.ch hc (by intro q j c; (try dsimp only at c); omega) (by intro q j c; (try dsimp only at c); omega), hS.ch hc (by intro q j c; (try dsimp only at c); omega) (by intro q j c; (try dsimp only at c); omega), hH.ch hc (by intro q j c; (try dsimp only at c); omega) (by intro q j c; (try dsimp only at c); omega), hF.ch hc (by intro q j c; (try dsimp only at c); omega), hC.ch hc (by intro q j c; (try dsimp only at c); omega)⟩
/-- nothing of the relation is changed -/
theorem R.free (h : R μ) (hc : Ch (fun q j => (111 ≤ q ∧ q < 121) ∨ (q = 123 ∧ j ≠ 1) ∨ (q = 125 ∧ j ≠ 0) ∨ (129 ≤ q ∧ q < 204) ∨ (q = 232 ∧ ¬ (j = 1 ∨ j = 3 ∨ j = 13 ∨ j = 14 ∨ j = 33 ∨ j = 39))) (fun q j => (111 ≤ q ∧ q < 121) ∨ (129 ≤ q ∧ q < 204) ∨ (q = 233 ∧ 114 ≤ j) ∨ q = 236 ∨ q = 237 ∨ (241 ≤ q ∧ q < 248)) μ ν) : R ν := by
  obtain ⟨⟨a, ha⟩, hK, hT, hS, hH, hF, hC⟩ := h
  exact ⟨⟨a, ha.ch hc (by intro q j c; (try dsimp only at c); omega) (by intro q j c; (try dsimp only at c); omega)⟩, hK.ch hc (by intro q j c; (try dsimp only at c); omega) (by intro q j c; (try dsimp only at c); omega), hT.ch hc (by intro q j c; (try dsimp only at c); omega) (by intro q j c; (try dsimp only at c); omega), hS.ch hc (by intro q j c; (try dsimp only at c); omega) (by intro q j c; (try dsimp only at c); omega), hH.ch hc (by intro q j c; (try dsimp only at c); omega) (by intro q j c; (try dsimp only at c); omega), hF.ch hc (by intro q j c; (try dsimp only at c); omega), hC.ch hc (by intro q j c; (try dsimp only at c); omega)⟩
end VS39
