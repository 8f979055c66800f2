/-! numbers, semicolons, refusals -/
def nmC (B : Nat → Nat) (T lo hi p : Nat) : Nat := if (lxK B T p = 2 ∧ 2 < lxE B T p - lxS B T p) ∨ (lxK B T p = 3 ∧ ¬ B (lxS B T p) = 59) then 1 else if ¬ lxK B T p = 2 then 2 else if lxV B T p < lo ∨ hi < lxV B T p then 3 else 0
def nmT (B : Nat → Nat) (T lo hi : Nat) (σ : Nat ⊕ (Nat × Nat)) : Nat × (Nat ⊕ (Nat × Nat)) :=
  match σ with
  | .inl p => if nmC B T lo hi p = 0 then (lxV B T p, .inl (lxE B T p)) else (lo, .inr (nmC B T lo hi p, lxS B T p))
  | .inr d => (lo, .inr d)
def smC (B : Nat → Nat) (T p : Nat) : Nat := if (lxK B T p = 2 ∧ 2 < lxE B T p - lxS B T p) ∨ (lxK B T p = 3 ∧ ¬ B (lxS B T p) = 59) then 1 else if ¬ lxK B T p = 3 then 2 else 0
def smT (B : Nat → Nat) (T : Nat) (σ : Nat ⊕ (Nat × Nat)) : Nat ⊕ (Nat × Nat) :=
  match σ with
  | .inl p => if smC B T p = 0 then .inl (lxE B T p) else .inr (smC B T p, lxS B T p)
  | .inr d => .inr d
def rfT (c : Bool) (k st : Nat) (σ : Nat ⊕ (Nat × Nat)) : Nat ⊕ (Nat × Nat) :=
  match σ with
  | .inl p => if c = true then .inr (k, st) else .inl p
  | .inr d => .inr d
def Cs (B : Nat → Nat) (T : Nat) (σ : Nat ⊕ (Nat × Nat)) (μ : fm_M) : Prop :=
  match σ with
  | .inl p => TC B T μ ∧ p ≤ T ∧ μ.1 123 2 = n3 0 ∧ μ.1 123 4 = n3 p
  | .inr d => TC B T μ ∧ μ.1 123 2 = n3 d.1 ∧ μ.1 123 3 = n3 d.2 ∧ 0 < d.1 ∧ d.1 ≤ 6 ∧ d.2 ≤ 160
def Ms (B : Nat → Nat) (T : Nat) (σ : Nat ⊕ (Nat × Nat)) (μ : fm_M) : Prop :=
  match σ with
  | .inl p => TM B T μ ∧ p ≤ T ∧ (¬ lxF B T p → MT B T p μ) ∧ (lxF B T p → μ.1 232 15 = n3 1 ∧ μ.1 232 16 = n3 (lxS B T p))
  | .inr d => TM B T μ ∧ μ.1 232 15 = n3 d.1 ∧ μ.1 232 16 = n3 d.2 ∧ 0 < d.1 ∧ d.1 ≤ 6 ∧ d.2 ≤ 160
section VS66
variable {F : Nat} {μ ν : fm_M} {a b : Nat → Nat} {w : Nat} {B : Nat → Nat} {T p : Nat}
theorem nmT_in {lo hi : Nat} (h : lo ≤ hi) (σ : Nat ⊕ (Nat × Nat)) : lo ≤ (nmT B T lo hi σ).1 ∧ (nmT B T lo hi σ).1 ≤ hi := by
  cases σ with
  | inl p =>
    unfold nmT
    dsimp only
    by_cases c : nmC B T lo hi p = 0
    · rw [if_pos c]
      unfold nmC at c
      split at c
      · omega
      · split at c
        · omega
        · split at c
          · omega
          · rename_i q; show lo ≤ lxV B T p ∧ lxV B T p ≤ hi; omega
    · rw [if_neg c]; exact ⟨Nat.le_refl _, h⟩
  | inr d => exact ⟨Nat.le_refl _, h⟩
theorem Cs.ch {σ : Nat ⊕ (Nat × Nat)} {pI pA : Nat → Nat → Prop} (h : Cs B T σ μ) (hc : Ch pI pA μ ν) (h1 : ∀ j, 1 ≤ j → j ≤ 7 → ¬ pI 123 j) (h2 : ∀ j, ¬ pA 124 j) : Cs B T σ ν := by
  cases σ with
  | inl p =>
    obtain ⟨k1, k2, k3, k4⟩ := h
    exact ⟨k1.ch hc (h1 1 (by omega) (by omega)) h2, k2, by rw [hc.1 _ _ (h1 2 (by omega) (by omega))]; exact k3, by rw [hc.1 _ _ (h1 4 (by omega) (by omega))]; exact k4⟩
  | inr d =>
    obtain ⟨k1, k2, k3, k4⟩ := h
    exact ⟨k1.ch hc (h1 1 (by omega) (by omega)) h2, by rw [hc.1 _ _ (h1 2 (by omega) (by omega))]; exact k2, by rw [hc.1 _ _ (h1 3 (by omega) (by omega))]; exact k3, k4⟩
theorem MT.ch {pI pA : Nat → Nat → Prop} (h : MT B T p μ) (hc : Ch pI pA μ ν) (h1 : ∀ j, 13 ≤ j → j ≤ 20 → ¬ pI 232 j) (h2 : ∀ j, ¬ pA 238 j) : MT B T p ν := by
  obtain ⟨k1, k2, k3, k4, k5, k6⟩ := h
  exact ⟨k1.ch hc (h1 13 (by omega) (by omega)) h2, by rw [hc.1 _ _ (h1 15 (by omega) (by omega))]; exact k2, by rw [hc.1 _ _ (h1 17 (by omega) (by omega))]; exact k3, by rw [hc.1 _ _ (h1 18 (by omega) (by omega))]; exact k4, by rw [hc.1 _ _ (h1 19 (by omega) (by omega))]; exact k5, fun q => by rw [hc.1 _ _ (h1 20 (by omega) (by omega))]; exact k6 q⟩
theorem Ms.ch {σ : Nat ⊕ (Nat × Nat)} {pI pA : Nat → Nat → Prop} (h : Ms B T σ μ) (hc : Ch pI pA μ ν) (h1 : ∀ j, 13 ≤ j → j ≤ 20 → ¬ pI 232 j) (h2 : ∀ j, ¬ pA 238 j) : Ms B T σ ν := by
  cases σ with
  | inl p =>
    obtain ⟨k1, k2, k3, k4⟩ := h
    refine ⟨k1.ch hc (h1 13 (by omega) (by omega)) h2, k2, fun q => (k3 q).ch hc h1 h2, fun q => ?_⟩
    rw [hc.1 _ _ (h1 15 (by omega) (by omega)), hc.1 _ _ (h1 16 (by omega) (by omega))]; exact k4 q
  | inr d =>
    obtain ⟨k1, k2, k3, k4⟩ := h
    exact ⟨k1.ch hc (h1 13 (by omega) (by omega)) h2, by rw [hc.1 _ _ (h1 15 (by omega) (by omega))]; exact k2, by rw [hc.1 _ _ (h1 16 (by omega) (by omega))]; exact k3, k4⟩
theorem c_rf0 (x : Int32) : f_X5_refuse F 0 x μ = some ((), μ) := if_pos rfl
theorem c_rfD (x y : Int32) (h : ¬ μ.1 123 2 = 0) : f_X5_refuse F x y μ = some ((), μ) := by
  unfold f_X5_refuse f_X5_blame
  rw [if_pos h, Option.bind_some]
  split <;> rfl
theorem c_rf1 (y : Int32) (h : μ.1 123 2 = n3 0) : f_X5_refuse F 1 y μ = some ((), fm_sI (fm_sI μ 123 2 y) 123 3 (μ.1 123 6)) := by
  unfold f_X5_refuse f_X5_blame
  rw [if_neg (show ¬ (1 : Int32) = 0 by decide), h, if_neg (fun q => q rfl)]
  rfl
theorem c_in {x lo hi : Nat} (hx : x < 1000) (hl : lo < 1000) (hh : hi < 1000) : f_X8_isIn F (n3 x) (n3 lo) (n3 hi) μ = some (n3 (bi (decide (lo ≤ x ∧ x ≤ hi))), μ) := by
  by_cases c : lo ≤ x ∧ x ≤ hi
  · rw [decide_eq_true c]; exact c_isInT c.1 c.2 (by omega)
  · rw [decide_eq_false c]; exact c_isInF (by omega) (by omega) (by omega) (by omega)
theorem lxV_lt (hB : ∀ i, i < T → B i < 128) (hk : lxK B T p = 2) (hf : ¬ lxF B T p) (hp : p ≤ T) : lxV B T p < 1000 := by
  have gt := lxE_gt (B := B) (T := T) (p := p) (by omega)
  have le := lxE_le (B := B) hp
  have b1 := hB (lxS B T p) (by omega)
  unfold lxV
  by_cases z : lxE B T p - lxS B T p = 1
  · rw [if_pos z]; omega
  · rw [if_neg z]
    have b2 := hB (lxS B T p + 1) (by omega)
    omega
theorem c_num {σ : Nat ⊕ (Nat × Nat)} {lo hi : Nat} (hT : T ≤ 160) (hB : ∀ i, i < T → B i < 128) (h : Cs B T σ μ) (hlo : lo ≤ hi) (hhi : hi < 1000) (hF : 1000 < F) : ∃ ν, f_X5_readNumber F (n3 lo) (n3 hi) μ = some (n3 (nmT B T lo hi σ).1, ν) ∧ Cs B T (nmT B T lo hi σ).2 ν ∧ (∀ p, σ = .inl p → nmC B T lo hi p = 0 → ν.1 123 6 = n3 (lxS B T p)) ∧ Ch tkI noA μ ν := by
  cases σ with
  | inr d =>
    obtain ⟨k1, k2, k3, k4, k5, k6⟩ := id h
    have nz : ¬ μ.1 123 2 = 0 := by rw [k2, n3_k0, n3_eq (by omega) (by omega)]; omega
    refine ⟨μ, ?_, h, (fun p q => by cases q), Ch.refl _ _ μ⟩
    unfold f_X5_readNumber
    rw [if_pos nz, if_pos nz]
    rfl
  | inl p =>
    obtain ⟨k1, k2, k3, k4⟩ := id h
    have sl := lxS_le (B := B) k2
    have el := lxE_le (B := B) k2
    obtain ⟨m1, q1, q2, q3, q4⟩ := c_tok (F := F) hT hB k2 k1 k3 k4 hF
    have t1 : TC B T m1 := k1.ch q4 (by unfold tkI; omega) (fun _ => id)
    have st : f_X5_readNumber F (n3 lo) (n3 hi) μ = (if (m1.1 123 5) = 2 then (Option.bind (f_X5_refuse F 0 2 m1) (fun q6 => (Option.bind (f_X8_isIn F (q6.2.1 123 7) (n3 lo) (n3 hi) q6.2) (fun q8 => (if ¬ q8.1 = 0 then (Option.bind (f_X5_refuse F 0 3 q8.2) (fun q11 => (if ¬ (q11.2.1 123 2) = 0 then some (n3 lo, q11.2) else some ((q11.2.1 123 7), q11.2)))) else (Option.bind (f_X5_refuse F 1 3 q8.2) (fun q14 => (if ¬ (q14.2.1 123 2) = 0 then some (n3 lo, q14.2) else some ((q14.2.1 123 7), q14.2))))))))) else (Option.bind (f_X5_refuse F 1 2 m1) (fun q17 => (Option.bind (f_X8_isIn F (q17.2.1 123 7) (n3 lo) (n3 hi) q17.2) (fun q19 => (if ¬ q19.1 = 0 then (Option.bind (f_X5_refuse F 0 3 q19.2) (fun q22 => (if ¬ (q22.2.1 123 2) = 0 then some (n3 lo, q22.2) else some ((q22.2.1 123 7), q22.2)))) else (Option.bind (f_X5_refuse F 1 3 q19.2) (fun q25 => (if ¬ (q25.2.1 123 2) = 0 then some (n3 lo, q25.2) else some ((q25.2.1 123 7), q25.2)))))))))) := by
      unfold f_X5_readNumber
      rw [if_neg (by rw [k3]; exact fun q => q rfl), q1, Option.bind_some]
    -- whatever the number is, with a fault nothing comes of it
    have dead : ∀ m2, ¬ m2.1 123 2 = 0 → (Option.bind (f_X8_isIn F (m2.1 123 7) (n3 lo) (n3 hi) m2) (fun q8 => (if ¬ q8.1 = 0 then (Option.bind (f_X5_refuse F 0 3 q8.2) (fun q11 => (if ¬ (q11.2.1 123 2) = 0 then some (n3 lo, q11.2) else some ((q11.2.1 123 7), q11.2)))) else (Option.bind (f_X5_refuse F 1 3 q8.2) (fun q14 => (if ¬ (q14.2.1 123 2) = 0 then some (n3 lo, q14.2) else some ((q14.2.1 123 7), q14.2))))))) = some (n3 lo, m2) := by
      intro m2 nz
      obtain ⟨v, hv⟩ : ∃ v, f_X8_isIn F (m2.1 123 7) (n3 lo) (n3 hi) m2 = some (v, m2) := by
        unfold f_X8_isIn
        split
        · exact ⟨_, rfl⟩
        · split <;> exact ⟨_, rfl⟩
      rw [hv, Option.bind_some]
      dsimp only
      rw [c_rfD 0 3 nz, c_rfD 1 3 nz]
      simp only [Option.bind_some]
      rw [if_pos nz]
      split <;> rfl
    by_cases cF : lxF B T p
    · obtain ⟨r1, r2⟩ := q3 cF
      have nz : ¬ m1.1 123 2 = 0 := by rw [r1]; decide
      have e : nmC B T lo hi p = 1 := if_pos cF
      have e2 : nmT B T lo hi (.inl p) = (lo, .inr (1, lxS B T p)) := by unfold nmT; dsimp only; rw [e]; rfl
      rw [e2]
      refine ⟨m1, ?_, ⟨t1, r1, r2, (Nat.le_of_ble_eq_true rfl), (Nat.le_of_ble_eq_true rfl), (by show lxS B T p ≤ 160; omega)⟩, (fun p' q1 q2 => by cases q1; omega), q4⟩
      rw [st, c_rfD 0 2 nz, c_rfD 1 2 nz]
      simp only [Option.bind_some]
      rw [dead m1 nz]
      split <;> rfl
    · obtain ⟨t1', r2, r4, r5, r6, r7⟩ := q2 cF
      by_cases cK : lxK B T p = 2
      · have vl := lxV_lt hB cK cF k2
        have r7 := r7 cK
        rw [r5, cK, if_pos (show n3 2 = 2 by decide), c_rf0, Option.bind_some] at st
        dsimp only at st
        rw [r7, c_in vl (by omega) (by omega), Option.bind_some] at st
        by_cases cV : lo ≤ lxV B T p ∧ lxV B T p ≤ hi
        · have e : nmC B T lo hi p = 0 := (if_neg cF).trans ((if_neg (fun q => q cK)).trans (if_neg (by omega)))
          have e2 : nmT B T lo hi (.inl p) = (lxV B T p, .inl (lxE B T p)) := by unfold nmT; dsimp only; rw [if_pos e]
          rw [e2]
          refine ⟨m1, ?_, ⟨t1, el, r2, r4⟩, (fun p' q1 _ => by cases q1; exact r6), q4⟩
          rw [st, decide_eq_true cV]
          dsimp only
          rw [if_pos (show ¬ n3 (bi true) = 0 by decide), c_rf0, Option.bind_some, if_neg (by rw [r2]; exact fun q => q rfl)]
          dsimp only
          rw [r7]
        · have e : nmC B T lo hi p = 3 := (if_neg cF).trans ((if_neg (fun q => q cK)).trans (if_pos (by omega)))
          have e2 : nmT B T lo hi (.inl p) = (lo, .inr (3, lxS B T p)) := by unfold nmT; dsimp only; rw [e]; rfl
          rw [e2]
          have c1 : Ch tkI noA m1 (fm_sI (fm_sI m1 123 2 3) 123 3 (n3 (lxS B T p))) := ((Ch.refl _ _ m1).sI (by unfold tkI; omega)).sI (by unfold tkI; omega)
          have e22 : (fm_sI (fm_sI m1 123 2 3) 123 3 (n3 (lxS B T p))).1 123 2 = n3 3 := by rw [fm_sI_ne (by omega)]; exact fm_sI_eq ⟨rfl, rfl⟩
          refine ⟨_, ?_, ⟨t1.ch c1 (by unfold tkI; omega) (fun _ => id), e22, fm_sI_eq ⟨rfl, rfl⟩, (Nat.le_of_ble_eq_true rfl), (Nat.le_of_ble_eq_true rfl), (by show lxS B T p ≤ 160; omega)⟩, (fun p' q1 q2 => by cases q1; omega), q4.trans c1⟩
          rw [st, decide_eq_false cV]
          dsimp only
          rw [if_neg (show ¬ ¬ n3 (bi false) = 0 from fun q => q (by decide)), c_rf1 3 r2, Option.bind_some, r6]
          dsimp only
          rw [if_pos (by rw [e22]; decide)]
      · have e : nmC B T lo hi p = 2 := (if_neg cF).trans (if_pos cK)
        have kl := lxK_le (B := B) (T := T) (p := p)
        have e2 : nmT B T lo hi (.inl p) = (lo, .inr (2, lxS B T p)) := by unfold nmT; dsimp only; rw [e]; rfl
        rw [e2]
        have c1 : Ch tkI noA m1 (fm_sI (fm_sI m1 123 2 2) 123 3 (n3 (lxS B T p))) := ((Ch.refl _ _ m1).sI (by unfold tkI; omega)).sI (by unfold tkI; omega)
        have e22 : (fm_sI (fm_sI m1 123 2 2) 123 3 (n3 (lxS B T p))).1 123 2 = n3 2 := by rw [fm_sI_ne (by omega)]; exact fm_sI_eq ⟨rfl, rfl⟩
        refine ⟨_, ?_, ⟨t1.ch c1 (by unfold tkI; omega) (fun _ => id), e22, fm_sI_eq ⟨rfl, rfl⟩, (Nat.le_of_ble_eq_true rfl), (Nat.le_of_ble_eq_true rfl), (by show lxS B T p ≤ 160; omega)⟩, (fun p' q1 q2 => by cases q1; omega), q4.trans c1⟩
        rw [st, if_neg (by rw [r5, n3_k2, n3_eq (by omega) (by omega)]; exact cK), c_rf1 2 r2, Option.bind_some, r6]
        exact dead _ (by rw [e22]; decide)
theorem c_sem {σ : Nat ⊕ (Nat × Nat)} (hT : T ≤ 160) (hB : ∀ i, i < T → B i < 128) (h : Cs B T σ μ) (hF : 1000 < F) : ∃ ν, f_X5_readSemicolon F μ = some ((match smT B T σ with | .inl _ => n3 1 | .inr _ => n3 0), ν) ∧ Cs B T (smT B T σ) ν ∧ Ch tkI noA μ ν := by
  cases σ with
  | inr d =>
    obtain ⟨k1, k2, k3, k4, k5, k6⟩ := id h
    have nz : ¬ μ.1 123 2 = 0 := by rw [k2, n3_k0, n3_eq (by omega) (by omega)]; omega
    refine ⟨μ, ?_, h, Ch.refl _ _ μ⟩
    unfold f_X5_readSemicolon
    rw [if_pos nz, if_pos nz]
    rfl
  | inl p =>
    obtain ⟨k1, k2, k3, k4⟩ := id h
    have sl := lxS_le (B := B) k2
    have el := lxE_le (B := B) k2
    obtain ⟨m1, q1, q2, q3, q4⟩ := c_tok (F := F) hT hB k2 k1 k3 k4 hF
    have t1 : TC B T m1 := k1.ch q4 (by unfold tkI; omega) (fun _ => id)
    have st : f_X5_readSemicolon F μ = (if (m1.1 123 5) = 3 then (Option.bind (f_X5_refuse F 0 2 m1) (fun q6 => (if ¬ (q6.2.1 123 2) = 0 then some (0, q6.2) else some (1, q6.2)))) else (Option.bind (f_X5_refuse F 1 2 m1) (fun q9 => (if ¬ (q9.2.1 123 2) = 0 then some (0, q9.2) else some (1, q9.2))))) := by
      unfold f_X5_readSemicolon
      rw [if_neg (by rw [k3]; exact fun q => q rfl), q1, Option.bind_some]
    by_cases cF : lxF B T p
    · obtain ⟨r1, r2⟩ := q3 cF
      have nz : ¬ m1.1 123 2 = 0 := by rw [r1]; decide
      have e : smC B T p = 1 := if_pos cF
      have e2 : smT B T (.inl p) = .inr (1, lxS B T p) := by unfold smT; dsimp only; rw [e]; rfl
      rw [e2]
      refine ⟨m1, ?_, ⟨t1, r1, r2, (Nat.le_of_ble_eq_true rfl), (Nat.le_of_ble_eq_true rfl), (by show lxS B T p ≤ 160; omega)⟩, q4⟩
      rw [st, c_rfD 0 2 nz, c_rfD 1 2 nz]
      simp only [Option.bind_some]
      rw [if_pos nz]
      split <;> rfl
    · obtain ⟨t1', r2, r4, r5, r6, r7⟩ := q2 cF
      have kl := lxK_le (B := B) (T := T) (p := p)
      by_cases cK : lxK B T p = 3
      · have e : smC B T p = 0 := (if_neg cF).trans (if_neg (fun q => q cK))
        have e2 : smT B T (.inl p) = .inl (lxE B T p) := by unfold smT; dsimp only; rw [if_pos e]
        rw [e2]
        refine ⟨m1, ?_, ⟨t1, el, r2, r4⟩, q4⟩
        rw [st, r5, cK, if_pos (show n3 3 = 3 by decide), c_rf0, Option.bind_some, if_neg (by rw [r2]; exact fun q => q rfl)]
        rfl
      · have e : smC B T p = 2 := (if_neg cF).trans (if_pos cK)
        have e2 : smT B T (.inl p) = .inr (2, lxS B T p) := by unfold smT; dsimp only; rw [e]; rfl
        rw [e2]
        have c1 : Ch tkI noA m1 (fm_sI (fm_sI m1 123 2 2) 123 3 (n3 (lxS B T p))) := ((Ch.refl _ _ m1).sI (by unfold tkI; omega)).sI (by unfold tkI; omega)
        have e22 : (fm_sI (fm_sI m1 123 2 2) 123 3 (n3 (lxS B T p))).1 123 2 = n3 2 := by rw [fm_sI_ne (by omega)]; exact fm_sI_eq ⟨rfl, rfl⟩
        refine ⟨_, ?_, ⟨t1.ch c1 (by unfold tkI; omega) (fun _ => id), e22, fm_sI_eq ⟨rfl, rfl⟩, (Nat.le_of_ble_eq_true rfl), (Nat.le_of_ble_eq_true rfl), (by show lxS B T p ≤ 160; omega)⟩, q4.trans c1⟩
        rw [st, if_neg (by rw [r5, n3_k3, n3_eq (by omega) (by omega)]; exact cK), c_rf1 2 r2, Option.bind_some, r6]
        dsimp only
        rw [if_pos (by rw [e22]; decide)]
        rfl
theorem c_ref {σ : Nat ⊕ (Nat × Nat)} {c : Bool} {k st : Nat} {x y : Int32} (h : Cs B T σ μ) (hx : x = n3 (bi c)) (hy : y = n3 k) (hk : 0 < k) (hk6 : k ≤ 6) (hst : st ≤ 160) (h6 : ∀ p, σ = .inl p → μ.1 123 6 = n3 st) : ∃ ν, f_X5_refuse F x y μ = some ((), ν) ∧ Cs B T (rfT c k st σ) ν ∧ Ch tkI noA μ ν := by
  subst hx hy
  cases c with
  | false =>
    refine ⟨μ, c_rf0 _, ?_, Ch.refl _ _ μ⟩
    cases σ <;> exact h
  | true =>
    cases σ with
    | inr d =>
      obtain ⟨k1, k2, k3, k4, k5, k6⟩ := id h
      exact ⟨μ, c_rfD _ _ (by rw [k2, n3_k0, n3_eq (by omega) (by omega)]; omega), h, Ch.refl _ _ μ⟩
    | inl p =>
      obtain ⟨k1, k2, k3, k4⟩ := id h
      have c1 : Ch tkI noA μ (fm_sI (fm_sI μ 123 2 (n3 k)) 123 3 (n3 st)) := ((Ch.refl _ _ μ).sI (by unfold tkI; omega)).sI (by unfold tkI; omega)
      refine ⟨fm_sI (fm_sI μ 123 2 (n3 k)) 123 3 (n3 st), ?_, ⟨k1.ch c1 (by unfold tkI; omega) (fun _ => id), ?_, fm_sI_eq ⟨rfl, rfl⟩, hk, hk6, hst⟩, c1⟩
      · have := c_rf1 (F := F) (n3 k) k3
        rw [h6 p rfl] at this
        exact this
      · rw [fm_sI_ne (by omega)]; exact fm_sI_eq ⟨rfl, rfl⟩
/-- the reference -/
theorem m_stD (h : ¬ μ.1 232 15 = n3 0) (h2 : ∃ k, μ.1 232 15 = n3 k ∧ k ≤ 6) : f_X9_step F μ = some ((), μ) := by
  obtain ⟨k, hk, h6⟩ := h2
  unfold f_X9_step
  rw [hk] at h ⊢
  rw [n3_eq (by omega) (by omega)] at h
  exact if_neg (by rw [n3_k0, n3_le (by omega) (by omega)]; omega)
theorem m_fl (x : Int32) (h : μ.1 232 15 = n3 0) : f_X9_fails F x μ = some ((), fm_sI (fm_sI μ 232 15 x) 232 16 (μ.1 232 18)) := by
  unfold f_X9_fails
  rw [h, if_neg (fun q => q rfl), Option.bind_some, fm_sI_ne (by omega)]
  rfl
theorem m_flD (x : Int32) (h : ¬ μ.1 232 15 = n3 0) : f_X9_fails F x μ = some ((), μ) := by
  unfold f_X9_fails
  exact if_pos h
theorem m_in3 {x lo hi : Nat} (hx : x < 1000) (hl : lo < 1000) (hh : hi < 1000) : f_X9_in F (n3 x).toInt64 (n3 lo).toInt64 (n3 hi).toInt64 μ = some (n3 (bi (decide (lo ≤ x ∧ x ≤ hi))), μ) := by
  rw [n3_64 (show lo < 2147483648 by omega), n3_64 (show hi < 2147483648 by omega)]
  by_cases c : lo ≤ x ∧ x ≤ hi
  · rw [decide_eq_true c]; exact m_inT c.1 c.2 (by omega)
  · rw [decide_eq_false c]; exact m_inF (by omega) (by omega) (by omega) (by omega)
/-- a fault of the reference where a token is -/
theorem m_kill {k : Nat} (hT : T ≤ 160) (hp : p ≤ T) (h : MT B T p μ) (hk : 0 < k) (hk6 : k ≤ 6) : Ms B T (.inr (k, lxS B T p)) (fm_sI (fm_sI μ 232 15 (n3 k)) 232 16 (n3 (lxS B T p))) ∧ Ch tkM noA μ (fm_sI (fm_sI μ 232 15 (n3 k)) 232 16 (n3 (lxS B T p))) := by
  have sl := lxS_le (B := B) hp
  have c1 : Ch tkM noA μ (fm_sI (fm_sI μ 232 15 (n3 k)) 232 16 (n3 (lxS B T p))) := ((Ch.refl _ _ μ).sI (by unfold tkM; omega)).sI (by unfold tkM; omega)
  exact ⟨⟨h.1.ch c1 (by unfold tkM; omega) (fun _ => id), by rw [fm_sI_ne (by omega)]; exact fm_sI_eq ⟨rfl, rfl⟩, fm_sI_eq ⟨rfl, rfl⟩, hk, hk6, (by show lxS B T p ≤ 160; omega)⟩, c1⟩
theorem Ms.dead {d : Nat × Nat} (h : Ms B T (.inr d) μ) : ¬ μ.1 232 15 = n3 0 ∧ (∃ k, μ.1 232 15 = n3 k ∧ k ≤ 6) := by
  obtain ⟨k1, k2, k3, k4, k5, k6⟩ := h
  exact ⟨by rw [k2, n3_eq (by omega) (by omega)]; omega, d.1, k2, k5⟩
/-- stepping on, where a token is -/
theorem m_on (hT : T ≤ 160) (hB : ∀ i, i < T → B i < 128) (hp : p ≤ T) (h : MT B T p μ) (hF : 1000 < F) : ∃ ν, f_X9_step F μ = some ((), ν) ∧ Ms B T (.inl (lxE B T p)) ν ∧ Ch tkM noA μ ν := by
  have el := lxE_le (B := B) hp
  obtain ⟨ν, q1, q2, q3, q4⟩ := m_step (F := F) hT hB el h.1 h.2.1 h.2.2.1 hF
  exact ⟨ν, q1, ⟨h.1.ch q4 (by unfold tkM; omega) (fun _ => id), el, q2, q3⟩, q4⟩
theorem m_num {σ : Nat ⊕ (Nat × Nat)} {lo hi : Nat} (hT : T ≤ 160) (hB : ∀ i, i < T → B i < 128) (h : Ms B T σ μ) (hlo : lo ≤ hi) (hhi : hi < 1000) (hF : 1000 < F) : ∃ ν, f_X9_number F (n3 lo) (n3 hi) μ = some (n3 (nmT B T lo hi σ).1, ν) ∧ Ms B T (nmT B T lo hi σ).2 ν ∧ Ch tkM noA μ ν := by
  have dd : ∀ ν : fm_M, ¬ ν.1 232 15 = n3 0 → (∃ k, ν.1 232 15 = n3 k ∧ k ≤ 6) → f_X9_number F (n3 lo) (n3 hi) ν = some (n3 lo, ν) := by
    intro ν h1 h2
    unfold f_X9_number
    rw [if_pos (show ¬ _ = (0 : Int32) from h1), if_pos (show ¬ _ = (0 : Int32) from h1), if_pos (show ¬ _ = (0 : Int32) from h1), m_stD h1 h2, Option.bind_some]
  cases σ with
  | inr d =>
    obtain ⟨d1, d2⟩ := h.dead
    exact ⟨μ, dd μ d1 d2, h, Ch.refl _ _ μ⟩
  | inl p =>
    obtain ⟨k1, k2, k3, k4⟩ := id h
    have sl := lxS_le (B := B) k2
    by_cases cF : lxF B T p
    · obtain ⟨r1, r2⟩ := k4 cF
      have e : nmC B T lo hi p = 1 := if_pos cF
      have e2 : nmT B T lo hi (.inl p) = (lo, .inr (1, lxS B T p)) := by unfold nmT; dsimp only; rw [e]; rfl
      rw [e2]
      exact ⟨μ, dd μ (by rw [r1]; decide) ⟨1, r1, by omega⟩, ⟨k1, r1, r2, (Nat.le_of_ble_eq_true rfl), (Nat.le_of_ble_eq_true rfl), (by show lxS B T p ≤ 160; omega)⟩, Ch.refl _ _ μ⟩
    · have mt := k3 cF
      obtain ⟨t1, r1, r2, r3, r4, r5⟩ := id mt
      have n0 : ¬ ¬ μ.1 232 15 = 0 := fun q => q r1
      by_cases cK : lxK B T p = 2
      · have vl := lxV_lt hB cK cF k2
        have r5 := r5 cK
        by_cases cV : lo ≤ lxV B T p ∧ lxV B T p ≤ hi
        · have e : nmC B T lo hi p = 0 := (if_neg cF).trans ((if_neg (fun q => q cK)).trans (if_neg (by omega)))
          have e2 : nmT B T lo hi (.inl p) = (lxV B T p, .inl (lxE B T p)) := by unfold nmT; dsimp only; rw [if_pos e]
          rw [e2]
          obtain ⟨ν, s1, s2, s3⟩ := m_on (F := F) hT hB k2 mt hF
          refine ⟨ν, ?_, s2, s3⟩
          unfold f_X9_number
          rw [if_neg n0, if_pos (by rw [r4, cK]; decide), if_neg n0, r5, m_in3 vl (by omega) (by omega), decide_eq_true cV, Option.bind_some]
          dsimp only
          rw [if_pos (show ¬ n3 (bi true) = 0 by decide), if_neg n0, s1, Option.bind_some, r5]
        · have e : nmC B T lo hi p = 3 := (if_neg cF).trans ((if_neg (fun q => q cK)).trans (if_pos (by omega)))
          have e2 : nmT B T lo hi (.inl p) = (lo, .inr (3, lxS B T p)) := by unfold nmT; dsimp only; rw [e]; rfl
          rw [e2]
          obtain ⟨s1, s2⟩ := m_kill hT k2 mt (k := 3) (by omega) (by omega)
          obtain ⟨d1, d2⟩ := s1.dead
          refine ⟨_, ?_, s1, s2⟩
          unfold f_X9_number
          rw [if_neg n0, if_pos (by rw [r4, cK]; decide), if_neg n0, r5, m_in3 vl (by omega) (by omega), decide_eq_false cV, Option.bind_some]
          dsimp only
          rw [if_neg (show ¬ ¬ n3 (bi false) = 0 from fun q => q (by decide)), m_fl 3 r1, r3, n3_k3, Option.bind_some]
          dsimp only
          rw [if_pos (show ¬ _ = (0 : Int32) from d1), m_stD d1 d2, Option.bind_some]
      · have e : nmC B T lo hi p = 2 := (if_neg cF).trans (if_pos cK)
        have kl := lxK_le (B := B) (T := T) (p := p)
        have e2 : nmT B T lo hi (.inl p) = (lo, .inr (2, lxS B T p)) := by unfold nmT; dsimp only; rw [e]; rfl
        rw [e2]
        obtain ⟨s1, s2⟩ := m_kill hT k2 mt (k := 2) (by omega) (by omega)
        obtain ⟨d1, d2⟩ := s1.dead
        refine ⟨_, ?_, s1, s2⟩
        unfold f_X9_number
        rw [if_neg n0, if_neg (by rw [r4, n3_k2, n3_eq (by omega) (by omega)]; exact cK), m_fl 2 r1, r3, n3_k2, Option.bind_some]
        dsimp only
        rw [if_pos (show ¬ _ = (0 : Int32) from d1), if_pos (show ¬ _ = (0 : Int32) from d1), m_stD d1 d2, Option.bind_some]
theorem m_sem {σ : Nat ⊕ (Nat × Nat)} (hT : T ≤ 160) (hB : ∀ i, i < T → B i < 128) (h : Ms B T σ μ) (hF : 1000 < F) : ∃ ν, (if ¬ (μ.1 232 15) = 0 then (Option.bind (f_X9_step F μ) (fun q => some ((), q.2))) else (if (μ.1 232 19) = 3 then (Option.bind (f_X9_step F μ) (fun q => some ((), q.2))) else (Option.bind (f_X9_fails F 2 μ) (fun q => (Option.bind (f_X9_step F q.2) (fun q => some ((), q.2))))))) = some ((), ν) ∧ Ms B T (smT B T σ) ν ∧ Ch tkM noA μ ν := by
  cases σ with
  | inr d =>
    obtain ⟨d1, d2⟩ := h.dead
    refine ⟨μ, ?_, h, Ch.refl _ _ μ⟩
    rw [if_pos (show ¬ _ = (0 : Int32) from d1), m_stD d1 d2, Option.bind_some]
  | inl p =>
    obtain ⟨k1, k2, k3, k4⟩ := id h
    have sl := lxS_le (B := B) k2
    by_cases cF : lxF B T p
    · obtain ⟨r1, r2⟩ := k4 cF
      have e : smC B T p = 1 := if_pos cF
      have e2 : smT B T (.inl p) = .inr (1, lxS B T p) := by unfold smT; dsimp only; rw [e]; rfl
      rw [e2]
      have nz : ¬ μ.1 232 15 = n3 0 := by rw [r1]; decide
      refine ⟨μ, ?_, ⟨k1, r1, r2, (Nat.le_of_ble_eq_true rfl), (Nat.le_of_ble_eq_true rfl), (by show lxS B T p ≤ 160; omega)⟩, Ch.refl _ _ μ⟩
      rw [if_pos (show ¬ _ = (0 : Int32) from nz), m_stD nz ⟨1, r1, by omega⟩, Option.bind_some]
    · have mt := k3 cF
      obtain ⟨t1, r1, r2, r3, r4, r5⟩ := id mt
      have n0 : ¬ ¬ μ.1 232 15 = 0 := fun q => q r1
      have kl := lxK_le (B := B) (T := T) (p := p)
      by_cases cK : lxK B T p = 3
      · have e : smC B T p = 0 := (if_neg cF).trans (if_neg (fun q => q cK))
        have e2 : smT B T (.inl p) = .inl (lxE B T p) := by unfold smT; dsimp only; rw [if_pos e]
        rw [e2]
        obtain ⟨ν, s1, s2, s3⟩ := m_on (F := F) hT hB k2 mt hF
        refine ⟨ν, ?_, s2, s3⟩
        rw [if_neg n0, if_pos (by rw [r4, cK]; decide), s1, Option.bind_some]
      · have e : smC B T p = 2 := (if_neg cF).trans (if_pos cK)
        have e2 : smT B T (.inl p) = .inr (2, lxS B T p) := by unfold smT; dsimp only; rw [e]; rfl
        rw [e2]
        obtain ⟨s1, s2⟩ := m_kill hT k2 mt (k := 2) (by omega) (by omega)
        obtain ⟨d1, d2⟩ := s1.dead
        refine ⟨_, ?_, s1, s2⟩
        rw [if_neg n0, if_neg (by rw [r4, n3_k3, n3_eq (by omega) (by omega)]; exact cK), m_fl 2 r1, r3, n3_k2, Option.bind_some]
        dsimp only
        rw [m_stD d1 d2, Option.bind_some]
end VS66
