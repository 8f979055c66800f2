/-! lines, the reference -/
def rlT (F : Nat) (x : Int32) (ν : fm_M) : Option (Unit × fm_M) := (Option.bind (some (fm_sI ν 232 9 ((ν.1 232 9) ||| (1 <<< (x &&& 31))))) (fun m12 => (Option.bind (f_X9_step F m12) (fun q14 => (if (q14.2.1 232 15) ≤ 0 then (Option.bind (f_X9_readMore F x q14.2) (fun q17 => (if ¬ (q17.2.1 232 15) = 0 then (Option.bind (f_X9_step F q17.2) (fun q20 => some ((), q20.2))) else (if (q17.2.1 232 19) = 3 then (Option.bind (f_X9_step F q17.2) (fun q23 => some ((), q23.2))) else (Option.bind (f_X9_fails F 2 q17.2) (fun q25 => (Option.bind (f_X9_step F q25.2) (fun q27 => some ((), q27.2))))))))) else some ((), q14.2))))))
def rlM (F : Nat) (x : Int32) (ν : fm_M) : Option (Unit × fm_M) := (Option.bind (f_X9_in F (x.toInt64) (Int64.ofNat 6) (Int64.ofNat 7) ν) (fun q9 => (if q9.1 = 0 then rlT F x q9.2 else (if ¬ (((q9.2.1 232 9) >>> (x &&& 31)) &&& 1) = 1 then rlT F x q9.2 else (Option.bind (f_X9_fails F 4 q9.2) (fun q47 => rlT F x q47.2))))))
theorem rl_eq (F : Nat) (μ : fm_M) : f_X9_readLine F μ = (Option.bind (f_X9_nameHere F μ) (fun q1 => (Option.bind (f_X9_in F ((q1.1).toInt64) (Int64.ofNat 0) (Int64.ofNat 8) q1.2) (fun q3 => (if ¬ q3.1 = 0 then (if 3 < q1.1 then (if ¬ q1.1 = 4 then (if ¬ q1.1 = 5 then rlM F q1.1 q3.2 else (if ¬ (q3.2.1 232 8) = 4 then rlM F q1.1 q3.2 else (Option.bind (f_X9_fails F 5 q3.2) (fun q => rlM F q1.1 q.2)))) else (if (q3.2.1 232 7) = 4 then (Option.bind (f_X9_fails F 5 q3.2) (fun q => rlM F q1.1 q.2)) else (if ¬ q1.1 = 5 then rlM F q1.1 q3.2 else (if ¬ (q3.2.1 232 8) = 4 then rlM F q1.1 q3.2 else (Option.bind (f_X9_fails F 5 q3.2) (fun q => rlM F q1.1 q.2)))))) else (if ab_in 23 38 = true then (if (q3.2.2.1 236 (23 : Int32).toNatClampNeg) = 5 then (Option.bind (f_X9_fails F 5 q3.2) (fun q => rlM F q1.1 q.2)) else (if ¬ q1.1 = 4 then (if ¬ q1.1 = 5 then rlM F q1.1 q3.2 else (if ¬ (q3.2.1 232 8) = 4 then rlM F q1.1 q3.2 else (Option.bind (f_X9_fails F 5 q3.2) (fun q => rlM F q1.1 q.2)))) else (if (q3.2.1 232 7) = 4 then (Option.bind (f_X9_fails F 5 q3.2) (fun q => rlM F q1.1 q.2)) else (if ¬ q1.1 = 5 then rlM F q1.1 q3.2 else (if ¬ (q3.2.1 232 8) = 4 then rlM F q1.1 q3.2 else (Option.bind (f_X9_fails F 5 q3.2) (fun q => rlM F q1.1 q.2))))))) else none)) else (Option.bind (f_X9_fails F 2 q3.2) (fun q890 => some ((), q890.2)))))))) := rfl
def eqT (B : Nat → Nat) (T f : Nat) (σ : Nat ⊕ (Nat × Nat)) : Nat ⊕ (Nat × Nat) :=
  match σ with
  | .inl p => if ¬ ((lxK B T p = 2 ∧ 2 < lxE B T p - lxS B T p) ∨ (lxK B T p = 3 ∧ ¬ B (lxS B T p) = 59)) ∧ lxK B T p = 2 ∧ lxV B T p = f then .inr (3, lxS B T p) else .inl p
  | .inr d => .inr d
def prT (B : Nat → Nat) (T pm : Nat) (σ : Nat ⊕ (Nat × Nat)) : Nat ⊕ (Nat × Nat) :=
  match σ with
  | .inl p => if ¬ ((lxK B T p = 2 ∧ 2 < lxE B T p - lxS B T p) ∨ (lxK B T p = 3 ∧ ¬ B (lxS B T p) = 59)) ∧ lxK B T p = 2 ∧ lxV B T p ≤ 5 ∧ pm / 2 ^ lxV B T p % 2 = 1 then .inr (4, lxS B T p) else .inl p
  | .inr d => .inr d
theorem Ch.A {pI : Nat → Nat → Prop} {μ ν : fm_M} (h : Ch pI noA μ ν) : ν.2.1 = μ.2.1 := funext fun q => funext fun j => h.2.1 q j id
theorem v_ho : ((List.range 5).all fun h => (List.range 4).all fun v => decide ((n3 v ≤ n3 h - n3 1 ↔ v + 1 ≤ h) ∧ n3 (v + 1) - n3 1 = n3 v)) = true := by decide +kernel
theorem v_m6 : ((List.range 64).all fun s => (List.range 6).all fun t => decide (((n3 s >>> (n3 t &&& 31)) &&& 1) = n3 (s / 2 ^ t % 2) ∧ (n3 s ||| (1 <<< (n3 t &&& 31))) = n3 (s ||| 2 ^ t) ∧ (s ||| 2 ^ t) < 64)) = true := by decide +kernel
theorem v_m6' {s t : Nat} (h : s < 64) (h2 : t < 6) : ((n3 s >>> (n3 t &&& 31)) &&& 1) = n3 (s / 2 ^ t % 2) ∧ (n3 s ||| (1 <<< (n3 t &&& 31))) = n3 (s ||| 2 ^ t) ∧ (s ||| 2 ^ t) < 64 :=
  of_decide_eq_true (List.all_eq_true.mp (List.all_eq_true.mp v_m6 s (List.mem_range.mpr h)) t (List.mem_range.mpr h2))
section VS68
variable {F : Nat} {μ ν : fm_M} {a b : Nat → Nat} {w : Nat} {B : Nat → Nat} {T p : Nat} {σ : Nat ⊕ (Nat × Nat)}
theorem m_one {h1 : Nat} (hT : T ≤ 160) (hB : ∀ i, i < T → B i < 128) (h : Ms B T σ μ) (h11 : μ.1 232 11 = n3 h1 - n3 1) (hh : h1 ≤ 4) (hF : 1000 < F) : ∃ ν, f_X9_oneHere F μ = some (n3 (nmT B T 0 3 σ).1, ν) ∧ Ms B T (nmT B T 0 3 σ).2 ν ∧ ν.1 232 11 = n3 (mx h1 ((nmT B T 0 3 σ).1 + 1)) - n3 1 ∧ Ch (fun q j => q = 232 ∧ (j = 11 ∨ (15 ≤ j ∧ j ≤ 20))) noA μ ν := by
  obtain ⟨m1, q1, q2, q3⟩ := m_num (F := F) (lo := 0) (hi := 3) hT hB h (by omega) (by omega) hF
  obtain ⟨-, vl⟩ := nmT_in (B := B) (T := T) (lo := 0) (hi := 3) (by omega) σ
  have e11 : m1.1 232 11 = n3 h1 - n3 1 := by rw [q3.1 232 11 (by unfold tkM; omega)]; exact h11
  have q3' : Ch (fun q j => q = 232 ∧ (j = 11 ∨ (15 ≤ j ∧ j ≤ 20))) noA μ m1 := q3.weak (fun q j c => by unfold tkM at c; omega) (fun _ _ c => c)
  have q1' : f_X9_number F 0 3 μ = some (n3 (nmT B T 0 3 σ).1, m1) := by rw [n3_k0, n3_k3]; exact q1
  generalize (nmT B T 0 3 σ).1 = v at *
  obtain ⟨t1, t2⟩ := of_decide_eq_true (List.all_eq_true.mp (List.all_eq_true.mp v_ho h1 (List.mem_range.mpr (by omega))) v (List.mem_range.mpr (by omega)))
  unfold f_X9_oneHere
  rw [q1', Option.bind_some]
  dsimp only
  rw [e11]
  by_cases c : v + 1 ≤ h1
  · refine ⟨fm_sI m1 232 11 (n3 h1 - n3 1), ?_, q2.ch ((Ch.refl (fun q j => q = 232 ∧ j = 11) noA m1).sI ⟨rfl, rfl⟩) (by omega) (fun _ => id), ?_, q3'.sI (by omega)⟩
    · rw [if_pos (t1.mpr c)]; rfl
    · rw [show mx h1 (v + 1) = h1 by unfold mx; split <;> omega]; exact fm_sI_eq ⟨rfl, rfl⟩
  · refine ⟨fm_sI m1 232 11 (n3 v), ?_, q2.ch ((Ch.refl (fun q j => q = 232 ∧ j = 11) noA m1).sI ⟨rfl, rfl⟩) (by omega) (fun _ => id), ?_, q3'.sI (by omega)⟩
    · rw [if_neg (fun q => c (t1.mp q))]; rfl
    · rw [show mx h1 (v + 1) = v + 1 by unfold mx; split <;> omega, t2]; exact fm_sI_eq ⟨rfl, rfl⟩
theorem m_man {P : Nat} (hT : T ≤ 160) (hB : ∀ i, i < T → B i < 128) (h : Ms B T σ μ) (h7 : μ.1 232 7 = n3 P) (hP : P < 4) (hF : 1000 < F) : ∃ ν, f_X9_readMore F (n3 4) μ = some ((), ν) ∧ Ms B T (nmT B T 0 9 (nmT B T 0 5 σ).2).2 ν ∧ ν.2.1 236 = upd (upd (μ.2.1 236) P (n3 (nmT B T 0 5 σ).1)) (4 + P) (n3 (nmT B T 0 9 (nmT B T 0 5 σ).2).1) ∧ ν.1 232 7 = n3 (P + 1) ∧ Ch (fun q j => q = 232 ∧ (j = 7 ∨ (15 ≤ j ∧ j ≤ 20))) (fun q _ => q = 236) μ ν := by
  obtain ⟨m1, q1, q2, q3⟩ := m_num (F := F) (lo := 0) (hi := 5) hT hB h (by omega) (by omega) hF
  have q1' : f_X9_number F 0 5 μ = some (n3 (nmT B T 0 5 σ).1, m1) := by rw [n3_k0, n3_k5]; exact q1
  generalize hm2 : fm_sA m1 236 (upd (μ.2.1 236) P (n3 (nmT B T 0 5 σ).1)) = m2
  have c2 : Ch (fun _ _ => False) (fun q _ => q = 236) m1 m2 := by rw [← hm2]; exact (Ch.refl _ _ m1).sG (fun _ => rfl)
  have s2 : Ms B T (nmT B T 0 5 σ).2 m2 := q2.ch c2 (fun _ _ _ => id) (by omega)
  obtain ⟨m3, r1, r2, r3⟩ := m_num (F := F) (lo := 0) (hi := 9) hT hB s2 (by omega) (by omega) hF
  have r1' : f_X9_number F 0 9 m2 = some (n3 (nmT B T 0 9 (nmT B T 0 5 σ).2).1, m3) := by rw [n3_k0, show (9 : Int32) = n3 9 from n3_lit 9]; exact r1
  have e7 : m2.1 232 7 = n3 P := by rw [c2.1 232 7 id, q3.1 232 7 (by unfold tkM; omega)]; exact h7
  have e73 : m3.1 232 7 = n3 P := by rw [r3.1 232 7 (by unfold tkM; omega)]; exact e7
  have e236 : m3.2.1 236 = upd (μ.2.1 236) P (n3 (nmT B T 0 5 σ).1) := by rw [r3.A, ← hm2, fm_sA_eq rfl]
  refine ⟨fm_sI (fm_sA m3 236 (upd (upd (μ.2.1 236) P (n3 (nmT B T 0 5 σ).1)) (4 + P) (n3 (nmT B T 0 9 (nmT B T 0 5 σ).2).1))) 232 7 (n3 (P + 1)), ?_, ?_, ?_, fm_sI_eq ⟨rfl, rfl⟩, ?_⟩
  · unfold f_X9_readMore
    rw [if_pos (by decide), if_neg (show ¬ ¬ n3 4 = 4 from fun q => q (by decide)), q1', Option.bind_some, h7, if_pos (n3_in (by omega) (by omega)), n3_cl (by omega), Option.bind_some]
    dsimp only
    rw [q3.A, hm2, r1', Option.bind_some, e7, n3_k4, n3_add, if_pos (n3_in (by omega) (by omega)), n3_cl (by omega), Option.bind_some]
    dsimp only
    rw [e236, Option.bind_some, fm_sA_1, e73, n3_one, n3_add]
  · exact r2.ch (((Ch.refl (fun q j => q = 232 ∧ j = 7) (fun q _ => q = 236) m3).sG (fun _ => rfl)).sI ⟨rfl, rfl⟩) (by omega) (by omega)
  · show (fm_sA m3 236 _).2.1 236 = _
    rw [fm_sA_eq rfl]
  · exact (((q3.weak (fun q j c => by unfold tkM at c; omega) (fun _ _ c => False.elim c)).trans (c2.weak (fun _ _ c => False.elim c) (fun _ _ c => c))).trans (r3.weak (fun q j c => by unfold tkM at c; omega) (fun _ _ c => False.elim c))).sG (fun _ => rfl) |>.sI (by omega)
theorem m_stoneL {S k h1 : Nat} (hT : T ≤ 160) (hB : ∀ i, i < T → B i < 128) (h : Ms B T σ μ) (h23 : μ.2.1 236 23 = n3 S) (hS : S < 5) (hk : k ≤ 3) (h11 : μ.1 232 11 = n3 h1 - n3 1) (hh : h1 ≤ 4) (hF : 1000 < F) : ∃ ν, f_X9_readMore F (n3 k) μ = some ((), ν) ∧ Ms B T (nmT B T 0 3 (nmT B T 0 99 σ).2).2 ν ∧ ν.2.1 236 = upd (upd (upd (upd (μ.2.1 236) (8 + S) (n3 k)) (13 + S) (n3 (nmT B T 0 99 σ).1)) (18 + S) (n3 (nmT B T 0 3 (nmT B T 0 99 σ).2).1)) 23 (n3 (S + 1)) ∧ ν.1 232 11 = n3 (mx h1 ((nmT B T 0 3 (nmT B T 0 99 σ).2).1 + 1)) - n3 1 ∧ Ch (fun q j => q = 232 ∧ (j = 11 ∨ (15 ≤ j ∧ j ≤ 20))) (fun q _ => q = 236) μ ν := by
  generalize hm0 : fm_sA μ 236 (upd (μ.2.1 236) (8 + S) (n3 k)) = m0
  have c0 : Ch (fun _ _ => False) (fun q _ => q = 236) μ m0 := by rw [← hm0]; exact (Ch.refl _ _ μ).sG (fun _ => rfl)
  obtain ⟨m1, q1, q2, q3⟩ := m_num (F := F) (lo := 0) (hi := 99) hT hB (h.ch c0 (fun _ _ _ => id) (by omega)) (by omega) (by omega) hF
  have q1' : f_X9_number F 0 99 m0 = some (n3 (nmT B T 0 99 σ).1, m1) := by rw [n3_k0, show (99 : Int32) = n3 99 from n3_lit 99]; exact q1
  have a1 : m1.2.1 236 = upd (μ.2.1 236) (8 + S) (n3 k) := by rw [q3.A, ← hm0, fm_sA_eq rfl]
  generalize hm2 : fm_sA m1 236 (upd (upd (μ.2.1 236) (8 + S) (n3 k)) (13 + S) (n3 (nmT B T 0 99 σ).1)) = m2
  have c2 : Ch (fun _ _ => False) (fun q _ => q = 236) m1 m2 := by rw [← hm2]; exact (Ch.refl _ _ m1).sG (fun _ => rfl)
  have e11 : m2.1 232 11 = n3 h1 - n3 1 := by rw [c2.1 _ _ id, q3.1 232 11 (by unfold tkM; omega), c0.1 _ _ id]; exact h11
  obtain ⟨m3, r1, r2, r3, r4⟩ := m_one (F := F) hT hB (q2.ch c2 (fun _ _ _ => id) (by omega)) e11 hh hF
  have a3 : m3.2.1 236 = upd (upd (μ.2.1 236) (8 + S) (n3 k)) (13 + S) (n3 (nmT B T 0 99 σ).1) := by rw [r4.A, ← hm2, fm_sA_eq rfl]
  refine ⟨fm_sA m3 236 (upd (upd (upd (upd (μ.2.1 236) (8 + S) (n3 k)) (13 + S) (n3 (nmT B T 0 99 σ).1)) (18 + S) (n3 (nmT B T 0 3 (nmT B T 0 99 σ).2).1)) 23 (n3 (S + 1))), ?_, ?_, fm_sA_eq rfl, ?_, ?_⟩
  · unfold f_X9_readMore
    rw [if_neg (by rw [n3_k3, n3_lt (by omega) (by omega)]; omega), if_pos (by decide), show (23 : Int32).toNatClampNeg = 23 from rfl, h23, n3_k8, n3_add, if_pos (n3_in (by omega) (by omega)), n3_cl (by omega), Option.bind_some, hm0, q1', Option.bind_some, n3_k13, n3_add, if_pos (n3_in (by omega) (by omega)), n3_cl (by omega)]
    dsimp only
    rw [a1, Option.bind_some, hm2, r1, Option.bind_some, n3_k18, n3_add, if_pos (n3_in (by omega) (by omega)), n3_cl (by omega)]
    dsimp only
    rw [a3, Option.bind_some, if_pos (by decide), if_pos (by decide), Option.bind_some, fm_sA_eq rfl, upd_ne (by omega), upd_ne (by omega), upd_ne (by omega), h23, n3_one, n3_add]
    congr 2
    unfold fm_sA
    congr 2
    funext q
    by_cases c : q = 236
    · rw [if_pos c, if_pos c]
    · rw [if_neg c, if_neg c]; exact if_neg c
  · exact r2.ch ((Ch.refl (fun _ _ => False) (fun q _ => q = 236) m3).sG (fun _ => rfl)) (fun _ _ _ => id) (by omega)
  · exact r3
  · exact ((((c0.weak (fun _ _ c => False.elim c) (fun _ _ c => c)).trans (q3.weak (fun q j c => by unfold tkM at c; omega) (fun _ _ c => False.elim c))).trans (c2.weak (fun _ _ c => False.elim c) (fun _ _ c => c))).trans (r4.weak (fun _ _ c => c) (fun _ _ c => False.elim c))).sG (fun _ => rfl)
theorem m_oven (hT : T ≤ 160) (hB : ∀ i, i < T → B i < 128) (h : Ms B T σ μ) (hF : 1000 < F) : ∃ ν, f_X9_readMore F (n3 6) μ = some ((), ν) ∧ Ms B T (nmT B T 5 99 (nmT B T 0 9 σ).2).2 ν ∧ ν.2.1 236 = upd (upd (μ.2.1 236) 24 (n3 (nmT B T 0 9 σ).1)) 25 (n3 (nmT B T 5 99 (nmT B T 0 9 σ).2).1 - n3 50) ∧ Ch (fun q j => q = 232 ∧ 15 ≤ j ∧ j ≤ 20) (fun q _ => q = 236) μ ν := by
  obtain ⟨m1, q1, q2, q3⟩ := m_num (F := F) (lo := 0) (hi := 9) hT hB h (by omega) (by omega) hF
  have q1' : f_X9_number F 0 9 μ = some (n3 (nmT B T 0 9 σ).1, m1) := by rw [n3_k0, show (9 : Int32) = n3 9 from n3_lit 9]; exact q1
  generalize hm2 : fm_sA m1 236 (upd (μ.2.1 236) 24 (n3 (nmT B T 0 9 σ).1)) = m2
  have c2 : Ch (fun _ _ => False) (fun q _ => q = 236) m1 m2 := by rw [← hm2]; exact (Ch.refl _ _ m1).sG (fun _ => rfl)
  obtain ⟨m3, r1, r2, r3⟩ := m_num (F := F) (lo := 5) (hi := 99) hT hB (q2.ch c2 (fun _ _ _ => id) (by omega)) (by omega) (by omega) hF
  have r1' : f_X9_number F 5 99 m2 = some (n3 (nmT B T 5 99 (nmT B T 0 9 σ).2).1, m3) := by rw [n3_k5, show (99 : Int32) = n3 99 from n3_lit 99]; exact r1
  have e236 : m3.2.1 236 = upd (μ.2.1 236) 24 (n3 (nmT B T 0 9 σ).1) := by rw [r3.A, ← hm2, fm_sA_eq rfl]
  refine ⟨fm_sA m3 236 (upd (upd (μ.2.1 236) 24 (n3 (nmT B T 0 9 σ).1)) 25 (n3 (nmT B T 5 99 (nmT B T 0 9 σ).2).1 - n3 50)), ?_, r2.ch ((Ch.refl (fun _ _ => False) (fun q _ => q = 236) m3).sG (fun _ => rfl)) (fun _ _ _ => id) (by omega), fm_sA_eq rfl, ?_⟩
  · unfold f_X9_readMore
    rw [if_pos (by decide), if_pos (show ¬ n3 6 = 4 by decide), if_pos (show ¬ n3 6 = 5 by decide), if_neg (show ¬ ¬ n3 6 = 6 from fun q => q (by decide)), q1', Option.bind_some, if_pos (by decide), Option.bind_some, show (24 : Int32).toNatClampNeg = 24 from rfl]
    dsimp only
    rw [q3.A, hm2, r1', Option.bind_some, if_pos (by decide), Option.bind_some, show (25 : Int32).toNatClampNeg = 25 from rfl]
    dsimp only
    rw [e236, show (50 : Int32) = n3 50 from n3_lit 50]
  · exact (((q3.weak (fun q j c => c) (fun _ _ c => False.elim c)).trans (c2.weak (fun _ _ c => False.elim c) (fun _ _ c => c))).trans (r3.weak (fun q j c => c) (fun _ _ c => False.elim c))).sG (fun _ => rfl)
theorem m_wind (hT : T ≤ 160) (hB : ∀ i, i < T → B i < 128) (h : Ms B T σ μ) (hF : 1000 < F) : ∃ ν, f_X9_readMore F (n3 7) μ = some ((), ν) ∧ Ms B T (nmT B T 0 10 σ).2 ν ∧ ν.2.1 236 = upd (μ.2.1 236) 26 (n3 (nmT B T 0 10 σ).1 - n3 2) ∧ Ch (fun q j => q = 232 ∧ 15 ≤ j ∧ j ≤ 20) (fun q _ => q = 236) μ ν := by
  obtain ⟨m1, q1, q2, q3⟩ := m_num (F := F) (lo := 0) (hi := 10) hT hB h (by omega) (by omega) hF
  have q1' : f_X9_number F 0 10 μ = some (n3 (nmT B T 0 10 σ).1, m1) := by rw [n3_k0, n3_k10]; exact q1
  refine ⟨fm_sA m1 236 (upd (μ.2.1 236) 26 (n3 (nmT B T 0 10 σ).1 - n3 2)), ?_, q2.ch ((Ch.refl (fun _ _ => False) (fun q _ => q = 236) m1).sG (fun _ => rfl)) (fun _ _ _ => id) (by omega), fm_sA_eq rfl, (q3.weak (fun q j c => c) (fun _ _ c => False.elim c)).sG (fun _ => rfl)⟩
  unfold f_X9_readMore
  rw [if_pos (by decide), if_pos (show ¬ n3 7 = 4 by decide), if_pos (show ¬ n3 7 = 5 by decide), if_pos (show ¬ n3 7 = 6 by decide), if_neg (show ¬ ¬ n3 7 = 7 from fun q => q (by decide)), q1', Option.bind_some, if_pos (by decide), Option.bind_some, show (26 : Int32).toNatClampNeg = 26 from rfl]
  dsimp only
  rw [q3.A, n3_k2]
theorem m_price {pm : Nat} (hT : T ≤ 160) (hB : ∀ i, i < T → B i < 128) (h : Ms B T σ μ) (h10 : μ.1 232 10 = n3 pm) (hpm : pm < 64) (hF : 1000 < F) : ∃ ν, f_X9_readMore F (n3 8) μ = some ((), ν) ∧ Ms B T (nmT B T 1 9 (nmT B T 0 5 (prT B T pm σ)).2).2 ν ∧ ν.2.1 236 = upd (μ.2.1 236) (27 + (nmT B T 0 5 (prT B T pm σ)).1) (n3 (nmT B T 1 9 (nmT B T 0 5 (prT B T pm σ)).2).1 - n3 1) ∧ ν.1 232 10 = n3 (pm ||| 2 ^ (nmT B T 0 5 (prT B T pm σ)).1) ∧ Ch (fun q j => q = 232 ∧ (j = 10 ∨ (15 ≤ j ∧ j ≤ 20))) (fun q _ => q = 236) μ ν := by
  have rest : ∀ (m : fm_M) (τ : Nat ⊕ (Nat × Nat)), Ms B T τ m → m.1 232 10 = n3 pm → m.2.1 236 = μ.2.1 236 → ∃ ν, (Option.bind (f_X9_number F 0 5 m) (fun q7 => (Option.bind (some (fm_sI q7.2 232 10 ((q7.2.1 232 10) ||| (1 <<< (q7.1 &&& 31))))) (fun m9 => (Option.bind (f_X9_number F 1 9 m9) (fun q11 => (if ab_in (27 + q7.1) 38 = true then (Option.bind (some (fm_sA q11.2 236 (upd (q11.2.2.1 236) (27 + q7.1).toNatClampNeg (q11.1 - 1)))) (fun m14 => some ((), m14))) else none))))))) = some ((), ν) ∧ Ms B T (nmT B T 1 9 (nmT B T 0 5 τ).2).2 ν ∧ ν.2.1 236 = upd (μ.2.1 236) (27 + (nmT B T 0 5 τ).1) (n3 (nmT B T 1 9 (nmT B T 0 5 τ).2).1 - n3 1) ∧ ν.1 232 10 = n3 (pm ||| 2 ^ (nmT B T 0 5 τ).1) ∧ Ch (fun q j => q = 232 ∧ (j = 10 ∨ (15 ≤ j ∧ j ≤ 20))) (fun q _ => q = 236) m ν := by
    intro m τ hm hm10 hm236
    obtain ⟨m1, q1, q2, q3⟩ := m_num (F := F) (lo := 0) (hi := 5) hT hB hm (by omega) (by omega) hF
    have q1' : f_X9_number F 0 5 m = some (n3 (nmT B T 0 5 τ).1, m1) := by rw [n3_k0, n3_k5]; exact q1
    obtain ⟨-, tl⟩ := nmT_in (B := B) (T := T) (lo := 0) (hi := 5) (by omega) τ
    have bits := v_m6' hpm (show (nmT B T 0 5 τ).1 < 6 by omega)
    have e10 : m1.1 232 10 = n3 pm := by rw [q3.1 232 10 (by unfold tkM; omega)]; exact hm10
    generalize hm2 : fm_sI m1 232 10 (n3 (pm ||| 2 ^ (nmT B T 0 5 τ).1)) = m2
    have c2 : Ch (fun q j => q = 232 ∧ j = 10) noA m1 m2 := by rw [← hm2]; exact (Ch.refl _ _ m1).sI ⟨rfl, rfl⟩
    obtain ⟨m3, r1, r2, r3⟩ := m_num (F := F) (lo := 1) (hi := 9) hT hB (q2.ch c2 (by omega) (fun _ => id)) (by omega) (by omega) hF
    have r1' : f_X9_number F 1 9 m2 = some (n3 (nmT B T 1 9 (nmT B T 0 5 τ).2).1, m3) := by rw [n3_one, show (9 : Int32) = n3 9 from n3_lit 9]; exact r1
    refine ⟨fm_sA m3 236 (upd (μ.2.1 236) (27 + (nmT B T 0 5 τ).1) (n3 (nmT B T 1 9 (nmT B T 0 5 τ).2).1 - n3 1)), ?_, r2.ch ((Ch.refl (fun _ _ => False) (fun q _ => q = 236) m3).sG (fun _ => rfl)) (fun _ _ _ => id) (by omega), fm_sA_eq rfl, ?_, ?_⟩
    · rw [q1', Option.bind_some]
      dsimp only
      rw [e10, bits.2.1, Option.bind_some, hm2, r1', Option.bind_some, show (27 : Int32) = n3 27 from n3_lit 27, n3_add, if_pos (n3_in (by omega) (by omega)), n3_cl (by omega), Option.bind_some]
      dsimp only
      rw [r3.A, c2.A, q3.A, hm236, n3_one]
    · rw [fm_sA_1, r3.1 232 10 (by unfold tkM; omega), ← hm2]; exact fm_sI_eq ⟨rfl, rfl⟩
    · exact (((q3.weak (fun q j c => by unfold tkM at c; omega) (fun _ _ c => False.elim c)).trans (c2.weak (fun q j c => by omega) (fun _ _ c => False.elim c))).trans (r3.weak (fun q j c => by unfold tkM at c; omega) (fun _ _ c => False.elim c))).sG (fun _ => rfl)
  unfold f_X9_readMore
  rw [if_pos (by decide), if_pos (show ¬ n3 8 = 4 by decide), if_pos (show ¬ n3 8 = 5 by decide), if_pos (show ¬ n3 8 = 6 by decide), if_pos (show ¬ n3 8 = 7 by decide)]
  cases σ with
  | inr d =>
    obtain ⟨d1, d2⟩ := h.dead
    rw [if_pos (show ¬ _ = (0 : Int32) from d1)]
    exact rest μ (.inr d) h h10 rfl
  | inl p =>
    obtain ⟨k1, k2, k3, k4⟩ := id h
    have kl := lxK_le (B := B) (T := T) (p := p)
    by_cases cF : lxF B T p
    · obtain ⟨r1, r2⟩ := k4 cF
      have e : prT B T pm (.inl p) = .inl p := if_neg (fun q => q.1 cF)
      rw [if_pos (by rw [r1]; decide), e]
      exact rest μ (.inl p) h h10 rfl
    · obtain ⟨t1, r1, r2, r3, r4, r5⟩ := k3 cF
      rw [if_neg (fun q => q r1)]
      by_cases cK : lxK B T p = 2
      · have vl := lxV_lt hB cK cF k2
        have r5 := r5 cK
        have bits := fun h6 : lxV B T p < 6 => v_m6' hpm h6
        have in5 : f_X9_in F (n3 (lxV B T p)).toInt64 (Int64.ofNat 0) (Int64.ofNat 5) μ = some (n3 (bi (decide (lxV B T p ≤ 5))), μ) := by
          by_cases c : lxV B T p ≤ 5
          · rw [decide_eq_true c]; exact m_inT (by omega) c (by omega)
          · rw [decide_eq_false c]; exact m_inF (by omega) (by omega) (by omega) (by omega)
        rw [if_neg (fun q => q (by rw [r4, cK]; rfl)), r5, in5, Option.bind_some]
        dsimp only
        by_cases c5 : lxV B T p ≤ 5
        · rw [decide_eq_true c5, if_neg (show ¬ n3 (bi true) = 0 by decide), h10, r5, (bits (by omega)).1]
          have two := Nat.mod_lt (pm / 2 ^ lxV B T p) (show 0 < 2 by omega)
          by_cases cb : pm / 2 ^ lxV B T p % 2 = 1
          · have e : prT B T pm (.inl p) = .inr (4, lxS B T p) := if_pos ⟨cF, cK, c5, cb⟩
            obtain ⟨s1, s2⟩ := m_kill hT k2 (k3 cF) (k := 4) (by omega) (by omega)
            rw [if_neg (fun q => q (by rw [cb]; rfl)), m_fl 4 r1, r3, Option.bind_some, e, n3_k4]
            obtain ⟨ν, w1, w2, w3, w4, w5⟩ := rest (fm_sI (fm_sI μ 232 15 (n3 4)) 232 16 (n3 (lxS B T p))) (.inr (4, lxS B T p)) s1 (by rw [s2.1 232 10 (by unfold tkM; omega)]; exact h10) rfl
            exact ⟨ν, w1, w2, w3, w4, (s2.weak (fun q j c => by unfold tkM at c; omega) (fun _ _ c => False.elim c)).trans w5⟩
          · have e : prT B T pm (.inl p) = .inl p := if_neg (fun q => cb q.2.2.2)
            rw [if_pos (by rw [n3_one, n3_eq (by omega) (by omega)]; exact cb), e]
            exact rest μ (.inl p) h h10 rfl
        · have e : prT B T pm (.inl p) = .inl p := if_neg (fun q => c5 q.2.2.1)
          rw [decide_eq_false c5, if_pos (show n3 (bi false) = 0 by decide), e]
          exact rest μ (.inl p) h h10 rfl
      · have e : prT B T pm (.inl p) = .inl p := if_neg (fun q => cK q.2.1)
        rw [if_pos (by rw [r4, n3_k2, n3_eq (by omega) (by omega)]; exact cK), e]
        exact rest μ (.inl p) h h10 rfl
theorem m_debt {D h1 : Nat} (hT : T ≤ 160) (hB : ∀ i, i < T → B i < 128) (h : Ms B T σ μ) (h8 : μ.1 232 8 = n3 D) (hD : D < 4) (h11 : μ.1 232 11 = n3 h1 - n3 1) (hh : h1 ≤ 4) (hF : 1000 < F) : ∃ ν, f_X9_readMore F (n3 5) μ = some ((), ν) ∧ Ms B T (nmT B T 0 99 (nmT B T 0 3 (eqT B T (nmT B T 0 3 σ).1 (nmT B T 0 3 σ).2)).2).2 ν ∧ ν.2.1 237 = upd (upd (μ.2.1 237) (2 * D) (n3 (nmT B T 0 3 σ).1)) (2 * D + 1) (n3 (nmT B T 0 3 (eqT B T (nmT B T 0 3 σ).1 (nmT B T 0 3 σ).2)).1) ∧ ν.2.1 236 = upd (μ.2.1 236) (33 + D) (n3 (nmT B T 0 99 (nmT B T 0 3 (eqT B T (nmT B T 0 3 σ).1 (nmT B T 0 3 σ).2)).2).1) ∧ ν.1 232 8 = n3 (D + 1) ∧ ν.1 232 11 = n3 (mx (mx h1 ((nmT B T 0 3 σ).1 + 1)) ((nmT B T 0 3 (eqT B T (nmT B T 0 3 σ).1 (nmT B T 0 3 σ).2)).1 + 1)) - n3 1 ∧ Ch (fun q j => q = 232 ∧ (j = 8 ∨ j = 11 ∨ (15 ≤ j ∧ j ≤ 20))) (fun q _ => q = 236 ∨ q = 237) μ ν := by
  obtain ⟨m0, p1, p2, p3, p4⟩ := m_one (F := F) hT hB h h11 hh hF
  obtain ⟨-, fl⟩ := nmT_in (B := B) (T := T) (lo := 0) (hi := 3) (by omega) σ
  have p4' : Ch (fun q j => q = 232 ∧ (j = 8 ∨ j = 11 ∨ (15 ≤ j ∧ j ≤ 20))) (fun q _ => q = 236 ∨ q = 237) μ m0 := p4.weak (fun q j c => by omega) (fun _ _ c => False.elim c)
  have e80 : m0.1 232 8 = n3 D := by rw [p4.1 232 8 (by omega)]; exact h8
  generalize hf : (nmT B T 0 3 σ).1 = f at *
  generalize hτ0 : (nmT B T 0 3 σ).2 = τ0 at *
  have hh2 : mx h1 (f + 1) ≤ 4 := by unfold mx; split <;> omega
  have rest : ∀ (m : fm_M) (τ : Nat ⊕ (Nat × Nat)), Ms B T τ m → m.1 232 8 = n3 D → m.1 232 11 = n3 (mx h1 (f + 1)) - n3 1 → m.2.1 = μ.2.1 → ∃ ν, (if ab_in (2 * (m.1 232 8)) 8 = true then (Option.bind (some (fm_sA m 237 (upd (m.2.1 237) (2 * (m.1 232 8)).toNatClampNeg (n3 f)))) (fun m5 => (Option.bind (f_X9_oneHere F m5) (fun q7 => (if ab_in ((2 * (m5.1 232 8)) + 1) 8 = true then (Option.bind (some (fm_sA q7.2 237 (upd (q7.2.2.1 237) ((2 * (m5.1 232 8)) + 1).toNatClampNeg q7.1))) (fun m10 => (Option.bind (f_X9_number F 0 99 m10) (fun q12 => (if ab_in (33 + (m10.1 232 8)) 38 = true then (Option.bind (some (fm_sA q12.2 236 (upd (q12.2.2.1 236) (33 + (m10.1 232 8)).toNatClampNeg q12.1))) (fun m15 => (Option.bind (some (fm_sI m15 232 8 ((m15.1 232 8) + 1))) (fun m17 => some ((), m17))))) else none))))) else none))))) else none) = some ((), ν) ∧ Ms B T (nmT B T 0 99 (nmT B T 0 3 τ).2).2 ν ∧ ν.2.1 237 = upd (upd (μ.2.1 237) (2 * D) (n3 f)) (2 * D + 1) (n3 (nmT B T 0 3 τ).1) ∧ ν.2.1 236 = upd (μ.2.1 236) (33 + D) (n3 (nmT B T 0 99 (nmT B T 0 3 τ).2).1) ∧ ν.1 232 8 = n3 (D + 1) ∧ ν.1 232 11 = n3 (mx (mx h1 (f + 1)) ((nmT B T 0 3 τ).1 + 1)) - n3 1 ∧ Ch (fun q j => q = 232 ∧ (j = 8 ∨ j = 11 ∨ (15 ≤ j ∧ j ≤ 20))) (fun q _ => q = 236 ∨ q = 237) m ν := by
    intro m τ hm hm8 hm11 hA
    generalize hm1 : fm_sA m 237 (upd (μ.2.1 237) (2 * D) (n3 f)) = m1
    have c1 : Ch (fun _ _ => False) (fun q _ => q = 236 ∨ q = 237) m m1 := by rw [← hm1]; exact (Ch.refl _ _ m).sG (fun _ => .inr rfl)
    obtain ⟨m2, q1, q2, q3, q4⟩ := m_one (F := F) hT hB (hm.ch c1 (fun _ _ _ => id) (by omega)) (by rw [c1.1 _ _ id]; exact hm11) hh2 hF
    have a2 : m2.2.1 237 = upd (μ.2.1 237) (2 * D) (n3 f) := by rw [q4.A, ← hm1, fm_sA_eq rfl]
    generalize hm3 : fm_sA m2 237 (upd (upd (μ.2.1 237) (2 * D) (n3 f)) (2 * D + 1) (n3 (nmT B T 0 3 τ).1)) = m3
    have c3 : Ch (fun _ _ => False) (fun q _ => q = 236 ∨ q = 237) m2 m3 := by rw [← hm3]; exact (Ch.refl _ _ m2).sG (fun _ => .inr rfl)
    obtain ⟨m4, r1, r2, r3⟩ := m_num (F := F) (lo := 0) (hi := 99) hT hB (q2.ch c3 (fun _ _ _ => id) (by omega)) (by omega) (by omega) hF
    have r1' : f_X9_number F 0 99 m3 = some (n3 (nmT B T 0 99 (nmT B T 0 3 τ).2).1, m4) := by rw [n3_k0, show (99 : Int32) = n3 99 from n3_lit 99]; exact r1
    have e81 : m1.1 232 8 = n3 D := by rw [c1.1 _ _ id]; exact hm8
    have e83 : m3.1 232 8 = n3 D := by rw [c3.1 _ _ id, q4.1 232 8 (by omega)]; exact e81
    have e84 : m4.1 232 8 = n3 D := by rw [r3.1 232 8 (by unfold tkM; omega)]; exact e83
    have a4 : m4.2.1 236 = μ.2.1 236 := by rw [r3.A, ← hm3, fm_sA_ne (by omega), q4.A, ← hm1, fm_sA_ne (by omega), hA]
    have a47 : m4.2.1 237 = upd (upd (μ.2.1 237) (2 * D) (n3 f)) (2 * D + 1) (n3 (nmT B T 0 3 τ).1) := by rw [r3.A, ← hm3, fm_sA_eq rfl]
    refine ⟨fm_sI (fm_sA m4 236 (upd (μ.2.1 236) (33 + D) (n3 (nmT B T 0 99 (nmT B T 0 3 τ).2).1))) 232 8 (n3 (D + 1)), ?_, ?_, ?_, ?_, fm_sI_eq ⟨rfl, rfl⟩, ?_, ?_⟩
    · rw [hm8, n3_k2, n3_mul, if_pos (n3_in (by omega) (by omega)), n3_cl (by omega), hA, Option.bind_some, hm1, q1, Option.bind_some, e81, n3_mul, n3_one, n3_add, if_pos (n3_in (by omega) (by omega)), n3_cl (by omega)]
      dsimp only
      rw [a2, Option.bind_some, hm3, r1', Option.bind_some, e83, show (33 : Int32) = n3 33 from n3_lit 33, n3_add, if_pos (n3_in (by omega) (by omega)), n3_cl (by omega)]
      dsimp only
      rw [a4, Option.bind_some, fm_sA_1, e84, Option.bind_some, n3_add]
    · exact r2.ch (((Ch.refl (fun q j => q = 232 ∧ j = 8) (fun q _ => q = 236) m4).sG (fun _ => rfl)).sI ⟨rfl, rfl⟩) (by omega) (by omega)
    · show (fm_sA m4 236 _).2.1 237 = _
      rw [fm_sA_ne (by omega)]; exact a47
    · show (fm_sA m4 236 _).2.1 236 = _
      rw [fm_sA_eq rfl]
    · rw [fm_sI_ne (by omega), fm_sA_1, r3.1 232 11 (by unfold tkM; omega), c3.1 _ _ id]; exact q3
    · exact (((((c1.weak (fun _ _ c => False.elim c) (fun _ _ c => c)).trans (q4.weak (fun q j c => by omega) (fun _ _ c => False.elim c))).trans (c3.weak (fun _ _ c => False.elim c) (fun _ _ c => c))).trans (r3.weak (fun q j c => by unfold tkM at c; omega) (fun _ _ c => False.elim c))).sG (fun _ => .inl rfl)).sI (by omega)
  unfold f_X9_readMore f_X9_readDebt
  rw [if_pos (by decide), if_pos (show ¬ n3 5 = 4 by decide), if_neg (show ¬ ¬ n3 5 = 5 from fun q => q (by decide)), p1, Option.bind_some]
  dsimp only
  have glue : ∀ (m : fm_M) (τ : Nat ⊕ (Nat × Nat)) (X : Option (Unit × fm_M)), (∃ ν, X = some ((), ν) ∧ Ms B T (nmT B T 0 99 (nmT B T 0 3 τ).2).2 ν ∧ ν.2.1 237 = upd (upd (μ.2.1 237) (2 * D) (n3 f)) (2 * D + 1) (n3 (nmT B T 0 3 τ).1) ∧ ν.2.1 236 = upd (μ.2.1 236) (33 + D) (n3 (nmT B T 0 99 (nmT B T 0 3 τ).2).1) ∧ ν.1 232 8 = n3 (D + 1) ∧ ν.1 232 11 = n3 (mx (mx h1 (f + 1)) ((nmT B T 0 3 τ).1 + 1)) - n3 1 ∧ Ch (fun q j => q = 232 ∧ (j = 8 ∨ j = 11 ∨ (15 ≤ j ∧ j ≤ 20))) (fun q _ => q = 236 ∨ q = 237) m ν) → Ch (fun q j => q = 232 ∧ (j = 8 ∨ j = 11 ∨ (15 ≤ j ∧ j ≤ 20))) (fun q _ => q = 236 ∨ q = 237) μ m → ∃ ν, (Option.bind X (fun q74 => some ((), q74.2))) = some ((), ν) ∧ Ms B T (nmT B T 0 99 (nmT B T 0 3 τ).2).2 ν ∧ ν.2.1 237 = upd (upd (μ.2.1 237) (2 * D) (n3 f)) (2 * D + 1) (n3 (nmT B T 0 3 τ).1) ∧ ν.2.1 236 = upd (μ.2.1 236) (33 + D) (n3 (nmT B T 0 99 (nmT B T 0 3 τ).2).1) ∧ ν.1 232 8 = n3 (D + 1) ∧ ν.1 232 11 = n3 (mx (mx h1 (f + 1)) ((nmT B T 0 3 τ).1 + 1)) - n3 1 ∧ Ch (fun q j => q = 232 ∧ (j = 8 ∨ j = 11 ∨ (15 ≤ j ∧ j ≤ 20))) (fun q _ => q = 236 ∨ q = 237) μ ν := by
    intro m τ X ⟨ν, w1, w2, w3, w4, w5, w6, w7⟩ hc
    exact ⟨ν, by rw [w1, Option.bind_some], w2, w3, w4, w5, w6, hc.trans w7⟩
  cases τ0 with
  | inr d =>
    obtain ⟨d1, d2⟩ := p2.dead
    rw [if_pos (show ¬ _ = (0 : Int32) from d1)]
    exact glue m0 (.inr d) _ (rest m0 (.inr d) p2 e80 p3 p4.A) p4'
  | inl p =>
    obtain ⟨k1, k2, k3, k4⟩ := id p2
    have kl := lxK_le (B := B) (T := T) (p := p)
    by_cases cF : lxF B T p
    · obtain ⟨r1, r2⟩ := k4 cF
      have e : eqT B T f (.inl p) = .inl p := if_neg (fun q => q.1 cF)
      rw [if_pos (by rw [r1]; decide), e]
      exact glue m0 (.inl p) _ (rest m0 (.inl p) p2 e80 p3 p4.A) p4'
    · obtain ⟨t1, r1, r2, r3, r4, r5⟩ := k3 cF
      rw [if_neg (fun q => q r1)]
      by_cases cK : lxK B T p = 2
      · have vl := lxV_lt hB cK cF k2
        have r5 := r5 cK
        rw [if_neg (fun q => q (by rw [r4, cK]; rfl)), r5]
        by_cases cv : lxV B T p = f
        · have e : eqT B T f (.inl p) = .inr (3, lxS B T p) := if_pos ⟨cF, cK, cv⟩
          obtain ⟨s1, s2⟩ := m_kill hT k2 (k3 cF) (k := 3) (by omega) (by omega)
          rw [if_neg (fun q => q (by rw [cv])), m_fl 3 r1, r3, Option.bind_some, e, n3_k3]
          exact glue (fm_sI (fm_sI m0 232 15 (n3 3)) 232 16 (n3 (lxS B T p))) (.inr (3, lxS B T p)) _ (rest (fm_sI (fm_sI m0 232 15 (n3 3)) 232 16 (n3 (lxS B T p))) (.inr (3, lxS B T p)) s1 (by rw [s2.1 232 8 (by unfold tkM; omega)]; exact e80) (by rw [s2.1 232 11 (by unfold tkM; omega)]; exact p3) p4.A) (p4'.trans (s2.weak (fun q j c => by unfold tkM at c; omega) (fun _ _ c => False.elim c)))
        · have e : eqT B T f (.inl p) = .inl p := if_neg (fun q => cv q.2.2)
          rw [if_pos (by rw [n3_eq (by omega) (by omega)]; exact cv), e]
          exact glue m0 (.inl p) _ (rest m0 (.inl p) p2 e80 p3 p4.A) p4'
      · have e : eqT B T f (.inl p) = .inl p := if_neg (fun q => cK q.2.1)
        rw [if_pos (by rw [r4, n3_k2, n3_eq (by omega) (by omega)]; exact cK), e]
        exact glue m0 (.inl p) _ (rest m0 (.inl p) p2 e80 p3 p4.A) p4'
end VS68
