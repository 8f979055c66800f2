/-! Strings: the nine names -/
section AB19
variable {X : Nat × (Nat → Int32)} {G : Nat → Nat → Option Nat} {μ : fm_M} {sa : Nat}
theorem str_at (h : 10 ≤ sa ∧ sa < 19) : (hp X G μ).2.2 sa = some (.inr (.inl (90, [.ref (sa + 20), .int 0]))) := by
  show (if sa < 100 then ab_f0 X.1 X.2 sa else _) = _
  rw [if_pos (by omega)]
  unfold ab_f0
  rw [if_neg (by omega), if_neg (by omega), if_neg (by omega), if_pos h]
theorem str_ob (h : 10 ≤ sa ∧ sa < 19) : ab_ob (hp X G μ) sa = some (90, [.ref (sa + 20), .int 0]) := by
  unfold ab_ob
  rw [str_at h]
theorem str_ra (h : 10 ≤ sa ∧ sa < 19) : ab_ra (hp X G μ) (sa + 20) = some (.byte, ab_slen.getD (sa - 10) 0, .inl (fun j => (ab_strs.getD (sa - 10) []).getD j 0)) := by
  have e : (hp X G μ).2.2 (sa + 20) = some (.inr (.inr (.byte, ab_slen.getD (sa - 10) 0, .inl (fun j => (ab_strs.getD (sa - 10) []).getD j 0)))) := by
    show (if sa + 20 < 100 then ab_f0 X.1 X.2 (sa + 20) else _) = _
    rw [if_pos (by omega)]
    unfold ab_f0
    rw [if_neg (by omega), if_neg (by omega), if_neg (by omega), if_neg (by omega), if_pos (by omega), show sa + 20 - 30 = sa - 10 by omega]
  unfold ab_ra
  rw [e]
theorem str_sh : ∀ i, i < 9 → Int32.ofNat (ab_slen.getD i 0) >>> ((0 : Int32) &&& 31) = Int32.ofNat (ab_slen.getD i 0) := by decide
theorem str_ch : ∀ i, i < 9 → ∀ j, j < ab_slen.getD i 0 → (((ab_strs.getD i []).getD j 0 &&& 255).toUInt32.toUInt16.toUInt32.toInt32) = (ab_strs.getD i []).getD j 0 ∧ narrow .char (.int ((ab_strs.getD i []).getD j 0)) = .int ((ab_strs.getD i []).getD j 0) := by decide
theorem str_coder (h : 10 ≤ sa ∧ sa < 19) : ab_F 1 225 [.ref sa] (hp X G μ) (some (.int 0)) (hp X G μ) := by
  refine ab_T.of (d := 0) rfl (Nat.le_of_ble_eq_true rfl) ?_
  refine ab_U.run 3 (S' := (7, [some (.ref sa)], [.ref sa], hp X G μ)) rfl ?_
  refine ab_U.go (S := (10, [some (.ref sa)], [.int 0], hp X G μ)) rfl (by simp only [ab_step, str_ob h]; rfl) ?_
  refine ab_U.run 1 (S' := (14, [some (.ref sa)], [.int 0], hp X G μ)) rfl ?_
  exact ab_U.ret rfl rfl ⟨rfl, rfl⟩
theorem str_latin (h : 10 ≤ sa ∧ sa < 19) : ab_F 1 226 [.ref sa] (hp X G μ) (some (.int 1)) (hp X G μ) := by
  refine ab_T.of (d := 0) rfl (Nat.le_of_ble_eq_true rfl) ?_
  refine ab_U.run 3 (S' := (7, [some (.ref sa)], [.ref sa], hp X G μ)) rfl ?_
  refine ab_U.go (S := (10, [some (.ref sa)], [.int 0], hp X G μ)) rfl (by simp only [ab_step, str_ob h]; rfl) ?_
  refine ab_U.run 3 (S' := (18, [some (.ref sa)], [.int 1], hp X G μ)) rfl ?_
  exact ab_U.ret rfl rfl ⟨rfl, rfl⟩
theorem ab_U.fnT {d : Nat} {rt : Option FieldType} {cd : ab_K} {Q : Option Value → ab_H → Prop} {pc nx e q : Nat} {L : ab_L} {st rest : List Value} {R : Option Value} {h1 : ab_H} {c : Nat × List Value × ab_S} (hl : ab_look cd pc = some (.invokevirtual q, nx)) (hdr : st.drop (q / 100 % 100 - 1) = .ref sa :: rest) (h : 10 ≤ sa ∧ sa < 19) (hq : q % 100 = 90) (hs : ab_call1 q nx L st (hp X G μ) = some (.inr (.inl c))) (hT : ab_F e c.1 c.2.1 c.2.2.2.2.2 R h1) (he : e ≤ d) (k : ab_U d rt cd (c.2.2.1, c.2.2.2.1, R.toList ++ c.2.2.2.2.1, h1) Q) : ab_U d rt cd (pc, L, st, hp X G μ) Q :=
  ab_U.fn hl (by simp only [ab_step, hdr, str_ob h, hq, if_true]; exact hs) hT he k
theorem str_len (h : 10 ≤ sa ∧ sa < 19) : ab_F 2 223 [.ref sa] (hp X G μ) (some (.int (Int32.ofNat (ab_slen.getD (sa - 10) 0)))) (hp X G μ) := by
  refine ab_T.of (d := 1) rfl (Nat.le_of_ble_eq_true rfl) ?_
  refine ab_U.run 1 (S' := (1, [some (.ref sa)], [.ref sa], hp X G μ)) rfl ?_
  refine ab_U.go (S := (4, [some (.ref sa)], [.ref (sa + 20)], hp X G μ)) rfl (by simp only [ab_step, str_ob h]; rfl) ?_
  refine ab_U.go (S := (5, [some (.ref sa)], [.int (Int32.ofNat (ab_slen.getD (sa - 10) 0))], hp X G μ)) rfl (by simp only [ab_step, str_ra h]; rfl) ?_
  refine ab_U.run 1 (S' := (6, [some (.ref sa)], [.ref sa, .int (Int32.ofNat (ab_slen.getD (sa - 10) 0))], hp X G μ)) rfl ?_
  refine ab_U.fnT rfl rfl h rfl rfl (str_coder h) (by omega) ?_
  refine ab_U.run 1 (S' := (10, [some (.ref sa)], [.int (Int32.ofNat (ab_slen.getD (sa - 10) 0) >>> ((0 : Int32) &&& 31))], hp X G μ)) rfl ?_
  rw [str_sh (sa - 10) (by omega)]
  exact ab_U.ret rfl rfl ⟨rfl, rfl⟩
theorem str_pre {k n : Int32} {h : ab_H} (h1 : ¬ k < 0) (h2 : k < n) : ab_F 1 229 [.int k, .int n, .retAddr 0] h (some (.int k)) h := by
  refine ab_T.of (d := 0) rfl (Nat.le_of_ble_eq_true rfl) ?_
  refine ab_U.run 1 (S' := (1, [some (.int k), some (.int n), some (.retAddr 0)], [.int k], h)) rfl ?_
  refine ab_U.if_lt rfl (fun b => absurd b h1) (fun _ => ?_)
  refine ab_U.run 2 (S' := (6, [some (.int k), some (.int n), some (.retAddr 0)], [.int n, .int k], h)) rfl ?_
  refine ab_U.ic_lt rfl (fun _ => ?_) (fun b => absurd h2 b)
  refine ab_U.run 1 (S' := (17, [some (.int k), some (.int n), some (.retAddr 0)], [.int k], h)) rfl ?_
  exact ab_U.ret rfl rfl ⟨rfl, rfl⟩
theorem str_chk {k n : Int32} {h : ab_H} (h1 : ¬ k < 0) (h2 : k < n) : ab_F 2 227 [.int k, .int n] h none h := by
  refine ab_T.of (d := 1) rfl (Nat.le_of_ble_eq_true rfl) ?_
  refine ab_U.run 3 (S' := (5, [some (.int k), some (.int n)], [.retAddr 0, .int n, .int k], h)) rfl ?_
  refine ab_U.fn rfl rfl (str_pre h1 h2) (by omega) ?_
  refine ab_U.run 1 (S' := (9, [some (.int k), some (.int n)], [], h)) rfl ?_
  exact ab_U.ret rfl rfl ⟨rfl, rfl⟩
theorem str_lt {k : Int32} {n : Nat} (hn : n < 2 ^ 31) (h : ab_in k n = true) : ¬ k < 0 ∧ k < Int32.ofNat n := by
  have h := ab_in_iff h
  refine ⟨fun q => h (Or.inl q), ?_⟩
  obtain ⟨j, hj, rfl⟩ := vp_in_of h hn
  exact nI_lt hj hn
theorem str_at1 {k : Int32} (h : 10 ≤ sa ∧ sa < 19) (hk : ab_in k (ab_slen.getD (sa - 10) 0) = true) : ab_F 3 228 [.ref (sa + 20), .int k] (hp X G μ) (some (.int ((ab_strs.getD (sa - 10) []).getD k.toNatClampNeg 0))) (hp X G μ) := by
  have hl : ∀ i, i < 9 → ab_slen.getD i 0 < 2 ^ 31 := by decide
  obtain ⟨h1, h2⟩ := str_lt (hl (sa - 10) (by omega)) hk
  have hj : k.toNatClampNeg < ab_slen.getD (sa - 10) 0 := Nat.not_le.mp fun q => (ab_in_iff hk) (Or.inr q)
  obtain ⟨e1, e2⟩ := str_ch (sa - 10) (by omega) _ hj
  refine ab_T.of (d := 2) rfl (Nat.le_of_ble_eq_true rfl) ?_
  refine ab_U.run 2 (S' := (2, [some (.ref (sa + 20)), some (.int k)], [.ref (sa + 20), .int k], hp X G μ)) rfl ?_
  refine ab_U.go (S := (3, [some (.ref (sa + 20)), some (.int k)], [.int (Int32.ofNat (ab_slen.getD (sa - 10) 0)), .int k], hp X G μ)) rfl (by simp only [ab_step, str_ra h]; rfl) ?_
  refine ab_U.fn rfl rfl (str_chk h1 h2) (by omega) ?_
  refine ab_U.run 2 (S' := (8, [some (.ref (sa + 20)), some (.int k)], [.int k, .ref (sa + 20)], hp X G μ)) rfl ?_
  refine ab_U.go (S := (9, [some (.ref (sa + 20)), some (.int k)], [.int ((ab_strs.getD (sa - 10) []).getD k.toNatClampNeg 0)], hp X G μ)) rfl (by simp only [ab_step, str_ra h, hk, if_true]; rfl) ?_
  refine ab_U.run 3 (S' := (14, [some (.ref (sa + 20)), some (.int k)], [.int (((ab_strs.getD (sa - 10) []).getD k.toNatClampNeg 0 &&& 255).toUInt32.toUInt16.toUInt32.toInt32)], hp X G μ)) rfl ?_
  rw [e1]
  exact ab_U.ret (r := (some (.int ((ab_strs.getD (sa - 10) []).getD k.toNatClampNeg 0)), hp X G μ)) rfl (by show (if _ then _ else _) = _; rw [if_pos e2]) ⟨rfl, rfl⟩
theorem str_charAt {k : Int32} (h : 10 ≤ sa ∧ sa < 19) (hk : ab_in k (ab_slen.getD (sa - 10) 0) = true) : ab_F 4 224 [.ref sa, .int k] (hp X G μ) (some (.int ((ab_strs.getD (sa - 10) []).getD k.toNatClampNeg 0))) (hp X G μ) := by
  have hj : k.toNatClampNeg < ab_slen.getD (sa - 10) 0 := Nat.not_le.mp fun q => (ab_in_iff hk) (Or.inr q)
  obtain ⟨e1, e2⟩ := str_ch (sa - 10) (by omega) _ hj
  refine ab_T.of (d := 3) rfl (Nat.le_of_ble_eq_true rfl) ?_
  refine ab_U.run 1 (S' := (1, [some (.ref sa), some (.int k)], [.ref sa], hp X G μ)) rfl ?_
  refine ab_U.fnT rfl rfl h rfl rfl (str_latin h) (by omega) ?_
  refine ab_U.run 2 (S' := (8, [some (.ref sa), some (.int k)], [.ref sa], hp X G μ)) rfl ?_
  refine ab_U.go (S := (11, [some (.ref sa), some (.int k)], [.ref (sa + 20)], hp X G μ)) rfl (by simp only [ab_step, str_ob h]; rfl) ?_
  refine ab_U.run 1 (S' := (12, [some (.ref sa), some (.int k)], [.int k, .ref (sa + 20)], hp X G μ)) rfl ?_
  refine ab_U.fn rfl rfl (str_at1 h hk) (by omega) ?_
  exact ab_U.ret (r := (some (.int ((ab_strs.getD (sa - 10) []).getD k.toNatClampNeg 0)), hp X G μ)) rfl (by show (if _ then _ else _) = _; rw [if_pos e2]) ⟨rfl, rfl⟩
end AB19
def f_J0_length_8abf5 (F : Nat) (sa : Nat) (μ : fm_M) : Option (Int32 × fm_M) := if 10 ≤ sa ∧ sa < 19 then some (Int32.ofNat (ab_slen.getD (sa - 10) 0), μ) else none
theorem t_J0_length_8abf5 {X : Nat × (Nat → Int32)} {G : Nat → Nat → Option Nat} (hG : fm_Gok G) {F sa : Nat} {μ : fm_M} {r : Int32 × fm_M} (hf : f_J0_length_8abf5 F sa μ = some r) : ab_F 6 223 [.ref sa] (hp X G μ) (some (.int r.1)) (hp X G r.2) := by
  obtain ⟨h1, hf⟩ := ab_ifs hf
  obtain rfl := Option.some.inj hf
  exact (str_len h1).le (by omega)
def f_J0_charAt_5068e (F : Nat) (sa : Nat) (x0 : Int32) (μ : fm_M) : Option (Int32 × fm_M) := if 10 ≤ sa ∧ sa < 19 then (if ab_in x0 (ab_slen.getD (sa - 10) 0) = true then some ((ab_strs.getD (sa - 10) []).getD x0.toNatClampNeg 0, μ) else none) else none
theorem t_J0_charAt_5068e {X : Nat × (Nat → Int32)} {G : Nat → Nat → Option Nat} (hG : fm_Gok G) {F sa : Nat} {x0 : Int32} {μ : fm_M} {r : Int32 × fm_M} (hf : f_J0_charAt_5068e F sa x0 μ = some r) : ab_F 6 224 [.ref sa, .int x0] (hp X G μ) (some (.int r.1)) (hp X G r.2) := by
  obtain ⟨h1, hf⟩ := ab_ifs hf
  obtain ⟨h2, hf⟩ := ab_ifs hf
  obtain rfl := Option.some.inj hf
  exact (str_charAt h1 h2).le (by omega)
