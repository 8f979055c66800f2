/-! the instructions of our machine are the JVM's -/
def ab_gt : List Cond := lw_tbl.filter goodWord
def ab_sts (a : Nat) : String × String × String := match a with
  | 1 => ("TepidPurse", "BASES", "[I")
  | 2 => ("TepidPurse", "POWERS_OF_TEN", "[J")
  | 3 => ("jdk/internal/util/Preconditions", "SIOOBE_FORMATTER", "Ljava/util/function/BiFunction;")
  | _ => ("java/lang/String", "COMPACT_STRINGS", "Z")
def ab_stv (a : Nat) : Value := if a = 4 then .int 1 else if a = 3 then .retAddr 0 else .ref a
def ab_sc : List (Nat × String) := [(92, "plain"), (98, "flint"), (100, "slate"), (102, "soap"), (107, "man"), (116, "oven"), (121, "wind"), (126, "price"), (131, "debt")]
def ab_isN (w : Cond) : Bool := match w with
  | .methodLinkNest _ _ _ _ => true
  | _ => false
/-- the class of the arrays of int arrays -/
def ab_AR (U : State) : Prop := ∃ (comp c : ClassId) (k : Class), U.vm.findClass "[I" = some comp ∧ U.vm.classes[c]? = some k ∧ k.kind = .array comp (.array .int) ∧ U.vm.findClass "[[I" = some c
theorem ab_AR.moved {u U : State} (hvm : u.vm.Alike U.vm) (h : ab_AR u) : ab_AR U := by
  obtain ⟨comp, c, k, h1, h2, h3, h4⟩ := h
  obtain ⟨k', hk', he⟩ := hvm.2.2 _ _ h2
  exact ⟨comp, c, k', by rw [hvm.findClass]; exact h1, hk', by rw [he]; exact h3, by rw [hvm.findClass]; exact h4⟩
theorem ab_AR.of {A : Array Value} {U : State} (h : (Cond.arrayOver (.array .int)).before A U = true) : ab_AR U := by
  simp only [Cond.before, Cond.holds, Cond.value, beq_iff_eq] at h
  change ((U.vm.findClass "[I").bind _) = some true at h
  obtain ⟨comp, h1, h⟩ := Option.bind_eq_some_iff.mp h
  obtain ⟨c, h2, h⟩ := Option.bind_eq_some_iff.mp h
  obtain ⟨k, h3, h⟩ := Option.map_eq_some_iff.mp h
  obtain ⟨lt, h4, -⟩ := Array.findIdx?_eq_some_iff_getElem.mp h2
  have e : U.vm.classes[c] = k := (Array.getElem?_eq_some_iff.mp h3).2
  rw [e] at h4
  refine ⟨comp, c, k, h1, h3, ?_⟩
  split at h4
  · rename_i co ty hk
    rw [hk] at h
    simp only [Bool.and_eq_true, decide_eq_true_eq] at h
    simp only [beq_iff_eq] at h4
    exact ⟨by rw [hk, h4, h.1], h.2⟩
  · cases h4
/-- what a state must have of what was there before -/
def ab_EF (E : ab_Env) (U : State) (H : Heap) : Prop := va_K E.2.2.1 vwCl [] U ∧ (∀ a, 1 ≤ a → a ≤ 4 → va_Z (ab_sts a).1 (ab_sts a).2.1 (ab_sts a).2.2 (ab_rv E (ab_stv a)) (ab_A E) U H) ∧ (∀ w ∈ lw_tbl, ab_isN w = true → va_Nw w U) ∧ (∀ (i : Nat) (q : Nat × String), ab_sc[i]? = some q → vk_R RX5 q.1 q.2 (E.2.1 (10 + i)) U) ∧ (va_AO RX7 U ∧ va_AO RX3 U ∧ ab_AR U) ∧ E.2.2.2.category = 1
theorem ab_EF.moved {E : ab_Env} {s U : State} {H0 H1 : Heap} (h : ab_EF E s H0) (hW : s.WarmedH U.vm) (hk : ∀ q : Nat, q < H0.size → ¬ ab_A E q → H1[q]? = H0[q]?) : ab_EF E U H1 := by
  obtain ⟨h1, h2, h3, h4, h5, h6⟩ := h
  refine ⟨h1.moved hW.alike, fun a g1 g2 => ((h2 a g1 g2).moved hW.alike).kept hk, fun w hw hn => ?_, fun i q hq => (h4 i q hq).warm hW, ⟨h5.1.moved hW.alike, h5.2.1.moved hW.alike, h5.2.2.moved hW.alike⟩, h6⟩
  have := h3 w hw hn
  cases w <;> first | exact va_Nw.warmM hW this | exact absurd hn (by decide) | cases hn
def ab_wd (pl : Nat) (w : Cond) : Bool := decide (lw_tbl[pl]? = some w) && goodWord w
theorem ab_wd_in {pl : Nat} {w : Cond} (h : ab_wd pl w = true) : w ∈ ab_gt := by
  simp only [ab_wd, Bool.and_eq_true, decide_eq_true_eq] at h
  exact List.mem_filter.mpr ⟨List.mem_of_getElem? h.1, h.2⟩
def ab_fl (ci k : Nat) : String × String × String × Bool := match vwCl[ci]? with
  | some r => r.2.1 k
  | none => ("", "", "", false)
/-- does the printed instruction stand for that of the code -/
def ab_chk1 (own : String) (ml : Nat) (ini : Bool) (pc : Nat) (raw : Instr) (len : Nat) (ins : Instr) (pl : Nat) : Bool := match ins with
  | .iconst v => (match raw with
    | .iconst n => decide (len = 1) && decide (n = v)
    | .bipush n => decide (len = 2) && decide ((Int8.ofInt n).toInt32 = Int32.ofInt v)
    | .sipush n => decide (len = 3) && decide ((Int16.ofInt n).toInt32 = Int32.ofInt v)
    | .ldc idx => decide (len = 2) && ab_wd pl (.constant own idx (Int32.ofInt v))
    | .ldc_w idx => decide (len = 3) && ab_wd pl (.constant own idx (Int32.ofInt v))
    | _ => false)
  | .ldc2_w n => (match raw with
    | .lconst k => decide (len = 1) && decide (Int64.ofNat (k : Nat) = Int64.ofNat n)
    | .ldc2_w idx => decide (len = 3) && ab_wd pl (.constantLong own idx (Int64.ofNat n))
    | _ => false)
  | .ldc a => (match raw with
    | .ldc idx => decide (len = 2) && (decide (own = RX5) && (decide (10 ≤ a) && decide ((ab_sc[a - 10]?).map (fun q => q.1) = some idx)))
    | _ => false)
  | .iload i => (match raw with
    | .iload j => decide (len = 2) && decide (j = i)
    | .iload_n j => decide (len = 1) && decide ((j : Nat) = i)
    | _ => false)
  | .lload i => (match raw with
    | .lload j => decide (len = 2) && decide (j = i)
    | .lload_n j => decide (len = 1) && decide ((j : Nat) = i)
    | _ => false)
  | .aload i => (match raw with
    | .aload j => decide (len = 2) && decide (j = i)
    | .aload_n j => decide (len = 1) && decide ((j : Nat) = i)
    | _ => false)
  | .istore i => decide (i < ml) && (match raw with
    | .istore j => decide (len = 2) && decide (j = i)
    | .istore_n j => decide (len = 1) && decide ((j : Nat) = i)
    | _ => false)
  | .lstore i => decide (i + 1 < ml) && (match raw with
    | .lstore j => decide (len = 2) && decide (j = i)
    | .lstore_n j => decide (len = 1) && decide ((j : Nat) = i)
    | _ => false)
  | .astore i => decide (i < ml) && (match raw with
    | .astore j => decide (len = 2) && decide (j = i)
    | .astore_n j => decide (len = 1) && decide ((j : Nat) = i)
    | _ => false)
  | .iinc i n => decide (i < ml) && (decide (raw = .iinc i n) && decide (len = 3))
  | .ifCond cd t => (match raw with
    | .ifCond cd' off => decide (len = 3) && (decide (cd' = cd) && (decide ((pc : Int) + off = t) && decide (0 ≤ t)))
    | _ => false)
  | .if_icmp cd t => (match raw with
    | .if_icmp cd' off => decide (len = 3) && (decide (cd' = cd) && (decide ((pc : Int) + off = t) && decide (0 ≤ t)))
    | _ => false)
  | .goto t => (match raw with
    | .goto off => decide (len = 3) && (decide ((pc : Int) + off = t) && decide (0 ≤ t))
    | _ => false)
  | .tableswitch D lo hi T => (match raw with
    | .tableswitch D' lo' hi' T' => (decide ((pc : Int) + D' = D) && decide (0 ≤ D)) && (decide (lo' = lo ∧ hi' = hi) && (decide (T'.map (fun o => (pc : Int) + o) = T) && T.all (fun t => decide (0 ≤ t))))
    | _ => false)
  | .getstatic a => (match raw with
    | .getstatic idx => decide (len = 3) && (decide (1 ≤ a ∧ a ≤ 4) && ab_wd pl (.fieldLink own idx (ab_sts a).1 (ab_sts a).2.1 (ab_sts a).2.2))
    | _ => false)
  | .getfield n => (match raw with
    | .getfield idx => decide (len = 3) && (if n / 100 = 90 then (if n = 9000 then ab_wd pl (.fieldLink own idx "java/lang/String" "value" "[B") else decide (n = 9001) && ab_wd pl (.fieldLink own idx "java/lang/String" "coder" "B")) else decide (n / 100 < 10) && (decide (n % 100 < ab_nf (n / 100)) && ab_wd pl (.fieldLink own idx (ab_fl (n / 100) (n % 100)).1 (ab_fl (n / 100) (n % 100)).2.1 (ab_fl (n / 100) (n % 100)).2.2.1)))
    | _ => false)
  | .putfield n => (match raw with
    | .putfield idx => decide (len = 3) && (decide (n / 100 < 10) && (decide (n % 100 < ab_nf (n / 100)) && (ab_wd pl (.fieldLink own idx (ab_fl (n / 100) (n % 100)).1 (ab_fl (n / 100) (n % 100)).2.1 (ab_fl (n / 100) (n % 100)).2.2.1) && (!(ab_fl (n / 100) (n % 100)).2.2.2 || (ini && decide ((ab_fl (n / 100) (n % 100)).1 = own))))))
    | _ => false)
  | .new ci => (match raw with
    | .new idx => decide (len = 3) && (decide (ci < 10) && ab_wd pl (.classLink own idx (ab_cn ci)))
    | _ => false)
  | .anewarray ci => (match raw with
    | .anewarray idx => decide (len = 3) && (decide (ci = 7 ∨ ci = 3) && ab_wd pl (.classLink own idx (ab_cn ci)))
    | _ => false)
  | .multianewarray _ _ => (match raw with
    | .multianewarray idx d => decide (len = 4) && (decide (d = 2) && ab_wd pl (.classLink own idx "[[I"))
    | _ => false)
  | .newarray t => decide (raw = .newarray t) && decide (len = 2)
  | .invokespecial q => (match raw with
    | .invokespecial idx => decide (len = 3) && (if q = 9990000 then ab_wd pl (.methodLink own idx objectInit) else (match ab_mt[q / 10000]? with
      | some mi => decide (1 ≤ mi.2.2.2.2.2.1) && (decide (q / 100 % 100 = mi.2.2.2.2.2.1) && ((decide (mi.2.1.name = "<init>") && (decide (mi.2.2.2.2.1 = none) && decide ((parseMethodDescriptor mi.2.1.desc).map (fun d => d.parameters.length) = some (mi.2.2.2.2.2.1 - 1)))) && ab_wd pl (.methodLink own idx mi.2.1)))
      | none => false))
    | _ => false)
  | .invokestatic q => (match raw with
    | .invokestatic idx => decide (len = 3) && (if q = 9980000 then ab_wd pl (.methodLink own idx arraycopyName) else (match ab_mt[q / 10000]? with
      | some mi => (decide (q / 100 % 100 = mi.2.2.2.2.2.1) && decide ((parseMethodDescriptor mi.2.1.desc).map (fun d => d.parameters.length) = some mi.2.2.2.2.2.1)) && (ab_wd pl (.methodLink own idx mi.2.1) || decide (lw_tbl[pl]? = some (.methodLinkNest own idx mi.2.1 "TepidPurse")))
      | none => false))
    | _ => false)
  | .invokevirtual q => (match raw with
    | .invokevirtual idx => decide (len = 3) && (match ab_mt[q / 10000]? with
      | some mi => decide (1 ≤ mi.2.2.2.2.2.1) && (decide (q / 100 % 100 = mi.2.2.2.2.2.1) && (decide (mi.2.1.cls = (if q % 100 = 90 then "java/lang/String" else ab_cn (q % 100))) && (((decide (q % 100 = 90 ∨ q % 100 < 10) && decide (¬ mi.2.1.name = "<init>")) && decide ((parseMethodDescriptor mi.2.1.desc).map (fun d => d.parameters.length) = some (mi.2.2.2.2.2.1 - 1))) && ab_wd pl (.methodLink own idx mi.2.1))))
      | none => false)
    | _ => false)
  | i => decide (raw = i) && decide (len = 1)
def ab_chk (own : String) (ml : Nat) (ini : Bool) (cc : ByteArray) (e : Nat × Instr × Nat × Nat) : Bool := match decode cc e.1 with
  | .ok (raw, len) => decide (e.2.2.1 = e.1 + len) && ab_chk1 own ml ini e.1 raw len e.2.1 e.2.2.2
  | .error _ => false
/-- any realisation of a state of ours comes to Q -/
def ab_W (p : Program) (l : Launch) (e : Env) (R : Room) (s : State) (m : MethodId) (args : Array Value) (below : List Frame) (meth : Method) (c : Code) (Q : State → Prop) (E : ab_Env) (ml : Nat) (S : ab_S) (cells slots : Nat) : Prop := ∀ (H : Heap) (locs : List Loc) (ls : Array Slot), ab_I E s H S.2.2.2 → va_S (ab_A E) s.heap H locs → ab_LR E ml S.2.1 ls → W p l e R s m args below meth c H locs cells slots Q (F0 m S.1 ls (S.2.2.1.map (ab_rv E)))
def ab_N (p : Program) (l : Launch) (e : Env) (R : Room) (s : State) (m : MethodId) (args : Array Value) (below : List Frame) (meth : Method) (c : Code) (Q : State → Prop) (E : ab_Env) (ml : Nat) (S : ab_S) (h : ab_H) (cells slots : Nat) : Prop := ∀ c1 s1 : Nat, c1 = cells + (S.2.2.2.1 - h.1) → s1 = slots + (S.2.2.2.2.1 - h.2.1) → ab_W p l e R s m args below meth c Q E ml S c1 s1
theorem ab_go1_eq {nx : Nat} {L : ab_L} {st : List Value} {h : ab_H} {S : ab_S} (hs : ab_go1 nx L st h = some (.inl S)) : S = (nx, L, st, h) := by
  simp only [ab_go1, Option.some.injEq, Sum.inl.injEq] at hs
  exact hs.symm
section AB6
variable {p : Program} {l : Launch} {e : Env} {R : Room} {s : State} {m : MethodId} {args : Array Value} {below : List Frame} {meth : Method} {c : Code} {Q : State → Prop} {E : ab_Env} {ml : Nat} {cc : ByteArray} {own : String} {cells slots pc len pl : Nat} {L : ab_L} {st : List Value} {h : ab_H} {S : ab_S} {raw : Instr} {ini : Bool}
theorem ab_w_iconst (hx : p.tables.exec = Jvm.exec) (hb : c.code = cc) {v : Int} (hown : s.vm.findClass own = some m.cls) (hts : ∀ w ∈ ab_gt, w.before args s = true) (hd : decode cc pc = .ok (raw, len)) (hc : ab_chk1 own ml ini pc raw len (.iconst v) pl = true) (hs : ab_go1 (pc + len) L (.int (Int32.ofInt v) :: st) h = some (.inl S)) (k : ab_N p l e R s m args below meth c Q E ml S h cells slots) : ab_W p l e R s m args below meth c Q E ml (pc, L, st, h) cells slots := by
  obtain rfl := ab_go1_eq hs
  intro H locs ls hI hS hL
  have kk := k cells slots (by simp) (by simp) H locs ls hI hS hL
  simp only [ab_chk1] at hc
  split at hc
  · simp only [Bool.and_eq_true, decide_eq_true_eq] at hc
    obtain ⟨rfl, rfl⟩ := hc
    exact lv_iconst hx hb hd rfl kk
  · simp only [Bool.and_eq_true, decide_eq_true_eq] at hc
    obtain ⟨rfl, h2⟩ := hc
    exact lv_bipush hx hb hd h2 kk
  · simp only [Bool.and_eq_true, decide_eq_true_eq] at hc
    obtain ⟨rfl, h2⟩ := hc
    exact lv_sipush hx hb hd h2 kk
  · simp only [Bool.and_eq_true, decide_eq_true_eq] at hc
    obtain ⟨rfl, h2⟩ := hc
    exact lv_ldc hx hb hown (hts _ (ab_wd_in h2)) hd kk
  · simp only [Bool.and_eq_true, decide_eq_true_eq] at hc
    obtain ⟨rfl, h2⟩ := hc
    exact lv_ldcw hx hb hown (hts _ (ab_wd_in h2)) hd kk
  · cases hc
theorem ab_w_ldc2 (hx : p.tables.exec = Jvm.exec) (hb : c.code = cc) {n : Nat} (hown : s.vm.findClass own = some m.cls) (hts : ∀ w ∈ ab_gt, w.before args s = true) (hd : decode cc pc = .ok (raw, len)) (hc : ab_chk1 own ml ini pc raw len (.ldc2_w n) pl = true) (hs : ab_go1 (pc + len) L (.long (Int64.ofNat n) :: st) h = some (.inl S)) (k : ab_N p l e R s m args below meth c Q E ml S h cells slots) : ab_W p l e R s m args below meth c Q E ml (pc, L, st, h) cells slots := by
  obtain rfl := ab_go1_eq hs
  intro H locs ls hI hS hL
  have kk := k cells slots (by simp) (by simp) H locs ls hI hS hL
  simp only [ab_chk1] at hc
  split at hc
  · simp only [Bool.and_eq_true, decide_eq_true_eq] at hc
    obtain ⟨rfl, h2⟩ := hc
    exact lv_lconst hx hb hd h2 kk
  · simp only [Bool.and_eq_true, decide_eq_true_eq] at hc
    obtain ⟨rfl, h2⟩ := hc
    exact lv_ldc2 hx hb hown (hts _ (ab_wd_in h2)) hd kk
  · cases hc
theorem ab_w_ldc (hx : p.tables.exec = Jvm.exec) (hb : c.code = cc) {a : Nat} (hown : s.vm.findClass own = some m.cls) (hE : ab_EF E s s.heap) (hd : decode cc pc = .ok (raw, len)) (hc : ab_chk1 own ml ini pc raw len (.ldc a) pl = true) (hs : ab_go1 (pc + len) L (.ref a :: st) h = some (.inl S)) (k : ab_N p l e R s m args below meth c Q E ml S h cells slots) : ab_W p l e R s m args below meth c Q E ml (pc, L, st, h) cells slots := by
  obtain rfl := ab_go1_eq hs
  intro H locs ls hI hS hL
  have kk := k cells slots (by simp) (by simp) H locs ls hI hS hL
  simp only [ab_chk1] at hc
  split at hc
  · simp only [Bool.and_eq_true, decide_eq_true_eq] at hc
    obtain ⟨rfl, rfl, h3, h4⟩ := hc
    rename_i idx
    cases hq : ab_sc[a - 10]? with
    | none => rw [hq] at h4; cases h4
    | some q =>
      rw [hq] at h4
      simp only [Option.map_some, Option.some.injEq] at h4
      subst h4
      have hlt : a - 10 < 9 := (List.getElem?_eq_some_iff.mp hq).1
      have hR := hE.2.2.2.1 _ q hq
      rw [show 10 + (a - 10) = a by omega] at hR
      have e1 : ab_rho E a = E.2.1 a := if_pos (by omega)
      rw [← e1] at hR
      exact va_ldcS hx hb hown hR hd kk
  · cases hc
theorem ab_w_iload (hx : p.tables.exec = Jvm.exec) (hb : c.code = cc) {i : Nat} (hd : decode cc pc = .ok (raw, len)) (hc : ab_chk1 own ml ini pc raw len (.iload i) pl = true) (hs : (match ab_ldL L i with
    | some (.int x) => ab_go1 (pc + len) L (.int x :: st) h
    | _ => none) = some (.inl S)) (k : ab_N p l e R s m args below meth c Q E ml S h cells slots) : ab_W p l e R s m args below meth c Q E ml (pc, L, st, h) cells slots := by
  split at hs
  · rename_i x hv
    obtain rfl := ab_go1_eq hs
    intro H locs ls hI hS hL
    have kk := k cells slots (by simp) (by simp) H locs ls hI hS hL
    have hl := hL.at hv
    simp only [ab_chk1] at hc
    split at hc
    · simp only [Bool.and_eq_true, decide_eq_true_eq] at hc
      obtain ⟨rfl, rfl⟩ := hc
      exact lv_iload hx hb hd hl kk
    · simp only [Bool.and_eq_true, decide_eq_true_eq] at hc
      obtain ⟨rfl, h2⟩ := hc
      exact lv_iload_n hx hb hd h2 hl kk
    · cases hc
  · cases hs
theorem ab_w_lload (hx : p.tables.exec = Jvm.exec) (hb : c.code = cc) {i : Nat} (hd : decode cc pc = .ok (raw, len)) (hc : ab_chk1 own ml ini pc raw len (.lload i) pl = true) (hs : (match ab_ldL L i with
    | some (.long x) => ab_go1 (pc + len) L (.long x :: st) h
    | _ => none) = some (.inl S)) (k : ab_N p l e R s m args below meth c Q E ml S h cells slots) : ab_W p l e R s m args below meth c Q E ml (pc, L, st, h) cells slots := by
  split at hs
  · rename_i x hv
    obtain rfl := ab_go1_eq hs
    intro H locs ls hI hS hL
    have kk := k cells slots (by simp) (by simp) H locs ls hI hS hL
    have hl := hL.at hv
    simp only [ab_chk1] at hc
    split at hc
    · simp only [Bool.and_eq_true, decide_eq_true_eq] at hc
      obtain ⟨rfl, rfl⟩ := hc
      exact lv_lload hx hb hd hl kk
    · simp only [Bool.and_eq_true, decide_eq_true_eq] at hc
      obtain ⟨rfl, h2⟩ := hc
      exact lv_lload_n hx hb hd h2 hl kk
    · cases hc
  · cases hs
theorem ab_w_aload (hx : p.tables.exec = Jvm.exec) (hb : c.code = cc) {i : Nat} (hd : decode cc pc = .ok (raw, len)) (hc : ab_chk1 own ml ini pc raw len (.aload i) pl = true) (hs : (match ab_ldL L i with
    | some (.ref x) => ab_go1 (pc + len) L (.ref x :: st) h
    | _ => none) = some (.inl S)) (k : ab_N p l e R s m args below meth c Q E ml S h cells slots) : ab_W p l e R s m args below meth c Q E ml (pc, L, st, h) cells slots := by
  split at hs
  · rename_i x hv
    obtain rfl := ab_go1_eq hs
    intro H locs ls hI hS hL
    have kk := k cells slots (by simp) (by simp) H locs ls hI hS hL
    have hl := hL.at hv
    simp only [ab_chk1] at hc
    split at hc
    · simp only [Bool.and_eq_true, decide_eq_true_eq] at hc
      obtain ⟨rfl, rfl⟩ := hc
      exact lv_aload hx hb hd hl kk
    · simp only [Bool.and_eq_true, decide_eq_true_eq] at hc
      obtain ⟨rfl, h2⟩ := hc
      exact lv_aload_n hx hb hd h2 hl kk
    · cases hc
  · cases hs
theorem ab_w_istore (hx : p.tables.exec = Jvm.exec) (hb : c.code = cc) {i : Nat} (hf : E.2.2.2.category = 1) (hd : decode cc pc = .ok (raw, len)) (hc : ab_chk1 own ml ini pc raw len (.istore i) pl = true) (hs : (match st with
    | .int x :: r => ab_go1 (pc + len) ((ab_cut L i).set i (some (.int x))) r h
    | _ => none) = some (.inl S)) (k : ab_N p l e R s m args below meth c Q E ml S h cells slots) : ab_W p l e R s m args below meth c Q E ml (pc, L, st, h) cells slots := by
  split at hs
  · rename_i x r
    obtain rfl := ab_go1_eq hs
    intro H locs ls hI hS hL
    have kk := fun ls' (h' : ab_LR E ml ((ab_cut L i).set i (some (.int x))) ls') => k cells slots (by simp) (by simp) H locs ls' hI hS h'
    simp only [ab_chk1, Bool.and_eq_true, decide_eq_true_eq] at hc
    obtain ⟨hi, hc⟩ := hc
    split at hc
    · simp only [Bool.and_eq_true, decide_eq_true_eq] at hc
      obtain ⟨rfl, rfl⟩ := hc
      exact lv_istore hx hb hd hL.has hi rfl (fun ls' h' => kk ls' (ab_LR.of1 (v := .int x) hf hL.1 h'))
    · simp only [Bool.and_eq_true, decide_eq_true_eq] at hc
      obtain ⟨rfl, h2⟩ := hc
      exact lv_istore_n hx hb hd h2 hL.has hi rfl (fun ls' h' => kk ls' (ab_LR.of1 (v := .int x) hf hL.1 h'))
    · cases hc
  · cases hs
theorem ab_w_astore (hx : p.tables.exec = Jvm.exec) (hb : c.code = cc) {i : Nat} (hf : E.2.2.2.category = 1) (hd : decode cc pc = .ok (raw, len)) (hc : ab_chk1 own ml ini pc raw len (.astore i) pl = true) (hs : (match st with
    | .ref x :: r => ab_go1 (pc + len) ((ab_cut L i).set i (some (.ref x))) r h
    | _ => none) = some (.inl S)) (k : ab_N p l e R s m args below meth c Q E ml S h cells slots) : ab_W p l e R s m args below meth c Q E ml (pc, L, st, h) cells slots := by
  split at hs
  · rename_i x r
    obtain rfl := ab_go1_eq hs
    intro H locs ls hI hS hL
    have kk := fun ls' (h' : ab_LR E ml ((ab_cut L i).set i (some (.ref x))) ls') => k cells slots (by simp) (by simp) H locs ls' hI hS h'
    simp only [ab_chk1, Bool.and_eq_true, decide_eq_true_eq] at hc
    obtain ⟨hi, hc⟩ := hc
    split at hc
    · simp only [Bool.and_eq_true, decide_eq_true_eq] at hc
      obtain ⟨rfl, rfl⟩ := hc
      exact lv_astore hx hb hd hL.has hi rfl (fun ls' h' => kk ls' (ab_LR.of1 (v := .ref x) hf hL.1 h'))
    · simp only [Bool.and_eq_true, decide_eq_true_eq] at hc
      obtain ⟨rfl, h2⟩ := hc
      exact lv_astore_n hx hb hd h2 hL.has hi rfl (fun ls' h' => kk ls' (ab_LR.of1 (v := .ref x) hf hL.1 h'))
    · cases hc
  · cases hs
theorem ab_w_lstore (hx : p.tables.exec = Jvm.exec) (hb : c.code = cc) {i : Nat} (hf : E.2.2.2.category = 1) (hd : decode cc pc = .ok (raw, len)) (hc : ab_chk1 own ml ini pc raw len (.lstore i) pl = true) (hs : (match st with
    | .long x :: r => ab_go1 (pc + len) (((ab_cut L i).set i (some (.long x))).set (i + 1) none) r h
    | _ => none) = some (.inl S)) (k : ab_N p l e R s m args below meth c Q E ml S h cells slots) : ab_W p l e R s m args below meth c Q E ml (pc, L, st, h) cells slots := by
  split at hs
  · rename_i x r
    obtain rfl := ab_go1_eq hs
    intro H locs ls hI hS hL
    have kk := fun ls' (h' : ab_LR E ml (((ab_cut L i).set i (some (.long x))).set (i + 1) none) ls') => k cells slots (by simp) (by simp) H locs ls' hI hS h'
    simp only [ab_chk1, Bool.and_eq_true, decide_eq_true_eq] at hc
    obtain ⟨hi, hc⟩ := hc
    split at hc
    · simp only [Bool.and_eq_true, decide_eq_true_eq] at hc
      obtain ⟨rfl, rfl⟩ := hc
      exact lv_lstore hx hb hd hL.has hi rfl (fun ls' h' => kk ls' (ab_LR.of2 (v := .long x) hf hL.1 h'))
    · simp only [Bool.and_eq_true, decide_eq_true_eq] at hc
      obtain ⟨rfl, h2⟩ := hc
      exact lv_lstore_n hx hb hd h2 hL.has hi rfl (fun ls' h' => kk ls' (ab_LR.of2 (v := .long x) hf hL.1 h'))
    · cases hc
  · cases hs
theorem ab_w_iinc (hx : p.tables.exec = Jvm.exec) (hb : c.code = cc) {i : Nat} {n : Int} (hf : E.2.2.2.category = 1) (hd : decode cc pc = .ok (raw, len)) (hc : ab_chk1 own ml ini pc raw len (.iinc i n) pl = true) (hs : (match ab_ldL L i with
    | some (.int x) => ab_go1 (pc + len) ((ab_cut L i).set i (some (.int (x + Int32.ofInt n)))) st h
    | _ => none) = some (.inl S)) (k : ab_N p l e R s m args below meth c Q E ml S h cells slots) : ab_W p l e R s m args below meth c Q E ml (pc, L, st, h) cells slots := by
  split at hs
  · rename_i x hv
    obtain rfl := ab_go1_eq hs
    intro H locs ls hI hS hL
    simp only [ab_chk1, Bool.and_eq_true, decide_eq_true_eq] at hc
    obtain ⟨hi, rfl, rfl⟩ := hc
    have hm : (i, ab_rv E (.int x)) ∈ ab_asc E L := by
      unfold ab_ldL at hv
      split at hv
      · rename_i w hw
        cases hv
        exact ab_asc_mem.mpr ⟨_, hw, rfl⟩
      · cases hv
    obtain ⟨k9, hk9⟩ := List.getElem?_of_mem hm
    exact lv_iinc hx hb hd hL.has hk9 rfl hi rfl (fun ls' h' => k cells slots (by simp) (by simp) H locs ls' hI hS (ab_LR.of1 (v := .int (x + Int32.ofInt n)) hf hL.1 h'))
  · cases hs
theorem ab_w_iadd (hx : p.tables.exec = Jvm.exec) (hb : c.code = cc)  (hd : decode cc pc = .ok (raw, len)) (hc : ab_chk1 own ml ini pc raw len .iadd pl = true) (hs : ab_ib (fun x y => x + y) (pc + len) L st h = some (.inl S)) (k : ab_N p l e R s m args below meth c Q E ml S h cells slots) : ab_W p l e R s m args below meth c Q E ml (pc, L, st, h) cells slots := by
  simp only [ab_chk1, Bool.and_eq_true, decide_eq_true_eq] at hc
  obtain ⟨rfl, rfl⟩ := hc
  unfold ab_ib at hs
  split at hs
  · rename_i y x r
    obtain rfl := ab_go1_eq hs
    intro H locs ls hI hS hL
    exact lv_iadd hx hb hd (k cells slots (by simp) (by simp) H locs ls hI hS hL)
  · cases hs
theorem ab_w_isub (hx : p.tables.exec = Jvm.exec) (hb : c.code = cc)  (hd : decode cc pc = .ok (raw, len)) (hc : ab_chk1 own ml ini pc raw len .isub pl = true) (hs : ab_ib (fun x y => x - y) (pc + len) L st h = some (.inl S)) (k : ab_N p l e R s m args below meth c Q E ml S h cells slots) : ab_W p l e R s m args below meth c Q E ml (pc, L, st, h) cells slots := by
  simp only [ab_chk1, Bool.and_eq_true, decide_eq_true_eq] at hc
  obtain ⟨rfl, rfl⟩ := hc
  unfold ab_ib at hs
  split at hs
  · rename_i y x r
    obtain rfl := ab_go1_eq hs
    intro H locs ls hI hS hL
    exact lv_isub hx hb hd (k cells slots (by simp) (by simp) H locs ls hI hS hL)
  · cases hs
theorem ab_w_imul (hx : p.tables.exec = Jvm.exec) (hb : c.code = cc)  (hd : decode cc pc = .ok (raw, len)) (hc : ab_chk1 own ml ini pc raw len .imul pl = true) (hs : ab_ib (fun x y => x * y) (pc + len) L st h = some (.inl S)) (k : ab_N p l e R s m args below meth c Q E ml S h cells slots) : ab_W p l e R s m args below meth c Q E ml (pc, L, st, h) cells slots := by
  simp only [ab_chk1, Bool.and_eq_true, decide_eq_true_eq] at hc
  obtain ⟨rfl, rfl⟩ := hc
  unfold ab_ib at hs
  split at hs
  · rename_i y x r
    obtain rfl := ab_go1_eq hs
    intro H locs ls hI hS hL
    exact lv_imul hx hb hd (k cells slots (by simp) (by simp) H locs ls hI hS hL)
  · cases hs
theorem ab_w_iand (hx : p.tables.exec = Jvm.exec) (hb : c.code = cc)  (hd : decode cc pc = .ok (raw, len)) (hc : ab_chk1 own ml ini pc raw len .iand pl = true) (hs : ab_ib (fun x y => x &&& y) (pc + len) L st h = some (.inl S)) (k : ab_N p l e R s m args below meth c Q E ml S h cells slots) : ab_W p l e R s m args below meth c Q E ml (pc, L, st, h) cells slots := by
  simp only [ab_chk1, Bool.and_eq_true, decide_eq_true_eq] at hc
  obtain ⟨rfl, rfl⟩ := hc
  unfold ab_ib at hs
  split at hs
  · rename_i y x r
    obtain rfl := ab_go1_eq hs
    intro H locs ls hI hS hL
    exact lv_iand hx hb hd (k cells slots (by simp) (by simp) H locs ls hI hS hL)
  · cases hs
theorem ab_w_ior (hx : p.tables.exec = Jvm.exec) (hb : c.code = cc)  (hd : decode cc pc = .ok (raw, len)) (hc : ab_chk1 own ml ini pc raw len .ior pl = true) (hs : ab_ib (fun x y => x ||| y) (pc + len) L st h = some (.inl S)) (k : ab_N p l e R s m args below meth c Q E ml S h cells slots) : ab_W p l e R s m args below meth c Q E ml (pc, L, st, h) cells slots := by
  simp only [ab_chk1, Bool.and_eq_true, decide_eq_true_eq] at hc
  obtain ⟨rfl, rfl⟩ := hc
  unfold ab_ib at hs
  split at hs
  · rename_i y x r
    obtain rfl := ab_go1_eq hs
    intro H locs ls hI hS hL
    exact lv_ior hx hb hd (k cells slots (by simp) (by simp) H locs ls hI hS hL)
  · cases hs
theorem ab_w_ixor (hx : p.tables.exec = Jvm.exec) (hb : c.code = cc)  (hd : decode cc pc = .ok (raw, len)) (hc : ab_chk1 own ml ini pc raw len .ixor pl = true) (hs : ab_ib (fun x y => x ^^^ y) (pc + len) L st h = some (.inl S)) (k : ab_N p l e R s m args below meth c Q E ml S h cells slots) : ab_W p l e R s m args below meth c Q E ml (pc, L, st, h) cells slots := by
  simp only [ab_chk1, Bool.and_eq_true, decide_eq_true_eq] at hc
  obtain ⟨rfl, rfl⟩ := hc
  unfold ab_ib at hs
  split at hs
  · rename_i y x r
    obtain rfl := ab_go1_eq hs
    intro H locs ls hI hS hL
    exact lv_ixor hx hb hd (k cells slots (by simp) (by simp) H locs ls hI hS hL)
  · cases hs
theorem ab_w_ishl (hx : p.tables.exec = Jvm.exec) (hb : c.code = cc)  (hd : decode cc pc = .ok (raw, len)) (hc : ab_chk1 own ml ini pc raw len .ishl pl = true) (hs : ab_ib (fun x y => x <<< (y &&& 31)) (pc + len) L st h = some (.inl S)) (k : ab_N p l e R s m args below meth c Q E ml S h cells slots) : ab_W p l e R s m args below meth c Q E ml (pc, L, st, h) cells slots := by
  simp only [ab_chk1, Bool.and_eq_true, decide_eq_true_eq] at hc
  obtain ⟨rfl, rfl⟩ := hc
  unfold ab_ib at hs
  split at hs
  · rename_i y x r
    obtain rfl := ab_go1_eq hs
    intro H locs ls hI hS hL
    exact lv_ishl hx hb hd (k cells slots (by simp) (by simp) H locs ls hI hS hL)
  · cases hs
theorem ab_w_ishr (hx : p.tables.exec = Jvm.exec) (hb : c.code = cc)  (hd : decode cc pc = .ok (raw, len)) (hc : ab_chk1 own ml ini pc raw len .ishr pl = true) (hs : ab_ib (fun x y => x >>> (y &&& 31)) (pc + len) L st h = some (.inl S)) (k : ab_N p l e R s m args below meth c Q E ml S h cells slots) : ab_W p l e R s m args below meth c Q E ml (pc, L, st, h) cells slots := by
  simp only [ab_chk1, Bool.and_eq_true, decide_eq_true_eq] at hc
  obtain ⟨rfl, rfl⟩ := hc
  unfold ab_ib at hs
  split at hs
  · rename_i y x r
    obtain rfl := ab_go1_eq hs
    intro H locs ls hI hS hL
    exact lv_ishr hx hb hd (k cells slots (by simp) (by simp) H locs ls hI hS hL)
  · cases hs
theorem ab_w_iushr (hx : p.tables.exec = Jvm.exec) (hb : c.code = cc)  (hd : decode cc pc = .ok (raw, len)) (hc : ab_chk1 own ml ini pc raw len .iushr pl = true) (hs : ab_ib (fun x y => (x.toUInt32 >>> (y.toUInt32 &&& Int32.toUInt32 31)).toInt32) (pc + len) L st h = some (.inl S)) (k : ab_N p l e R s m args below meth c Q E ml S h cells slots) : ab_W p l e R s m args below meth c Q E ml (pc, L, st, h) cells slots := by
  simp only [ab_chk1, Bool.and_eq_true, decide_eq_true_eq] at hc
  obtain ⟨rfl, rfl⟩ := hc
  unfold ab_ib at hs
  split at hs
  · rename_i y x r
    obtain rfl := ab_go1_eq hs
    intro H locs ls hI hS hL
    exact lv_iushr hx hb hd rfl (k cells slots (by simp) (by simp) H locs ls hI hS hL)
  · cases hs
theorem ab_w_ladd (hx : p.tables.exec = Jvm.exec) (hb : c.code = cc)  (hd : decode cc pc = .ok (raw, len)) (hc : ab_chk1 own ml ini pc raw len .ladd pl = true) (hs : ab_lb (fun x y => x + y) (pc + len) L st h = some (.inl S)) (k : ab_N p l e R s m args below meth c Q E ml S h cells slots) : ab_W p l e R s m args below meth c Q E ml (pc, L, st, h) cells slots := by
  simp only [ab_chk1, Bool.and_eq_true, decide_eq_true_eq] at hc
  obtain ⟨rfl, rfl⟩ := hc
  unfold ab_lb at hs
  split at hs
  · rename_i y x r
    obtain rfl := ab_go1_eq hs
    intro H locs ls hI hS hL
    exact lv_ladd hx hb hd (k cells slots (by simp) (by simp) H locs ls hI hS hL)
  · cases hs
theorem ab_w_lsub (hx : p.tables.exec = Jvm.exec) (hb : c.code = cc)  (hd : decode cc pc = .ok (raw, len)) (hc : ab_chk1 own ml ini pc raw len .lsub pl = true) (hs : ab_lb (fun x y => x - y) (pc + len) L st h = some (.inl S)) (k : ab_N p l e R s m args below meth c Q E ml S h cells slots) : ab_W p l e R s m args below meth c Q E ml (pc, L, st, h) cells slots := by
  simp only [ab_chk1, Bool.and_eq_true, decide_eq_true_eq] at hc
  obtain ⟨rfl, rfl⟩ := hc
  unfold ab_lb at hs
  split at hs
  · rename_i y x r
    obtain rfl := ab_go1_eq hs
    intro H locs ls hI hS hL
    exact lv_lsub hx hb hd (k cells slots (by simp) (by simp) H locs ls hI hS hL)
  · cases hs
theorem ab_w_lmul (hx : p.tables.exec = Jvm.exec) (hb : c.code = cc)  (hd : decode cc pc = .ok (raw, len)) (hc : ab_chk1 own ml ini pc raw len .lmul pl = true) (hs : ab_lb (fun x y => x * y) (pc + len) L st h = some (.inl S)) (k : ab_N p l e R s m args below meth c Q E ml S h cells slots) : ab_W p l e R s m args below meth c Q E ml (pc, L, st, h) cells slots := by
  simp only [ab_chk1, Bool.and_eq_true, decide_eq_true_eq] at hc
  obtain ⟨rfl, rfl⟩ := hc
  unfold ab_lb at hs
  split at hs
  · rename_i y x r
    obtain rfl := ab_go1_eq hs
    intro H locs ls hI hS hL
    exact lv_lmul hx hb hd (k cells slots (by simp) (by simp) H locs ls hI hS hL)
  · cases hs
theorem ab_w_ineg (hx : p.tables.exec = Jvm.exec) (hb : c.code = cc)  (hd : decode cc pc = .ok (raw, len)) (hc : ab_chk1 own ml ini pc raw len .ineg pl = true) (hs : ab_iu (fun x => -x) (pc + len) L st h = some (.inl S)) (k : ab_N p l e R s m args below meth c Q E ml S h cells slots) : ab_W p l e R s m args below meth c Q E ml (pc, L, st, h) cells slots := by
  simp only [ab_chk1, Bool.and_eq_true, decide_eq_true_eq] at hc
  obtain ⟨rfl, rfl⟩ := hc
  unfold ab_iu at hs
  split at hs
  · rename_i x r
    obtain rfl := ab_go1_eq hs
    intro H locs ls hI hS hL
    exact lv_ineg hx hb hd (k cells slots (by simp) (by simp) H locs ls hI hS hL)
  · cases hs
theorem ab_w_i2b (hx : p.tables.exec = Jvm.exec) (hb : c.code = cc)  (hd : decode cc pc = .ok (raw, len)) (hc : ab_chk1 own ml ini pc raw len .i2b pl = true) (hs : ab_iu (fun x => x.toInt8.toInt32) (pc + len) L st h = some (.inl S)) (k : ab_N p l e R s m args below meth c Q E ml S h cells slots) : ab_W p l e R s m args below meth c Q E ml (pc, L, st, h) cells slots := by
  simp only [ab_chk1, Bool.and_eq_true, decide_eq_true_eq] at hc
  obtain ⟨rfl, rfl⟩ := hc
  unfold ab_iu at hs
  split at hs
  · rename_i x r
    obtain rfl := ab_go1_eq hs
    intro H locs ls hI hS hL
    exact lv_i2b hx hb hd rfl (k cells slots (by simp) (by simp) H locs ls hI hS hL)
  · cases hs
theorem ab_w_i2s (hx : p.tables.exec = Jvm.exec) (hb : c.code = cc)  (hd : decode cc pc = .ok (raw, len)) (hc : ab_chk1 own ml ini pc raw len .i2s pl = true) (hs : ab_iu (fun x => x.toInt16.toInt32) (pc + len) L st h = some (.inl S)) (k : ab_N p l e R s m args below meth c Q E ml S h cells slots) : ab_W p l e R s m args below meth c Q E ml (pc, L, st, h) cells slots := by
  simp only [ab_chk1, Bool.and_eq_true, decide_eq_true_eq] at hc
  obtain ⟨rfl, rfl⟩ := hc
  unfold ab_iu at hs
  split at hs
  · rename_i x r
    obtain rfl := ab_go1_eq hs
    intro H locs ls hI hS hL
    exact lv_i2s hx hb hd rfl (k cells slots (by simp) (by simp) H locs ls hI hS hL)
  · cases hs
theorem ab_w_i2c (hx : p.tables.exec = Jvm.exec) (hb : c.code = cc)  (hd : decode cc pc = .ok (raw, len)) (hc : ab_chk1 own ml ini pc raw len .i2c pl = true) (hs : ab_iu (fun x => x.toUInt32.toUInt16.toUInt32.toInt32) (pc + len) L st h = some (.inl S)) (k : ab_N p l e R s m args below meth c Q E ml S h cells slots) : ab_W p l e R s m args below meth c Q E ml (pc, L, st, h) cells slots := by
  simp only [ab_chk1, Bool.and_eq_true, decide_eq_true_eq] at hc
  obtain ⟨rfl, rfl⟩ := hc
  unfold ab_iu at hs
  split at hs
  · rename_i x r
    obtain rfl := ab_go1_eq hs
    intro H locs ls hI hS hL
    exact lv_i2c hx hb hd rfl (k cells slots (by simp) (by simp) H locs ls hI hS hL)
  · cases hs
theorem ab_w_idiv (hx : p.tables.exec = Jvm.exec) (hb : c.code = cc)  (hd : decode cc pc = .ok (raw, len)) (hc : ab_chk1 own ml ini pc raw len .idiv pl = true) (hs : (match st with
    | .int y :: .int x :: r => if y = 0 then none else ab_go1 (pc + len) L (.int (x / y) :: r) h
    | _ => none) = some (.inl S)) (k : ab_N p l e R s m args below meth c Q E ml S h cells slots) : ab_W p l e R s m args below meth c Q E ml (pc, L, st, h) cells slots := by
  simp only [ab_chk1, Bool.and_eq_true, decide_eq_true_eq] at hc
  obtain ⟨rfl, rfl⟩ := hc
  split at hs
  · rename_i y x r
    split at hs
    · cases hs
    · rename_i hne
      obtain rfl := ab_go1_eq hs
      intro H locs ls hI hS hL
      exact lv_idiv hx hb hd hne (k cells slots (by simp) (by simp) H locs ls hI hS hL)
  · cases hs
theorem ab_w_irem (hx : p.tables.exec = Jvm.exec) (hb : c.code = cc)  (hd : decode cc pc = .ok (raw, len)) (hc : ab_chk1 own ml ini pc raw len .irem pl = true) (hs : (match st with
    | .int y :: .int x :: r => if y = 0 then none else ab_go1 (pc + len) L (.int (x - x / y * y) :: r) h
    | _ => none) = some (.inl S)) (k : ab_N p l e R s m args below meth c Q E ml S h cells slots) : ab_W p l e R s m args below meth c Q E ml (pc, L, st, h) cells slots := by
  simp only [ab_chk1, Bool.and_eq_true, decide_eq_true_eq] at hc
  obtain ⟨rfl, rfl⟩ := hc
  split at hs
  · rename_i y x r
    split at hs
    · cases hs
    · rename_i hne
      obtain rfl := ab_go1_eq hs
      intro H locs ls hI hS hL
      exact lv_irem hx hb hd hne (k cells slots (by simp) (by simp) H locs ls hI hS hL)
  · cases hs
theorem ab_w_ldiv (hx : p.tables.exec = Jvm.exec) (hb : c.code = cc)  (hd : decode cc pc = .ok (raw, len)) (hc : ab_chk1 own ml ini pc raw len .ldiv pl = true) (hs : (match st with
    | .long y :: .long x :: r => if y = 0 then none else ab_go1 (pc + len) L (.long (x / y) :: r) h
    | _ => none) = some (.inl S)) (k : ab_N p l e R s m args below meth c Q E ml S h cells slots) : ab_W p l e R s m args below meth c Q E ml (pc, L, st, h) cells slots := by
  simp only [ab_chk1, Bool.and_eq_true, decide_eq_true_eq] at hc
  obtain ⟨rfl, rfl⟩ := hc
  split at hs
  · rename_i y x r
    split at hs
    · cases hs
    · rename_i hne
      obtain rfl := ab_go1_eq hs
      intro H locs ls hI hS hL
      exact lv_ldiv hx hb hd hne (k cells slots (by simp) (by simp) H locs ls hI hS hL)
  · cases hs
theorem ab_w_lrem (hx : p.tables.exec = Jvm.exec) (hb : c.code = cc)  (hd : decode cc pc = .ok (raw, len)) (hc : ab_chk1 own ml ini pc raw len .lrem pl = true) (hs : (match st with
    | .long y :: .long x :: r => if y = 0 then none else ab_go1 (pc + len) L (.long (x - x / y * y) :: r) h
    | _ => none) = some (.inl S)) (k : ab_N p l e R s m args below meth c Q E ml S h cells slots) : ab_W p l e R s m args below meth c Q E ml (pc, L, st, h) cells slots := by
  simp only [ab_chk1, Bool.and_eq_true, decide_eq_true_eq] at hc
  obtain ⟨rfl, rfl⟩ := hc
  split at hs
  · rename_i y x r
    split at hs
    · cases hs
    · rename_i hne
      obtain rfl := ab_go1_eq hs
      intro H locs ls hI hS hL
      exact lv_lrem hx hb hd hne (k cells slots (by simp) (by simp) H locs ls hI hS hL)
  · cases hs
theorem ab_w_i2l (hx : p.tables.exec = Jvm.exec) (hb : c.code = cc)  (hd : decode cc pc = .ok (raw, len)) (hc : ab_chk1 own ml ini pc raw len .i2l pl = true) (hs : (match st with
    | .int x :: r => ab_go1 (pc + len) L (.long x.toInt64 :: r) h
    | _ => none) = some (.inl S)) (k : ab_N p l e R s m args below meth c Q E ml S h cells slots) : ab_W p l e R s m args below meth c Q E ml (pc, L, st, h) cells slots := by
  simp only [ab_chk1, Bool.and_eq_true, decide_eq_true_eq] at hc
  obtain ⟨rfl, rfl⟩ := hc
  split at hs
  · rename_i x r
    obtain rfl := ab_go1_eq hs
    intro H locs ls hI hS hL
    exact lv_i2l hx hb hd rfl (k cells slots (by simp) (by simp) H locs ls hI hS hL)
  · cases hs
theorem ab_w_l2i (hx : p.tables.exec = Jvm.exec) (hb : c.code = cc)  (hd : decode cc pc = .ok (raw, len)) (hc : ab_chk1 own ml ini pc raw len .l2i pl = true) (hs : (match st with
    | .long x :: r => ab_go1 (pc + len) L (.int x.toInt32 :: r) h
    | _ => none) = some (.inl S)) (k : ab_N p l e R s m args below meth c Q E ml S h cells slots) : ab_W p l e R s m args below meth c Q E ml (pc, L, st, h) cells slots := by
  simp only [ab_chk1, Bool.and_eq_true, decide_eq_true_eq] at hc
  obtain ⟨rfl, rfl⟩ := hc
  split at hs
  · rename_i x r
    obtain rfl := ab_go1_eq hs
    intro H locs ls hI hS hL
    exact lv_l2i hx hb hd rfl (k cells slots (by simp) (by simp) H locs ls hI hS hL)
  · cases hs
theorem ab_w_lcmp (hx : p.tables.exec = Jvm.exec) (hb : c.code = cc)  (hd : decode cc pc = .ok (raw, len)) (hc : ab_chk1 own ml ini pc raw len .lcmp pl = true) (hs : (match st with
    | .long y :: .long x :: r => ab_go1 (pc + len) L (.int (lg_cmp x y) :: r) h
    | _ => none) = some (.inl S)) (k : ab_N p l e R s m args below meth c Q E ml S h cells slots) : ab_W p l e R s m args below meth c Q E ml (pc, L, st, h) cells slots := by
  simp only [ab_chk1, Bool.and_eq_true, decide_eq_true_eq] at hc
  obtain ⟨rfl, rfl⟩ := hc
  split at hs
  · rename_i y x r
    obtain rfl := ab_go1_eq hs
    intro H locs ls hI hS hL
    exact W.lcmp hx hb hd (k cells slots (by simp) (by simp) H locs ls hI hS hL)
  · cases hs
theorem ab_w_dup (hx : p.tables.exec = Jvm.exec) (hb : c.code = cc) (hf : E.2.2.2.category = 1) (hd : decode cc pc = .ok (raw, len)) (hc : ab_chk1 own ml ini pc raw len .dup pl = true) (hs : (match st with
    | v :: r => if v.category = 1 then ab_go1 (pc + len) L (v :: v :: r) h else none
    | _ => none) = some (.inl S)) (k : ab_N p l e R s m args below meth c Q E ml S h cells slots) : ab_W p l e R s m args below meth c Q E ml (pc, L, st, h) cells slots := by
  simp only [ab_chk1, Bool.and_eq_true, decide_eq_true_eq] at hc
  obtain ⟨rfl, rfl⟩ := hc
  split at hs
  · rename_i v r
    split at hs
    · rename_i hv
      obtain rfl := ab_go1_eq hs
      intro H locs ls hI hS hL
      exact lv_dup hx hb hd (by rw [ab_rv_cat E v hf]; exact hv) (k cells slots (by simp) (by simp) H locs ls hI hS hL)
    · cases hs
  · cases hs
theorem ab_w_dup2 (hx : p.tables.exec = Jvm.exec) (hb : c.code = cc) (hf : E.2.2.2.category = 1) (hd : decode cc pc = .ok (raw, len)) (hc : ab_chk1 own ml ini pc raw len .dup2 pl = true) (hs : (match st with
    | v :: w :: r => if v.category = 1 ∧ w.category = 1 then ab_go1 (pc + len) L (v :: w :: v :: w :: r) h else none
    | _ => none) = some (.inl S)) (k : ab_N p l e R s m args below meth c Q E ml S h cells slots) : ab_W p l e R s m args below meth c Q E ml (pc, L, st, h) cells slots := by
  simp only [ab_chk1, Bool.and_eq_true, decide_eq_true_eq] at hc
  obtain ⟨rfl, rfl⟩ := hc
  split at hs
  · rename_i v w r
    split at hs
    · rename_i hv
      obtain rfl := ab_go1_eq hs
      intro H locs ls hI hS hL
      exact lv_dup2_11 hx hb hd (by rw [ab_rv_cat E v hf]; exact hv.1) (by rw [ab_rv_cat E w hf]; exact hv.2) (k cells slots (by simp) (by simp) H locs ls hI hS hL)
    · cases hs
  · cases hs
theorem ab_w_pop (hx : p.tables.exec = Jvm.exec) (hb : c.code = cc) (hf : E.2.2.2.category = 1) (hd : decode cc pc = .ok (raw, len)) (hc : ab_chk1 own ml ini pc raw len .pop pl = true) (hs : (match st with
    | v :: r => if v.category = 1 then ab_go1 (pc + len) L r h else none
    | _ => none) = some (.inl S)) (k : ab_N p l e R s m args below meth c Q E ml S h cells slots) : ab_W p l e R s m args below meth c Q E ml (pc, L, st, h) cells slots := by
  simp only [ab_chk1, Bool.and_eq_true, decide_eq_true_eq] at hc
  obtain ⟨rfl, rfl⟩ := hc
  split at hs
  · rename_i v r
    split at hs
    · rename_i hv
      obtain rfl := ab_go1_eq hs
      intro H locs ls hI hS hL
      exact lv_pop hx hb hd (by rw [ab_rv_cat E v hf]; exact hv) (k cells slots (by simp) (by simp) H locs ls hI hS hL)
    · cases hs
  · cases hs
theorem ab_w_ifc (hx : p.tables.exec = Jvm.exec) (hb : c.code = cc) {cd : Jvm.ClassFile.Cond} {t : Int} (hd : decode cc pc = .ok (raw, len)) (hc : ab_chk1 own ml ini pc raw len (.ifCond cd t) pl = true) (hs : (match st with
    | .int x :: r => ab_go1 (if ab_c2 cd x 0 then t.toNat else pc + len) L r h
    | _ => none) = some (.inl S)) (k : ab_N p l e R s m args below meth c Q E ml S h cells slots) : ab_W p l e R s m args below meth c Q E ml (pc, L, st, h) cells slots := by
  split at hs
  · rename_i x r
    obtain rfl := ab_go1_eq hs
    intro H locs ls hI hS hL
    have kk := k cells slots (by simp) (by simp) H locs ls hI hS hL
    simp only [ab_chk1] at hc
    split at hc
    · simp only [Bool.and_eq_true, decide_eq_true_eq] at hc
      obtain ⟨rfl, rfl, h3, h4⟩ := hc
      rename_i cd off
      have ht : (pc : Int) + off = ((t.toNat : Nat) : Int) := by omega
      cases cd
      · exact lv_if_eq hx hb hd ht (fun hq => by simpa only [ab_c2, hq, decide_true, decide_false, not_true_eq_false, not_false_eq_true, if_true, if_false, Bool.false_eq_true] using kk) (fun hq => by simpa only [ab_c2, hq, decide_true, decide_false, not_true_eq_false, not_false_eq_true, if_true, if_false, Bool.false_eq_true] using kk)
      · exact lv_if_ne hx hb hd ht (fun hq => by simpa only [ab_c2, hq, decide_true, decide_false, not_true_eq_false, not_false_eq_true, if_true, if_false, Bool.false_eq_true] using kk) (fun hq => by simpa only [ab_c2, hq, decide_true, decide_false, not_true_eq_false, not_false_eq_true, if_true, if_false, Bool.false_eq_true] using kk)
      · exact lv_if_lt hx hb hd ht (fun hq => by simpa only [ab_c2, hq, decide_true, decide_false, not_true_eq_false, not_false_eq_true, if_true, if_false, Bool.false_eq_true] using kk) (fun hq => by simpa only [ab_c2, hq, decide_true, decide_false, not_true_eq_false, not_false_eq_true, if_true, if_false, Bool.false_eq_true] using kk)
      · exact lv_if_ge hx hb hd ht (fun hq => by simpa only [ab_c2, hq, decide_true, decide_false, not_true_eq_false, not_false_eq_true, if_true, if_false, Bool.false_eq_true] using kk) (fun hq => by simpa only [ab_c2, hq, decide_true, decide_false, not_true_eq_false, not_false_eq_true, if_true, if_false, Bool.false_eq_true] using kk)
      · exact lv_if_gt hx hb hd ht (fun hq => by simpa only [ab_c2, hq, decide_true, decide_false, not_true_eq_false, not_false_eq_true, if_true, if_false, Bool.false_eq_true] using kk) (fun hq => by simpa only [ab_c2, hq, decide_true, decide_false, not_true_eq_false, not_false_eq_true, if_true, if_false, Bool.false_eq_true] using kk)
      · exact lv_if_le hx hb hd ht (fun hq => by simpa only [ab_c2, hq, decide_true, decide_false, not_true_eq_false, not_false_eq_true, if_true, if_false, Bool.false_eq_true] using kk) (fun hq => by simpa only [ab_c2, hq, decide_true, decide_false, not_true_eq_false, not_false_eq_true, if_true, if_false, Bool.false_eq_true] using kk)
    · cases hc
  · cases hs
theorem ab_w_icmp (hx : p.tables.exec = Jvm.exec) (hb : c.code = cc) {cd : Jvm.ClassFile.Cond} {t : Int} (hd : decode cc pc = .ok (raw, len)) (hc : ab_chk1 own ml ini pc raw len (.if_icmp cd t) pl = true) (hs : (match st with
    | .int y :: .int x :: r => ab_go1 (if ab_c2 cd x y then t.toNat else pc + len) L r h
    | _ => none) = some (.inl S)) (k : ab_N p l e R s m args below meth c Q E ml S h cells slots) : ab_W p l e R s m args below meth c Q E ml (pc, L, st, h) cells slots := by
  split at hs
  · rename_i y x r
    obtain rfl := ab_go1_eq hs
    intro H locs ls hI hS hL
    have kk := k cells slots (by simp) (by simp) H locs ls hI hS hL
    simp only [ab_chk1] at hc
    split at hc
    · simp only [Bool.and_eq_true, decide_eq_true_eq] at hc
      obtain ⟨rfl, rfl, h3, h4⟩ := hc
      rename_i cd off
      have ht : (pc : Int) + off = ((t.toNat : Nat) : Int) := by omega
      cases cd
      · exact lv_icmp_eq hx hb hd ht (fun hq => by simpa only [ab_c2, hq, decide_true, decide_false, not_true_eq_false, not_false_eq_true, if_true, if_false, Bool.false_eq_true] using kk) (fun hq => by simpa only [ab_c2, hq, decide_true, decide_false, not_true_eq_false, not_false_eq_true, if_true, if_false, Bool.false_eq_true] using kk)
      · exact lv_icmp_ne hx hb hd ht (fun hq => by simpa only [ab_c2, hq, decide_true, decide_false, not_true_eq_false, not_false_eq_true, if_true, if_false, Bool.false_eq_true] using kk) (fun hq => by simpa only [ab_c2, hq, decide_true, decide_false, not_true_eq_false, not_false_eq_true, if_true, if_false, Bool.false_eq_true] using kk)
      · exact lv_icmp_lt hx hb hd ht (fun hq => by simpa only [ab_c2, hq, decide_true, decide_false, not_true_eq_false, not_false_eq_true, if_true, if_false, Bool.false_eq_true] using kk) (fun hq => by simpa only [ab_c2, hq, decide_true, decide_false, not_true_eq_false, not_false_eq_true, if_true, if_false, Bool.false_eq_true] using kk)
      · exact lv_icmp_ge hx hb hd ht (fun hq => by simpa only [ab_c2, hq, decide_true, decide_false, not_true_eq_false, not_false_eq_true, if_true, if_false, Bool.false_eq_true] using kk) (fun hq => by simpa only [ab_c2, hq, decide_true, decide_false, not_true_eq_false, not_false_eq_true, if_true, if_false, Bool.false_eq_true] using kk)
      · exact lv_icmp_gt hx hb hd ht (fun hq => by simpa only [ab_c2, hq, decide_true, decide_false, not_true_eq_false, not_false_eq_true, if_true, if_false, Bool.false_eq_true] using kk) (fun hq => by simpa only [ab_c2, hq, decide_true, decide_false, not_true_eq_false, not_false_eq_true, if_true, if_false, Bool.false_eq_true] using kk)
      · exact lv_icmp_le hx hb hd ht (fun hq => by simpa only [ab_c2, hq, decide_true, decide_false, not_true_eq_false, not_false_eq_true, if_true, if_false, Bool.false_eq_true] using kk) (fun hq => by simpa only [ab_c2, hq, decide_true, decide_false, not_true_eq_false, not_false_eq_true, if_true, if_false, Bool.false_eq_true] using kk)
    · cases hc
  · cases hs
theorem ab_w_goto (hx : p.tables.exec = Jvm.exec) (hb : c.code = cc) {t : Int} (hd : decode cc pc = .ok (raw, len)) (hc : ab_chk1 own ml ini pc raw len (.goto t) pl = true) (hs : ab_go1 t.toNat L st h = some (.inl S)) (k : ab_N p l e R s m args below meth c Q E ml S h cells slots) : ab_W p l e R s m args below meth c Q E ml (pc, L, st, h) cells slots := by
  obtain rfl := ab_go1_eq hs
  intro H locs ls hI hS hL
  have kk := k cells slots (by simp) (by simp) H locs ls hI hS hL
  simp only [ab_chk1] at hc
  split at hc
  · simp only [Bool.and_eq_true, decide_eq_true_eq] at hc
    obtain ⟨rfl, h3, h4⟩ := hc
    exact lv_goto hx hb hd (by omega) kk
  · cases hc
theorem ab_w_tsw (hx : p.tables.exec = Jvm.exec) (hb : c.code = cc) {D lo hi : Int} {T : Array Int} (hd : decode cc pc = .ok (raw, len)) (hc : ab_chk1 own ml ini pc raw len (.tableswitch D lo hi T) pl = true) (hs : (match st with
    | .int x :: r => if x.toInt < lo ∨ hi < x.toInt then ab_go1 D.toNat L r h else (match T[(x.toInt - lo).toNat]? with
      | some t => ab_go1 t.toNat L r h
      | none => none)
    | _ => none) = some (.inl S)) (k : ab_N p l e R s m args below meth c Q E ml S h cells slots) : ab_W p l e R s m args below meth c Q E ml (pc, L, st, h) cells slots := by
  split at hs
  · rename_i x r
    simp only [ab_chk1] at hc
    split at hc
    · rename_i D' lo' hi' T'
      simp only [Bool.and_eq_true, decide_eq_true_eq] at hc
      obtain ⟨⟨h1, h2⟩, ⟨rfl, rfl⟩, h5, h6⟩ := hc
      split at hs
      · rename_i hq
        obtain rfl := ab_go1_eq hs
        intro H locs ls hI hS hL
        exact lv_tableOut hx hb hd hq (by omega) (k cells slots (by simp) (by simp) H locs ls hI hS hL)
      · rename_i hq
        split at hs
        · rename_i t ht
          obtain rfl := ab_go1_eq hs
          intro H locs ls hI hS hL
          rw [← h5, Array.getElem?_map] at ht
          cases ho : T'[(x.toInt - lo').toNat]? with
          | none => rw [ho] at ht; cases ht
          | some off =>
            rw [ho] at ht
            simp only [Option.map_some, Option.some.injEq] at ht
            have h7 : 0 ≤ t := by
              have := Array.all_eq_true'.mp h6 t (by rw [← h5]; exact Array.mem_map.mpr ⟨off, Array.mem_of_getElem? ho, ht⟩)
              simpa using this
            exact lv_tableIn hx hb hd (fun q => hq (Or.inl q)) (fun q => hq (Or.inr q)) ho (by omega) (k cells slots (by simp) (by simp) H locs ls hI hS hL)
        · cases hs
    · cases hc
  · cases hs
end AB6
def ab_okm (mi : ab_M) (n : Nat × Nat × Nat × Nat) : Bool := ab_wd n.2.2.2 (.initialized mi.2.1.cls) && ((decide (mi.1 = mi.2.1.cls) && (decide (mi.2.1.cls ≠ "java/lang/invoke/MethodHandle" ∧ mi.2.1.cls ≠ "java/lang/invoke/VarHandle") && plainFor mi.2.1)) && (((ab_wd n.2.1 (.static mi.2.1) && decide ((parseMethodDescriptor mi.2.1.desc).map (fun d => d.parameters.length) = some mi.2.2.2.2.2.1)) || ((ab_wd n.2.1 (.instanceMethod mi.2.1) && (decide (mi.2.1.name = "<init>") || ab_wd n.2.2.1 (.selects mi.2.1.cls mi.2.1 mi.2.1))) && decide (1 ≤ mi.2.2.2.2.2.1 ∧ (parseMethodDescriptor mi.2.1.desc).map (fun d => d.parameters.length) = some (mi.2.2.2.2.2.1 - 1)))) && decide (mi.2.2.2.1 ≤ 30)))
