/-! an array of int arrays, made at once -/
def ab_mO (cA : ClassId) (b n i : Nat) : Cell := arrV cA n (fun j => if j < i then .ref (b + 1 + j) else .null)
def ab_mK (comp : ClassId) (k : Nat) : Cell := arrV comp k (fun _ => .int 0)
/-- behind the i-th inner array -/
def ab_mS (T : State) (cA comp : ClassId) (n k : Nat) : Nat → State
  | 0 => T.pushCell (ab_mO cA T.heap.size n 0)
  | i + 1 => ((ab_mS T cA comp n k i).pushCell (ab_mK comp k)).setCell T.heap.size (ab_mO cA T.heap.size n (i + 1))
theorem ab_mO_s (cA : ClassId) (b n i : Nat) : (ab_mO cA b n i).setSlot i (.ref (b + 1 + i)) = ab_mO cA b n (i + 1) := by
  unfold ab_mO
  rw [arrV_store]
  congr 1
  funext j
  unfold updV
  by_cases e : j = i
  · subst e
    rw [if_pos rfl, if_pos (by omega)]
  · rw [if_neg e]
    dsimp only
    by_cases q : j < i
    · rw [if_pos q, if_pos (by omega)]
    · rw [if_neg q, if_neg (by omega)]
theorem ab_mS_f (T : State) (cA comp : ClassId) (n k : Nat) : ∀ i, (ab_mS T cA comp n k i).heap.size = T.heap.size + 1 + i ∧ (ab_mS T cA comp n k i).heap[T.heap.size]? = some (ab_mO cA T.heap.size n i) ∧ (ab_mS T cA comp n k i).vm = T.vm ∧ (ab_mS T cA comp n k i).slotsUsed = T.slotsUsed + n + i * k ∧ (∀ q : Nat, q < T.heap.size → (ab_mS T cA comp n k i).heap[q]? = T.heap[q]?) ∧ (∀ j, j < i → (ab_mS T cA comp n k i).heap[T.heap.size + 1 + j]? = some (ab_mK comp k))
  | 0 => by
    refine ⟨by simp [ab_mS], State.heap_pushCell_size _ _, rfl, ?_, fun q hq => State.heap_pushCell_of_lt _ _ hq, fun j hj => absurd hj (Nat.not_lt_zero _)⟩
    simp [ab_mS, ab_mO, arrV_size]
  | i + 1 => by
    obtain ⟨f1, f2, f3, f4, f5, f6⟩ := ab_mS_f T cA comp n k i
    have l0 : T.heap.size < (ab_mS T cA comp n k i).heap.size := by rw [f1]; omega
    have e2 : ((ab_mS T cA comp n k i).pushCell (ab_mK comp k)).heap[T.heap.size]? = some (ab_mO cA T.heap.size n i) := by
      rw [State.heap_pushCell_of_lt (h := l0)]; exact f2
    refine ⟨?_, State.heap_setCell_self e2, by simp [ab_mS, f3], ?_, fun q hq => ?_, fun j hj => ?_⟩
    · simp [ab_mS, State.setCell, f1]; omega
    · simp [ab_mS, f4, ab_mK, arrV_size, Nat.succ_mul]; omega
    · show (((ab_mS T cA comp n k i).pushCell (ab_mK comp k)).setCell T.heap.size _).heap[q]? = _
      have l1 : q < (ab_mS T cA comp n k i).heap.size := by rw [f1]; omega
      rw [State.heap_setCell_other (show T.heap.size ≠ q by omega), State.heap_pushCell_of_lt (h := l1)]
      exact f5 q hq
    · show (((ab_mS T cA comp n k i).pushCell (ab_mK comp k)).setCell T.heap.size _).heap[T.heap.size + 1 + j]? = _
      rw [State.heap_setCell_other (show T.heap.size ≠ T.heap.size + 1 + j by omega)]
      by_cases q : j = i
      · subst q
        rw [← f1]
        exact State.heap_pushCell_size _ _
      · have l1 : T.heap.size + 1 + j < (ab_mS T cA comp n k i).heap.size := by rw [f1]; omega
        rw [State.heap_pushCell_of_lt (h := l1)]
        exact f6 j (by omega)
theorem ab_mS_top (T : State) (f : JFrame) (cA comp : ClassId) (n k : Nat) : ∀ i, ab_mS (T.setTop f) cA comp n k i = (ab_mS T cA comp n k i).setTop f
  | 0 => rfl
  | i + 1 => by
    rw [ab_mS, ab_mS_top T f cA comp n k i, ab_mS]
    rfl
section AB7M
variable {p : Program} {l : Launch} {e : Env} {R : Room} {s : State} {m : MethodId} {args : Array Value} {below : List Frame} {meth : Method} {c : Code} {Q : State → Prop} {E : ab_Env} {ml : Nat} {cc : ByteArray} {own : String} {cells slots pc len pl : Nat} {L : ab_L} {st : List Value} {h : ab_H} {S : ab_S} {raw : Instr} {ini : Bool}
theorem ab_mS_X {T : State} {locs : List Loc} (X : Stand p l e R s m args below meth c T locs cells slots) (cA comp : ClassId) (n k : Nat) : ∀ i, Stand p l e R s m args below meth c (ab_mS T cA comp n k i) (locs ++ (List.range i).map fun j => ⟨T.heap.size, j⟩) (cells + (1 + i)) (slots + (n + i * k))
  | 0 => by
    have h := X.pushed (ab_mO cA T.heap.size n 0)
    rw [show (ab_mO cA T.heap.size n 0).slots.size = n from arrV_size _ _ _] at h
    simpa [ab_mS] using h
  | i + 1 => by
    have h := (ab_mS_X X cA comp n k i).pushed (ab_mK comp k)
    obtain ⟨f1, f2, -⟩ := ab_mS_f T cA comp n k i
    have l0 : T.heap.size < (ab_mS T cA comp n k i).heap.size := by rw [f1]; omega
    have e2 : ((ab_mS T cA comp n k i).pushCell (ab_mK comp k)).heap[T.heap.size]? = some (ab_mO cA T.heap.size n i) := by
      rw [State.heap_pushCell_of_lt (h := l0)]; exact f2
    have h2 := h.stored e2 i (.ref (T.heap.size + 1 + i))
    rw [ab_mO_s, show (ab_mK comp k).slots.size = k from arrV_size _ _ _, List.append_assoc, show (List.range i).map (fun j => (⟨T.heap.size, j⟩ : Loc)) ++ [⟨T.heap.size, i⟩] = (List.range (i + 1)).map (fun j => (⟨T.heap.size, j⟩ : Loc)) by rw [List.range_succ, List.map_append]; rfl, show cells + (1 + i) + 1 = cells + (1 + (i + 1)) by omega, show slots + (n + i * k) + k = slots + (n + (i + 1) * k) by rw [Nat.succ_mul]; omega] at h2
    exact h2
theorem ab_wp_na {G : CtlPost} {d : Bool} {acts : List Action} {U : State} {cA comp : ClassId} {kA : Class} {ty : FieldType} {n : Nat} {v : Value} (hk : U.vm.classes[cA]? = some kA) (hkind : kA.kind = .array comp ty) (h1 : n ≤ e.platform.arrayLengthLimit) (h2 : n * componentBytes ty ≤ e.platform.maxHeapBytes) (hf : fits ty v = true) (hv : v.isDefault = true) (h3 : U.heap.size < e.platform.maxCells) (h4 : U.slotsUsed + n ≤ e.platform.maxSlots) {K : Addr → Pre} (hq : ∀ acts', K U.heap.size d acts' (U.pushCell (arrV cA n (fun _ => v)))) : wp (Jvm.newArray cA n v) K G e d acts U := by
  have g1 : ∀ (i : Nat) (x : Value), (Array.replicate n v)[i]? = some x → U.fitsSlot cA .none i x = true := by
    intro i x hx
    rw [Array.getElem?_replicate] at hx
    split at hx
    · cases hx
      simp [State.fitsSlot, State.slotType?, hk, hkind, hf]
    · cases hx
  unfold Jvm.newArray Jvm.arrayFits
  simp only [wp_bind', Jvm.W.ask, Jvm.W.ite, wp_pure', Jvm.W.theClass, hk, hkind, Jvm.W.alloc, Jvm.W.stop, Option.some.injEq, exists_eq_left', Array.size_replicate]
  rw [if_neg (by omega), if_neg (by omega), if_neg (by omega)]
  rw [arrV_new]
  exact ⟨h3, h4, g1, hq _⟩
theorem ab_wp_m1 {G : CtlPost} {d : Bool} {acts : List Action} {U : State} {comp cI : ClassId} {kC : Class} {k : Int32} (hkC : U.vm.classes[comp]? = some kC) (hkindC : kC.kind = .array cI .int) (hk : ¬ k < 0) (h1 : k.toNatClampNeg ≤ e.platform.arrayLengthLimit) (h2 : k.toNatClampNeg * 4 ≤ e.platform.maxHeapBytes) (h3 : U.heap.size < e.platform.maxCells) (h4 : U.slotsUsed + k.toNatClampNeg ≤ e.platform.maxSlots) {K : Addr → Pre} (hq : ∀ acts', K U.heap.size d acts' (U.pushCell (ab_mK comp k.toNatClampNeg))) : wp (Jvm.Op.multianewarray.make comp [k]) K G e d acts U := by
  rw [Jvm.Op.multianewarray.make]
  simp only [wp_bind', Jvm.W.ite, hk, if_false, wp_pure', Jvm.W.theClass, hkC, hkindC, Option.some.injEq, exists_eq_left']
  exact ab_wp_na hkC hkindC h1 h2 rfl rfl h3 h4 hq
theorem ab_wp_m2 {G : CtlPost} {d : Bool} {acts : List Action} {U : State} {cA comp cI : ClassId} {kA kC : Class} {n k : Int32} (hkA : U.vm.classes[cA]? = some kA) (hkindA : kA.kind = .array comp (.array .int)) (hkC : U.vm.classes[comp]? = some kC) (hkindC : kC.kind = .array cI .int) (hn : ¬ n < 0) (hk : ¬ k < 0) (h1 : n.toNatClampNeg ≤ e.platform.arrayLengthLimit) (h2 : n.toNatClampNeg * 4 ≤ e.platform.maxHeapBytes) (h3 : k.toNatClampNeg ≤ e.platform.arrayLengthLimit) (h4 : k.toNatClampNeg * 4 ≤ e.platform.maxHeapBytes) (h5 : U.heap.size + (1 + n.toNatClampNeg) ≤ e.platform.maxCells) (h6 : U.slotsUsed + (n.toNatClampNeg + n.toNatClampNeg * k.toNatClampNeg) ≤ e.platform.maxSlots) {K : Addr → Pre} (hq : ∀ d' acts', K U.heap.size d' acts' (ab_mS U cA comp n.toNatClampNeg k.toNatClampNeg n.toNatClampNeg)) : wp (Jvm.Op.multianewarray.make cA [n, k]) K G e d acts U := by
  have h7 := Nat.zero_le (n.toNatClampNeg * k.toNatClampNeg)
  have hno : ([k].find? (· < 0)) = none := by simp [hk]
  rw [Jvm.Op.multianewarray.make]
  simp only [wp_bind', Jvm.W.ite, hn, if_false, wp_pure', Jvm.W.theClass, hkA, hkindA, Option.some.injEq, exists_eq_left']
  refine ab_wp_na hkA hkindA h1 h2 rfl rfl (by omega) (by omega) (fun acts' => ?_)
  simp only [hno]
  rw [ite_self, wp_bind', Std.Legacy.Range.forIn_eq_forIn_range', show ([:n.toNatClampNeg] : Std.Legacy.Range).size = n.toNatClampNeg by simp [Std.Legacy.Range.size]]
  refine wp_forIn_inv (fun rest V => ∃ i, i ≤ n.toNatClampNeg ∧ rest = List.range' i (n.toNatClampNeg - i) ∧ V = ab_mS U cA comp n.toNatClampNeg k.toNatClampNeg i) _ _ ⟨0, Nat.zero_le _, rfl, rfl⟩ ?_ ?_
  · intro x rest V d' acts' K' hV hnext
    obtain ⟨i, hi, hl, rfl⟩ := hV
    obtain ⟨f1, f2, f3, f4, -, -⟩ := ab_mS_f U cA comp n.toNatClampNeg k.toNatClampNeg i
    have lt : i < n.toNatClampNeg := by
      by_cases q : i < n.toNatClampNeg
      · exact q
      · rw [show n.toNatClampNeg - i = 0 by omega] at hl
        cases hl
    rw [show n.toNatClampNeg - i = (n.toNatClampNeg - (i + 1)) + 1 by omega, List.range'_succ] at hl
    obtain ⟨rfl, hl⟩ := List.cons.inj hl
    have mu := Nat.mul_le_mul_right k.toNatClampNeg (show x + 1 ≤ n.toNatClampNeg from lt)
    rw [Nat.succ_mul] at mu
    have l0 : U.heap.size < (ab_mS U cA comp n.toNatClampNeg k.toNatClampNeg x).heap.size := by rw [f1]; omega
    simp only [wp_bind']
    refine ab_wp_m1 (by rw [f3]; exact hkC) hkindC hk h3 h4 (by rw [f1]; omega) (by rw [f4]; omega) (fun acts2 => ?_)
    simp only [wp_bind', Jvm.W.writeLoc, wp_pure']
    refine ⟨ab_mO cA U.heap.size n.toNatClampNeg x, by rw [State.heap_pushCell_of_lt (h := l0)]; exact f2, by simp [ab_mO, arrV], by rw [show (ab_mO cA U.heap.size n.toNatClampNeg x).slots.size = n.toNatClampNeg from arrV_size _ _ _]; exact lt, ?_, hnext _ _ _ ⟨x + 1, lt, hl, ?_⟩⟩
    · show State.fitsSlot _ cA .none x _ = true
      simp [State.fitsSlot, State.slotType?, f3, hkA, hkindA, fits]
    · rw [f1, ab_mO_s]
      rfl
  · intro V d' acts' hV
    obtain ⟨i, hi, hl, rfl⟩ := hV
    have e : i = n.toNatClampNeg := by
      by_cases q : i < n.toNatClampNeg
      · rw [show n.toNatClampNeg - i = (n.toNatClampNeg - (i + 1)) + 1 by omega, List.range'_succ] at hl
        cases hl
      · omega
    subst e
    simp only [wp_pure']
    exact hq _ _
theorem ab_mna_st {T : State} {locs : List Loc} {idx : Nat} (X : Stand p l e R s m args below meth c T locs cells slots) (hx : p.tables.exec = Jvm.exec) (hown : s.vm.findClass own = some m.cls) (hlink : (Cond.classLink own idx "[[I").before args s = true) (hAR : ab_AR s) (harr : (Cond.arrayClass .int).before args s = true) {g : JFrame} (hg : g.method = m) (hd : decode c.code g.pc = .ok (.multianewarray idx 2, 4)) {n k : Int32} {rest : List Value} (hst : g.stack = .int k :: .int n :: rest) (hn : ¬ n < 0) (hk : ¬ k < 0) (hn2 : n.toNatClampNeg ≤ 1000) (hk2 : k.toNatClampNeg ≤ 1000) (hr1 : cells + (1 + n.toNatClampNeg) ≤ R.cells) (hr2 : slots + (n.toNatClampNeg + n.toNatClampNeg * k.toNatClampNeg) ≤ R.slots) :
    ∃ (vm1 : Vm) (cA comp cI : ClassId) (kA kC : Class), s.vm.findClass "[[I" = some cA ∧ s.vm.findClass "[I" = some comp ∧ s.vm.classes[cA]? = some kA ∧ kA.kind = .array comp (.array .int) ∧ s.vm.classes[comp]? = some kC ∧ kC.kind = .array cI .int ∧
      Stand p l e R s m args below meth c (ab_mS (T.setVm vm1) cA comp n.toNatClampNeg k.toNatClampNeg n.toNatClampNeg) (locs ++ (List.range n.toNatClampNeg).map fun j => ⟨T.heap.size, j⟩) (cells + (1 + n.toNatClampNeg)) (slots + (n.toNatClampNeg + n.toNatClampNeg * k.toNatClampNeg)) ∧
      ∀ target, Steps p.tables e below ((ab_mS (T.setVm vm1) cA comp n.toNatClampNeg k.toNatClampNeg n.toNatClampNeg).setTop { g with pc := g.pc + 4, stack := .ref T.heap.size :: rest }) target → Steps p.tables e below (T.setTop g) target := by
  subst hg
  have hpl : e.platform.magicAccessors = ({} : Platform).magicAccessors := by rw [X.admits.platform]
  obtain ⟨comp, cA, kA, a1, a2, a3, a4⟩ := hAR
  obtain ⟨co2, kC, cI, b1, b2, b3⟩ := Cond.arrayClass_spec harr
  obtain rfl : co2 = comp := Option.some.inj (b1.symm.trans a1)
  obtain ⟨c0, c1, c2⟩ := Cond.classLink_spec hown hlink e.platform hpl
  obtain rfl : cA = c0 := Option.some.inj (a4.symm.trans c1)
  obtain ⟨w1, w2, w3⟩ := State.classEntry (e := e) X.warmed c2
  generalize T.vm.noted g.method.cls idx (.cls cA) = vm1 at w1 w2 w3
  obtain ⟨kA1, d1, d2⟩ := w2.alike.2.2 _ _ a2
  obtain ⟨kC1, d3, d4⟩ := w2.alike.2.2 _ _ b2
  have X1 := X.noted w2
  have XF := ab_mS_X X1 cA co2 n.toNatClampNeg k.toNatClampNeg n.toNatClampNeg
  obtain ⟨r1, r2⟩ := X.roomAbove hr1 hr2
  have lim : e.platform.arrayLengthLimit ≥ 1000 := by rw [Launch.admits_arrayLengthLimit X.admits]; decide
  have lhb : e.platform.maxHeapBytes ≥ 4000 := by rw [Launch.admits_maxHeapBytes X.admits]; decide
  refine ⟨vm1, cA, co2, cI, kA, kC, a4, a1, a2, a3, b2, b3, XF, fun target hgo => ?_⟩
  jvm_step X.here [hx, hd]
  simp only [Jvm.Op.multianewarray.sem, wp_bind', Jvm.W.resolveClassAt_links (State.method?_setTop g X.here.top) w1]
  rw [Jvm.W.popN, if_neg (by decide)]
  refine ⟨g, State.topJava?_setTop' (s := T.setVm vm1) g X.here.top, [.int n, .int k], rest, rfl, hst, ?_⟩
  simp only [List.mapM_cons, List.mapM_nil, wp_bind', wp_pure']
  refine ab_wp_m2 (kA := kA1) (kC := kC1) (comp := co2) (cI := cI) d1 (by rw [d2]; exact a3) d3 (by rw [d4]; exact b3) hn hk (by omega) (by omega) (by omega) (by omega) (by show T.heap.size + _ ≤ _; omega) (by show T.slotsUsed + _ ≤ _; omega) (fun d' acts' => ?_)
  rw [show ((T.setTop g).setVm vm1).setTop { g with stack := rest } = (T.setVm vm1).setTop { g with stack := rest } by
    show ((T.setVm vm1).setTop g).setTop _ = _
    rw [State.setTop_setTop], ab_mS_top]
  simp only [wp_bind', Jvm.W.mark, Jvm.W.pushRef, State.topJava?_setTop' _ XF.here.top, Option.some.injEq, exists_eq_left', State.setTop_setTop, State.heap_setTop]
  intro acts2
  simp [jvm, XF.here.top]
  exact hgo
theorem ab_w_mna (hx : p.tables.exec = Jvm.exec) (hb : c.code = cc) {x1 x2 : Nat} (hown : s.vm.findClass own = some m.cls) (hts : ∀ w ∈ ab_gt, w.before args s = true) (hE : ab_EF E s s.heap) (hr1 : cells + (S.2.2.2.1 - h.1) ≤ R.cells) (hr2 : slots + (S.2.2.2.2.1 - h.2.1) ≤ R.slots) (hd : decode cc pc = .ok (raw, len)) (hc : ab_chk1 own ml ini pc raw len (.multianewarray x1 x2) pl = true) (hs : (match st with
    | .int k :: .int n :: r => if ¬ n < 0 ∧ ¬ k < 0 ∧ n.toNatClampNeg ≤ 1000 ∧ k.toNatClampNeg ≤ 1000 then ab_go1 (pc + len) L (.ref h.1 :: r) (h.1 + 1 + n.toNatClampNeg, h.2.1 + n.toNatClampNeg + n.toNatClampNeg * k.toNatClampNeg, fun q => if q = h.1 then some (.inl (.array .int, n.toNatClampNeg, .inr (.inr (.inr (.inr (fun i => if i < n.toNatClampNeg then some (h.1 + 1 + i) else none)))))) else if h.1 < q ∧ q < h.1 + 1 + n.toNatClampNeg then some (.inl (.int, k.toNatClampNeg, .inl (fun _ => 0))) else h.2.2 q) else none
    | _ => none) = some (.inl S)) (k : ab_N p l e R s m args below meth c Q E ml S h cells slots) : ab_W p l e R s m args below meth c Q E ml (pc, L, st, h) cells slots := by
  simp only [ab_chk1] at hc
  split at hc
  · rename_i idx d
    simp only [Bool.and_eq_true, decide_eq_true_eq] at hc
    obtain ⟨rfl, rfl, hc⟩ := hc
    split at hs
    · rename_i k0 n r
      split at hs
      · rename_i hq
        obtain ⟨hn, hk, hn2, hk2⟩ := hq
        obtain rfl := ab_go1_eq hs
        intro H locs ls hI hS hL T hT X
        subst hT
        have hh := hI.1
        have hh2 := hI.2.1
        dsimp only at hr1 hr2 hh hh2
        obtain ⟨vm1, cA, comp, cI, kA, kC, c1, c2, c3, c4, c5, c6, XF, step⟩ := ab_mna_st X hx hown (hts _ (ab_wd_in hc)) hE.2.2.2.2.1.2.2 (hts _ ab_arrs.1) (g := F0 m pc ls (.int k0 :: .int n :: r.map (ab_rv E))) rfl (by rw [hb]; exact hd) rfl hn hk hn2 hk2 (by omega) (by omega)
        obtain ⟨f1, f2, f3, f4, f5, f6⟩ := ab_mS_f (T.setVm vm1) cA comp n.toNatClampNeg k0.toNatClampNeg n.toNatClampNeg
        generalize ab_mS (T.setVm vm1) cA comp n.toNatClampNeg k0.toNatClampNeg n.toNatClampNeg = V at *
        have z : (T.setVm vm1).heap.size = T.heap.size := rfl
        rw [z] at f1 f2 f6
        have eO : ab_mO cA T.heap.size n.toNatClampNeg n.toNatClampNeg = vp_cell cA (ab_mx E (n.toNatClampNeg, .inr (.inr (.inr (.inr (fun i => if i < n.toNatClampNeg then some (h.1 + 1 + i) else none)))))) := by
          refine Eq.trans ?_ (vp_cell_q cA n.toNatClampNeg (fun j => (if j < n.toNatClampNeg then some (h.1 + 1 + j) else none).map (ab_rho E))).symm
          unfold ab_mO
          congr 1
          funext j
          by_cases q : j < n.toNatClampNeg
          · rw [if_pos q, if_pos q]
            show Value.ref _ = Value.ref (ab_rho E (h.1 + 1 + j))
            rw [ab_rho_hi (by omega), show E.1 + (h.1 + 1 + j - 100) = T.heap.size + 1 + j by omega]
          · rw [if_neg q, if_neg q]
            rfl
        have hI2 : ab_I E s V.heap (h.1 + 1 + n.toNatClampNeg, h.2.1 + n.toNatClampNeg + n.toNatClampNeg * k0.toNatClampNeg, fun q => if q = h.1 then some (.inl (.array .int, n.toNatClampNeg, .inr (.inr (.inr (.inr (fun i => if i < n.toNatClampNeg then some (h.1 + 1 + i) else none)))))) else if h.1 < q ∧ q < h.1 + 1 + n.toNatClampNeg then some (.inl (.int, k0.toNatClampNeg, .inl (fun _ => 0))) else h.2.2 q) := by
          refine ⟨by rw [f1, hh]; dsimp only; omega, by dsimp only; omega, fun a d hd => ?_⟩
          dsimp only at hd
          by_cases q1 : a = h.1
          · rw [if_pos q1] at hd
            cases hd
            subst q1
            exact ⟨hh2, cA, by rw [← hh, f2, eO], fun N z => ⟨(fun k h => by cases h), kA, c3, comp, c4⟩, c1⟩
          · rw [if_neg q1] at hd
            by_cases q2 : h.1 < a ∧ a < h.1 + 1 + n.toNatClampNeg
            · rw [if_pos q2] at hd
              cases hd
              refine ⟨by omega, comp, ?_, fun N z => ⟨(fun k h => by cases h), kC, c5, cI, c6⟩, c2⟩
              rw [show E.1 + (a - 100) = T.heap.size + 1 + (a - h.1 - 1) by omega, f6 _ (by omega)]
              rfl
            · rw [if_neg q2] at hd
              have hat := hI.2.2 a d hd
              exact hat.kept (fun q h3 _ => f5 q h3) (fun ha => f5 _ (hat.lt ha))
        obtain ⟨t, a1, b1⟩ := k (cells + (1 + n.toNatClampNeg)) (slots + (n.toNatClampNeg + n.toNatClampNeg * k0.toNatClampNeg)) (by dsimp only; omega) (by dsimp only; omega) V.heap _ ls hI2 ⟨Nat.le_trans hS.1 (by rw [f1]; omega), fun q h1 h2 => (f5 q (Nat.lt_of_lt_of_le h1 hS.1)).trans (hS.2.1 q h1 h2), fun q hq => by
          rcases List.mem_append.mp hq with h3 | h3
          · exact hS.2.2 q h3
          · obtain ⟨y, -, hy⟩ := List.mem_map.mp h3
            rw [← hy]
            show E.1 ≤ T.heap.size
            omega⟩ hL V rfl XF
        refine ⟨t, step t ?_, b1⟩
        have er : ab_rv E (.ref h.1) = .ref T.heap.size := by
          show Value.ref (ab_rho E h.1) = _
          rw [ab_rho_hi hh2, ← hh]
        rw [← er]
        exact a1
      · cases hs
    · cases hs
  · cases hc
end AB7M
