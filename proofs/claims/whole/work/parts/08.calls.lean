/-! calls, answers, and the machine as a whole -/
theorem ab_step_mono {rt : Option FieldType} {ins : Instr} {nx : Nat} {L : ab_L} {st : List Value} {h : ab_H} {S : ab_S} (hs : ab_step rt ins nx L st h = some (.inl S)) : h.1 ≤ S.2.2.2.1 ∧ h.2.1 ≤ S.2.2.2.2.1 := by
  unfold ab_step at hs
  split at hs
  all_goals (try unfold ab_ib at hs)
  all_goals (try unfold ab_iu at hs)
  all_goals (try unfold ab_lb at hs)
  all_goals (try unfold ab_call1 at hs)
  all_goals repeat' (split at hs)
  all_goals first
    | (cases hs; done)
    | (obtain rfl := ab_go1_eq hs; exact ⟨Nat.le_refl _, Nat.le_refl _⟩)
    | (obtain rfl := ab_go1_eq hs; simp only [ab_add]; constructor <;> omega)
    | (obtain rfl := ab_go1_eq hs; constructor <;> (show _ ≤ _ + _) <;> omega)
    | (simp at hs; done)
theorem ab_step_ret {rt : Option FieldType} {ins : Instr} {nx : Nat} {L : ab_L} {st : List Value} {h : ab_H} {r : Option Value × ab_H} (hs : ab_step rt ins nx L st h = some (.inr (.inr r))) : (ins = .ireturn ∨ ins = .lreturn ∨ ins = .return_) ∧ r.2 = h ∧ st = r.1.toList ∧ ((∃ x : Int32, ∃ ty, ins = .ireturn ∧ rt = some ty ∧ r.1 = some (.int x) ∧ narrow ty (.int x) = .int x) ∨ (∃ x : Int64, ins = .lreturn ∧ rt = some .long ∧ r.1 = some (.long x)) ∨ (ins = .return_ ∧ rt = none ∧ r.1 = none)) := by
  unfold ab_step at hs
  split at hs
  all_goals (try unfold ab_ib at hs)
  all_goals (try unfold ab_iu at hs)
  all_goals (try unfold ab_lb at hs)
  all_goals (try unfold ab_call1 at hs)
  all_goals repeat' (split at hs)
  all_goals first
    | (cases hs; done)
    | (simp only [ab_go1, Option.some.injEq, reduceCtorEq] at hs; done)
    | (simp only [Option.some.injEq, Sum.inr.injEq, reduceCtorEq] at hs; done)
    | (simp only [Option.some.injEq, Sum.inr.injEq] at hs; subst hs; exact ⟨Or.inl rfl, rfl, rfl, Or.inl ⟨_, _, rfl, rfl, rfl, rfl⟩⟩)
    | (rename_i hn; simp only [Option.some.injEq, Sum.inr.injEq] at hs; subst hs; exact ⟨Or.inl rfl, rfl, rfl, Or.inl ⟨_, _, rfl, rfl, rfl, hn⟩⟩)
    | (simp only [Option.some.injEq, Sum.inr.injEq] at hs; subst hs; exact ⟨Or.inr (Or.inl rfl), rfl, rfl, Or.inr (Or.inl ⟨_, rfl, rfl, rfl⟩)⟩)
    | (simp only [Option.some.injEq, Sum.inr.injEq] at hs; subst hs; exact ⟨Or.inr (Or.inr rfl), rfl, rfl, Or.inr (Or.inr ⟨rfl, rfl, rfl⟩)⟩)
theorem ab_step_call {rt : Option FieldType} {ins : Instr} {nx : Nat} {L : ab_L} {st : List Value} {h : ab_H} {x : Nat × List Value × ab_S} (hs : ab_step rt ins nx L st h = some (.inr (.inl x))) : ∃ q : Nat, ab_call1 q nx L st h = some (.inr (.inl x)) ∧ ((ins = .invokestatic q ∧ ¬ q = 9980000) ∨ (ins = .invokespecial q ∧ ¬ q = 9990000 ∧ ∃ a r y, st.drop (q / 100 % 100 - 1) = .ref a :: r ∧ ab_ob h a = some y) ∨ (ins = .invokevirtual q ∧ ∃ a r fs, st.drop (q / 100 % 100 - 1) = .ref a :: r ∧ ab_ob h a = some (q % 100, fs))) := by
  unfold ab_step at hs
  split at hs
  all_goals (try unfold ab_ib at hs)
  all_goals (try unfold ab_iu at hs)
  all_goals (try unfold ab_lb at hs)
  all_goals repeat' (split at hs)
  all_goals first
    | (cases hs; done)
    | (simp only [ab_go1, Option.some.injEq, reduceCtorEq] at hs; done)
    | (simp only [Option.some.injEq, Sum.inr.injEq, reduceCtorEq] at hs; done)
    | (rename_i hn; exact ⟨_, hs, Or.inl ⟨rfl, hn⟩⟩)
    | (rename_i hn _ _ _ hd _ _ ho; exact ⟨_, hs, Or.inr (Or.inl ⟨rfl, hn, _, _, _, hd, ho⟩)⟩)
    | (rename_i hd _ _ _ ho he; subst he; exact ⟨_, hs, Or.inr (Or.inr ⟨rfl, _, _, _, hd, ho⟩)⟩)
theorem ab_call1_eq {q nx : Nat} {L : ab_L} {st : List Value} {h : ab_H} {x : Nat × List Value × ab_S} (hs : ab_call1 q nx L st h = some (.inr (.inl x))) : (q / 100 % 100 ≤ st.length ∧ ((st.drop (q / 100 % 100)).map fun v => v.category).sum ≤ 8) ∧ x = (q / 10000, (st.take (q / 100 % 100)).reverse, (nx, L, st.drop (q / 100 % 100), h)) := by
  unfold ab_call1 at hs
  split at hs
  · rename_i hq
    simp only [Option.some.injEq, Sum.inr.injEq, Sum.inl.injEq] at hs
    exact ⟨hq, hs.symm⟩
  · cases hs
def ab_ws (mi : ab_M) : List Cond := .code mi.2.1 mi.2.2.1 mi.2.2.2.1 mi.2.2.2.2.1 :: ab_gt
def ab_room (d mc ms : Nat) : Room := { frames := d + 1, cells := mc, slots := ms, locals := 60 * d + 60 }
def ab_Pc (E : ab_Env) (as : List Value) (h : ab_H) : Array Value → State → Prop := fun v U => v = (as.map (ab_rv E)).toArray ∧ ab_EF E U U.heap ∧ ab_I E U U.heap h
def ab_Qc (E : ab_Env) (r : Option Value) (h : ab_H) : Array Value → State → Outcome → State → Prop := fun _ st oc t => oc = .returned (r.map (ab_rv E)) ∧ ab_I E t t.heap h ∧ va_F (ab_A E) st t
theorem ab_EF.same {E : ab_Env} {s U : State} {H : Heap} (h : ab_EF E s H) (hv : U.vm = s.vm) : ab_EF E U H := by
  obtain ⟨h1, h2, h3, h4, h5, h6⟩ := h
  have al : s.vm.Alike U.vm := by rw [hv]; exact Vm.Alike.refl _
  refine ⟨h1.moved al, fun a g1 g2 => (h2 a g1 g2).moved al, fun w hw hn => ?_, fun i q hq => (h4 i q hq).same hv, ⟨h5.1.moved al, h5.2.1.moved al, h5.2.2.moved al⟩, h6⟩
  have := h3 w hw hn
  cases w <;> first | exact va_Nw.same rfl hv.symm this | exact absurd hn (by decide) | cases hn
theorem ab_blind (E : ab_Env) (as : List Value) (h : ab_H) : FrameBlind (ab_Pc E as h) := fun a U g mk q => ⟨q.1, q.2.1.same rfl, q.2.2.moved (Vm.Alike.refl U.vm)⟩
theorem ab_goodIn {mi mj : ab_M} (h : Cond.code mj.2.1 mj.2.2.1 mj.2.2.2.1 mj.2.2.2.2.1 ∈ ab_gt) : GoodIn ab_gt (ab_ws mj) := fun w hw => by
  rcases List.mem_cons.mp hw with rfl | hw
  · exact ⟨h, good_of_word (List.mem_filter.mp h).2⟩
  · exact ⟨hw, good_of_word (List.mem_filter.mp hw).2⟩
section AB8
variable {p : Program} {l : Launch} {e : Env} {R : Room} {s : State} {m : MethodId} {args : Array Value} {below : List Frame} {meth : Method} {c : Code} {Q : State → Prop} {E : ab_Env} {ml : Nat} {cc : ByteArray} {own : String} {cells slots pc len pl : Nat} {L : ab_L} {st : List Value} {h : ab_H} {S : ab_S} {raw : Instr} {ini : Bool}
theorem ab_callq {r : Option Value} {h1 : ab_H} {mc ms : Nat} {H : Heap} {locs : List Loc} {ls : Array Slot} {st0 rest : List Value} {a : Array Value} {free : Addr → Prop} (hr : va_Run p l e R s m args below meth c H locs cells slots mc ms (F0 m pc ls st0) rest (ab_Qc E r h1 a) free) (hS : va_S (ab_A E) s.heap H locs) (hf : ∀ q, free q → ab_A E q)
    (kk : ∀ (H1 : Heap) (locs1 : List Loc), ab_I E s H1 h1 → va_S (ab_A E) s.heap H1 locs1 → W p l e R s m args below meth c H1 locs1 (cells + mc) (slots + ms) Q (F0 m (pc + 3) ls ((r.map (ab_rv E)).toList ++ rest))) : W p l e R s m args below meth c H locs cells slots Q (F0 m pc ls st0) := by
  intro T hT X
  obtain ⟨v, st₀, t, T', L', h0, X', hL, e1, e2, ⟨hv, hI, hz, hk⟩, stp⟩ := hr T hT X
  cases hv
  rw [h0] at hz hk
  obtain ⟨t2, a1, b1⟩ := kk T'.heap (locs ++ L') (by rw [e1]; exact hI.moved (by rw [← e2]; exact X'.warmed.alike.symm))
    ⟨Nat.le_trans hS.1 (by rw [e1]; exact hz), fun q g1 g2 => by rw [e1, hk q (Nat.lt_of_lt_of_le g1 hS.1) g2]; exact hS.2.1 q g1 g2, fun q hq => by
      rcases List.mem_append.mp hq with g | g
      · exact hS.2.2 q g
      · exact hf _ (hL q g)⟩ T' rfl X'
  exact ⟨t2, stp t2 a1, b1⟩
/-- what is known of a method that is called -/
def ab_Met (l : Launch) (E : ab_Env) (d : Nat) (j : Nat) (as : List Value) (h : ab_H) (r : Option Value) (h1 : ab_H) : Prop := ∀ mi : ab_M, ab_mt[j]? = some mi → Met l mi.2.1 (ab_ws mi) (ab_room d (h1.1 - h.1) (h1.2.1 - h.2.1)) (ab_Pc E as h) (ab_Qc E r h1) (h1.1 - h.1) (h1.2.1 - h.2.1) (ab_A E)
theorem ab_sumrv {E : ab_Env} (hf : E.2.2.2.category = 1) (r : List Value) : ((r.map (ab_rv E)).map fun v => v.category).sum = (r.map fun v => v.category).sum := by
  rw [List.map_map, show ((fun v : Value => v.category) ∘ ab_rv E) = (fun v : Value => v.category) from funext fun v => ab_rv_cat E v hf]
theorem ab_splitst (E : ab_Env) (st : List Value) (n : Nat) : st.map (ab_rv E) = ((st.take n).reverse.map (ab_rv E)).reverse ++ (st.drop n).map (ab_rv E) := by
  rw [List.map_reverse, List.reverse_reverse, ← List.map_append, List.take_append_drop]
/-- a call of our machine is a call of the JVM -/
theorem ab_w_call {rt : Option FieldType} {ins : Instr} {x : Nat × List Value × ab_S} {r : Option Value × ab_H} {d : Nat} (hok : ∀ (j : Nat) (mi : ab_M), ab_mt[j]? = some mi → (∃ n, ab_okm mi n = true) ∧ Cond.code mi.2.1 mi.2.2.1 mi.2.2.2.1 mi.2.2.2.2.1 ∈ ab_gt) (hx : p.tables.exec = Jvm.exec) (hb : c.code = cc) (hml : c.maxLocals = ml) (hown : s.vm.findClass own = some m.cls) (hts : ∀ w ∈ ab_gt, w.before args s = true) (hE : ab_EF E s s.heap) (hR : d + 2 ≤ R.frames ∧ 60 * d + 120 ≤ R.locals)
    (hd : decode cc pc = .ok (raw, len)) (hc : ab_chk1 own ml ini pc raw len ins pl = true) (hs : ab_step rt ins (pc + len) L st h = some (.inr (.inl x))) (hM : ab_Met l E d x.1 x.2.1 x.2.2.2.2.2 r.1 r.2) (hr1 : cells + (r.2.1 - h.1) ≤ R.cells) (hr2 : slots + (r.2.2.1 - h.2.1) ≤ R.slots)
    (k : ab_W p l e R s m args below meth c Q E ml (x.2.2.1, x.2.2.2.1, r.1.toList ++ x.2.2.2.2.1, r.2) (cells + (r.2.1 - h.1)) (slots + (r.2.2.1 - h.2.1))) : ab_W p l e R s m args below meth c Q E ml (pc, L, st, h) cells slots := by
  obtain ⟨q, hq, hins⟩ := ab_step_call hs
  obtain ⟨⟨hn, hsum⟩, rfl⟩ := ab_call1_eq hq
  have hlenr : ∀ (n : Nat), n ≤ st.length → ((st.take n).reverse.map (ab_rv E)).length = n := fun n hn => by simp; omega
  have hrest : 2 * (F0 m pc #[] []).monitorRoom + (((st.drop (q / 100 % 100)).map (ab_rv E)).map fun v => v.category).sum ≤ 8 := by
    rw [ab_sumrv hE.2.2.2.2.2]
    show 2 * 0 + _ ≤ 8
    omega
  have hst : ∀ o : Option Value, (o.map (ab_rv E)).toList ++ (st.drop (q / 100 % 100)).map (ab_rv E) = (o.toList ++ st.drop (q / 100 % 100)).map (ab_rv E) := fun o => by
    rw [List.map_append]
    cases o <;> rfl
  intro H locs ls hI hS hL
  have hpc : ∀ U : State, U.heap = H → s.WarmedH U.vm → ab_Pc E ((st.take (q / 100 % 100)).reverse) h (((st.take (q / 100 % 100)).reverse).map (ab_rv E)).toArray U := fun U hU hW => ⟨rfl, by rw [hU]; exact hE.moved hW hS.2.1, by rw [hU]; exact hI.moved hW.alike⟩
  have kk : ∀ (H1 : Heap) (locs1 : List Loc), ab_I E s H1 r.2 → va_S (ab_A E) s.heap H1 locs1 → W p l e R s m args below meth c H1 locs1 (cells + (r.2.1 - h.1)) (slots + (r.2.2.1 - h.2.1)) Q (F0 m (pc + len) ls ((r.1.map (ab_rv E)).toList ++ (st.drop (q / 100 % 100)).map (ab_rv E))) := fun H1 locs1 g1 g2 => by
    rw [hst]
    exact k H1 locs1 ls g1 g2 hL
  show W p l e R s m args below meth c H locs cells slots Q (F0 m pc ls (st.map (ab_rv E)))
  rcases hins with ⟨rfl, hq1⟩ | ⟨rfl, hq1, a, rr, y, hdr, hob⟩ | ⟨rfl, a, rr, fs, hdr, hob⟩
  · simp only [ab_chk1] at hc
    split at hc
    · rename_i idx
      simp only [Bool.and_eq_true, decide_eq_true_eq] at hc
      obtain ⟨rfl, hc⟩ := hc
      rw [if_neg hq1] at hc
      split at hc
      · rename_i mi hmi
        simp only [Bool.and_eq_true, decide_eq_true_eq, Bool.or_eq_true] at hc
        obtain ⟨⟨h1, h2⟩, h3⟩ := hc
        obtain ⟨⟨n, hokm⟩, k1⟩ := hok _ mi hmi
        simp only [ab_okm, Bool.and_eq_true, decide_eq_true_eq, Bool.or_eq_true] at hokm
        obtain ⟨k2, ⟨k3, k4, k5⟩, k6, k7⟩ := hokm
        have hstat : Cond.static mi.2.1 ∈ ab_gt := by
          rcases k6 with k6 | k6
          · exact ab_wd_in k6.1
          · have e9 := h2.symm.trans k6.2.2
            have := k6.2.1
            simp only [Option.some.injEq] at e9
            omega
        have hMm := hM mi hmi
        rcases h3 with h3 | h3
        · have cb := callB_of (R := R) (rm := ab_room d (r.2.1 - h.1) (r.2.2.1 - h.2.1)) mi.2.2.2.2.2.1 hts (ab_goodIn (mi := mi) k1) rfl rfl rfl (hts _ (ab_wd_in k2)) (hts _ (ab_wd_in h3)) ⟨k4.1, k4.2, h2⟩ ⟨hR.1, by show 8 + (_ + 11) + (60 * d + 60) ≤ _; have := hR.2; omega⟩
          exact ab_callq (va_runS (As := ((st.take (q / 100 % 100)).reverse).map (ab_rv E)) (rest := (st.drop (q / 100 % 100)).map (ab_rv E)) ⟨hx, hb, hml, hown, hts⟩ hMm ⟨cb, hts _ hstat⟩ ⟨ab_blind _ _ _, hpc⟩ rfl (by rw [← h1]; exact hlenr _ hn) hL.2.1 (ab_splitst E st _) hrest hd ⟨hr1, hr2⟩) hS (fun _ g => g) kk
        · have hnw : va_Nw (.methodLinkNest own idx mi.2.1 "TepidPurse") s := hE.2.2.1 _ (List.mem_of_getElem? h3) rfl
          have cb := va_cnB (R := R) (rm := ab_room d (r.2.1 - h.1) (r.2.2.1 - h.2.1)) mi.2.2.2.2.2.1 hts (ab_goodIn (mi := mi) k1) rfl rfl rfl hnw (hts _ (ab_wd_in k2)) ⟨k4.1, k4.2, h2⟩ ⟨hR.1, by show 8 + (_ + 11) + (60 * d + 60) ≤ _; have := hR.2; omega⟩
          exact ab_callq (va_runSN (As := ((st.take (q / 100 % 100)).reverse).map (ab_rv E)) (rest := (st.drop (q / 100 % 100)).map (ab_rv E)) ⟨hx, hb, hml, hown, hts⟩ hMm ⟨cb, hts _ hstat, trivial⟩ ⟨ab_blind _ _ _, hpc⟩ rfl (by rw [← h1]; exact hlenr _ hn) hL.2.1 (ab_splitst E st _) hrest hd ⟨hr1, hr2⟩) hS (fun _ g => g) kk
      · cases hc
    · cases hc
  · simp only [ab_chk1] at hc
    split at hc
    · rename_i idx
      simp only [Bool.and_eq_true, decide_eq_true_eq] at hc
      obtain ⟨rfl, hc⟩ := hc
      rw [if_neg hq1] at hc
      split at hc
      · rename_i mi hmi
        simp only [Bool.and_eq_true, decide_eq_true_eq] at hc
        obtain ⟨h0, h1, ⟨h4, h5, h2⟩, h3⟩ := hc
        obtain ⟨⟨n, hokm⟩, k1⟩ := hok _ mi hmi
        simp only [ab_okm, Bool.and_eq_true, decide_eq_true_eq, Bool.or_eq_true] at hokm
        obtain ⟨k2, ⟨k3, k4, k5⟩, k6, k7⟩ := hokm
        have hinst : Cond.instanceMethod mi.2.1 ∈ ab_gt := by
          rcases k6 with k6 | k6
          · have e9 := h2.symm.trans k6.2
            simp only [Option.some.injEq] at e9
            omega
          · exact ab_wd_in k6.1.1
        have hMm := hM mi hmi
        have hws : ab_ws mi = Cond.code mi.2.1 mi.2.2.1 mi.2.2.2.1 none :: ab_gt := by rw [← h5]; rfl
        have cb := callB_of (R := R) (rm := ab_room d (r.2.1 - h.1) (r.2.2.1 - h.2.1)) (mi.2.2.2.2.2.1 - 1) hts (ab_goodIn (mi := mi) k1) hws rfl rfl (hts _ (ab_wd_in k2)) (hts _ (ab_wd_in h3)) ⟨k4.1, k4.2, h2⟩ ⟨hR.1, by show 8 + (_ + 11) + (60 * d + 60) ≤ _; have := hR.2; omega⟩
        have hsp : ∃ As0 : List Value, (st.take (q / 100 % 100)).reverse = .ref a :: As0 ∧ As0.length = q / 100 % 100 - 1 := by
          have h9 : st.take (q / 100 % 100) = st.take (q / 100 % 100 - 1) ++ [.ref a] := by
            have e8 : q / 100 % 100 = (q / 100 % 100 - 1) + 1 := by omega
            rw [e8, List.take_add]
            simp only [Nat.add_sub_cancel]
            rw [hdr]
            rfl
          exact ⟨(st.take (q / 100 % 100 - 1)).reverse, by rw [h9, List.reverse_append]; rfl, by simp; omega⟩
        obtain ⟨As0, e7, e8⟩ := hsp
        have e6 := ab_splitst E st (q / 100 % 100)
        rw [e7] at e6 hpc hMm
        simp only [List.map_cons, List.reverse_cons, List.append_assoc, List.singleton_append] at e6
        exact ab_callq (va_runI (b := ab_rho E a) (As := As0.map (ab_rv E)) (rest := (st.drop (q / 100 % 100)).map (ab_rv E)) ⟨hx, hb, hml, hown, hts⟩ hMm ⟨cb, h4, hts _ hinst⟩ ⟨ab_blind _ _ _, hpc⟩ rfl (by rw [List.length_map, e8, h1]) hL.2.1 e6 hrest hd ⟨hr1, hr2⟩) hS (fun _ g => g) kk
      · cases hc
    · cases hc
  · simp only [ab_chk1] at hc
    split at hc
    · rename_i idx
      simp only [Bool.and_eq_true, decide_eq_true_eq] at hc
      obtain ⟨rfl, hc⟩ := hc
      split at hc
      · rename_i mi hmi
        simp only [Bool.and_eq_true, decide_eq_true_eq] at hc
        obtain ⟨h0, h1, h4, ⟨⟨h5, h6⟩, h2⟩, h3⟩ := hc
        obtain ⟨⟨n, hokm⟩, k1⟩ := hok _ mi hmi
        simp only [ab_okm, Bool.and_eq_true, decide_eq_true_eq, Bool.or_eq_true] at hokm
        obtain ⟨k2, ⟨k3, k4, k5⟩, k6, k7⟩ := hokm
        have hinst : Cond.instanceMethod mi.2.1 ∈ ab_gt ∧ Cond.selects mi.2.1.cls mi.2.1 mi.2.1 ∈ ab_gt := by
          rcases k6 with k6 | k6
          · have e9 := h2.symm.trans k6.2
            simp only [Option.some.injEq] at e9
            omega
          · exact ⟨ab_wd_in k6.1.1, k6.1.2.elim (fun g => absurd g h6) (fun g => ab_wd_in g)⟩
        have hMm := hM mi hmi
        have cb := callB_of (R := R) (rm := ab_room d (r.2.1 - h.1) (r.2.2.1 - h.2.1)) (mi.2.2.2.2.2.1 - 1) hts (ab_goodIn (mi := mi) k1) rfl rfl rfl (hts _ (ab_wd_in k2)) (hts _ (ab_wd_in h3)) ⟨k4.1, k4.2, h2⟩ ⟨hR.1, by show 8 + (_ + 11) + (60 * d + 60) ≤ _; have := hR.2; omega⟩
        have hsp : ∃ As0 : List Value, (st.take (q / 100 % 100)).reverse = .ref a :: As0 ∧ As0.length = q / 100 % 100 - 1 := by
          have h9 : st.take (q / 100 % 100) = st.take (q / 100 % 100 - 1) ++ [.ref a] := by
            have e8 : q / 100 % 100 = (q / 100 % 100 - 1) + 1 := by omega
            rw [e8, List.take_add]
            simp only [Nat.add_sub_cancel]
            rw [hdr]
            rfl
          exact ⟨(st.take (q / 100 % 100 - 1)).reverse, by rw [h9, List.reverse_append]; rfl, by simp; omega⟩
        obtain ⟨As0, e7, e8⟩ := hsp
        have e6 := ab_splitst E st (q / 100 % 100)
        rw [e7] at e6 hpc hMm
        simp only [List.map_cons, List.reverse_cons, List.append_assoc, List.singleton_append] at e6
        have hrecv : ∃ cellB : Cell, H[ab_rho E a]? = some cellB ∧ cellB.vm.isStatics = false ∧ s.vm.findClass mi.2.1.cls = some cellB.cls := by
          rcases hI.2.2 a _ (ab_ob_eq hob) with ⟨g0, g1, r0, g2, cell, q1, q2, q3, -⟩ | ⟨g1, g2, -, ⟨cell, q1, q2, q3, -⟩, -⟩
          · have g0' : q % 100 < 10 := g0
            have g2' : vwCl[q % 100]? = some r0 := g2
            rw [if_neg (by omega), show ab_cn (q % 100) = r0.1 by simp only [ab_cn, g2']] at h4
            rw [ab_rho_hi g1, h4]
            exact ⟨cell, q1, by rw [q3]; rfl, by rw [q2]; exact (hE.1.1 _ r0 g2').2.1⟩
          · have g1' : q % 100 = 90 := g1
            rw [if_pos g1'] at h4
            rw [ab_rho_lo (by omega), h4]
            exact ⟨cell, q1, q2, q3⟩
        exact ab_callq (va_runV (C := mi.2.1.cls) (b := ab_rho E a) (As := As0.map (ab_rv E)) (rest := (st.drop (q / 100 % 100)).map (ab_rv E)) ⟨hx, hb, hml, hown, hts⟩ hMm ⟨cb, hts _ hinst.1, hts _ hinst.2⟩ ⟨ab_blind _ _ _, hrecv, hpc⟩ rfl (by rw [List.length_map, e8, h1]) hL.2.1 e6 hrest hd ⟨hr1, hr2⟩) hS (fun _ g => g) kk
      · cases hc
    · cases hc
/-- a step of our machine that is no call and no answer -/
theorem ab_w_step {rt : Option FieldType} {ins : Instr} (hx : p.tables.exec = Jvm.exec) (hb : c.code = cc) (hml : c.maxLocals = ml) (hown : s.vm.findClass own = some m.cls) (hts : ∀ w ∈ ab_gt, w.before args s = true) (hE : ab_EF E s s.heap) (hin : ini = true → meth.name = "<init>") (hR : 1 ≤ R.frames ∧ 60 ≤ R.locals)
    (hd : decode cc pc = .ok (raw, len)) (hc : ab_chk1 own ml ini pc raw len ins pl = true) (hs : ab_step rt ins (pc + len) L st h = some (.inl S)) (hr1 : cells + (S.2.2.2.1 - h.1) ≤ R.cells) (hr2 : slots + (S.2.2.2.2.1 - h.2.1) ≤ R.slots)
    (k : ab_N p l e R s m args below meth c Q E ml S h cells slots) : ab_W p l e R s m args below meth c Q E ml (pc, L, st, h) cells slots := by
  have hf := hE.2.2.2.2.2
  unfold ab_step at hs
  split at hs
  · exact ab_w_iconst hx hb hown hts hd hc hs k
  · exact ab_w_ldc2 hx hb hown hts hd hc hs k
  · exact ab_w_ldc hx hb hown hE hd hc hs k
  · exact ab_w_iload hx hb hd hc hs k
  · exact ab_w_lload hx hb hd hc hs k
  · exact ab_w_aload hx hb hd hc hs k
  · exact ab_w_istore hx hb hf hd hc hs k
  · exact ab_w_astore hx hb hf hd hc hs k
  · exact ab_w_lstore hx hb hf hd hc hs k
  · exact ab_w_iinc hx hb hf hd hc hs k
  · exact ab_w_iadd hx hb hd hc hs k
  · exact ab_w_isub hx hb hd hc hs k
  · exact ab_w_imul hx hb hd hc hs k
  · exact ab_w_iand hx hb hd hc hs k
  · exact ab_w_ior hx hb hd hc hs k
  · exact ab_w_ixor hx hb hd hc hs k
  · exact ab_w_ishl hx hb hd hc hs k
  · exact ab_w_ishr hx hb hd hc hs k
  · exact ab_w_iushr hx hb hd hc hs k
  · exact ab_w_idiv hx hb hd hc hs k
  · exact ab_w_irem hx hb hd hc hs k
  · exact ab_w_ineg hx hb hd hc hs k
  · exact ab_w_i2b hx hb hd hc hs k
  · exact ab_w_i2s hx hb hd hc hs k
  · exact ab_w_i2c hx hb hd hc hs k
  · exact ab_w_i2l hx hb hd hc hs k
  · exact ab_w_l2i hx hb hd hc hs k
  · exact ab_w_ladd hx hb hd hc hs k
  · exact ab_w_lsub hx hb hd hc hs k
  · exact ab_w_lmul hx hb hd hc hs k
  · exact ab_w_ldiv hx hb hd hc hs k
  · exact ab_w_lrem hx hb hd hc hs k
  · exact ab_w_lcmp hx hb hd hc hs k
  · exact ab_w_dup hx hb hf hd hc hs k
  · exact ab_w_dup2 hx hb hf hd hc hs k
  · exact ab_w_pop hx hb hf hd hc hs k
  · exact ab_w_ifc hx hb hd hc hs k
  · exact ab_w_icmp hx hb hd hc hs k
  · exact ab_w_goto hx hb hd hc hs k
  · exact ab_w_tsw hx hb hd hc hs k
  · exact ab_w_gets hx hb hown hts hE hd hc hs k
  · exact ab_w_getf hx hb hown hts hE hd hc hs k
  · exact ab_w_putf hx hb hown hts hE hin hd hc hs k
  · exact ab_w_iald hx hb hE hd hc hs k
  · exact ab_w_bald hx hb hE hd hc hs k
  · exact ab_w_lald hx hb hE hd hc hs k
  · exact ab_w_aald hx hb hd hc hs k
  · exact ab_w_iast hx hb hd hc hs k
  · exact ab_w_bast hx hb hd hc hs k
  · exact ab_w_last hx hb hd hc hs k
  · exact ab_w_aast hx hb hE hd hc hs k
  · exact ab_w_alen hx hb hE hd hc hs k
  · exact ab_w_newa hx hb hts hr1 hr2 hd hc hs k
  · exact ab_w_anew hx hb hown hts hE hr1 hr2 hd hc hs k
  · exact ab_w_mna hx hb hown hts hE hr1 hr2 hd hc hs k
  · exact ab_w_new hx hb hown hts hE hr1 hr2 hd hc hs k
  · split at hs
    · rename_i q hq
      subst hq
      exact ab_w_oinit hx hb hml hf hown hts hR hd hc hs k
    · unfold ab_call1 at hs
      split at hs
      · split at hs
        · split at hs <;> cases hs
        · cases hs
      · cases hs
  · split at hs
    · rename_i q hq
      subst hq
      exact ab_w_acopy hx hb hml hown hts hE hR hd hc hs k
    · unfold ab_call1 at hs
      split at hs <;> cases hs
  · unfold ab_call1 at hs
    split at hs
    · split at hs
      · split at hs
        · split at hs <;> cases hs
        · cases hs
      · cases hs
    · cases hs
  · repeat' (split at hs)
    all_goals cases hs
  · repeat' (split at hs)
    all_goals cases hs
  · repeat' (split at hs)
    all_goals cases hs
  · cases hs
end AB8
