/-! THE CLAIM OUT OF ONE WALK OF THE LAW'S BODY. Your part is whole_start (and what it stands on); all else here is the same for every law, but numbers. -/
def R_law : String := "TepidPurseLaw"
def lw_P (b : Addr) (xs : List Int32) (args : Array Value) (s : State) : Prop := args = #[.ref b] ∧ s.IntsAt b xs ∧ xs.length ≤ 320 ∧ (Jvm.Cond.and given_1 narrow_1).before args s = true
def lw_Q (_ : Array Value) (s : State) (o : Outcome) (t : State) : Prop := o = .returned (some (.int 1)) ∧ Framed s o t [] 600000 7302250
def lw_Z (below : List Frame) (a : Array Value) (s : State) : State → Prop := fun t => ∃ o, t.status = .running ∧ Ended t below o ∧ lw_Q a s o t
/-- the law's own end, with 1 on the stack, nothing written that was there before, its room as the claim has it -/
theorem lw_ret {p : Program} {l : Launch} {e : Env} {s : State} {m : MethodId} {below : List Frame} {meth : Method} {c : Code} {b : Nat} (hx : p.tables.exec = Jvm.exec) (hb : c.code = code) (hr : meth.sig.returnType = ret) (hlocks : meth.locks = false) {pc : Nat} {H : Heap} {ls : Array Slot} (hdg : decode code pc = .ok (.ireturn, 1)) : W p l e room_1 s m #[Value.ref b] below meth c H [] 600000 7302250 (lw_Z below #[Value.ref b] s) (F0 m pc ls [.int 1]) := by
  intro T hT X
  obtain ⟨fs, hret, hrun, hended, hW, hframe⟩ := X.leave (v := some (.int 1)) (hlocks := hlocks) (fun h => by rw [hr] at h; cases h)
  have hmeth' : T.vm.method? m = some meth := X.method'
  refine ⟨T.setFrames fs, ?_, .returned (some (.int 1)), hrun, hended, rfl, ⟨_, rfl⟩, hW, hframe⟩
  jvm_step X.here [X.here.top, hx, hb, hdg, hmeth', hr, ret, narrow_b1]
  (try refine ⟨rfl, ?_⟩); (try refine ⟨rfl, ?_⟩)
  first | (intro acts; rw [hret _ acts rfl rfl rfl]) | rw [hret _ _ rfl rfl rfl]
  exact Steps.refl _
/-- what holds at the law's entry: the machine, the code, the tables' words (any of lw_tbl by 'hts w (by decide +kernel)'), the script of L ints xs at the cell b, what the Statement gives of the start (any of its parts by flat_of_before) -/
def lw_At (p : Program) (s : State) (m : MethodId) (meth : Method) (c : Code) (b L : Nat) (xs : Nat → Int32) : Prop :=
  p.tables.exec = Jvm.exec ∧ c.code = code ∧ meth.sig.returnType = ret ∧ c.maxLocals = 4 ∧ s.vm.findClass R_law = some m.cls ∧ (∀ w ∈ lw_tbl, w.before #[Value.ref b] s = true) ∧ va_X b L xs s s.heap ∧ b < s.heap.size ∧ meth.locks = false ∧ (Jvm.Cond.and given_1 narrow_1).before #[Value.ref b] s = true
def ab_strs : List (List Int32) := [[112, 108, 97, 105, 110], [102, 108, 105, 110, 116], [115, 108, 97, 116, 101], [115, 111, 97, 112], [109, 97, 110], [111, 118, 101, 110], [119, 105, 110, 100], [112, 114, 105, 99, 101], [100, 101, 98, 116]]
def ab_slen : List Nat := [5, 5, 5, 4, 3, 4, 4, 5, 4]
def ab_p10 : List Int64 := [1, 10, 100, 1000, 10000, 100000, 1000000]
def ab_bas : List Int32 := [6, 4, 8, 3]
/-- the cells that are there before the law begins -/
def ab_f0 (L : Nat) (xs : Nat → Int32) (a : Nat) : Option ab_C := if a = 0 then some (.inr (.inr (.int, L, .inl xs)))
  else if a = 1 then some (.inr (.inr (.int, 4, .inl (fun j => ab_bas.getD j 0))))
  else if a = 2 then some (.inr (.inr (.long, 7, .inr (.inl (fun j => ab_p10.getD j 0)))))
  else if 10 ≤ a ∧ a < 19 then some (.inr (.inl (90, [.ref (a + 20), .int 0])))
  else if 30 ≤ a ∧ a < 39 then some (.inr (.inr (.byte, ab_slen.getD (a - 30) 0, .inl (fun j => (ab_strs.getD (a - 30) []).getD j 0))))
  else none
def ab_h0 (L : Nat) (xs : Nat → Int32) : ab_H := (100, 0, ab_f0 L xs)
def ab_tm (i : Nat) : Term := .string RX5 (ab_sc.getD i (0, "")).1
def ab_fl1 : List Cond := flatC (Jvm.Cond.and given_1 narrow_1)
theorem ab_mx1 : ((List.range 9).all fun i => decide (Cond.exactly (ab_tm i) "java/lang/String" ∈ ab_fl1) && (decide (Cond.eq (.field (ab_tm i) "java/lang/String" "coder" "B") (.int 0) ∈ ab_fl1) && (decide (Cond.arrayOf (.field (ab_tm i) "java/lang/String" "value" "[B") .byte ∈ ab_fl1) && (decide (Cond.eq (.length (.field (ab_tm i) "java/lang/String" "value" "[B")) (.int (Int32.ofNat (ab_slen.getD i 0))) ∈ ab_fl1) && (List.range (ab_slen.getD i 0)).all fun j => decide (Cond.eq (.elem (.field (ab_tm i) "java/lang/String" "value" "[B") (.int (Int32.ofNat j))) (.int ((ab_strs.getD i []).getD j 0)) ∈ ab_fl1))))) = true := by decide +kernel
theorem ab_mx2 : ((List.range 9).all fun i => (List.range 9).all fun j => decide (i = j) || (decide (Cond.not (Cond.eq (ab_tm i) (ab_tm j)) ∈ ab_fl1) || decide (Cond.not (Cond.eq (ab_tm j) (ab_tm i)) ∈ ab_fl1))) = true := by decide +kernel
theorem ab_mx3 : (decide (Cond.arrayOf (.static "TepidPurse" "BASES" "[I") .int ∈ ab_fl1) && decide (Cond.eq (.length (.static "TepidPurse" "BASES" "[I")) (.int (Int32.ofNat 4)) ∈ ab_fl1) && (List.range 4).all fun j => decide (Cond.eq (.elem (.static "TepidPurse" "BASES" "[I") (.int (Int32.ofNat j))) (.int (ab_bas.getD j 0)) ∈ ab_fl1)) = true := by decide +kernel
theorem ab_mx4 : (decide (Cond.arrayOf (.static "TepidPurse" "POWERS_OF_TEN" "[J") .long ∈ ab_fl1) && decide (Cond.eq (.length (.static "TepidPurse" "POWERS_OF_TEN" "[J")) (.int (Int32.ofNat 7)) ∈ ab_fl1) && (List.range 7).all fun j => decide (Cond.eq (.elem (.static "TepidPurse" "POWERS_OF_TEN" "[J") (.int (Int32.ofNat j))) (.long (ab_p10.getD j 0)) ∈ ab_fl1)) = true := by decide +kernel
theorem ab_mx5 : Cond.eq (.static "java/lang/String" "COMPACT_STRINGS" "Z") (.int 1) ∈ ab_fl1 ∧ Cond.isRef (.static "jdk/internal/util/Preconditions" "SIOOBE_FORMATTER" "Ljava/util/function/BiFunction;") ∈ ab_fl1 := by decide +kernel
theorem ab_mx6 : (List.range 4).all (fun i => decide (Cond.laysStatic (ab_sts (i + 1)).1 (ab_sts (i + 1)).2.1 (ab_sts (i + 1)).2.2 ∈ lw_tbl) && decide (Cond.initialized (ab_sts (i + 1)).1 ∈ lw_tbl)) = true := by decide +kernel
theorem ab_mx7 : ((List.range 9).all fun i => decide (Cond.stringRef RX5 (ab_sc.getD i (0, "")).1 (ab_sc.getD i (0, "")).2 ∈ lw_tbl)) = true := by decide +kernel
theorem ab_mx8 : Cond.arrayOver (.object RX7) ∈ lw_tbl ∧ Cond.arrayOver (.object RX3) ∈ lw_tbl ∧ Cond.arrayOver (.array .int) ∈ lw_tbl := by decide +kernel
theorem ab_onN : lw_tbl.all (fun w => !ab_isN w || w.onTables) = true := by decide +kernel
set_option maxHeartbeats 4000000 in
theorem ab_start {p : Program} {s : State} {m : MethodId} {meth : Method} {c : Code} {b L : Nat} {xs : Nat → Int32} (hL : L ≤ 320) (C0 : lw_At p s m meth c b L xs) : ∃ E : ab_Env, E.1 = s.heap.size ∧ E.2.1 0 = b ∧ ab_EF E s s.heap ∧ ab_I E s s.heap (ab_h0 L xs) := by
  obtain ⟨hx, hb, hr, hml, hown, hts, hX, hbl, hlocks, hgv⟩ := C0
  have hs : ∀ w ∈ ab_fl1, w.before #[Value.ref b] s = true := flat_of_before _ hgv
  have hgt : ∀ w ∈ ab_gt, w.before #[Value.ref b] s = true := fun w hw => hts w (List.mem_filter.mp hw).1
  have hA : ∀ a : Nat, a < s.heap.size → ¬ (fun q : Nat => s.heap.size ≤ q) a := fun a h => Nat.not_le.mpr h
  -- Strings
  have q1 := fun i (hi : i < 9) => List.all_eq_true.mp ab_mx1 i (List.mem_range.mpr hi)
  simp only [Bool.and_eq_true, decide_eq_true_eq] at q1
  have q2 := fun i (hi : i < 9) j (hj : j < 9) => List.all_eq_true.mp (List.all_eq_true.mp ab_mx2 i (List.mem_range.mpr hi)) j (List.mem_range.mpr hj)
  simp only [Bool.or_eq_true, decide_eq_true_eq] at q2
  have hlen : ∀ i : Nat, i < 9 → ab_slen.getD i 0 < 2 ^ 31 := by decide
  obtain ⟨adK, adV, hvs, hve⟩ := vk_Sof (args := #[Value.ref b]) (s := s) (N := 9) (tm := ab_tm) (len := ab_slen) (byt := ab_strs) (A := fun q : Nat => s.heap.size ≤ q) hlen
    (fun i hi => hs _ (q1 i hi).1) (fun i hi => hs _ (q1 i hi).2.1) (fun i hi => hs _ (q1 i hi).2.2.1) (fun i hi => hs _ (q1 i hi).2.2.2.1)
    (fun i hi j hj => hs _ (by have := List.all_eq_true.mp (q1 i hi).2.2.2.2 j (List.mem_range.mpr hj); simpa using this))
    (fun i j hi hj hij => ((q2 i hi j hj).elim (fun h => absurd h hij) (fun h => h.elim (fun h => Or.inl (hs _ h)) (fun h => Or.inr (hs _ h))))) hA
  -- static arrays
  have q3 := ab_mx3
  simp only [Bool.and_eq_true, decide_eq_true_eq] at q3
  obtain ⟨tB, eB, hB⟩ := va_Tof (args := #[Value.ref b]) (s := s) (N := 4) (f := fun j => .int (ab_bas.getD j 0)) (A := fun q : Nat => s.heap.size ≤ q) (by decide) (hs _ q3.1.1) (va_eqt (hs _ q3.1.2)) (fun j hj => va_eqt (hs _ (by have := List.all_eq_true.mp q3.2 j (List.mem_range.mpr hj); simpa using this))) hA
  have q4 := ab_mx4
  simp only [Bool.and_eq_true, decide_eq_true_eq] at q4
  obtain ⟨tP, eP, hP⟩ := va_Tof (args := #[Value.ref b]) (s := s) (N := 7) (f := fun j => .long (ab_p10.getD j 0)) (A := fun q : Nat => s.heap.size ≤ q) (by decide) (hs _ q4.1.1) (va_eqt (hs _ q4.1.2)) (fun j hj => va_eqtl (hs _ (by have := List.all_eq_true.mp q4.2 j (List.mem_range.mpr hj); simpa using this))) hA
  have q6 := fun i (hi : i < 4) => List.all_eq_true.mp ab_mx6 i (List.mem_range.mpr hi)
  simp only [Bool.and_eq_true, decide_eq_true_eq] at q6
  have zB := va_Zref (hts _ (q6 0 (by decide)).1) (hts _ (q6 0 (by decide)).2) eB hA
  have zP := va_Zref (hts _ (q6 1 (by decide)).1) (hts _ (q6 1 (by decide)).2) eP hA
  have zC := va_Zof (hts _ (q6 3 (by decide)).1) (hts _ (q6 3 (by decide)).2) (va_eqt (hs _ ab_mx5.1)) hA
  have zF := va_Zqof (hts _ (q6 2 (by decide)).1) (hts _ (q6 2 (by decide)).2) (hs _ ab_mx5.2) hA
  obtain ⟨fm, hfm, zF⟩ : ∃ fm : Value, fm.category = 1 ∧ va_Z (ab_sts 3).1 (ab_sts 3).2.1 (ab_sts 3).2.2 fm (fun q : Nat => s.heap.size ≤ q) s s.heap := by
    rcases zF with h | ⟨t, h⟩
    · exact ⟨.null, rfl, h⟩
    · exact ⟨.ref t, rfl, h⟩
  obtain ⟨c0, i0, hk0⟩ := u_known (C := RX0) (T := TX0) (N := 5) hgt ab_ugt0 (hgt _ (ab_inst (ci := 0) rfl).1)
  obtain ⟨c1, i1, hk1⟩ := u_known (C := RX1) (T := TX1) (N := 7) hgt ab_ugt1 (hgt _ (ab_inst (ci := 1) rfl).1)
  obtain ⟨c2, i2, hk2⟩ := u_known (C := RX2) (T := TX2) (N := 4) hgt ab_ugt2 (hgt _ (ab_inst (ci := 2) rfl).1)
  obtain ⟨c3, i3, hk3⟩ := u_known (C := RX3) (T := TX3) (N := 3) hgt ab_ugt3 (hgt _ (ab_inst (ci := 3) rfl).1)
  obtain ⟨c4, i4, hk4⟩ := u_known (C := RX4) (T := TX4) (N := 7) hgt ab_ugt4 (hgt _ (ab_inst (ci := 4) rfl).1)
  obtain ⟨c5, i5, hk5⟩ := u_known (C := RX5) (T := TX5) (N := 11) hgt ab_ugt5 (hgt _ (ab_inst (ci := 5) rfl).1)
  obtain ⟨c6, i6, hk6⟩ := u_known (C := RX6) (T := TX6) (N := 6) hgt ab_ugt6 (hgt _ (ab_inst (ci := 6) rfl).1)
  obtain ⟨c7, i7, hk7⟩ := u_known (C := RX7) (T := TX7) (N := 16) hgt ab_ugt7 (hgt _ (ab_inst (ci := 7) rfl).1)
  obtain ⟨c8, i8, hk8⟩ := u_known (C := RX8) (T := TX8) (N := 13) hgt ab_ugt8 (hgt _ (ab_inst (ci := 8) rfl).1)
  obtain ⟨c9, i9, hk9⟩ := u_known (C := RX9) (T := TX9) (N := 40) hgt ab_ugt9 (hgt _ (ab_inst (ci := 9) rfl).1)
  obtain ⟨dC, dI, hKc⟩ : ∃ (dC : Nat → ClassId) (dI : Nat → Nat → Nat), ∀ (k : Nat) (q : vw_C), vwCl[k]? = some q → u_Kn s q.1 q.2.1 q.2.2 (dC k) (dI k) := by
    refine ⟨fun k => ([c0, c1, c2, c3, c4, c5, c6, c7, c8, c9] : List ClassId).getD k 0, fun k => ([i0, i1, i2, i3, i4, i5, i6, i7, i8, i9] : List (Nat → Nat)).getD k i0, ?_⟩
    intro k q hq
    match k, hq with
    | 0, hq => cases hq; exact hk0
    | 1, hq => cases hq; exact hk1
    | 2, hq => cases hq; exact hk2
    | 3, hq => cases hq; exact hk3
    | 4, hq => cases hq; exact hk4
    | 5, hq => cases hq; exact hk5
    | 6, hq => cases hq; exact hk6
    | 7, hq => cases hq; exact hk7
    | 8, hq => cases hq; exact hk8
    | 9, hq => cases hq; exact hk9
    | k + 10, hq => simp [vwCl] at hq
  have hK : va_K (dC, dI) vwCl [] s := ⟨hKc, fun k q h => by simp at h⟩
  obtain ⟨ad, had⟩ : ∃ ad : Nat → Nat, ad = fun a => if a = 0 then b else if a = 1 then tB else if a = 2 then tP else if a < 19 then adK (a - 10) else adV (a - 30) := ⟨_, rfl⟩
  have ad0 : ad 0 = b := by rw [had]; rfl
  have ad1 : ad 1 = tB := by rw [had]; rfl
  have ad2 : ad 2 = tP := by rw [had]; rfl
  have adk : ∀ i, i < 9 → ad (10 + i) = adK i := fun i hi => by
    rw [had]
    simp only [show ¬ 10 + i = 0 by omega, show ¬ 10 + i = 1 by omega, show ¬ 10 + i = 2 by omega, show 10 + i < 19 by omega, if_true, if_false, Nat.add_sub_cancel_left]
  have adv : ∀ i, i < 9 → ad (30 + i) = adV i := fun i hi => by
    rw [had]
    simp only [show ¬ 30 + i = 0 by omega, show ¬ 30 + i = 1 by omega, show ¬ 30 + i = 2 by omega, show ¬ 30 + i < 19 by omega, if_false, Nat.add_sub_cancel_left]
  refine ⟨(s.heap.size, ad, (dC, dI), fm), rfl, ad0, ⟨hK, ?_, ?_, ?_, ?_, hfm⟩, ?_⟩
  · intro a g1 g2
    rcases (show a = 1 ∨ a = 2 ∨ a = 3 ∨ a = 4 by omega) with rfl | rfl | rfl | rfl
    · show va_Z _ _ _ (.ref (ab_rho _ 1)) _ _ _
      rw [ab_rho_lo (by decide)]
      show va_Z _ _ _ (.ref (ad 1)) _ _ _
      rw [ad1]
      exact zB
    · show va_Z _ _ _ (.ref (ab_rho _ 2)) _ _ _
      rw [ab_rho_lo (by decide)]
      show va_Z _ _ _ (.ref (ad 2)) _ _ _
      rw [ad2]
      exact zP
    · exact zF
    · exact zC
  · intro w hw hn
    have h1 := List.all_eq_true.mp ab_onN w hw
    rw [hn] at h1
    exact va_Nw.of (by simpa using h1) (hts w hw)
  · intro i q hq
    have hi : i < 9 := (List.getElem?_eq_some_iff.mp hq).1
    have e1 : ab_sc.getD i (0, "") = q := by rw [List.getD_eq_getElem?_getD, hq]; rfl
    have q7 := List.all_eq_true.mp ab_mx7 i (List.mem_range.mpr hi)
    simp only [decide_eq_true_eq, e1] at q7
    show vk_R RX5 q.1 q.2 (ad (10 + i)) s
    rw [adk i hi]
    have h2 := hve i hi
    unfold ab_tm at h2
    rw [e1] at h2
    exact vk_R.of (A := #[Value.ref b]) (hts _ q7) h2
  · exact ⟨va_AO.of (hts _ ab_mx8.1), va_AO.of (hts _ ab_mx8.2.1), ab_AR.of (hts _ ab_mx8.2.2)⟩
  · refine ⟨rfl, Nat.le_refl _, fun a cc0 hc0 => ?_⟩
    simp only [ab_h0, ab_f0] at hc0
    split at hc0
    · rename_i h0
      subst h0
      cases hc0
      refine ⟨by decide, ?_⟩
      show va_T .int (ad 0) L (fun j => .int (xs j)) _ s s.heap
      rw [ad0]
      obtain ⟨scr, g1, g2, g3, g4, g5⟩ := hX
      exact ⟨scr, g1, g2, g3, by omega, by rw [g4], g5, hA b hbl⟩
    · split at hc0
      · rename_i h0
        subst h0
        cases hc0
        refine ⟨by decide, ?_⟩
        show va_T .int (ad 1) 4 _ _ s s.heap
        rw [ad1]
        exact hB
      · split at hc0
        · rename_i h0
          subst h0
          cases hc0
          refine ⟨by decide, ?_⟩
          show va_T .long (ad 2) 7 _ _ s s.heap
          rw [ad2]
          exact hP
        · split at hc0
          · rename_i h0
            cases hc0
            obtain ⟨i, hi, rfl⟩ : ∃ i, i < 9 ∧ a = 10 + i := ⟨a - 10, by omega, by omega⟩
            obtain ⟨g1, g2, g3, g4⟩ := hvs.1 i hi
            refine Or.inr ⟨rfl, by omega, rfl, ?_, ?_, ?_⟩
            · show va_O _ (ad (10 + i)) _ _ _
              rw [adk i hi]
              exact g1
            · show va_OF _ _ _ (.ref (ad (10 + i + 20))) (ad (10 + i)) _ _ _
              rw [adk i hi, show 10 + i + 20 = 30 + i by omega, adv i hi]
              exact g3
            · show va_OF _ _ _ (.int 0) (ad (10 + i)) _ _ _
              rw [adk i hi]
              exact g2
          · split at hc0
            · rename_i h0
              cases hc0
              obtain ⟨i, hi, rfl⟩ : ∃ i, i < 9 ∧ a = 30 + i := ⟨a - 30, by omega, by omega⟩
              obtain ⟨g1, g2, g3, g4⟩ := hvs.1 i hi
              refine ⟨by omega, ?_⟩
              show va_T .byte (ad (30 + i)) (ab_slen.getD (30 + i - 30) 0) (fun j => .int ((ab_strs.getD (30 + i - 30) []).getD j 0)) _ _ _
              rw [adv i hi, Nat.add_sub_cancel_left]
              exact g4
            · cases hc0
/-- the law's walk out of a run of our machine -/
theorem ab_whole {p : Program} {e : Env} {s : State} {m : MethodId} {below : List Frame} {meth : Method} {c : Code} (l : Launch) {b L : Nat} {xs : Nat → Int32} (hL : L ≤ 320) (C0 : lw_At p s m meth c b L xs) {d F : Nat} {h1 : ab_H} (hd : d ≤ 1000) (hrun : ab_go (ab_call d F) (some .boolean) kL_law F 0 [some (.ref 0), none, none, none] [] (ab_h0 L xs) = some (some (.int 1), h1)) (hcells : h1.1 ≤ 600000) (hslots : h1.2.1 ≤ 7302250) : W p l e room_1 s m #[Value.ref b] below meth c s.heap [] 0 0 (lw_Z below #[Value.ref b] s) (entryFrame m ([Value.ref b] : List Value).toArray 4) := by
  obtain ⟨E, e0, eb, hE, hI⟩ := ab_start hL C0
  obtain ⟨hx, hb, hr, hml, hown, hts, hX, hbl, hlocks, hgv⟩ := C0
  have hgt : ∀ w ∈ ab_gt, w.before #[Value.ref b] s = true := fun w hw => hts w (List.mem_filter.mp hw).1
  have hrv : ([Value.ref 0] : List Value).map (ab_rv E) = [Value.ref b] := by
    show [Value.ref (ab_rho E 0)] = _
    rw [ab_rho_lo (by decide), eb]
  have hgo := ab_go_sound (p := p) (l := l) (e := e) (R := room_1) (s := s) (m := m) (args := #[Value.ref b]) (below := below) (meth := meth) (c := c) (E := E) (ml := 4) (cc := code) (own := RL) (ini := false) (d := d) (F := F) (rt := some .boolean) (cd := kL_law) (mc := h1.1 - 100) (ms := h1.2.1 - 0) (r := (some (.int 1), h1)) (Q := lw_Z below #[Value.ref b] s) hx hb hml hown hgt hE (fun h => by cases h) ⟨by show d + 2 ≤ 2048; omega, by show 60 * d + 120 ≤ 84000; omega⟩ ⟨by show h1.1 - 100 ≤ 600000; omega, by show h1.2.1 - 0 ≤ 7302250; omega⟩ ab_kc_L_law (fun j as h r hq => ab_sound l E d F j as h r hq)
    (by
      intro pc ins L9 st h2 hd9 hs9 H locs ls hI2 hS hL9
      obtain ⟨-, e1, e2, e3⟩ := ab_step_ret hs9
      show W _ _ _ _ _ _ _ _ _ _ _ _ _ _ _ (F0 m pc ls (st.map (ab_rv E)))
      rcases e3 with ⟨x, ty, rfl, g1, g2, g3⟩ | ⟨x, rfl, g1, g2⟩ | ⟨rfl, g1, g2⟩
      · rw [e2]
        refine va_forget (fun q hq => by have := hS.2.2 q hq; rw [← e0]; exact this) ?_
        refine W.widen (k := 600000) (n := 7302250) (by omega) (by omega) ?_
        exact lw_ret hx hb hr hlocks hd9
      · cases g2
      · cases g2)
    F 0 [some (.ref 0), none, none, none] [] (ab_h0 L xs) 0 0 hrun (by show 0 + (h1.1 - 100) = _; omega) (by show 0 + (h1.2.1 - 0) = _; omega)
  have hent := ab_entry (E := E) hE.2.2.2.2.2 (vs := [.ref 0]) (n := 4) (by decide)
  rw [hrv] at hent
  rw [lg_entry_eq]
  exact hgo s.heap [] _ hI va_S.rf hent
