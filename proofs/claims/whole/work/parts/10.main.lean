/-! our machine is sound -/
theorem ab_go_mono {call : Nat → List Value → ab_H → Option (Option Value × ab_H)} (hcall : ∀ j as h r, call j as h = some r → h.1 ≤ r.2.1 ∧ h.2.1 ≤ r.2.2.1) {rt : Option FieldType} {cd : ab_K} : ∀ (n pc : Nat) (L : ab_L) (st : List Value) (h : ab_H) (r : Option Value × ab_H), ab_go call rt cd n pc L st h = some r → h.1 ≤ r.2.1 ∧ h.2.1 ≤ r.2.2.1
  | 0, _, _, _, _, _, hg => by simp [ab_go] at hg
  | n + 1, pc, L, st, h, r, hg => by
    simp only [ab_go] at hg
    split at hg
    · cases hg
    · split at hg
      · cases hg
      · rename_i s hs
        have h1 := ab_step_mono hs
        have h2 := ab_go_mono hcall n _ _ _ _ r hg
        exact ⟨Nat.le_trans h1.1 h2.1, Nat.le_trans h1.2 h2.2⟩
      · rename_i x hs
        obtain ⟨q, hq, -⟩ := ab_step_call hs
        obtain ⟨-, rfl⟩ := ab_call1_eq hq
        split at hg
        · cases hg
        · rename_i r1 hr1
          have h1 := hcall _ _ _ _ hr1
          have h2 := ab_go_mono hcall n _ _ _ _ r hg
          exact ⟨Nat.le_trans h1.1 h2.1, Nat.le_trans h1.2 h2.2⟩
      · rename_i r1 hs
        obtain rfl := Option.some.inj hg
        obtain ⟨-, e1, -⟩ := ab_step_ret hs
        rw [e1]
        exact ⟨Nat.le_refl _, Nat.le_refl _⟩
theorem ab_call_mono : ∀ (d F j : Nat) (as : List Value) (h : ab_H) (r : Option Value × ab_H), ab_call d F j as h = some r → h.1 ≤ r.2.1 ∧ h.2.1 ≤ r.2.2.1
  | 0, _, _, _, _, _, hg => by simp [ab_call] at hg
  | d + 1, F, j, as, h, r, hg => by
    simp only [ab_call] at hg
    split at hg
    · cases hg
    · split at hg
      · exact ab_go_mono (fun j as h r => ab_call_mono d F j as h r) F _ _ _ _ r hg
      · cases hg
theorem ab_look_in {cd : ab_K} {pc : Nat} {x : Instr × Nat} (h : ab_look cd pc = some x) : ∃ pl, (pc, x.1, x.2, pl) ∈ cd := by
  unfold ab_look at h
  split at h
  · rename_i e he
    have h1 := List.mem_of_find?_eq_some he
    have h2 := List.find?_some he
    simp only [beq_iff_eq] at h2
    obtain rfl := Option.some.inj h
    obtain ⟨p9, i9, n9, pl⟩ := e
    simp only at h2
    subst h2
    exact ⟨pl, h1⟩
  · cases h
section AB10
variable {p : Program} {l : Launch} {e : Env} {R : Room} {s : State} {m : MethodId} {args : Array Value} {below : List Frame} {meth : Method} {c : Code} {Q : State → Prop} {E : ab_Env} {ml : Nat} {cc : ByteArray} {own : String} {ini : Bool}
theorem ab_go_sound {d F : Nat} {rt : Option FieldType} {cd : ab_K} {mc ms : Nat} {r : Option Value × ab_H} (hx : p.tables.exec = Jvm.exec) (hb : c.code = cc) (hml : c.maxLocals = ml) (hown : s.vm.findClass own = some m.cls) (hts : ∀ w ∈ ab_gt, w.before args s = true) (hE : ab_EF E s s.heap) (hin : ini = true → meth.name = "<init>") (hR : d + 2 ≤ R.frames ∧ 60 * d + 120 ≤ R.locals) (hRc : mc ≤ R.cells ∧ ms ≤ R.slots)
    (hcd : cd.all (ab_chk own ml ini cc) = true) (hM : ∀ j as h r, ab_call d F j as h = some r → ab_Met l E d j as h r.1 r.2)
    (hret : ∀ (pc : Nat) (ins : Instr) (L : ab_L) (st : List Value) (h : ab_H), decode cc pc = .ok (ins, 1) → ab_step rt ins (pc + 1) L st h = some (.inr (.inr r)) → ab_W p l e R s m args below meth c Q E ml (pc, L, st, h) mc ms) :
    ∀ (n pc : Nat) (L : ab_L) (st : List Value) (h : ab_H) (cells slots : Nat), ab_go (ab_call d F) rt cd n pc L st h = some r → cells + (r.2.1 - h.1) = mc → slots + (r.2.2.1 - h.2.1) = ms → ab_W p l e R s m args below meth c Q E ml (pc, L, st, h) cells slots
  | 0, _, _, _, _, _, _, hg, _, _ => by simp [ab_go] at hg
  | n + 1, pc, L, st, h, cells, slots, hg, hc1, hc2 => by
    have hcm := fun j as h r => ab_call_mono d F j as h r
    simp only [ab_go] at hg
    split at hg
    · cases hg
    · rename_i ins nx hlook
      obtain ⟨pl, hin1⟩ := ab_look_in hlook
      have hchk := List.all_eq_true.mp hcd _ hin1
      unfold ab_chk at hchk
      split at hchk
      · rename_i raw len hd
        simp only [Bool.and_eq_true, decide_eq_true_eq] at hchk
        obtain ⟨hnx, hck⟩ := hchk
        have hd' : decode cc pc = .ok (raw, len) := hd
        have hnx' : nx = pc + len := hnx
        subst hnx'
        split at hg
        · cases hg
        · rename_i S hs
          have g1 := ab_step_mono hs
          have g2 := ab_go_mono hcm n _ _ _ _ r hg
          refine ab_w_step hx hb hml hown hts hE hin ⟨by omega, by omega⟩ hd' hck hs (by have := hRc.1; omega) (by have := hRc.2; omega) ?_
          intro c1 s1 e1 e2
          exact ab_go_sound hx hb hml hown hts hE hin hR hRc hcd hM hret n S.1 S.2.1 S.2.2.1 S.2.2.2 c1 s1 hg (by omega) (by omega)
        · rename_i x hs
          split at hg
          · cases hg
          · rename_i r1 hr1
            have g1 := hcm _ _ _ _ hr1
            have g2 := ab_go_mono hcm n _ _ _ _ r hg
            have ex : x.2.2.2.2.2 = h := by
              obtain ⟨q, hq, -⟩ := ab_step_call hs
              obtain ⟨-, rfl⟩ := ab_call1_eq hq
              rfl
            rw [ex] at g1
            have hMx := hM _ _ _ _ hr1
            refine ab_w_call (r := r1) ab_ok hx hb hml hown hts hE hR hd' hck hs hMx (by have := hRc.1; omega) (by have := hRc.2; omega) ?_
            exact ab_go_sound hx hb hml hown hts hE hin hR hRc hcd hM hret n _ _ _ _ _ _ hg (by omega) (by omega)
        · rename_i r1 hs
          obtain rfl := Option.some.inj hg
          obtain ⟨hk, e1, -⟩ := ab_step_ret hs
          rw [e1] at hc1 hc2
          have hc1' : cells = mc := by omega
          have hc2' : slots = ms := by omega
          subst hc1'
          subst hc2'
          have hraw : raw = ins ∧ len = 1 := by
            rcases hk with rfl | rfl | rfl <;> simpa only [ab_chk1, Bool.and_eq_true, decide_eq_true_eq] using hck
          obtain ⟨rfl, rfl⟩ := hraw
          exact hret pc raw L st h hd' hs
      · cases hchk
end AB10
theorem ab_sound (l : Launch) (E : ab_Env) : ∀ (d F j : Nat) (as : List Value) (h : ab_H) (r : Option Value × ab_H), ab_call d F j as h = some r → ab_Met l E d j as h r.1 r.2
  | 0, _, _, _, _, _, hg => by simp [ab_call] at hg
  | d + 1, F, j, as, h, r, hg => by
    intro mi hmi
    simp only [ab_call, hmi] at hg
    split at hg
    · rename_i hlen
      obtain ⟨⟨n, hokm⟩, k1⟩ := ab_ok j mi hmi
      have hcd := ab_okc j mi hmi
      simp only [ab_okm, Bool.and_eq_true, decide_eq_true_eq, Bool.or_eq_true] at hokm
      obtain ⟨k2, ⟨k3, k4, k5⟩, k6, k7⟩ := hokm
      refine va_MetF (cc := mi.2.2.1) (maxL := mi.2.2.2.1) (ret := mi.2.2.2.2.1) k5 rfl ?_
      intro p e s m args below meth c s₁ B hml hv
      obtain ⟨rfl, hE, hI⟩ := hv
      have hx := B.exec
      have hb := B.bytes
      have hr := B.returns
      have hts0 := atoms_spec (ws := ab_ws mi) B.pre
      have hts : ∀ w ∈ ab_gt, w.before (as.map (ab_rv E)).toArray s = true := fun w hw => hts0 w (List.mem_cons_of_mem _ hw)
      have hown : s.vm.findClass mi.1 = some m.cls := by rw [k3]; exact findClass_of_methodNamed B.named
      have hlocks := B.notSynchronized
      have hf := hE.2.2.2.2.2
      have hgo := ab_go_sound (p := p) (l := l) (e := e) (R := ab_room (d + 1) (r.2.1 - h.1) (r.2.2.1 - h.2.1)) (s := s) (m := m) (args := (as.map (ab_rv E)).toArray) (below := below) (meth := meth) (c := c) (E := E) (ml := mi.2.2.2.1) (cc := mi.2.2.1) (own := mi.1) (ini := decide (mi.2.1.name = "<init>")) (d := d) (F := F) (rt := mi.2.2.2.2.1) (cd := mi.2.2.2.2.2.2) (mc := r.2.1 - h.1) (ms := r.2.2.1 - h.2.1) (r := r)
        (Q := MQ below (ab_Qc E r.1 r.2) (as.map (ab_rv E)).toArray s (r.2.1 - h.1) (r.2.2.1 - h.2.1) (ab_A E)) hx hb hml hown hts hE
        (fun hq => by rw [← of_decide_eq_true hq]; exact (name_of_methodNamed B.named B.method).1) ⟨by show d + 2 ≤ d + 1 + 1; omega, by show 60 * d + 120 ≤ 60 * (d + 1) + 60; omega⟩ ⟨Nat.le_refl _, Nat.le_refl _⟩ hcd (fun j as h r hq => ab_sound l E d F j as h r hq)
        (by
          intro pc ins L st h2 hd hs H locs ls hI2 hS hL
          obtain ⟨-, e1, e2, e3⟩ := ab_step_ret hs
          have e1' : r.2 = h2 := e1
          have hq : ∀ (v : Value), r.1 = some v → ∀ t : State, t.heap = H → s.WarmedH t.vm → ab_Qc E r.1 r.2 (as.map (ab_rv E)).toArray s (.returned (some (ab_rv E v))) t := fun v hv t ht hW => ⟨by rw [hv]; rfl, by rw [ht, e1']; exact hI2.moved hW.alike, hS.F ht⟩
          show W _ _ _ _ _ _ _ _ _ _ _ _ _ _ _ (F0 m pc ls (st.map (ab_rv E)))
          rcases e3 with ⟨x, ty, rfl, g1, g2, g3⟩ | ⟨x, rfl, g1, g2⟩ | ⟨rfl, g1, g2⟩
          · have e4 : st = [.int x] := by rw [e2, g2]; rfl
            rw [e4]
            exact W.zret (v := x) hx hb (hr.trans g1) g3 (hq (.int x) g2) hS.2.2 hd hlocks
          · have e4 : st = [.long x] := by rw [e2, g2]; rfl
            rw [e4]
            exact W.lret (v := x) hx hb (hr.trans g1) (hq (.long x) g2) hS.2.2 hd hlocks
          · have e4 : st = [] := by rw [e2, g2]; rfl
            rw [e4]
            exact W.vret hx hb (hr.trans g1) (fun t ht hW => ⟨by rw [g2]; rfl, by rw [ht, e1']; exact hI2.moved hW.alike, hS.F ht⟩) hS.2.2 hd hlocks)
        F 0 (ab_ent mi.2.2.2.1 as) [] h 0 0 hg (by omega) (by omega)
      have hent := ab_entry hf hlen
      rw [lg_entry_eq]
      exact hgo s.heap [] _ hI va_S.rf hent
    · cases hg
