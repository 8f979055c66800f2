/-! the instructions that look at cells, or change them -/
theorem ab_rho_hi {E : ab_Env} {a : Nat} (h : 100 ≤ a) : ab_rho E a = E.1 + (a - 100) := if_neg (by omega)
theorem ab_rho_lo {E : ab_Env} {a : Nat} (h : a < 100) : ab_rho E a = E.2.1 a := if_pos h
theorem ab_P1 {D : va_G} {cl : List vw_C} {q : Nat × va_E} {H : Heap} (h : va_at D cl q H) : va_P D cl [q] H := fun k x hx => by
  have h0 : k < 1 := (List.getElem?_eq_some_iff.mp hx).1
  rw [show k = 0 by omega] at hx
  cases hx
  exact h
theorem ab_K1 {D : va_G} {cl : List vw_C} {s : State} {cA : ClassId} {ty : FieldType} (h : va_K D cl [] s) (h1 : ArrOfT s cA ty) (h2 : va_RA s cA ty) : va_K D cl [(cA, ty)] s := ⟨h.1, fun k x hx => by
  have h0 : k < 1 := (List.getElem?_eq_some_iff.mp hx).1
  rw [show k = 0 by omega] at hx
  cases hx
  exact ⟨h1, h2⟩⟩
theorem ab_in_iff {i : Int32} {n : Nat} (h : ab_in i n = true) : vp_in i n := by
  unfold ab_in at h
  have h' : ¬ (i < 0 ∨ n ≤ i.toNatClampNeg) := of_decide_eq_true h
  exact h'
theorem ab_ob_eq {h : ab_H} {a : Nat} {x : Nat × List Value} (hq : ab_ob h a = some x) : h.2.2 a = some (.inr (.inl x)) := by
  unfold ab_ob at hq
  split at hq
  · rename_i y hy
    cases hq
    exact hy
  · cases hq
theorem ab_wa_eq {h : ab_H} {a : Nat} {x : FieldType × vp_A} (hq : ab_wa h a = some x) : h.2.2 a = some (.inl x) := by
  unfold ab_wa at hq
  split at hq
  · rename_i y hy
    cases hq
    exact hy
  · cases hq
theorem ab_ra_eq {h : ab_H} {a : Nat} {x : FieldType × vp_A} (hq : ab_ra h a = some x) : h.2.2 a = some (.inl x) ∨ h.2.2 a = some (.inr (.inr x)) := by
  unfold ab_ra at hq
  split at hq
  · rename_i y hy
    cases hq
    exact Or.inl hy
  · rename_i y hy
    cases hq
    exact Or.inr hy
  · cases hq
theorem ab_mx_1 (E : ab_Env) (x : vp_A) : (ab_mx E x).1 = x.1 := by
  rcases x with ⟨n, f | f | f | f | f⟩ <;> rfl
theorem ab_rv_df (E : ab_Env) (ty : FieldType) : ab_rv E (defaultValue ty) = defaultValue ty := by
  cases ty <;> rfl
theorem ab_fit_ok {E : ab_Env} {ty : FieldType} {v : Value} (h : ab_fit ty v = true) : narrow ty (ab_rv E v) = ab_rv E v ∧ fits ty (ab_rv E v) = true := by
  unfold ab_fit at h
  split at h
  · exact ⟨rfl, rfl⟩
  · exact ⟨rfl, rfl⟩
  · rename_i x
    have h := of_decide_eq_true h
    rcases h with rfl | rfl
    · exact ⟨rfl, rfl⟩
    · exact ⟨rfl, rfl⟩
  · exact ⟨rfl, rfl⟩
  · exact ⟨rfl, rfl⟩
  · cases h
theorem ab_ugt0 : ∀ w ∈ wsX00, w ∈ ab_gt := by decide +kernel
theorem ab_ugt1 : ∀ w ∈ wsX10, w ∈ ab_gt := by decide +kernel
theorem ab_ugt2 : ∀ w ∈ wsX20, w ∈ ab_gt := by decide +kernel
theorem ab_ugt3 : ∀ w ∈ wsX30, w ∈ ab_gt := by decide +kernel
theorem ab_ugt4 : ∀ w ∈ wsX40, w ∈ ab_gt := by decide +kernel
theorem ab_ugt5 : ∀ w ∈ wsX50, w ∈ ab_gt := by decide +kernel
theorem ab_ugt6 : ∀ w ∈ wsX60, w ∈ ab_gt := by decide +kernel
theorem ab_ugt7 : ∀ w ∈ wsX70, w ∈ ab_gt := by decide +kernel
theorem ab_ugt8 : ∀ w ∈ wsX80, w ∈ ab_gt := by decide +kernel
theorem ab_ugt9 : ∀ w ∈ wsX90, w ∈ ab_gt := by decide +kernel
theorem ab_ugt {ci : Nat} {r : vw_C} (h : vwCl[ci]? = some r) : ∀ w ∈ u_ws r.1 r.2.1 r.2.2, w ∈ ab_gt := by
  match ci, h with
  | 0, h => cases h; exact ab_ugt0
  | 1, h => cases h; exact ab_ugt1
  | 2, h => cases h; exact ab_ugt2
  | 3, h => cases h; exact ab_ugt3
  | 4, h => cases h; exact ab_ugt4
  | 5, h => cases h; exact ab_ugt5
  | 6, h => cases h; exact ab_ugt6
  | 7, h => cases h; exact ab_ugt7
  | 8, h => cases h; exact ab_ugt8
  | 9, h => cases h; exact ab_ugt9
  | k + 10, h => simp [vwCl] at h
theorem ab_tyok {ci : Nat} {r : vw_C} (h : vwCl[ci]? = some r) : ∀ k, k < r.2.2 → parseFieldDescriptor (r.2.1 k).2.2.1 = some (ab_ty ci k) := by
  match ci, h with
  | 0, h => cases h; exact tyX0_ok
  | 1, h => cases h; exact tyX1_ok
  | 2, h => cases h; exact tyX2_ok
  | 3, h => cases h; exact tyX3_ok
  | 4, h => cases h; exact tyX4_ok
  | 5, h => cases h; exact tyX5_ok
  | 6, h => cases h; exact tyX6_ok
  | 7, h => cases h; exact tyX7_ok
  | 8, h => cases h; exact tyX8_ok
  | 9, h => cases h; exact tyX9_ok
  | k + 10, h => simp [vwCl] at h
theorem ab_nmok {ci : Nat} {r : vw_C} (h : vwCl[ci]? = some r) : ∀ a, a < r.2.2 → ∀ b, b < r.2.2 → a ≠ b → (r.2.1 a).2.1 ≠ (r.2.1 b).2.1 := by
  match ci, h with
  | 0, h => cases h; exact nmX0
  | 1, h => cases h; exact nmX1
  | 2, h => cases h; exact nmX2
  | 3, h => cases h; exact nmX3
  | 4, h => cases h; exact nmX4
  | 5, h => cases h; exact nmX5
  | 6, h => cases h; exact nmX6
  | 7, h => cases h; exact nmX7
  | 8, h => cases h; exact nmX8
  | 9, h => cases h; exact nmX9
  | k + 10, h => simp [vwCl] at h
theorem ab_inst {ci : Nat} {r : vw_C} (h : vwCl[ci]? = some r) : Cond.instantiable r.1 r.2.2 ∈ ab_gt ∧ Cond.initialized r.1 ∈ ab_gt := by
  match ci, h with
  | 0, h => cases h; exact by decide +kernel
  | 1, h => cases h; exact by decide +kernel
  | 2, h => cases h; exact by decide +kernel
  | 3, h => cases h; exact by decide +kernel
  | 4, h => cases h; exact by decide +kernel
  | 5, h => cases h; exact by decide +kernel
  | 6, h => cases h; exact by decide +kernel
  | 7, h => cases h; exact by decide +kernel
  | 8, h => cases h; exact by decide +kernel
  | 9, h => cases h; exact by decide +kernel
  | k + 10, h => simp [vwCl] at h
theorem ab_arrs : Cond.arrayClass .int ∈ ab_gt ∧ Cond.arrayClass .byte ∈ ab_gt ∧ Cond.arrayClass .boolean ∈ ab_gt ∧ Cond.arrayClass .long ∈ ab_gt := by decide +kernel
theorem ab_sys : Cond.native arraycopyName ∈ ab_gt ∧ Cond.static arraycopyName ∈ ab_gt ∧ Cond.initialized "java/lang/System" ∈ ab_gt := by decide +kernel
theorem ab_obj : Cond.instanceMethod objectInit ∈ ab_gt ∧ Cond.code objectInit ⟨#[0xb1]⟩ 1 none ∈ ab_gt := by decide +kernel
section AB7
variable {p : Program} {l : Launch} {e : Env} {R : Room} {s : State} {m : MethodId} {args : Array Value} {below : List Frame} {meth : Method} {c : Code} {Q : State → Prop} {E : ab_Env} {ml : Nat} {cc : ByteArray} {own : String} {cells slots pc len pl : Nat} {L : ab_L} {st : List Value} {h : ab_H} {S : ab_S} {raw : Instr} {ini : Bool}
theorem ab_w_gets (hx : p.tables.exec = Jvm.exec) (hb : c.code = cc) {a : Nat} (hown : s.vm.findClass own = some m.cls) (hts : ∀ w ∈ ab_gt, w.before args s = true) (hE : ab_EF E s s.heap) (hd : decode cc pc = .ok (raw, len)) (hc : ab_chk1 own ml ini pc raw len (.getstatic a) pl = true) (hs : ab_go1 (pc + len) L ((if a = 4 then .int 1 else if a = 3 then .retAddr 0 else .ref a) :: st) h = some (.inl S)) (k : ab_N p l e R s m args below meth c Q E ml S h cells slots) : ab_W p l e R s m args below meth c Q E ml (pc, L, st, h) cells slots := by
  obtain rfl := ab_go1_eq hs
  intro H locs ls hI hS hL
  have kk := k cells slots (by simp) (by simp) H locs ls hI hS hL
  simp only [ab_chk1] at hc
  split at hc
  · simp only [Bool.and_eq_true, decide_eq_true_eq] at hc
    obtain ⟨rfl, h2, h3⟩ := hc
    exact va_gets hx hb (hE.2.1 a h2.1 h2.2) hS hown (hts _ (ab_wd_in h3)) (fun _ q => q) hd kk
  · cases hc
theorem ab_w_getf (hx : p.tables.exec = Jvm.exec) (hb : c.code = cc) {n : Nat} (hown : s.vm.findClass own = some m.cls) (hts : ∀ w ∈ ab_gt, w.before args s = true) (hE : ab_EF E s s.heap) (hd : decode cc pc = .ok (raw, len)) (hc : ab_chk1 own ml ini pc raw len (.getfield n) pl = true) (hs : (match st with
    | .ref a :: r => (match ab_ob h a with
      | some (ci, fs) => if ci = n / 100 then (match fs[n % 100]? with
        | some v => ab_go1 (pc + len) L (v :: r) h
        | none => none) else none
      | none => none)
    | _ => none) = some (.inl S)) (k : ab_N p l e R s m args below meth c Q E ml S h cells slots) : ab_W p l e R s m args below meth c Q E ml (pc, L, st, h) cells slots := by
  split at hs
  · rename_i a r
    split at hs
    · rename_i ci fs hob
      split at hs
      · rename_i hci
        split at hs
        · rename_i v hv
          obtain rfl := ab_go1_eq hs
          intro H locs ls hI hS hL
          have kk := k cells slots (by simp) (by simp) H locs ls hI hS hL
          show W p l e R s m args below meth c H locs cells slots Q (F0 m pc ls (.ref (ab_rho E a) :: r.map (ab_rv E)))
          simp only [ab_chk1] at hc
          split at hc
          · simp only [Bool.and_eq_true, decide_eq_true_eq] at hc
            obtain ⟨rfl, hc⟩ := hc
            rcases hI.2.2 a _ (ab_ob_eq hob) with ⟨g0, g1, r0, g2, g3⟩ | ⟨g1, g2, g3, g4, g5, g6⟩
            · have hn : ¬ n / 100 = 90 := by have : ci < 10 := g0; omega
              rw [if_neg hn] at hc
              simp only [Bool.and_eq_true, decide_eq_true_eq] at hc
              obtain ⟨h1, h2, h3⟩ := hc
              subst hci
              have g2' : vwCl[n / 100]? = some r0 := g2
              have e2 : ab_nf (n / 100) = r0.2.2 := by simp only [ab_nf, g2']
              have e3 : ab_fl (n / 100) (n % 100) = r0.2.1 (n % 100) := by simp only [ab_fl, g2']
              rw [e3] at h3
              rw [e2] at h2
              rw [ab_rho_hi g1]
              exact va_get (C := r0.1) (T := r0.2.1) (N := r0.2.2) (ci := n / 100) hx hb hts (ab_ugt g2') hown hE.1 (ab_P1 (q := (E.1 + (a - 100), .inr (n / 100, fs.map (ab_rv E)))) ⟨r0, g2, g3⟩) 0 rfl g2' (n % 100) h2 (hts _ (ab_wd_in h3)) (fun _ q => q) (v := ab_rv E v) (by rw [List.getElem?_map, hv]; rfl) hd kk
            · have hn : n / 100 = 90 := by have : ci = 90 := g1; omega
              rw [if_pos hn] at hc
              have g3' : fs = [.ref (a + 20), .int 0] := g3
              rw [ab_rho_lo (by omega)]
              split at hc
              · rename_i hn2
                subst hn2
                rw [g3'] at hv
                have hv' : v = .ref (a + 20) := by simpa using hv.symm
                subst hv'
                obtain ⟨cf, k9, fi, f9, cell, q1, q2, q3, q4, q5, q6⟩ := g5
                refine W.getf hx hb hown (hts _ (ab_wd_in hc)) q1 q2 q3 q4 (v := .ref (E.2.1 (a + 20))) q5 rfl rfl hd ?_
                rw [← ab_rho_lo (E := E) (a := a + 20) (by omega)]
                exact kk
              · simp only [Bool.and_eq_true, decide_eq_true_eq] at hc
                obtain ⟨rfl, hc⟩ := hc
                rw [g3'] at hv
                have hv' : v = .int 0 := by simpa using hv.symm
                subst hv'
                obtain ⟨cf, k9, fi, f9, cell, q1, q2, q3, q4, q5, q6⟩ := g6
                exact W.getf hx hb hown (hts _ (ab_wd_in hc)) q1 q2 q3 q4 (v := .int 0) q5 rfl rfl hd kk
          · cases hc
        · cases hs
      · cases hs
    · cases hs
  · cases hs
theorem ab_w_putf (hx : p.tables.exec = Jvm.exec) (hb : c.code = cc) {n : Nat} (hown : s.vm.findClass own = some m.cls) (hts : ∀ w ∈ ab_gt, w.before args s = true) (hE : ab_EF E s s.heap) (hin : ini = true → meth.name = "<init>") (hd : decode cc pc = .ok (raw, len)) (hc : ab_chk1 own ml ini pc raw len (.putfield n) pl = true) (hs : (match st with
    | v :: .ref a :: r => (match ab_ob h a with
      | some (ci, fs) => if ci = n / 100 ∧ n % 100 < fs.length ∧ ab_fit (ab_ty (n / 100) (n % 100)) v = true then ab_go1 (pc + len) L r (ab_put h a (.inr (.inl (ci, fs.set (n % 100) v)))) else none
      | none => none)
    | _ => none) = some (.inl S)) (k : ab_N p l e R s m args below meth c Q E ml S h cells slots) : ab_W p l e R s m args below meth c Q E ml (pc, L, st, h) cells slots := by
  split at hs
  · rename_i v a r
    split at hs
    · rename_i ci fs hob
      split at hs
      · rename_i hq
        obtain ⟨hci, hlen, hfit⟩ := hq
        obtain rfl := ab_go1_eq hs
        intro H locs ls hI hS hL
        show W p l e R s m args below meth c H locs cells slots Q (F0 m pc ls (ab_rv E v :: .ref (ab_rho E a) :: r.map (ab_rv E)))
        simp only [ab_chk1] at hc
        split at hc
        · simp only [Bool.and_eq_true, decide_eq_true_eq, Bool.or_eq_true, Bool.not_eq_true'] at hc
          obtain ⟨rfl, h1, h2, h3, h4⟩ := hc
          rcases hI.2.2 a _ (ab_ob_eq hob) with ⟨g0, g1, r0, g2, cell, q1, q2, q3, q4⟩ | ⟨g1, -⟩
          · subst hci
            have g2' : vwCl[n / 100]? = some r0 := g2
            have e2 : ab_nf (n / 100) = r0.2.2 := by simp only [ab_nf, g2']
            have e3 : ab_fl (n / 100) (n % 100) = r0.2.1 (n % 100) := by simp only [ab_fl, g2']
            rw [e3] at h3 h4
            rw [e2] at h2
            rw [ab_rho_hi g1]
            have hK := hE.1
            have hap := va_apart (own := own) hts (ab_ugt g2') (ab_ty (n / 100)) (ab_tyok g2') (ab_nmok g2') hK g2'
            obtain ⟨hSl, hfc, kC, hkC, hkind⟩ := hK.1 _ _ g2'
            obtain ⟨cf, kf, fi, f, hi, hsl⟩ := hSl (n % 100) h2
            have hlay := hts _ (ab_ugt g2' _ (u_in_lay h2))
            have hst := (u_facts hfc hkC (u_lays hts (ab_ugt g2') h2) hi).1
            obtain ⟨hn1, hn2⟩ := ab_fit_ok (E := E) hfit
            have fin : ∀ H' : Heap, H'[E.1 + (a - 100)]? = some (cell.setSlot f.slot (ab_rv E v)) → H'.size = H.size → (∀ q, q ≠ E.1 + (a - 100) → H'[q]? = H[q]?) → W p l e R s m args below meth c H' (locs ++ [⟨E.1 + (a - 100), f.slot⟩]) cells slots Q (F0 m (pc + 3) ls (r.map (ab_rv E))) := by
              intro H' e1 z1 o1
              rw [hsl] at e1 ⊢
              refine k cells slots (by simp [ab_put]) (by simp [ab_put]) H' _ ls (hI.put g1 z1 o1 (Or.inl ⟨g0, g1, r0, g2, ?_⟩)) (hS.put z1 o1 (Nat.le_add_right _ _)) hL
              show t_OB _ _ _ _ H' (vp_V ((fs.set (n % 100) v).map (ab_rv E)))
              rw [List.map_set]
              exact t_OB.to (V := updV (vp_V (fs.map (ab_rv E))) (n % 100) (ab_rv E v)) ⟨_, e1, q2, q3, t_set q4 hap h2 _⟩ (fun j _ => vp_updV_set (by rw [List.length_map]; exact hlen) _ j)
            by_cases hfin : (r0.2.1 (n % 100)).2.2.2 = true
            · rw [hfin] at h4
              rcases h4 with h4 | ⟨h5, h6⟩
              · cases h4
              · unfold u_lay at hlay
                rw [if_pos hfin] at hlay
                have hcf : m.cls = cf := by
                  obtain ⟨_, _, c', _, _, _, -, -, hf', -, -, -, hown2, -⟩ := Cond.laysFinal_spec hlay
                  have e1 : c' = cf := by have := hi.symm.trans hf'; simp at this; exact this.1.symm
                  rw [h6] at hown2
                  rw [← e1]; exact Option.some.inj (hown.symm.trans hown2)
                have h7 := u_fits hfc hkC hkind (Or.inr hlay) hi (ab_tyok g2' _ h2) hn1 hn2
                exact W.putFinK hx hb hown (hts _ (ab_wd_in h3)) hi hst hcf (hin h5) (by rw [q2]; exact h7) q1 q3 (by rw [hsl]; exact k2_hasslot (q4 _ h2)) rfl rfl hd fin
            · unfold u_lay at hlay
              rw [if_neg hfin] at hlay
              have h7 := u_store hfc hkC hkind hlay hi (ab_tyok g2' _ h2) hn1 hn2
              exact W.putK hx hb (f := f) ⟨hown, hts _ (ab_wd_in h3), ⟨_, _, _, hi⟩, hst⟩ (by rw [q2]; exact h7) q1 q3 (by rw [hsl]; exact k2_hasslot (q4 _ h2)) rfl rfl hd fin
          · have : ci = 90 := g1
            omega
        · cases hc
      · cases hs
    · cases hs
  · cases hs
theorem ab_w_iald (hx : p.tables.exec = Jvm.exec) (hb : c.code = cc) (hE : ab_EF E s s.heap) (hd : decode cc pc = .ok (raw, len)) (hc : ab_chk1 own ml ini pc raw len .iaload pl = true) (hs : (match st with
    | .int i :: .ref a :: r => (match ab_ra h a with
      | some (.int, n, .inl f) => if ab_in i n then ab_go1 (pc + len) L (.int (f i.toNatClampNeg) :: r) h else none
      | _ => none)
    | _ => none) = some (.inl S)) (k : ab_N p l e R s m args below meth c Q E ml S h cells slots) : ab_W p l e R s m args below meth c Q E ml (pc, L, st, h) cells slots := by
  simp only [ab_chk1, Bool.and_eq_true, decide_eq_true_eq] at hc
  obtain ⟨rfl, rfl⟩ := hc
  split at hs
  · rename_i i a r
    split at hs
    · rename_i n f hra
      split at hs
      · rename_i hi
        obtain rfl := ab_go1_eq hs
        intro H locs ls hI hS hL
        have kk := k cells slots (by simp) (by simp) H locs ls hI hS hL
        show W p l e R s m args below meth c H locs cells slots Q (F0 m pc ls (.int i :: .ref (ab_rho E a) :: r.map (ab_rv E)))
        have hi := ab_in_iff hi
        rcases ab_ra_eq hra with hq | hq
        · obtain ⟨g1, cA, g2, g3, g4⟩ := hI.2.2 a _ hq
          rw [ab_rho_hi g1]
          exact va_iald hx hb (ab_K1 hE.1 g3 g4) (ab_P1 (q := (E.1 + (a - 100), .inl (cA, n, .inl f))) g2) 0 0 rfl rfl hi hd kk
        · obtain ⟨g1, cell, q1, q2, q3, q4, q5, q6, q7⟩ := hI.2.2 a _ hq
          rw [ab_rho_lo g1]
          have hlt : i.toNatClampNeg < n := Nat.not_le.mp fun q => hi (Or.inr q)
          exact W.iald hx hb q1 q2 q3 (fun q => hi (q.elim Or.inl (fun q => Or.inr (Nat.le_trans q4 q)))) (q6 _ hlt) rfl rfl hd kk
      · cases hs
    · cases hs
  · cases hs
theorem ab_w_bald (hx : p.tables.exec = Jvm.exec) (hb : c.code = cc) (hE : ab_EF E s s.heap) (hd : decode cc pc = .ok (raw, len)) (hc : ab_chk1 own ml ini pc raw len .baload pl = true) (hs : (match st with
    | .int i :: .ref a :: r => (match ab_ra h a with
      | some (.byte, n, .inl f) => if ab_in i n then ab_go1 (pc + len) L (.int (f i.toNatClampNeg) :: r) h else none
      | some (.boolean, n, .inl f) => if ab_in i n then ab_go1 (pc + len) L (.int (f i.toNatClampNeg) :: r) h else none
      | _ => none)
    | _ => none) = some (.inl S)) (k : ab_N p l e R s m args below meth c Q E ml S h cells slots) : ab_W p l e R s m args below meth c Q E ml (pc, L, st, h) cells slots := by
  simp only [ab_chk1, Bool.and_eq_true, decide_eq_true_eq] at hc
  obtain ⟨rfl, rfl⟩ := hc
  split at hs
  · rename_i i a r
    split at hs
    · rename_i n f hra
      split at hs
      · rename_i hi
        obtain rfl := ab_go1_eq hs
        intro H locs ls hI hS hL
        have kk := k cells slots (by simp) (by simp) H locs ls hI hS hL
        show W p l e R s m args below meth c H locs cells slots Q (F0 m pc ls (.int i :: .ref (ab_rho E a) :: r.map (ab_rv E)))
        have hi := ab_in_iff hi
        rcases ab_ra_eq hra with hq | hq
        · obtain ⟨g1, cA, g2, g3, g4⟩ := hI.2.2 a _ hq
          rw [ab_rho_hi g1]
          exact va_bald hx hb (ab_K1 hE.1 g3 g4) (ab_P1 (q := (E.1 + (a - 100), .inl (cA, n, .inl f))) g2) 0 0 rfl rfl hi hd kk
        · obtain ⟨g1, cell, q1, q2, q3, q4, q5, q6, q7⟩ := hI.2.2 a _ hq
          rw [ab_rho_lo g1]
          have hlt : i.toNatClampNeg < n := Nat.not_le.mp fun q => hi (Or.inr q)
          exact W.bald hx hb q1 q2 q3 (fun q => hi (q.elim Or.inl (fun q => Or.inr (Nat.le_trans q4 q)))) (q6 _ hlt) rfl rfl hd kk
      · cases hs
    · rename_i n f hra
      split at hs
      · rename_i hi
        obtain rfl := ab_go1_eq hs
        intro H locs ls hI hS hL
        have kk := k cells slots (by simp) (by simp) H locs ls hI hS hL
        show W p l e R s m args below meth c H locs cells slots Q (F0 m pc ls (.int i :: .ref (ab_rho E a) :: r.map (ab_rv E)))
        have hi := ab_in_iff hi
        rcases ab_ra_eq hra with hq | hq
        · obtain ⟨g1, cA, g2, g3, g4⟩ := hI.2.2 a _ hq
          rw [ab_rho_hi g1]
          exact va_zald hx hb (ab_K1 hE.1 g3 g4) (ab_P1 (q := (E.1 + (a - 100), .inl (cA, n, .inl f))) g2) 0 0 rfl rfl hi hd kk
        · obtain ⟨g1, cell, q1, q2, q3, q4, q5, q6, q7⟩ := hI.2.2 a _ hq
          rw [ab_rho_lo g1]
          have hlt : i.toNatClampNeg < n := Nat.not_le.mp fun q => hi (Or.inr q)
          exact W.zald hx hb q1 q2 q3 (fun q => hi (q.elim Or.inl (fun q => Or.inr (Nat.le_trans q4 q)))) (q6 _ hlt) rfl rfl hd kk
      · cases hs
    · cases hs
  · cases hs
theorem ab_w_lald (hx : p.tables.exec = Jvm.exec) (hb : c.code = cc) (hE : ab_EF E s s.heap) (hd : decode cc pc = .ok (raw, len)) (hc : ab_chk1 own ml ini pc raw len .laload pl = true) (hs : (match st with
    | .int i :: .ref a :: r => (match ab_ra h a with
      | some (.long, n, .inr (.inl f)) => if ab_in i n then ab_go1 (pc + len) L (.long (f i.toNatClampNeg) :: r) h else none
      | _ => none)
    | _ => none) = some (.inl S)) (k : ab_N p l e R s m args below meth c Q E ml S h cells slots) : ab_W p l e R s m args below meth c Q E ml (pc, L, st, h) cells slots := by
  simp only [ab_chk1, Bool.and_eq_true, decide_eq_true_eq] at hc
  obtain ⟨rfl, rfl⟩ := hc
  split at hs
  · rename_i i a r
    split at hs
    · rename_i n f hra
      split at hs
      · rename_i hi
        obtain rfl := ab_go1_eq hs
        intro H locs ls hI hS hL
        have kk := k cells slots (by simp) (by simp) H locs ls hI hS hL
        show W p l e R s m args below meth c H locs cells slots Q (F0 m pc ls (.int i :: .ref (ab_rho E a) :: r.map (ab_rv E)))
        have hi := ab_in_iff hi
        rcases ab_ra_eq hra with hq | hq
        · obtain ⟨g1, cA, g2, g3, g4⟩ := hI.2.2 a _ hq
          rw [ab_rho_hi g1]
          exact va_lald hx hb (ab_K1 hE.1 g3 g4) (ab_P1 (q := (E.1 + (a - 100), .inl (cA, n, .inr (.inl f)))) g2) 0 0 rfl rfl hi hd kk
        · obtain ⟨g1, cell, q1, q2, q3, q4, q5, q6, q7⟩ := hI.2.2 a _ hq
          rw [ab_rho_lo g1]
          have hlt : i.toNatClampNeg < n := Nat.not_le.mp fun q => hi (Or.inr q)
          exact W.lald hx hb q1 q2 q3 (fun q => hi (q.elim Or.inl (fun q => Or.inr (Nat.le_trans q4 q)))) (q6 _ hlt) rfl rfl hd kk
      · cases hs
    · cases hs
  · cases hs
theorem ab_w_aald (hx : p.tables.exec = Jvm.exec) (hb : c.code = cc)  (hd : decode cc pc = .ok (raw, len)) (hc : ab_chk1 own ml ini pc raw len .aaload pl = true) (hs : (match st with
    | .int i :: .ref a :: r => (match ab_wa h a with
      | some (.object _, n, .inr (.inr (.inr (.inr f)))) => if ab_in i n then (match f i.toNatClampNeg with
        | some v => ab_go1 (pc + len) L (.ref v :: r) h
        | none => none) else none
      | some (.array _, n, .inr (.inr (.inr (.inr f)))) => if ab_in i n then (match f i.toNatClampNeg with
        | some v => ab_go1 (pc + len) L (.ref v :: r) h
        | none => none) else none
      | _ => none)
    | _ => none) = some (.inl S)) (k : ab_N p l e R s m args below meth c Q E ml S h cells slots) : ab_W p l e R s m args below meth c Q E ml (pc, L, st, h) cells slots := by
  simp only [ab_chk1, Bool.and_eq_true, decide_eq_true_eq] at hc
  obtain ⟨rfl, rfl⟩ := hc
  split at hs
  · rename_i i a r
    split at hs
    · rename_i C n f hra
      split at hs
      · rename_i hi
        split at hs
        · rename_i v hv
          obtain rfl := ab_go1_eq hs
          intro H locs ls hI hS hL
          have kk := k cells slots (by simp) (by simp) H locs ls hI hS hL
          show W p l e R s m args below meth c H locs cells slots Q (F0 m pc ls (.int i :: .ref (ab_rho E a) :: r.map (ab_rv E)))
          have hi := ab_in_iff hi
          obtain ⟨g1, cA, g2, g3, g4⟩ := hI.2.2 a _ (ab_wa_eq hra)
          rw [ab_rho_hi g1]
          have hlt : i.toNatClampNeg < n := Nat.not_le.mp fun q => hi (Or.inr q)
          exact W.aald (v := .ref (ab_rho E v)) (ty := .object C) hx hb g2 (g3 n (fun j => va_rf ((f j).map (ab_rho E)))) rfl (fun q => by cases q) (by show ¬ (i < 0 ∨ (arrV _ _ _).slots.size ≤ _); rw [arrV_size]; exact hi) (by show (arrV cA n (fun j => va_rf ((f j).map (ab_rho E)))).slots[i.toNatClampNeg]? = _; rw [arrV_read _ _ hlt, hv]; rfl) rfl rfl hd kk
        · cases hs
      · cases hs
    · rename_i C n f hra
      split at hs
      · rename_i hi
        split at hs
        · rename_i v hv
          obtain rfl := ab_go1_eq hs
          intro H locs ls hI hS hL
          have kk := k cells slots (by simp) (by simp) H locs ls hI hS hL
          show W p l e R s m args below meth c H locs cells slots Q (F0 m pc ls (.int i :: .ref (ab_rho E a) :: r.map (ab_rv E)))
          have hi := ab_in_iff hi
          obtain ⟨g1, cA, g2, g3, g4⟩ := hI.2.2 a _ (ab_wa_eq hra)
          rw [ab_rho_hi g1]
          have hlt : i.toNatClampNeg < n := Nat.not_le.mp fun q => hi (Or.inr q)
          exact W.aald (v := .ref (ab_rho E v)) (ty := .array C) hx hb g2 (g3 n (fun j => va_rf ((f j).map (ab_rho E)))) rfl (fun q => by cases q) (by show ¬ (i < 0 ∨ (arrV _ _ _).slots.size ≤ _); rw [arrV_size]; exact hi) (by show (arrV cA n (fun j => va_rf ((f j).map (ab_rho E)))).slots[i.toNatClampNeg]? = _; rw [arrV_read _ _ hlt, hv]; rfl) rfl rfl hd kk
        · cases hs
      · cases hs
    · cases hs
  · cases hs
theorem ab_w_iast (hx : p.tables.exec = Jvm.exec) (hb : c.code = cc)  (hd : decode cc pc = .ok (raw, len)) (hc : ab_chk1 own ml ini pc raw len .iastore pl = true) (hs : (match st with
    | .int x :: .int i :: .ref a :: r => (match ab_wa h a with
      | some (.int, n, .inl f) => if ab_in i n then ab_go1 (pc + len) L r (ab_put h a (.inl (.int, n, .inl (upd f i.toNatClampNeg x)))) else none
      | _ => none)
    | _ => none) = some (.inl S)) (k : ab_N p l e R s m args below meth c Q E ml S h cells slots) : ab_W p l e R s m args below meth c Q E ml (pc, L, st, h) cells slots := by
  simp only [ab_chk1, Bool.and_eq_true, decide_eq_true_eq] at hc
  obtain ⟨rfl, rfl⟩ := hc
  split at hs
  · rename_i x i a r
    split at hs
    · rename_i n f hra
      split at hs
      · rename_i hi
        obtain rfl := ab_go1_eq hs
        intro H locs ls hI hS hL
        show W p l e R s m args below meth c H locs cells slots Q (F0 m pc ls (.int x :: .int i :: .ref (ab_rho E a) :: r.map (ab_rv E)))
        have hi := ab_in_iff hi
        obtain ⟨g1, cA, g2, g3, g4⟩ := hI.2.2 a _ (ab_wa_eq hra)
        rw [ab_rho_hi g1]
        refine W.iast hx hb g2 (g3 n (fun j => .int (f j))) (fun q => by cases q) (by show ¬ (i < 0 ∨ (arrV _ _ _).slots.size ≤ _); rw [arrV_size]; exact hi) rfl rfl hd fun H1 e1 z1 o1 => ?_
        refine k cells slots (by simp [ab_put]) (by simp [ab_put]) H1 _ ls (hI.put g1 z1 o1 ⟨g1, cA, ?_, g3, g4⟩) (hS.put z1 o1 (Nat.le_add_right _ _)) hL
        rw [e1]
        show some ((vp_cell cA (n, .inl f)).setSlot _ _) = some (vp_cell cA (n, .inl (upd f i.toNatClampNeg x)))
        rw [vp_cell_i, vp_cell_i, arrV_store]
        congr 2
        funext q
        by_cases hq : q = i.toNatClampNeg
        · subst hq
          simp [updV, upd, narrow]
        · simp [updV, upd, hq]
      · cases hs
    · cases hs
  · cases hs
theorem ab_w_bast (hx : p.tables.exec = Jvm.exec) (hb : c.code = cc)  (hd : decode cc pc = .ok (raw, len)) (hc : ab_chk1 own ml ini pc raw len .bastore pl = true) (hs : (match st with
    | .int x :: .int i :: .ref a :: r => (match ab_wa h a with
      | some (.byte, n, .inl f) => if ab_in i n then ab_go1 (pc + len) L r (ab_put h a (.inl (.byte, n, .inl (upd f i.toNatClampNeg x.toInt8.toInt32)))) else none
      | some (.boolean, n, .inl f) => if ab_in i n then ab_go1 (pc + len) L r (ab_put h a (.inl (.boolean, n, .inl (upd f i.toNatClampNeg (x &&& 1))))) else none
      | _ => none)
    | _ => none) = some (.inl S)) (k : ab_N p l e R s m args below meth c Q E ml S h cells slots) : ab_W p l e R s m args below meth c Q E ml (pc, L, st, h) cells slots := by
  simp only [ab_chk1, Bool.and_eq_true, decide_eq_true_eq] at hc
  obtain ⟨rfl, rfl⟩ := hc
  split at hs
  · rename_i x i a r
    split at hs
    · rename_i n f hra
      split at hs
      · rename_i hi
        obtain rfl := ab_go1_eq hs
        intro H locs ls hI hS hL
        show W p l e R s m args below meth c H locs cells slots Q (F0 m pc ls (.int x :: .int i :: .ref (ab_rho E a) :: r.map (ab_rv E)))
        have hi := ab_in_iff hi
        obtain ⟨g1, cA, g2, g3, g4⟩ := hI.2.2 a _ (ab_wa_eq hra)
        rw [ab_rho_hi g1]
        refine W.bast hx hb g2 (g3 n (fun j => .int (f j))) (fun q => by cases q) (by show ¬ (i < 0 ∨ (arrV _ _ _).slots.size ≤ _); rw [arrV_size]; exact hi) rfl rfl hd fun H1 e1 z1 o1 => ?_
        refine k cells slots (by simp [ab_put]) (by simp [ab_put]) H1 _ ls (hI.put g1 z1 o1 ⟨g1, cA, ?_, g3, g4⟩) (hS.put z1 o1 (Nat.le_add_right _ _)) hL
        rw [e1]
        show some ((vp_cell cA (n, .inl f)).setSlot _ _) = some (vp_cell cA (n, .inl (upd f i.toNatClampNeg x.toInt8.toInt32)))
        rw [vp_cell_i, vp_cell_i, arrV_store]
        congr 2
        funext q
        by_cases hq : q = i.toNatClampNeg
        · subst hq
          simp [updV, upd, narrow]
        · simp [updV, upd, hq]
      · cases hs
    · rename_i n f hra
      split at hs
      · rename_i hi
        obtain rfl := ab_go1_eq hs
        intro H locs ls hI hS hL
        show W p l e R s m args below meth c H locs cells slots Q (F0 m pc ls (.int x :: .int i :: .ref (ab_rho E a) :: r.map (ab_rv E)))
        have hi := ab_in_iff hi
        obtain ⟨g1, cA, g2, g3, g4⟩ := hI.2.2 a _ (ab_wa_eq hra)
        rw [ab_rho_hi g1]
        refine W.zast hx hb g2 (g3 n (fun j => .int (f j))) (fun q => by cases q) (by show ¬ (i < 0 ∨ (arrV _ _ _).slots.size ≤ _); rw [arrV_size]; exact hi) rfl rfl hd fun H1 e1 z1 o1 => ?_
        refine k cells slots (by simp [ab_put]) (by simp [ab_put]) H1 _ ls (hI.put g1 z1 o1 ⟨g1, cA, ?_, g3, g4⟩) (hS.put z1 o1 (Nat.le_add_right _ _)) hL
        rw [e1]
        show some ((vp_cell cA (n, .inl f)).setSlot _ _) = some (vp_cell cA (n, .inl (upd f i.toNatClampNeg (x &&& 1))))
        rw [vp_cell_i, vp_cell_i, arrV_store]
        congr 2
        funext q
        by_cases hq : q = i.toNatClampNeg
        · subst hq
          simp [updV, upd, narrow]
        · simp [updV, upd, hq]
      · cases hs
    · cases hs
  · cases hs
theorem ab_w_last (hx : p.tables.exec = Jvm.exec) (hb : c.code = cc)  (hd : decode cc pc = .ok (raw, len)) (hc : ab_chk1 own ml ini pc raw len .lastore pl = true) (hs : (match st with
    | .long x :: .int i :: .ref a :: r => (match ab_wa h a with
      | some (.long, n, .inr (.inl f)) => if ab_in i n then ab_go1 (pc + len) L r (ab_put h a (.inl (.long, n, .inr (.inl (vp_updL f i.toNatClampNeg x))))) else none
      | _ => none)
    | _ => none) = some (.inl S)) (k : ab_N p l e R s m args below meth c Q E ml S h cells slots) : ab_W p l e R s m args below meth c Q E ml (pc, L, st, h) cells slots := by
  simp only [ab_chk1, Bool.and_eq_true, decide_eq_true_eq] at hc
  obtain ⟨rfl, rfl⟩ := hc
  split at hs
  · rename_i x i a r
    split at hs
    · rename_i n f hra
      split at hs
      · rename_i hi
        obtain rfl := ab_go1_eq hs
        intro H locs ls hI hS hL
        show W p l e R s m args below meth c H locs cells slots Q (F0 m pc ls (.long x :: .int i :: .ref (ab_rho E a) :: r.map (ab_rv E)))
        have hi := ab_in_iff hi
        obtain ⟨g1, cA, g2, g3, g4⟩ := hI.2.2 a _ (ab_wa_eq hra)
        rw [ab_rho_hi g1]
        refine W.last hx hb g2 (g3 n (fun j => .long (f j))) (fun q => by cases q) (by show ¬ (i < 0 ∨ (arrV _ _ _).slots.size ≤ _); rw [arrV_size]; exact hi) rfl rfl hd fun H1 e1 z1 o1 => ?_
        refine k cells slots (by simp [ab_put]) (by simp [ab_put]) H1 _ ls (hI.put g1 z1 o1 ⟨g1, cA, ?_, g3, g4⟩) (hS.put z1 o1 (Nat.le_add_right _ _)) hL
        rw [e1]
        show some ((vp_cell cA (n, .inr (.inl f))).setSlot _ _) = some (vp_cell cA (n, .inr (.inl (vp_updL f i.toNatClampNeg x))))
        rw [vp_cell_l, vp_cell_l, arrV_store]
        congr 2
        funext q
        by_cases hq : q = i.toNatClampNeg
        · subst hq
          simp [updV, vp_updL, narrow]
        · simp [updV, vp_updL, hq]
      · cases hs
    · cases hs
  · cases hs
theorem ab_w_aast (hx : p.tables.exec = Jvm.exec) (hb : c.code = cc) (hE : ab_EF E s s.heap) (hd : decode cc pc = .ok (raw, len)) (hc : ab_chk1 own ml ini pc raw len .aastore pl = true) (hs : (match st with
    | .ref v :: .int i :: .ref a :: r => (match ab_wa h a, ab_ob h v with
      | some (.object C, n, .inr (.inr (.inr (.inr f)))), some (ci, _) => if ab_in i n = true ∧ ci < 10 ∧ C = ab_cn ci then ab_go1 (pc + len) L r (ab_put h a (.inl (.object C, n, .inr (.inr (.inr (.inr (va_up f i.toNatClampNeg (some v)))))))) else none
      | _, _ => none)
    | _ => none) = some (.inl S)) (k : ab_N p l e R s m args below meth c Q E ml S h cells slots) : ab_W p l e R s m args below meth c Q E ml (pc, L, st, h) cells slots := by
  simp only [ab_chk1, Bool.and_eq_true, decide_eq_true_eq] at hc
  obtain ⟨rfl, rfl⟩ := hc
  split at hs
  · rename_i v i a r
    split at hs
    · rename_i C n f ci fs hra hob
      split at hs
      · rename_i hq
        obtain ⟨hi, hc10, rfl⟩ := hq
        obtain rfl := ab_go1_eq hs
        intro H locs ls hI hS hL
        show W p l e R s m args below meth c H locs cells slots Q (F0 m pc ls (.ref (ab_rho E v) :: .int i :: .ref (ab_rho E a) :: r.map (ab_rv E)))
        have hi := ab_in_iff hi
        have hlt : i.toNatClampNeg < n := Nat.not_le.mp fun q => hi (Or.inr q)
        have h0 : ¬ i < 0 := fun q => hi (Or.inl q)
        obtain ⟨g1, cA, g2, g3, g4⟩ := hI.2.2 a _ (ab_wa_eq hra)
        rcases hI.2.2 v _ (ab_ob_eq hob) with ⟨k0, k1, r0, k2, cellV, q1, q2, q3, -⟩ | ⟨k1, -⟩
        · have k2' : vwCl[ci]? = some r0 := k2
          have e2 : ab_cn ci = r0.1 := by simp only [ab_cn, k2']
          rw [ab_rho_hi g1, ab_rho_hi k1]
          have hcls := (hE.1.1 ci r0 k2').2
          have g4' : va_RA s cA (.object (ab_cn ci)) := g4
          obtain ⟨kA, comp, j1, j2, j3, -⟩ := g4
          rw [e2] at j3
          have hcomp : comp = E.2.2.1.1 ci := Option.some.inj (j3.symm.trans hcls.1)
          subst hcomp
          obtain ⟨kC, hkC, -⟩ := hcls.2
          refine W.aast hx hb g2 (fun q h => by cases h) (fun h => by cases h) j1 j2 rfl hkC ⟨h0, by show _ < (arrV _ _ _).slots.size; rw [arrV_size]; exact hlt⟩ q1 (fun q h => by rw [q3] at h; cases h) (by rw [q2]; exact hkC) (by rw [q2]; exact va_assign hcls) rfl rfl hd fun H1 e1 z1 o1 => ?_
          refine k cells slots (by simp [ab_put]) (by simp [ab_put]) H1 _ ls (hI.put g1 z1 o1 ⟨g1, cA, ?_, g3, g4'⟩) (hS.put z1 o1 (Nat.le_add_right _ _)) hL
          rw [e1]
          show some ((arrV cA n (fun j => va_rf ((f j).map (ab_rho E)))).setSlot _ _) = some (arrV cA n (fun j => va_rf ((va_up f i.toNatClampNeg (some v) j).map (ab_rho E))))
          rw [arrV_store]
          congr 2
          funext q
          by_cases hq : q = i.toNatClampNeg
          · subst hq
            simp [updV, va_up, va_rf, ab_rho_hi k1]
          · simp [updV, va_up, hq]
        · have : ci = 90 := k1
          omega
      · cases hs
    · cases hs
  · cases hs
theorem ab_w_alen (hx : p.tables.exec = Jvm.exec) (hb : c.code = cc) (hE : ab_EF E s s.heap) (hd : decode cc pc = .ok (raw, len)) (hc : ab_chk1 own ml ini pc raw len .arraylength pl = true) (hs : (match st with
    | .ref a :: r => (match ab_ra h a with
      | some (_, n, _) => ab_go1 (pc + len) L (.int (Int32.ofNat n) :: r) h
      | none => none)
    | _ => none) = some (.inl S)) (k : ab_N p l e R s m args below meth c Q E ml S h cells slots) : ab_W p l e R s m args below meth c Q E ml (pc, L, st, h) cells slots := by
  simp only [ab_chk1, Bool.and_eq_true, decide_eq_true_eq] at hc
  obtain ⟨rfl, rfl⟩ := hc
  split at hs
  · rename_i a r
    split at hs
    · rename_i ty n x hra
      obtain rfl := ab_go1_eq hs
      intro H locs ls hI hS hL
      have kk := k cells slots (by simp) (by simp) H locs ls hI hS hL
      show W p l e R s m args below meth c H locs cells slots Q (F0 m pc ls (.ref (ab_rho E a) :: r.map (ab_rv E)))
      rcases ab_ra_eq hra with hq | hq
      · obtain ⟨g1, cA, g2, g3, g4⟩ := hI.2.2 a _ hq
        rw [ab_rho_hi g1]
        exact va_alen hx hb (ab_K1 hE.1 g3 g4) (ab_P1 (q := (E.1 + (a - 100), .inl (cA, ab_mx E (n, x)))) g2) 0 0 rfl rfl (by rw [ab_mx_1]) hd kk
      · obtain ⟨g1, cell, q1, q2, q3, q4, q5, q6, q7⟩ := hI.2.2 a _ hq
        rw [ab_rho_lo g1]
        exact W.alen hx hb q1 q2 q5 rfl rfl hd kk
    · cases hs
  · cases hs
theorem ab_w_newa (hx : p.tables.exec = Jvm.exec) (hb : c.code = cc) {t : ArrayType} (hts : ∀ w ∈ ab_gt, w.before args s = true) (hr1 : cells + (S.2.2.2.1 - h.1) ≤ R.cells) (hr2 : slots + (S.2.2.2.2.1 - h.2.1) ≤ R.slots) (hd : decode cc pc = .ok (raw, len)) (hc : ab_chk1 own ml ini pc raw len (.newarray t) pl = true) (hs : (match st with
    | .int n :: r => (match ab_zero (newarray.typeOf t) n.toNatClampNeg with
      | some x => if ¬ n < 0 ∧ n.toNatClampNeg ≤ 10000 then ab_go1 (pc + len) L (.ref h.1 :: r) (ab_add h n.toNatClampNeg (.inl (newarray.typeOf t, x))) else none
      | none => none)
    | _ => none) = some (.inl S)) (k : ab_N p l e R s m args below meth c Q E ml S h cells slots) : ab_W p l e R s m args below meth c Q E ml (pc, L, st, h) cells slots := by
  simp only [ab_chk1, Bool.and_eq_true, decide_eq_true_eq] at hc
  obtain ⟨rfl, rfl⟩ := hc
  split at hs
  · rename_i n r
    split at hs
    · rename_i x hz
      split at hs
      · rename_i hq
        obtain ⟨hn, hN⟩ := hq
        obtain rfl := ab_go1_eq hs
        intro H locs ls hI hS hL
        have hh := hI.1
        have hh2 := hI.2.1
        simp only [ab_add] at hr1 hr2
        have hcell : ∀ cA : ClassId, vp_cell cA (ab_mx E x) = arrV cA n.toNatClampNeg (fun _ => defaultValue (newarray.typeOf t)) := by
          intro cA
          cases t <;> simp [newarray.typeOf, ab_zero] at hz <;> subst hz <;> rfl
        have harr : (Cond.arrayClass (newarray.typeOf t)).before args s = true := by
          cases t <;> simp [newarray.typeOf, ab_zero] at hz <;> first | exact hts _ ab_arrs.1 | exact hts _ ab_arrs.2.1 | exact hts _ ab_arrs.2.2.1 | exact hts _ ab_arrs.2.2.2
        have hby : n.toNatClampNeg * componentBytes (newarray.typeOf t) ≤ 536870912 := by
          have : componentBytes (newarray.typeOf t) ≤ 8 := by cases t <;> decide
          exact Nat.le_trans (Nat.mul_le_mul hN this) (by decide)
        refine va_newaK hx hb harr (g := F0 m pc ls (.int n :: r.map (ab_rv E))) rfl hd rfl hn rfl hby (by omega) (by omega) rfl fun H1 cA e1 z1 o1 hAr hNm => ?_
        have kk := k (cells + 1) (slots + n.toNatClampNeg) (by simp only [ab_add]; omega) (by simp only [ab_add]; omega) H1 locs ls (hI.add z1 o1 ⟨hh2, cA, by rw [← hh, hcell]; exact e1, hAr, ?_⟩) ⟨Nat.le_trans hS.1 (by omega), fun q h1 h2 => (o1 q (Nat.lt_of_lt_of_le h1 hS.1)).trans (hS.2.1 q h1 h2), hS.2.2⟩ hL
        · rw [hh, ← ab_rho_hi hh2]
          exact kk
        · cases t <;> exact hNm
      · cases hs
    · cases hs
  · cases hs
theorem ab_w_anew (hx : p.tables.exec = Jvm.exec) (hb : c.code = cc) {ci : Nat} (hown : s.vm.findClass own = some m.cls) (hts : ∀ w ∈ ab_gt, w.before args s = true) (hE : ab_EF E s s.heap) (hr1 : cells + (S.2.2.2.1 - h.1) ≤ R.cells) (hr2 : slots + (S.2.2.2.2.1 - h.2.1) ≤ R.slots) (hd : decode cc pc = .ok (raw, len)) (hc : ab_chk1 own ml ini pc raw len (.anewarray ci) pl = true) (hs : (match st with
    | .int n :: r => if ¬ n < 0 ∧ n.toNatClampNeg ≤ 10000 then ab_go1 (pc + len) L (.ref h.1 :: r) (ab_add h n.toNatClampNeg (.inl (.object (ab_cn ci), n.toNatClampNeg, .inr (.inr (.inr (.inr (fun _ => none))))))) else none
    | _ => none) = some (.inl S)) (k : ab_N p l e R s m args below meth c Q E ml S h cells slots) : ab_W p l e R s m args below meth c Q E ml (pc, L, st, h) cells slots := by
  split at hs
  · rename_i n r
    split at hs
    · rename_i hq
      obtain ⟨hn, hN⟩ := hq
      obtain rfl := ab_go1_eq hs
      intro H locs ls hI hS hL
      have hh := hI.1
      have hh2 := hI.2.1
      simp only [ab_add] at hr1 hr2
      simp only [ab_chk1] at hc
      split at hc
      · simp only [Bool.and_eq_true, decide_eq_true_eq] at hc
        obtain ⟨rfl, hci, hc⟩ := hc
        have hao : va_AO (ab_cn ci) s := by
          rcases hci with rfl | rfl
          · exact hE.2.2.2.2.1.1
          · exact hE.2.2.2.2.1.2.1
        refine W.anew hx hb hown (hts _ (ab_wd_in hc)) (va_AO.use hao) (g := F0 m pc ls (.int n :: r.map (ab_rv E))) rfl hd rfl hn (Nat.le_trans (Nat.mul_le_mul hN (Nat.le_refl 4)) (by decide)) (by omega) (by omega) fun cA kA comp f1 f2 f3 f4 => ?_
        generalize hH1 : H.push ({ cls := cA, slots := Array.replicate n.toNatClampNeg .null, vm := .none } : Cell) = H1
        have z1 : H1.size = H.size + 1 := by rw [← hH1, Array.size_push]
        have e1 : H1[H.size]? = some (arrV cA n.toNatClampNeg (fun _ => .null)) := by rw [← hH1, Array.getElem?_push_size, ← arrV_new]
        have o1 : ∀ q : Nat, q < H.size → H1[q]? = H[q]? := fun q hq => by rw [← hH1, Array.getElem?_push, if_neg (Nat.ne_of_lt hq)]
        have hAr : ArrOfT s cA (.object (ab_cn ci)) := fun N z => ⟨(fun k h => by cases h), kA, f2, comp, f3⟩
        have kk := k (cells + 1) (slots + n.toNatClampNeg) (by simp only [ab_add]; omega) (by simp only [ab_add]; omega) H1 locs ls (hI.add z1 o1 ⟨hh2, cA, by rw [← hh]; exact e1, hAr, kA, comp, f2, f3, f4, f1⟩) ⟨Nat.le_trans hS.1 (by omega), fun q h1 h2 => (o1 q (Nat.lt_of_lt_of_le h1 hS.1)).trans (hS.2.1 q h1 h2), hS.2.2⟩ hL
        rw [hh, ← ab_rho_hi hh2]
        exact kk
      · cases hc
    · cases hs
  · cases hs
theorem ab_w_new (hx : p.tables.exec = Jvm.exec) (hb : c.code = cc) {ci : Nat} (hown : s.vm.findClass own = some m.cls) (hts : ∀ w ∈ ab_gt, w.before args s = true) (hE : ab_EF E s s.heap) (hr1 : cells + (S.2.2.2.1 - h.1) ≤ R.cells) (hr2 : slots + (S.2.2.2.2.1 - h.2.1) ≤ R.slots) (hd : decode cc pc = .ok (raw, len)) (hc : ab_chk1 own ml ini pc raw len (.new ci) pl = true) (hs : ab_go1 (pc + len) L (.ref h.1 :: st) (ab_add h (ab_nf ci) (.inr (.inl (ci, (List.range (ab_nf ci)).map fun k => defaultValue (ab_ty ci k))))) = some (.inl S)) (k : ab_N p l e R s m args below meth c Q E ml S h cells slots) : ab_W p l e R s m args below meth c Q E ml (pc, L, st, h) cells slots := by
  obtain rfl := ab_go1_eq hs
  intro H locs ls hI hS hL
  have hh := hI.1
  have hh2 := hI.2.1
  simp only [ab_add] at hr1 hr2
  simp only [ab_chk1] at hc
  split at hc
  · simp only [Bool.and_eq_true, decide_eq_true_eq] at hc
    obtain ⟨rfl, hci, hc⟩ := hc
    obtain ⟨r0, hr0⟩ : ∃ r0, vwCl[ci]? = some r0 := ⟨vwCl[ci]'(by exact hci), List.getElem?_eq_getElem (by exact hci)⟩
    have e2 : ab_nf ci = r0.2.2 := by simp only [ab_nf, hr0]
    have e3 : ab_cn ci = r0.1 := by simp only [ab_cn, hr0]
    rw [e3] at hc
    rw [e2] at hr2
    have hKn := hE.1.1 ci r0 hr0
    refine W.newcK hx hb hown (hts _ (ab_wd_in hc)) (hts _ (ab_inst hr0).1) (hts _ (ab_inst hr0).2) (g := F0 m pc ls (st.map (ab_rv E))) rfl hd (by omega) (by omega) hKn.2.1 rfl fun H1 kC hkC e1 z1 o1 => ?_
    have kk := k (cells + 1) (slots + r0.2.2) (by simp only [ab_add]; omega) (by simp only [ab_add, e2]; omega) H1 locs ls (hI.add z1 o1 (Or.inl ⟨hci, hh2, r0, hr0, ?_⟩)) ⟨Nat.le_trans hS.1 (by omega), fun q h1 h2 => (o1 q (Nat.lt_of_lt_of_le h1 hS.1)).trans (hS.2.1 q h1 h2), hS.2.2⟩ hL
    · rw [hh, ← ab_rho_hi hh2]
      exact kk
    · rw [← hh]
      refine (u_born (ab_ty ci) hts (ab_ugt hr0) hKn hkC e1 (ab_tyok hr0)).to (fun j hj => ?_)
      show defaultValue (ab_ty ci j) = (((List.range (ab_nf ci)).map fun k => defaultValue (ab_ty ci k)).map (ab_rv E)).getD j .null
      rw [List.getD_eq_getElem?_getD, List.getElem?_map, List.getElem?_map, List.getElem?_range (by rw [e2]; exact hj)]
      exact (ab_rv_df E _).symm
  · cases hc
theorem ab_w_oinit (hx : p.tables.exec = Jvm.exec) (hb : c.code = cc) (hml : c.maxLocals = ml) (hf : E.2.2.2.category = 1) (hown : s.vm.findClass own = some m.cls) (hts : ∀ w ∈ ab_gt, w.before args s = true) (hR : 1 ≤ R.frames ∧ 60 ≤ R.locals) (hd : decode cc pc = .ok (raw, len)) (hc : ab_chk1 own ml ini pc raw len (.invokespecial 9990000) pl = true) (hs : (match st with
    | .ref _ :: r => if (r.map fun v => v.category).sum ≤ 8 then ab_go1 (pc + len) L r h else none
    | _ => none) = some (.inl S)) (k : ab_N p l e R s m args below meth c Q E ml S h cells slots) : ab_W p l e R s m args below meth c Q E ml (pc, L, st, h) cells slots := by
  split at hs
  · rename_i a r
    split at hs
    · rename_i hsum
      obtain rfl := ab_go1_eq hs
      intro H locs ls hI hS hL
      have kk := k cells slots (by simp) (by simp) H locs ls hI hS hL
      simp only [ab_chk1] at hc
      split at hc
      · simp only [Bool.and_eq_true, decide_eq_true_eq] at hc
        obtain ⟨rfl, hc⟩ := hc
        rw [if_pos trivial] at hc
        have hsum2 : ((r.map (ab_rv E)).map fun v => v.category).sum ≤ 8 := by
          rw [List.map_map, show ((fun v : Value => v.category) ∘ ab_rv E) = (fun v : Value => v.category) from funext fun v => ab_rv_cat E v hf]
          exact hsum
        exact W.objInit hx hb hown (hts _ (ab_wd_in hc)) (hts _ ab_obj.1) (hts _ ab_obj.2) (g := F0 m pc ls (.ref (ab_rho E a) :: r.map (ab_rv E))) rfl (hL.2.1.trans hml.symm) rfl hd hR.1 (by show 2 * 0 + _ + 12 ≤ _; have := hR.2; omega) kk
      · cases hc
    · cases hs
  · cases hs
theorem ab_w_acopy (hx : p.tables.exec = Jvm.exec) (hb : c.code = cc) (hml : c.maxLocals = ml) (hown : s.vm.findClass own = some m.cls) (hts : ∀ w ∈ ab_gt, w.before args s = true) (hE : ab_EF E s s.heap) (hR : 1 ≤ R.frames ∧ 60 ≤ R.locals) (hd : decode cc pc = .ok (raw, len)) (hc : ab_chk1 own ml ini pc raw len (.invokestatic 9980000) pl = true) (hs : (match st with
    | .int n :: .int dp :: .ref d :: .int sp :: .ref s :: r => (match ab_wa h s, ab_wa h d with
      | some (.int, n0, .inl f), some (.int, n1, .inl g) => if (¬ sp < 0 ∧ ¬ dp < 0 ∧ ¬ n < 0) ∧ sp.toNatClampNeg + n.toNatClampNeg ≤ n0 ∧ dp.toNatClampNeg + n.toNatClampNeg ≤ n1 ∧ (r.map fun v => v.category).sum ≤ 8 then ab_go1 (pc + len) L r (ab_put h d (.inl (.int, n1, .inl (va_cpy f g sp.toNatClampNeg dp.toNatClampNeg n.toNatClampNeg)))) else none
      | _, _ => none)
    | _ => none) = some (.inl S)) (k : ab_N p l e R s m args below meth c Q E ml S h cells slots) : ab_W p l e R s m args below meth c Q E ml (pc, L, st, h) cells slots := by
  split at hs
  · rename_i n dp d sp a0 r
    split at hs
    · rename_i n0 f n1 g hra0 hra1
      split at hs
      · rename_i hq
        obtain ⟨⟨h1, h2, h3⟩, h4, h5, hsum⟩ := hq
        obtain rfl := ab_go1_eq hs
        intro H locs ls hI hS hL
        show W p l e R s m args below meth c H locs cells slots Q (F0 m pc ls (.int n :: .int dp :: .ref (ab_rho E d) :: .int sp :: .ref (ab_rho E a0) :: r.map (ab_rv E)))
        simp only [ab_chk1] at hc
        split at hc
        · simp only [Bool.and_eq_true, decide_eq_true_eq] at hc
          obtain ⟨rfl, hc⟩ := hc
          rw [if_pos trivial] at hc
          have hsum2 : ((r.map (ab_rv E)).map fun v => v.category).sum ≤ 8 := by
            rw [List.map_map, show ((fun v : Value => v.category) ∘ ab_rv E) = (fun v : Value => v.category) from funext fun v => ab_rv_cat E v hE.2.2.2.2.2]
            exact hsum
          obtain ⟨g1, c0, hc0, k3, k4⟩ := hI.2.2 a0 _ (ab_wa_eq hra0)
          obtain ⟨g5, c1, hc1, k7, k8⟩ := hI.2.2 d _ (ab_wa_eq hra1)
          rw [ab_rho_hi g1, ab_rho_hi g5]
          have nn : ∀ z : Int32, ¬ z < 0 → z.toInt = (z.toNatClampNeg : Int) := by
            intro z hz
            have hz0 : (0 : Int) ≤ z.toInt := by
              have := Int32.not_lt.mp hz
              simpa using Int32.le_iff_toInt_le.mp this
            show z.toInt = ((z.toInt.toNat : Nat) : Int)
            omega
          intro T hT X
          obtain ⟨-, kk0, hk0, cm0, hkk0⟩ := k3 n0 (fun j => .int (f j))
          obtain ⟨-, kk1, hk1, cm1, hkk1⟩ := k7 n1 (fun j => .int (g j))
          obtain ⟨vm', X', step⟩ := X.arraycopy hx hown (hts _ (ab_wd_in hc)) (hts _ ab_sys.1) (hts _ ab_sys.2.1) (hts _ ab_sys.2.2) (src := E.1 + (a0 - 100)) (dst := E.1 + (d - 100)) (cs := vp_cell c0 (n0, .inl f)) (cd := vp_cell c1 (n1, .inl g)) (srcPos := sp) (destPos := dp) (n := n) (by rw [hT]; exact hc0) (by rw [hT]; exact hc1)
            (fun _ h => by cases h) (fun _ h => by cases h) (fun h => by cases h) (fun h => by cases h) hk0 hk1 hkk0 hkk1 rfl h1 h2 h3
            (by rw [nn sp h1, nn n h3]; show ¬ _ > ((arrV c0 n0 (fun j => .int (f j))).slots.size : Int); rw [arrV_size]; omega)
            (by rw [nn dp h2, nn n h3]; show ¬ _ > ((arrV c1 n1 (fun j => .int (g j))).slots.size : Int); rw [arrV_size]; omega)
            (fun vm₁ _ i hi => by
              have e9 : (vp_cell c0 (n0, .inl f)).slots.getD (sp.toNatClampNeg + i) .null = .int (f (sp.toNatClampNeg + i)) := by
                show (arrV c0 n0 (fun j => .int (f j))).slots.getD _ _ = _
                rw [Array.getD_eq_getD_getElem?, arrV_read _ _ (by omega)]
                rfl
              refine ⟨?_, ?_⟩
              · rw [e9]
                rfl
              · rw [e9]
                exact trivial)
            (g := F0 m pc ls (.int n :: .int dp :: .ref (E.1 + (d - 100)) :: .int sp :: .ref (E.1 + (a0 - 100)) :: r.map (ab_rv E))) rfl (by rw [hml]; exact hL.2.1) (rest := r.map (ab_rv E)) rfl (by rw [hb]; exact hd) hR.1 (by show 2 * 0 + _ + (7 + 11) ≤ _; have := hR.2; omega)
          have e1 : copied (vp_cell c0 (n0, .inl f)) (vp_cell c1 (n1, .inl g)) sp dp n = vp_cell c1 (n1, .inl (va_cpy f g sp.toNatClampNeg dp.toNatClampNeg n.toNatClampNeg)) := va_copied (fun z => .int z) c0 c1 f g h4
          rw [e1] at X' step
          have hlt : E.1 + (d - 100) < H.size := (Array.getElem?_eq_some_iff.mp hc1).1
          generalize hH1 : H.setIfInBounds (E.1 + (d - 100)) (vp_cell c1 (n1, .inl (va_cpy f g sp.toNatClampNeg dp.toNatClampNeg n.toNatClampNeg))) = H1
          have z1 : H1.size = H.size := by rw [← hH1]; simp
          have o1 : ∀ q : Nat, q ≠ E.1 + (d - 100) → H1[q]? = H[q]? := fun q hq => by rw [← hH1]; simp [Array.getElem?_setIfInBounds, Ne.symm hq]
          have e2 : H1[E.1 + (d - 100)]? = some (vp_cell c1 (n1, .inl (va_cpy f g sp.toNatClampNeg dp.toNatClampNeg n.toNatClampNeg))) := by rw [← hH1]; simp [Array.getElem?_setIfInBounds, hlt]
          obtain ⟨t, a1, b1⟩ := k cells slots (by simp [ab_put]) (by simp [ab_put]) H1 _ ls (hI.put g5 z1 o1 ⟨g5, c1, e2, k7, k8⟩) ⟨by rw [z1]; exact hS.1, fun q j1 j2 => (o1 q (fun e => j2 (by rw [e]; exact Nat.le_add_right _ _))).trans (hS.2.1 q j1 j2), fun q hq => by
            rcases List.mem_append.mp hq with h | h
            · exact hS.2.2 q h
            · obtain ⟨z, -, hz⟩ := List.mem_map.mp h
              rw [← hz]
              exact Nat.le_add_right _ _⟩ hL _ (by rw [← hH1, ← hT]; rfl) X'
          exact ⟨t, step t a1, b1⟩
        · cases hc
      · cases hs
    · cases hs
  · cases hs
end AB7
