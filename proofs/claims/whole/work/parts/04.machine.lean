/-! A small machine of our own: it runs the claim's code over lists and functions. What it says of a method, the JVM does (part 06). -/
/-- a cell: an array that may be written, an object (its class's number, its fields), an array that is only read -/
abbrev ab_C : Type := (FieldType × vp_A) ⊕ ((Nat × List Value) ⊕ (FieldType × vp_A))
/-- a heap: the next address, the slots used so far, the cells (addresses below 100 are those that were there before) -/
abbrev ab_H : Type := Nat × Nat × (Nat → Option ab_C)
abbrev ab_L : Type := List (Option Value)
/-- pc, locals, stack, heap -/
abbrev ab_S : Type := Nat × ab_L × List Value × ab_H
/-- on to a state; a call (method, arguments, the state behind it without the answer); an answer -/
abbrev ab_O : Type := ab_S ⊕ ((Nat × List Value × ab_S) ⊕ (Option Value × ab_H))
abbrev ab_K : Type := List (Nat × Instr × Nat × Nat)
abbrev ab_M : Type := String × MethodName × ByteArray × Nat × Option FieldType × Nat × ab_K
def ab_ldL (L : ab_L) (i : Nat) : Option Value := match L[i]? with
  | some (some v) => some v
  | _ => none
def ab_cut (L : ab_L) (i : Nat) : ab_L := match i with
  | 0 => L
  | k + 1 => match L[k]? with
    | some (some v) => if v.category = 2 then L.set k none else L
    | _ => L
def ab_put (h : ab_H) (a : Nat) (c : ab_C) : ab_H := (h.1, h.2.1, fun q => if q = a then some c else h.2.2 q)
def ab_add (h : ab_H) (n : Nat) (c : ab_C) : ab_H := (h.1 + 1, h.2.1 + n, fun q => if q = h.1 then some c else h.2.2 q)
def ab_ra (h : ab_H) (a : Nat) : Option (FieldType × vp_A) := match h.2.2 a with
  | some (.inl x) => some x
  | some (.inr (.inr x)) => some x
  | _ => none
def ab_wa (h : ab_H) (a : Nat) : Option (FieldType × vp_A) := match h.2.2 a with
  | some (.inl x) => some x
  | _ => none
def ab_ob (h : ab_H) (a : Nat) : Option (Nat × List Value) := match h.2.2 a with
  | some (.inr (.inl x)) => some x
  | _ => none
def ab_in (i : Int32) (n : Nat) : Bool := decide (¬ (i < 0 ∨ n ≤ i.toNatClampNeg))
def ab_c2 (c : Jvm.ClassFile.Cond) (x y : Int32) : Bool := match c with
  | .eq => decide (x = y)
  | .ne => decide (¬ x = y)
  | .lt => decide (x < y)
  | .ge => decide (y ≤ x)
  | .gt => decide (y < x)
  | .le => decide (x ≤ y)
def ab_ty (ci k : Nat) : FieldType := match ci with
  | 0 => tyX0 k
  | 1 => tyX1 k
  | 2 => tyX2 k
  | 3 => tyX3 k
  | 4 => tyX4 k
  | 5 => tyX5 k
  | 6 => tyX6 k
  | 7 => tyX7 k
  | 8 => tyX8 k
  | _ => tyX9 k
def ab_nf (ci : Nat) : Nat := match vwCl[ci]? with
  | some r => r.2.2
  | none => 0
def ab_cn (ci : Nat) : String := match vwCl[ci]? with
  | some r => r.1
  | none => ""
/-- may a field of this type be given this value as it is -/
def ab_fit (ty : FieldType) (v : Value) : Bool := match ty, v with
  | .int, .int _ => true
  | .long, .long _ => true
  | .boolean, .int x => decide (x = 0 ∨ x = 1)
  | .object _, .ref _ => true
  | .array _, .ref _ => true
  | _, _ => false
def ab_zero (ty : FieldType) (n : Nat) : Option vp_A := match ty with
  | .int => some (n, .inl (fun _ => 0))
  | .byte => some (n, .inl (fun _ => 0))
  | .boolean => some (n, .inl (fun _ => 0))
  | .long => some (n, .inr (.inl (fun _ => 0)))
  | _ => none
def ab_go1 (nx : Nat) (L : ab_L) (st : List Value) (h : ab_H) : Option ab_O := some (.inl (nx, L, st, h))
def ab_ib (f : Int32 → Int32 → Int32) (nx : Nat) (L : ab_L) (st : List Value) (h : ab_H) : Option ab_O := match st with
  | .int y :: .int x :: r => ab_go1 nx L (.int (f x y) :: r) h
  | _ => none
def ab_iu (f : Int32 → Int32) (nx : Nat) (L : ab_L) (st : List Value) (h : ab_H) : Option ab_O := match st with
  | .int x :: r => ab_go1 nx L (.int (f x) :: r) h
  | _ => none
def ab_lb (f : Int64 → Int64 → Int64) (nx : Nat) (L : ab_L) (st : List Value) (h : ab_H) : Option ab_O := match st with
  | .long y :: .long x :: r => ab_go1 nx L (.long (f x y) :: r) h
  | _ => none
def ab_call1 (q nx : Nat) (L : ab_L) (st : List Value) (h : ab_H) : Option ab_O :=
  if q / 100 % 100 ≤ st.length ∧ ((st.drop (q / 100 % 100)).map fun v => v.category).sum ≤ 8 then some (.inr (.inl (q / 10000, (st.take (q / 100 % 100)).reverse, (nx, L, st.drop (q / 100 % 100), h)))) else none
def ab_step (rt : Option FieldType) (ins : Instr) (nx : Nat) (L : ab_L) (st : List Value) (h : ab_H) : Option ab_O := match ins with
  | .iconst v => ab_go1 nx L (.int (Int32.ofInt v) :: st) h
  | .ldc2_w n => ab_go1 nx L (.long (Int64.ofNat n) :: st) h
  | .ldc a => ab_go1 nx L (.ref a :: st) h
  | .iload i => (match ab_ldL L i with
    | some (.int x) => ab_go1 nx L (.int x :: st) h
    | _ => none)
  | .lload i => (match ab_ldL L i with
    | some (.long x) => ab_go1 nx L (.long x :: st) h
    | _ => none)
  | .aload i => (match ab_ldL L i with
    | some (.ref x) => ab_go1 nx L (.ref x :: st) h
    | _ => none)
  | .istore i => (match st with
    | .int x :: r => ab_go1 nx ((ab_cut L i).set i (some (.int x))) r h
    | _ => none)
  | .astore i => (match st with
    | .ref x :: r => ab_go1 nx ((ab_cut L i).set i (some (.ref x))) r h
    | _ => none)
  | .lstore i => (match st with
    | .long x :: r => ab_go1 nx (((ab_cut L i).set i (some (.long x))).set (i + 1) none) r h
    | _ => none)
  | .iinc i n => (match ab_ldL L i with
    | some (.int x) => ab_go1 nx ((ab_cut L i).set i (some (.int (x + Int32.ofInt n)))) st h
    | _ => none)
  | .iadd => ab_ib (fun x y => x + y) nx L st h
  | .isub => ab_ib (fun x y => x - y) nx L st h
  | .imul => ab_ib (fun x y => x * y) nx L st h
  | .iand => ab_ib (fun x y => x &&& y) nx L st h
  | .ior => ab_ib (fun x y => x ||| y) nx L st h
  | .ixor => ab_ib (fun x y => x ^^^ y) nx L st h
  | .ishl => ab_ib (fun x y => x <<< (y &&& 31)) nx L st h
  | .ishr => ab_ib (fun x y => x >>> (y &&& 31)) nx L st h
  | .iushr => ab_ib (fun x y => (x.toUInt32 >>> (y.toUInt32 &&& Int32.toUInt32 31)).toInt32) nx L st h
  | .idiv => (match st with
    | .int y :: .int x :: r => if y = 0 then none else ab_go1 nx L (.int (x / y) :: r) h
    | _ => none)
  | .irem => (match st with
    | .int y :: .int x :: r => if y = 0 then none else ab_go1 nx L (.int (x - x / y * y) :: r) h
    | _ => none)
  | .ineg => ab_iu (fun x => -x) nx L st h
  | .i2b => ab_iu (fun x => x.toInt8.toInt32) nx L st h
  | .i2s => ab_iu (fun x => x.toInt16.toInt32) nx L st h
  | .i2c => ab_iu (fun x => x.toUInt32.toUInt16.toUInt32.toInt32) nx L st h
  | .i2l => (match st with
    | .int x :: r => ab_go1 nx L (.long x.toInt64 :: r) h
    | _ => none)
  | .l2i => (match st with
    | .long x :: r => ab_go1 nx L (.int x.toInt32 :: r) h
    | _ => none)
  | .ladd => ab_lb (fun x y => x + y) nx L st h
  | .lsub => ab_lb (fun x y => x - y) nx L st h
  | .lmul => ab_lb (fun x y => x * y) nx L st h
  | .ldiv => (match st with
    | .long y :: .long x :: r => if y = 0 then none else ab_go1 nx L (.long (x / y) :: r) h
    | _ => none)
  | .lrem => (match st with
    | .long y :: .long x :: r => if y = 0 then none else ab_go1 nx L (.long (x - x / y * y) :: r) h
    | _ => none)
  | .lcmp => (match st with
    | .long y :: .long x :: r => ab_go1 nx L (.int (lg_cmp x y) :: r) h
    | _ => none)
  | .dup => (match st with
    | v :: r => if v.category = 1 then ab_go1 nx L (v :: v :: r) h else none
    | _ => none)
  | .dup2 => (match st with
    | v :: w :: r => if v.category = 1 ∧ w.category = 1 then ab_go1 nx L (v :: w :: v :: w :: r) h else none
    | _ => none)
  | .pop => (match st with
    | v :: r => if v.category = 1 then ab_go1 nx L r h else none
    | _ => none)
  | .ifCond c t => (match st with
    | .int x :: r => ab_go1 (if ab_c2 c x 0 then t.toNat else nx) L r h
    | _ => none)
  | .if_icmp c t => (match st with
    | .int y :: .int x :: r => ab_go1 (if ab_c2 c x y then t.toNat else nx) L r h
    | _ => none)
  | .goto t => ab_go1 t.toNat L st h
  | .tableswitch D lo hi T => (match st with
    | .int x :: r => if x.toInt < lo ∨ hi < x.toInt then ab_go1 D.toNat L r h else (match T[(x.toInt - lo).toNat]? with
      | some t => ab_go1 t.toNat L r h
      | none => none)
    | _ => none)
  | .getstatic a => ab_go1 nx L ((if a = 4 then .int 1 else if a = 3 then .retAddr 0 else .ref a) :: st) h
  | .getfield n => (match st with
    | .ref a :: r => (match ab_ob h a with
      | some (ci, fs) => if ci = n / 100 then (match fs[n % 100]? with
        | some v => ab_go1 nx L (v :: r) h
        | none => none) else none
      | none => none)
    | _ => none)
  | .putfield n => (match st with
    | v :: .ref a :: r => (match ab_ob h a with
      | some (ci, fs) => if ci = n / 100 ∧ n % 100 < fs.length ∧ ab_fit (ab_ty (n / 100) (n % 100)) v = true then ab_go1 nx L r (ab_put h a (.inr (.inl (ci, fs.set (n % 100) v)))) else none
      | none => none)
    | _ => none)
  | .iaload => (match st with
    | .int i :: .ref a :: r => (match ab_ra h a with
      | some (.int, n, .inl f) => if ab_in i n then ab_go1 nx L (.int (f i.toNatClampNeg) :: r) h else none
      | _ => none)
    | _ => none)
  | .baload => (match st with
    | .int i :: .ref a :: r => (match ab_ra h a with
      | some (.byte, n, .inl f) => if ab_in i n then ab_go1 nx L (.int (f i.toNatClampNeg) :: r) h else none
      | some (.boolean, n, .inl f) => if ab_in i n then ab_go1 nx L (.int (f i.toNatClampNeg) :: r) h else none
      | _ => none)
    | _ => none)
  | .laload => (match st with
    | .int i :: .ref a :: r => (match ab_ra h a with
      | some (.long, n, .inr (.inl f)) => if ab_in i n then ab_go1 nx L (.long (f i.toNatClampNeg) :: r) h else none
      | _ => none)
    | _ => none)
  | .aaload => (match st with
    | .int i :: .ref a :: r => (match ab_wa h a with
      | some (.object _, n, .inr (.inr (.inr (.inr f)))) => if ab_in i n then (match f i.toNatClampNeg with
        | some v => ab_go1 nx L (.ref v :: r) h
        | none => none) else none
      | some (.array _, n, .inr (.inr (.inr (.inr f)))) => if ab_in i n then (match f i.toNatClampNeg with
        | some v => ab_go1 nx L (.ref v :: r) h
        | none => none) else none
      | _ => none)
    | _ => none)
  | .iastore => (match st with
    | .int x :: .int i :: .ref a :: r => (match ab_wa h a with
      | some (.int, n, .inl f) => if ab_in i n then ab_go1 nx L r (ab_put h a (.inl (.int, n, .inl (upd f i.toNatClampNeg x)))) else none
      | _ => none)
    | _ => none)
  | .bastore => (match st with
    | .int x :: .int i :: .ref a :: r => (match ab_wa h a with
      | some (.byte, n, .inl f) => if ab_in i n then ab_go1 nx L r (ab_put h a (.inl (.byte, n, .inl (upd f i.toNatClampNeg x.toInt8.toInt32)))) else none
      | some (.boolean, n, .inl f) => if ab_in i n then ab_go1 nx L r (ab_put h a (.inl (.boolean, n, .inl (upd f i.toNatClampNeg (x &&& 1))))) else none
      | _ => none)
    | _ => none)
  | .lastore => (match st with
    | .long x :: .int i :: .ref a :: r => (match ab_wa h a with
      | some (.long, n, .inr (.inl f)) => if ab_in i n then ab_go1 nx L r (ab_put h a (.inl (.long, n, .inr (.inl (vp_updL f i.toNatClampNeg x))))) else none
      | _ => none)
    | _ => none)
  | .aastore => (match st with
    | .ref v :: .int i :: .ref a :: r => (match ab_wa h a, ab_ob h v with
      | some (.object C, n, .inr (.inr (.inr (.inr f)))), some (ci, _) => if ab_in i n = true ∧ ci < 10 ∧ C = ab_cn ci then ab_go1 nx L r (ab_put h a (.inl (.object C, n, .inr (.inr (.inr (.inr (va_up f i.toNatClampNeg (some v)))))))) else none
      | _, _ => none)
    | _ => none)
  | .arraylength => (match st with
    | .ref a :: r => (match ab_ra h a with
      | some (_, n, _) => ab_go1 nx L (.int (Int32.ofNat n) :: r) h
      | none => none)
    | _ => none)
  | .newarray t => (match st with
    | .int n :: r => (match ab_zero (newarray.typeOf t) n.toNatClampNeg with
      | some x => if ¬ n < 0 ∧ n.toNatClampNeg ≤ 10000 then ab_go1 nx L (.ref h.1 :: r) (ab_add h n.toNatClampNeg (.inl (newarray.typeOf t, x))) else none
      | none => none)
    | _ => none)
  | .anewarray ci => (match st with
    | .int n :: r => if ¬ n < 0 ∧ n.toNatClampNeg ≤ 10000 then ab_go1 nx L (.ref h.1 :: r) (ab_add h n.toNatClampNeg (.inl (.object (ab_cn ci), n.toNatClampNeg, .inr (.inr (.inr (.inr (fun _ => none))))))) else none
    | _ => none)
  | .multianewarray _ _ => (match st with
    | .int k :: .int n :: r => if ¬ n < 0 ∧ ¬ k < 0 ∧ n.toNatClampNeg ≤ 1000 ∧ k.toNatClampNeg ≤ 1000 then ab_go1 nx L (.ref h.1 :: r) (h.1 + 1 + n.toNatClampNeg, h.2.1 + n.toNatClampNeg + n.toNatClampNeg * k.toNatClampNeg, fun q => if q = h.1 then some (.inl (.array .int, n.toNatClampNeg, .inr (.inr (.inr (.inr (fun i => if i < n.toNatClampNeg then some (h.1 + 1 + i) else none)))))) else if h.1 < q ∧ q < h.1 + 1 + n.toNatClampNeg then some (.inl (.int, k.toNatClampNeg, .inl (fun _ => 0))) else h.2.2 q) else none
    | _ => none)
  | .new ci => ab_go1 nx L (.ref h.1 :: st) (ab_add h (ab_nf ci) (.inr (.inl (ci, (List.range (ab_nf ci)).map fun k => defaultValue (ab_ty ci k)))))
  | .invokespecial q => if q = 9990000 then (match st with
    | .ref _ :: r => if (r.map fun v => v.category).sum ≤ 8 then ab_go1 nx L r h else none
    | _ => none) else (match st.drop (q / 100 % 100 - 1) with
    | .ref a :: _ => (match ab_ob h a with
      | some _ => ab_call1 q nx L st h
      | none => none)
    | _ => none)
  | .invokestatic q => if q = 9980000 then (match st with
    | .int n :: .int dp :: .ref d :: .int sp :: .ref s :: r => (match ab_wa h s, ab_wa h d with
      | some (.int, n0, .inl f), some (.int, n1, .inl g) => if (¬ sp < 0 ∧ ¬ dp < 0 ∧ ¬ n < 0) ∧ sp.toNatClampNeg + n.toNatClampNeg ≤ n0 ∧ dp.toNatClampNeg + n.toNatClampNeg ≤ n1 ∧ (r.map fun v => v.category).sum ≤ 8 then ab_go1 nx L r (ab_put h d (.inl (.int, n1, .inl (va_cpy f g sp.toNatClampNeg dp.toNatClampNeg n.toNatClampNeg)))) else none
      | _, _ => none)
    | _ => none) else ab_call1 q nx L st h
  | .invokevirtual q => (match st.drop (q / 100 % 100 - 1) with
    | .ref a :: _ => (match ab_ob h a with
      | some (ci, _) => if ci = q % 100 then ab_call1 q nx L st h else none
      | none => none)
    | _ => none)
  | .ireturn => (match st, rt with
    | [.int x], some .int => some (.inr (.inr (some (.int x), h)))
    | [.int x], some ty => if narrow ty (.int x) = .int x then some (.inr (.inr (some (.int x), h))) else none
    | _, _ => none)
  | .lreturn => (match st, rt with
    | [.long x], some .long => some (.inr (.inr (some (.long x), h)))
    | _, _ => none)
  | .return_ => (match st, rt with
    | [], none => some (.inr (.inr (none, h)))
    | _, _ => none)
  | _ => none
def ab_look (cd : ab_K) (pc : Nat) : Option (Instr × Nat) := match cd.find? (fun e => e.1 == pc) with
  | some e => some (e.2.1, e.2.2.1)
  | none => none
def ab_go (call : Nat → List Value → ab_H → Option (Option Value × ab_H)) (rt : Option FieldType) (cd : ab_K) : Nat → Nat → ab_L → List Value → ab_H → Option (Option Value × ab_H)
  | 0, _, _, _, _ => none
  | n + 1, pc, L, st, h => match ab_look cd pc with
    | none => none
    | some (ins, nx) => match ab_step rt ins nx L st h with
      | none => none
      | some (.inl s) => ab_go call rt cd n s.1 s.2.1 s.2.2.1 s.2.2.2
      | some (.inr (.inl c)) => (match call c.1 c.2.1 c.2.2.2.2.2 with
        | none => none
        | some r => ab_go call rt cd n c.2.2.1 c.2.2.2.1 (r.1.toList ++ c.2.2.2.2.1) r.2)
      | some (.inr (.inr r)) => some r
def ab_en : List Value → ab_L
  | [] => []
  | v :: vs => if v.category = 2 then some v :: none :: ab_en vs else some v :: ab_en vs
def ab_ent (n : Nat) (vs : List Value) : ab_L := ab_en vs ++ List.replicate (n - (ab_en vs).length) none
def ab_call : Nat → Nat → Nat → List Value → ab_H → Option (Option Value × ab_H)
  | 0, _, _, _, _ => none
  | d + 1, F, j, as, h => match ab_mt[j]? with
    | none => none
    | some mi => if (ab_en as).length ≤ mi.2.2.2.1 then ab_go (ab_call d F) mi.2.2.2.2.1 mi.2.2.2.2.2.2 F 0 (ab_ent mi.2.2.2.1 as) [] h else none
