/-! THE SMALL MACHINE: it runs the op tables over relative addresses. Cells: an array is .inl (kind, length, contents), kinds 0 int[], 1 long[], 2 of republics, 3 of int[], 4 byte[]; an object is .inr (number, fields). Addresses below 8 are old cells that nobody writes (0 the script, 1 .. 4 static rows, 5 the text, 6 its bytes, 7 a thing that is only handed on); 8 + k is the k-th new cell. -/
abbrev zC : Type := (Nat × Nat × ((Nat → Int32) ⊕ (Nat → Int64) ⊕ (Nat → Option Nat))) ⊕ (Nat × List Value)
abbrev zH : Type := Nat × Nat × (Nat → zC)
abbrev zL : Type := Nat → Value
abbrev zN : Type := Nat × zL × List Value × zH
abbrev zS : Type := zN ⊕ (Nat × List Value × List Value) ⊕ Option Value
def ze : List Value → Nat → zL
  | [], _ => fun _ => .null
  | v :: vs, p => fun j => if j = p then v else ze vs (p + v.category) j
def z1 (ls : zL) (i : Nat) (v : Value) : zL := fun j => if j = i then v else if j + 1 = i ∧ (ls j).category = 2 then .null else ls j
def z2 (ls : zL) (i : Nat) (v : Value) : zL := fun j => if j = i then v else if j = i + 1 then .null else if j + 1 = i ∧ (ls j).category = 2 then .null else ls j
def zu (h : zH) (a : Nat) (c : zC) : zH := (h.1, h.2.1, fun q => if q = a then c else h.2.2 q)
def zp (h : zH) (c : zC) (n : Nat) : zH := (h.1 + 1, h.2.1 + n, fun q => if q = 8 + h.1 then c else h.2.2 q)
def zpm (h : zH) (n k : Nat) : zH := (h.1 + (1 + n), h.2.1 + (n + n * k), fun q => if q = 8 + h.1 then .inl (3, n, .inr (.inr (fun i => if i < n then some (8 + h.1 + 1 + i) else none))) else if 8 + h.1 < q ∧ q < 8 + h.1 + 1 + n then .inl (0, k, .inl (fun _ => 0)) else h.2.2 q)
def zin (i : Int32) (n : Nat) : Bool := !(decide (i < 0) || decide (n ≤ i.toNatClampNeg))
def zvI (v : Value) : Bool := match v with
  | .int _ => true
  | _ => false
def zvJ (v : Value) : Bool := match v with
  | .long _ => true
  | _ => false
def zvA (v : Value) : Bool := match v with
  | .ref a => !(Nat.beq a 7)
  | _ => false
/-- is it a new cell -/
def znew (h : zH) (a : Nat) : Bool := Nat.ble 8 a && Nat.blt a (8 + h.1)
def zkI (c : zC) (t : Nat) (i : Int32) : Bool := match c with
  | .inl (u, n, .inl _) => Nat.beq u t && zin i n
  | _ => false
def zkJ (c : zC) (i : Int32) : Bool := match c with
  | .inl (u, n, .inr (.inl _)) => Nat.beq u 1 && zin i n
  | _ => false
def zkA (c : zC) (i : Int32) : Bool := match c with
  | .inl (u, n, .inr (.inr f)) => (Nat.beq u 2 || Nat.beq u 3) && zin i n && (match f i.toNatClampNeg with
    | some b => Nat.ble 8 b
    | none => false)
  | _ => false
def zgI (c : zC) (j : Nat) : Int32 := match c with
  | .inl (_, _, .inl f) => f j
  | _ => 0
def zgJ (c : zC) (j : Nat) : Int64 := match c with
  | .inl (_, _, .inr (.inl f)) => f j
  | _ => 0
def zgA (c : zC) (j : Nat) : Nat := match c with
  | .inl (_, _, .inr (.inr f)) => (f j).getD 0
  | _ => 0
def zsI (c : zC) (j : Nat) (x : Int32) : zC := match c with
  | .inl (u, n, .inl f) => .inl (u, n, .inl (upd f j x))
  | c => c
def zsJ (c : zC) (j : Nat) (x : Int64) : zC := match c with
  | .inl (u, n, .inr (.inl f)) => .inl (u, n, .inr (.inl (vp_updL f j x)))
  | c => c
def zsA (c : zC) (j : Nat) (x : Nat) : zC := match c with
  | .inl (u, n, .inr (.inr f)) => .inl (u, n, .inr (.inr (va_up f j (some x))))
  | c => c
def zlen (c : zC) : Nat := match c with
  | .inl (_, n, _) => n
  | _ => 0
def zisArr (c : zC) : Bool := match c with
  | .inl (u, _, .inl _) => Nat.beq u 0
  | .inl (u, _, .inr (.inl _)) => Nat.beq u 1
  | _ => false
def zkO (c : zC) (ci b : Nat) : Bool := match c with
  | .inr (u, fs) => Nat.beq u ci && Nat.blt b fs.length
  | _ => false
def zgO (c : zC) (b : Nat) : Value := match c with
  | .inr (_, fs) => fs.getD b .null
  | _ => .null
def zsO (c : zC) (b : Nat) (v : Value) : zC := match c with
  | .inr (u, fs) => .inr (u, fs.set b v)
  | c => c
/-- the kinds of fields: 0 a number, 1 a reference -/
def zkt : List (List Nat) := [[1, 0, 0], [1, 1, 0, 0], [1, 1, 1, 1, 1, 1, 0, 1, 1, 0, 0], [1, 1, 1, 1, 1], [0, 0, 0, 0, 0, 0, 1, 1, 1, 1, 1, 1, 1, 1], [1, 1, 1], [1, 0, 0, 0, 0], [1, 1, 1, 1, 1, 1, 1, 1, 1, 0], [1, 1, 1, 1, 0, 1, 0, 0, 1, 0, 0, 0, 0, 0, 1, 1, 0, 1, 1, 1, 1, 0, 1, 1, 1, 0]]
def zfits (v : Value) (kd : Nat) : Bool := match v with
  | .int _ => Nat.beq kd 0
  | .ref a => Nat.beq kd 1 && Nat.ble 8 a
  | _ => false
def zdf (ci : Nat) : List Value := (zkt.getD ci []).map (fun q => if q = 0 then .int 0 else .null)
def zcs (st : List Value) : Nat := (st.map fun v => v.category).sum
/-- one number on top, two, two longs -/
def zb (pc : Nat) (ls : zL) (st : List Value) (h : zH) (f : Int32 → Int32 → Int32) : Option zS := match st with
  | .int y :: .int x :: r => some (.inl (pc + 1, ls, .int (f x y) :: r, h))
  | _ => none
def zbl (pc : Nat) (ls : zL) (st : List Value) (h : zH) (f : Int64 → Int64 → Int64) : Option zS := match st with
  | .long y :: .long x :: r => some (.inl (pc + 1, ls, .long (f x y) :: r, h))
  | _ => none
def zbs (pc : Nat) (ls : zL) (st : List Value) (h : zH) (f : Int64 → Int32 → Int64) : Option zS := match st with
  | .int y :: .long x :: r => some (.inl (pc + 1, ls, .long (f x y) :: r, h))
  | _ => none
def zun (pc : Nat) (ls : zL) (st : List Value) (h : zH) (f : Int32 → Int32) : Option zS := match st with
  | .int x :: r => some (.inl (pc + 1, ls, .int (f x) :: r, h))
  | _ => none
def zcm (c : ClassFile.Cond) (x y : Int32) : Bool := match c with
  | .eq => decide (x = y)
  | .ne => decide (¬ x = y)
  | .lt => decide (x < y)
  | .ge => decide (y ≤ x)
  | .gt => decide (y < x)
  | .le => decide (x ≤ y)
def zro (k : Nat) (x : Int32) : Bool := match (zm k).2.2.2.1 with
  | some .int => true
  | some .boolean => decide (x = 0) || decide (x = 1)
  | some .char => decide (narrow .char (.int x) = .int x)
  | _ => false
/-- a call of a method with so many values, the first of which may have to be an object of its kind -/
def zcl (a n : Nat) (st : List Value) : Option zS := if n ≤ st.length ∧ zcs (st.drop n) ≤ 8 ∧ zcs (st.take n) ≤ (zm a).2.2.1 then some (.inr (.inl (a, (st.take n).reverse, st.drop n))) else none
def zrc (h : zH) (v : Value) (ci : Nat) : Bool := match v with
  | .ref b => if Nat.beq ci 9 then Nat.beq b 5 else znew h b && zkO (h.2.2 b) ci 0
  | _ => false
def zx (o : zO) (k pc : Nat) (ls : zL) (st : List Value) (h : zH) : Option zS :=
  match o.1 with
  | .iload_n i => if zvI (ls i) then some (.inl (pc + 1, ls, ls i :: st, h)) else none
  | .iload i => if zvI (ls i) then some (.inl (pc + 2, ls, ls i :: st, h)) else none
  | .lload_n i => if zvJ (ls i) then some (.inl (pc + 1, ls, ls i :: st, h)) else none
  | .lload i => if zvJ (ls i) then some (.inl (pc + 2, ls, ls i :: st, h)) else none
  | .aload_n i => if zvA (ls i) then some (.inl (pc + 1, ls, ls i :: st, h)) else none
  | .aload i => if zvA (ls i) then some (.inl (pc + 2, ls, ls i :: st, h)) else none
  | .istore_n i => match st with
    | .int x :: r => if i < (zm k).2.2.1 then some (.inl (pc + 1, z1 ls i (.int x), r, h)) else none
    | _ => none
  | .istore i => match st with
    | .int x :: r => if i < (zm k).2.2.1 then some (.inl (pc + 2, z1 ls i (.int x), r, h)) else none
    | _ => none
  | .lstore_n i => match st with
    | .long x :: r => if i + 1 < (zm k).2.2.1 then some (.inl (pc + 1, z2 ls i (.long x), r, h)) else none
    | _ => none
  | .lstore i => match st with
    | .long x :: r => if i + 1 < (zm k).2.2.1 then some (.inl (pc + 2, z2 ls i (.long x), r, h)) else none
    | _ => none
  | .astore_n i => match st with
    | .ref x :: r => if i < (zm k).2.2.1 ∧ x ≠ 7 then some (.inl (pc + 1, z1 ls i (.ref x), r, h)) else none
    | _ => none
  | .iinc i n => match ls i with
    | .int x => if i < (zm k).2.2.1 then some (.inl (pc + 3, z1 ls i (.int (x + Int32.ofInt n)), st, h)) else none
    | _ => none
  | .iconst n => some (.inl (pc + 1, ls, .int (Int32.ofInt n) :: st, h))
  | .bipush n => some (.inl (pc + 2, ls, .int ((Int8.ofInt n).toInt32) :: st, h))
  | .sipush n => some (.inl (pc + 3, ls, .int ((Int16.ofInt n).toInt32) :: st, h))
  | .lconst n => some (.inl (pc + 1, ls, .long (Int64.ofNat (n : Nat)) :: st, h))
  | .ldc _ => if o.2.2.2.1 = 1 then some (.inl (pc + 2, ls, .ref 5 :: st, h)) else some (.inl (pc + 2, ls, .int (Int32.ofInt o.2.2.2.2) :: st, h))
  | .ldc_w _ => some (.inl (pc + 3, ls, .int (Int32.ofInt o.2.2.2.2) :: st, h))
  | .ldc2_w _ => some (.inl (pc + 3, ls, .long (Int64.ofInt o.2.2.2.2) :: st, h))
  | .dup => match st with
    | v :: r => if v.category = 1 then some (.inl (pc + 1, ls, v :: v :: r, h)) else none
    | _ => none
  | .dup2 => match st with
    | v :: w :: r => if v.category = 1 ∧ w.category = 1 then some (.inl (pc + 1, ls, v :: w :: v :: w :: r, h)) else none
    | _ => none
  | .pop => match st with
    | v :: r => if v.category = 1 then some (.inl (pc + 1, ls, r, h)) else none
    | _ => none
  | .iadd => zb pc ls st h (fun x y => x + y)
  | .isub => zb pc ls st h (fun x y => x - y)
  | .imul => zb pc ls st h (fun x y => x * y)
  | .iand => zb pc ls st h (fun x y => x &&& y)
  | .ior => zb pc ls st h (fun x y => x ||| y)
  | .ixor => zb pc ls st h (fun x y => x ^^^ y)
  | .ishl => zb pc ls st h (fun x y => x <<< (y &&& 31))
  | .ishr => zb pc ls st h (fun x y => x >>> (y &&& 31))
  | .iushr => zb pc ls st h (fun x y => (x.toUInt32 >>> (y.toUInt32 &&& Int32.toUInt32 31)).toInt32)
  | .idiv => match st with
    | .int y :: .int x :: r => if y = 0 then none else some (.inl (pc + 1, ls, .int (x / y) :: r, h))
    | _ => none
  | .irem => match st with
    | .int y :: .int x :: r => if y = 0 then none else some (.inl (pc + 1, ls, .int (x - x / y * y) :: r, h))
    | _ => none
  | .ineg => zun pc ls st h (fun x => -x)
  | .i2b => zun pc ls st h (fun x => x.toInt8.toInt32)
  | .i2s => zun pc ls st h (fun x => x.toInt16.toInt32)
  | .i2c => zun pc ls st h (fun x => (x.toUInt32 % 65536).toInt32)
  | .ladd => zbl pc ls st h (fun x y => x + y)
  | .lsub => zbl pc ls st h (fun x y => x - y)
  | .lmul => zbl pc ls st h (fun x y => x * y)
  | .land => zbl pc ls st h (fun x y => x &&& y)
  | .lor => zbl pc ls st h (fun x y => x ||| y)
  | .lxor => zbl pc ls st h (fun x y => x ^^^ y)
  | .ldiv => match st with
    | .long y :: .long x :: r => if y = 0 then none else some (.inl (pc + 1, ls, .long (x / y) :: r, h))
    | _ => none
  | .lrem => match st with
    | .long y :: .long x :: r => if y = 0 then none else some (.inl (pc + 1, ls, .long (x - x / y * y) :: r, h))
    | _ => none
  | .lshl => zbs pc ls st h (fun x y => x <<< (y.toInt64 &&& 63))
  | .lushr => zbs pc ls st h (fun x y => (x.toUInt64 >>> (y.toInt64.toUInt64 &&& Int64.toUInt64 63)).toInt64)
  | .lneg => match st with
    | .long x :: r => some (.inl (pc + 1, ls, .long (-x) :: r, h))
    | _ => none
  | .i2l => match st with
    | .int x :: r => some (.inl (pc + 1, ls, .long x.toInt64 :: r, h))
    | _ => none
  | .l2i => match st with
    | .long x :: r => some (.inl (pc + 1, ls, .int x.toInt32 :: r, h))
    | _ => none
  | .lcmp => match st with
    | .long y :: .long x :: r => some (.inl (pc + 1, ls, .int (lg_cmp x y) :: r, h))
    | _ => none
  | .if_icmp c _ => match st with
    | .int y :: .int x :: r => some (.inl (bif zcm c x y then o.2.2.1 else pc + 3, ls, r, h))
    | _ => none
  | .ifCond c _ => match st with
    | .int x :: r => some (.inl (bif zcm c x 0 then o.2.2.1 else pc + 3, ls, r, h))
    | _ => none
  | .goto _ => some (.inl (o.2.2.1, ls, st, h))
  | .tableswitch dflt lo hi offs => match st with
    | .int x :: r => if x.toInt < lo ∨ hi < x.toInt then some (.inl (((pc : Int) + dflt).toNat, ls, r, h)) else match offs[(x.toInt - lo).toNat]? with
      | some off => some (.inl (((pc : Int) + off).toNat, ls, r, h))
      | none => none
    | _ => none
  | .lookupswitch dflt ps => match st with
    | .int x :: r => some (.inl (((pc : Int) + Op.lookupswitch.offset ps.toList dflt x.toInt).toNat, ls, r, h))
    | _ => none
  | .getfield _ => match st with
    | .ref a :: r => if o.2.2.1 = 9 then (if a = 5 then some (.inl (pc + 3, ls, (if o.2.2.2.1 = 0 then .int 0 else .ref 6) :: r, h)) else none)
      else if (znew h a && zkO (h.2.2 a) o.2.2.1 o.2.2.2.1) = true then some (.inl (pc + 3, ls, zgO (h.2.2 a) o.2.2.2.1 :: r, h)) else none
    | _ => none
  | .putfield _ => match st with
    | v :: .ref a :: r => if (znew h a && zkO (h.2.2 a) o.2.2.1 o.2.2.2.1 && zfits v ((zkt.getD o.2.2.1 []).getD o.2.2.2.1 2)) = true then some (.inl (pc + 3, ls, r, zu h a (zsO (h.2.2 a) o.2.2.2.1 v))) else none
    | _ => none
  | .getstatic _ => if o.2.2.1 = 8 then some (.inl (pc + 3, ls, .int 1 :: st, h)) else if 1 ≤ o.2.2.1 ∧ o.2.2.1 ≤ 4 ∨ o.2.2.1 = 7 then some (.inl (pc + 3, ls, .ref o.2.2.1 :: st, h)) else none
  | .iaload => match st with
    | .int i :: .ref a :: r => if ((znew h a || Nat.ble a 4) && zkI (h.2.2 a) 0 i) = true then some (.inl (pc + 1, ls, .int (zgI (h.2.2 a) i.toNatClampNeg) :: r, h)) else none
    | _ => none
  | .laload => match st with
    | .int i :: .ref a :: r => if ((znew h a || Nat.beq a 2) && zkJ (h.2.2 a) i) = true then some (.inl (pc + 1, ls, .long (zgJ (h.2.2 a) i.toNatClampNeg) :: r, h)) else none
    | _ => none
  | .baload => match st with
    | .int i :: .ref a :: r => if (Nat.beq a 6 && zkI (h.2.2 a) 4 i) = true then some (.inl (pc + 1, ls, .int (zgI (h.2.2 a) i.toNatClampNeg) :: r, h)) else none
    | _ => none
  | .aaload => match st with
    | .int i :: .ref a :: r => if (znew h a && zkA (h.2.2 a) i) = true then some (.inl (pc + 1, ls, .ref (zgA (h.2.2 a) i.toNatClampNeg) :: r, h)) else none
    | _ => none
  | .iastore => match st with
    | .int x :: .int i :: .ref a :: r => if (znew h a && zkI (h.2.2 a) 0 i) = true then some (.inl (pc + 1, ls, r, zu h a (zsI (h.2.2 a) i.toNatClampNeg x))) else none
    | _ => none
  | .lastore => match st with
    | .long x :: .int i :: .ref a :: r => if (znew h a && zkJ (h.2.2 a) i) = true then some (.inl (pc + 1, ls, r, zu h a (zsJ (h.2.2 a) i.toNatClampNeg x))) else none
    | _ => none
  | .aastore => match st with
    | .ref v :: .int i :: .ref a :: r => match h.2.2 a with
      | .inl (2, n, .inr (.inr _)) => if (znew h a && zin i n && znew h v && zkO (h.2.2 v) 4 0) = true then some (.inl (pc + 1, ls, r, zu h a (zsA (h.2.2 a) i.toNatClampNeg v))) else none
      | _ => none
    | _ => none
  | .arraylength => match st with
    | .ref a :: r => if ((znew h a || Nat.beq a 0) && zisArr (h.2.2 a) || Nat.beq a 6) = true then some (.inl (pc + 1, ls, .int (Int32.ofNat (zlen (h.2.2 a))) :: r, h)) else none
    | _ => none
  | .newarray .int => match st with
    | .int n :: r => if ¬ n < 0 ∧ n.toNatClampNeg ≤ 4000 then some (.inl (pc + 2, ls, .ref (8 + h.1) :: r, zp h (.inl (0, n.toNatClampNeg, .inl (fun _ => 0))) n.toNatClampNeg)) else none
    | _ => none
  | .newarray .long => match st with
    | .int n :: r => if ¬ n < 0 ∧ n.toNatClampNeg ≤ 4000 then some (.inl (pc + 2, ls, .ref (8 + h.1) :: r, zp h (.inl (1, n.toNatClampNeg, .inr (.inl (fun _ => 0)))) n.toNatClampNeg)) else none
    | _ => none
  | .anewarray _ => match st with
    | .int n :: r => if ¬ n < 0 ∧ n.toNatClampNeg ≤ 4000 then some (.inl (pc + 3, ls, .ref (8 + h.1) :: r, zp h (.inl (2, n.toNatClampNeg, .inr (.inr (fun _ => none)))) n.toNatClampNeg)) else none
    | _ => none
  | .multianewarray _ _ => match st with
    | .int q :: .int n :: r => if ¬ n < 0 ∧ n.toNatClampNeg ≤ 4000 ∧ ¬ q < 0 ∧ q.toNatClampNeg ≤ 4000 then some (.inl (pc + 4, ls, .ref (8 + h.1) :: r, zpm h n.toNatClampNeg q.toNatClampNeg)) else none
    | _ => none
  | .new _ => some (.inl (pc + 3, ls, .ref (8 + h.1) :: st, zp h (.inr (o.2.2.1, zdf o.2.2.1)) (zdf o.2.2.1).length))
  | .invokestatic _ => if o.2.2.1 = 1001 then (match st with
      | .int n :: .int dp :: .ref b :: .int sp :: .ref a :: r => match h.2.2 a, h.2.2 b with
        | .inl (0, n0, .inl f), .inl (0, n1, .inl g) => if (znew h a && znew h b && !(decide (sp < 0)) && !(decide (dp < 0)) && !(decide (n < 0)) && Nat.ble (sp.toNatClampNeg + n.toNatClampNeg) n0 && Nat.ble (dp.toNatClampNeg + n.toNatClampNeg) n1 && Nat.ble (zcs r) 8) = true then some (.inl (pc + 3, ls, r, zu h b (.inl (0, n1, .inl (va_cpy f g sp.toNatClampNeg dp.toNatClampNeg n.toNatClampNeg))))) else none
        | _, _ => none
      | _ => none) else if o.2.2.1 = 218 then (match st with
      | .long q :: r => if zcs r ≤ 8 then some (.inl (pc + 3, ls, .long (if 0 < q then q else -q) :: r, h)) else none
      | _ => none) else if o.2.2.1 = 219 then (match st with
      | .long q :: .long w :: r => if zcs r ≤ 8 then some (.inl (pc + 3, ls, .long (if q < w then w else q) :: r, h)) else none
      | _ => none) else if o.2.2.1 < 226 then zcl o.2.2.1 (zm o.2.2.1).2.2.2.2.1 st else none
  | .invokespecial _ => if o.2.2.1 = 1000 then (match st with
      | .ref w :: r => if zcs r ≤ 8 ∧ w ≠ 7 then some (.inl (pc + 3, ls, r, h)) else none
      | _ => none) else if o.2.2.1 < 226 then (match st.drop (zm o.2.2.1).2.2.2.2.1 with
      | .ref b :: _ => if Nat.beq b 7 then none else zcl o.2.2.1 ((zm o.2.2.1).2.2.2.2.1 + 1) st
      | _ => none) else none
  | .invokevirtual _ => if o.2.2.1 < 226 then (match st.drop (zm o.2.2.1).2.2.2.2.1 with
      | v :: _ => if zrc h v (zm o.2.2.1).2.2.2.2.2 = true then zcl o.2.2.1 ((zm o.2.2.1).2.2.2.2.1 + 1) st else none
      | _ => none) else none
  | .ireturn => match st with
    | [.int x] => if zro k x = true then some (.inr (.inr (some (.int x)))) else none
    | _ => none
  | .lreturn => match st with
    | [.long x] => if (zm k).2.2.2.1 = some .long then some (.inr (.inr (some (.long x)))) else none
    | _ => none
  | .areturn => match st with
    | [.ref a] => if (zm k).2.2.2.1 = some (.object "ProphetFines$Republic") ∧ 8 ≤ a then some (.inr (.inr (some (.ref a)))) else none
    | _ => none
  | .return_ => match st with
    | [] => if (zm k).2.2.2.1 = none then some (.inr (.inr none)) else none
    | _ => none
  | _ => none
/-- n bounds the steps, d the depth of calls -/
def zrun : Nat → Nat → Nat → Nat → zL → List Value → zH → Option (Option Value × zH)
  | 0, _, _, _, _, _, _ => none
  | n + 1, d, k, pc, ls, st, h => match zf k pc with
    | none => none
    | some o => match zx o k pc ls st h with
      | none => none
      | some (.inl q) => zrun n d k q.1 q.2.1 q.2.2.1 q.2.2.2
      | some (.inr (.inl q)) => match d with
        | 0 => none
        | d + 1 => match zrun n d q.1 0 (ze q.2.1 0) [] h with
          | none => none
          | some u => zrun n (d + 1) k (pc + 3) ls (u.1.toList ++ q.2.2) u.2
      | some (.inr (.inr v)) => some (v, h)
theorem zrun_mono : ∀ (n d k pc : Nat) (ls : zL) (st : List Value) (h : zH) (u : Option Value × zH), zrun n d k pc ls st h = some u → zrun (n + 1) d k pc ls st h = some u := by
  intro n
  induction n with
  | zero => intro d k pc ls st h u e; cases e
  | succ n ih =>
    intro d k pc ls st h u e
    rw [zrun] at e ⊢
    cases hf : zf k pc with
    | none => rw [hf] at e; cases e
    | some o =>
      rw [hf] at e
      dsimp only at e ⊢
      cases hx : zx o k pc ls st h with
      | none => rw [hx] at e; cases e
      | some w =>
        rw [hx] at e
        rcases w with q | q | v
        · exact ih _ _ _ _ _ _ _ e
        · cases d with
          | zero => cases e
          | succ d =>
            dsimp only at e ⊢
            cases hc : zrun n d q.1 0 (ze q.2.1 0) [] h with
            | none => rw [hc] at e; cases e
            | some w =>
              rw [hc] at e
              rw [ih _ _ _ _ _ _ _ hc]
              exact ih _ _ _ _ _ _ _ e
        · exact e
theorem zrun_le {n m d k pc : Nat} {ls : zL} {st : List Value} {h : zH} {u : Option Value × zH} (hm : n ≤ m) (e : zrun n d k pc ls st h = some u) : zrun m d k pc ls st h = some u := by
  induction hm with
  | refl => exact e
  | step _ ih => exact zrun_mono _ _ _ _ _ _ _ _ ih
/-- THE JUDGEMENT: the run from here ends, and Q holds of its answer and its heap -/
def zR (d k pc : Nat) (ls : zL) (st : List Value) (h : zH) (Q : Option Value → zH → Prop) : Prop := ∃ (n : Nat) (u : Option Value × zH), zrun n d k pc ls st h = some u ∧ Q u.1 u.2
theorem zR_det {d k pc : Nat} {ls : zL} {st : List Value} {h : zH} {v : Option Value} {h' : zH} (a : zR d k pc ls st h (fun w g => w = v ∧ g = h')) (Q : Option Value → zH → Prop) : zR d k pc ls st h Q = Q v h' := by
  obtain ⟨n, ⟨w, g⟩, e, rfl, rfl⟩ := a
  refine propext ⟨fun b => ?_, fun b => ⟨n, (w, g), e, b⟩⟩
  obtain ⟨m, u, e', b⟩ := b
  have h1 := zrun_le (Nat.le_max_left n m) e
  have h2 := zrun_le (Nat.le_max_right n m) e'
  rw [h1] at h2
  cases h2
  exact b
theorem zR_next {d k pc pc' : Nat} {ls ls' : zL} {st st' : List Value} {h h' : zH} {o : zO} {Q : Option Value → zH → Prop} (hf : zf k pc = some o) (hx : zx o k pc ls st h = some (.inl (pc', ls', st', h'))) : zR d k pc ls st h Q = zR d k pc' ls' st' h' Q := by
  refine propext ⟨fun ⟨n, u, e, q⟩ => ?_, fun ⟨n, u, e, q⟩ => ⟨n + 1, u, by rw [zrun, hf]; dsimp only; rw [hx]; exact e, q⟩⟩
  cases n with
  | zero => cases e
  | succ n =>
    rw [zrun, hf] at e
    dsimp only at e
    rw [hx] at e
    exact ⟨n, u, e, q⟩
theorem zR_call {d k pc a : Nat} {ls : zL} {st as rest : List Value} {h : zH} {o : zO} {Q : Option Value → zH → Prop} (hf : zf k pc = some o) (hx : zx o k pc ls st h = some (.inr (.inl (a, as, rest)))) : zR (d + 1) k pc ls st h Q = zR d a 0 (ze as 0) [] h (fun v h' => zR (d + 1) k (pc + 3) ls (v.toList ++ rest) h' Q) := by
  refine propext ⟨fun ⟨n, u, e, q⟩ => ?_, fun ⟨n, u, e, m, w, e', q⟩ => ⟨max n m + 1, w, ?_, q⟩⟩
  · cases n with
    | zero => cases e
    | succ n =>
      rw [zrun, hf] at e
      dsimp only at e
      rw [hx] at e
      dsimp only at e
      cases hc : zrun n d a 0 (ze as 0) [] h with
      | none => rw [hc] at e; cases e
      | some w => rw [hc] at e; exact ⟨n, w, hc, n, u, e, q⟩
  · rw [zrun, hf]
    dsimp only
    rw [hx]
    dsimp only
    rw [zrun_le (Nat.le_max_left n m) e]
    exact zrun_le (Nat.le_max_right n m) e'
theorem zR_ret {d k pc : Nat} {ls : zL} {st : List Value} {h : zH} {o : zO} {v : Option Value} {Q : Option Value → zH → Prop} (hf : zf k pc = some o) (hx : zx o k pc ls st h = some (.inr (.inr v))) : zR d k pc ls st h Q = Q v h := by
  refine zR_det ⟨1, (v, h), ?_, rfl, rfl⟩ Q
  rw [zrun, hf]
  dsimp only
  rw [hx]
