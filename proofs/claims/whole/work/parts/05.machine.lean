/-! THE ABSTRACT MACHINE: whole numbers for ints and longs (their classes modulo 2^32, 2^64), bits for floats and doubles, numbers of cells for references -/
abbrev zAV : Type := Int ⊕ Int ⊕ UInt32 ⊕ UInt64 ⊕ Nat
abbrev zI (x : Int) : zAV := .inl x
abbrev zL (x : Int) : zAV := .inr (.inl x)
abbrev zF (b : UInt32) : zAV := .inr (.inr (.inl b))
abbrev zD (b : UInt64) : zAV := .inr (.inr (.inr (.inl b)))
abbrev zR (k : Nat) : zAV := .inr (.inr (.inr (.inr k)))
/-- cells: what they are ((class, 0), (10 + sort, length)), the references in them, the numbers in them -/
abbrev zMem : Type := Nat → Nat → Int
abbrev zM : Type := List (Nat × Nat) × List (List (Option Nat)) × zMem
abbrev zLs : Type := List (Option zAV)
def zin32 (x : Int) : Prop := -2147483648 ≤ x ∧ x ≤ 2147483647
def zin64 (x : Int) : Prop := -9223372036854775808 ≤ x ∧ x ≤ 9223372036854775807
def zup (Z : zMem) (k i : Nat) (v : Int) : zMem := fun a b => if a = k then (if b = i then v else Z a b) else Z a b
def zclr (Z : zMem) (k : Nat) : zMem := fun a b => if a = k then 0 else Z a b
def zcpy (Z : zMem) (ks sp kd dp n : Nat) : zMem := fun a b => if a = kd then (if dp ≤ b ∧ b < dp + n then Z ks (sp + (b - dp)) else Z a b) else Z a b
def zrd (R : List (List (Option Nat))) (k i : Nat) : Option Nat := (R.getD k []).getD i none
def zrw (R : List (List (Option Nat))) (k i j : Nat) : List (List (Option Nat)) := R.set k ((R.getD k []).set i (some j))
def zcat : zAV → Nat
  | .inl _ => 1
  | .inr (.inl _) => 2
  | .inr (.inr (.inl _)) => 1
  | .inr (.inr (.inr (.inl _))) => 2
  | .inr (.inr (.inr (.inr _))) => 1
/-- a slot in front of i that a wide value begins is given up -/
def zcut (L : zLs) : Nat → zLs
  | 0 => L
  | j + 1 => match L.getD j none with
    | some (.inr (.inl _)) => L.set j none
    | some (.inr (.inr (.inr (.inl _)))) => L.set j none
    | _ => L
def zset1 (L : zLs) (i : Nat) (v : zAV) : zLs := (zcut L i).set i (some v)
def zset2 (L : zLs) (i : Nat) (v : zAV) : zLs := ((zcut L i).set (i + 1) none).set i (some v)
def zcond (c : ClassFile.Cond) (x y : Int) : Bool := match c with
  | .eq => decide (x = y) | .ne => decide (¬ x = y) | .lt => decide (x < y) | .ge => decide (y ≤ x) | .gt => decide (y < x) | .le => decide (x ≤ y)
def zcmp (x y : Int) : Int := if x < y then -1 else if x = y then 0 else 1
abbrev zOut : Type := Option (Nat × zLs × List zAV × zM)
/-- an instruction that is no call and no return -/
def zstep (I : Instr) (n : Nat) (r : zRes) (pc : Nat) (L : zLs) (st : List zAV) (M : zM) : zOut :=
  let push := fun (v : zAV) => (some (pc + n, L, v :: st, M) : zOut)
  let ildI := fun (i : Nat) => (match L.getD i none with | some (.inl x) => some (pc + n, L, zI x :: st, M) | _ => none : zOut)
  let ildL := fun (i : Nat) => (match L.getD i none with | some (.inr (.inl x)) => some (pc + n, L, zL x :: st, M) | _ => none : zOut)
  let ildF := fun (i : Nat) => (match L.getD i none with | some (.inr (.inr (.inl x))) => some (pc + n, L, zF x :: st, M) | _ => none : zOut)
  let ildD := fun (i : Nat) => (match L.getD i none with | some (.inr (.inr (.inr (.inl x)))) => some (pc + n, L, zD x :: st, M) | _ => none : zOut)
  let ildR := fun (i : Nat) => (match L.getD i none with | some (.inr (.inr (.inr (.inr x)))) => some (pc + n, L, zR x :: st, M) | _ => none : zOut)
  let istI := fun (i : Nat) => (match st with | .inl x :: s => if i < L.length then some (pc + n, zset1 L i (zI x), s, M) else none | _ => none : zOut)
  let istL := fun (i : Nat) => (match st with | .inr (.inl x) :: s => if i + 1 < L.length then some (pc + n, zset2 L i (zL x), s, M) else none | _ => none : zOut)
  let istF := fun (i : Nat) => (match st with | .inr (.inr (.inl x)) :: s => if i < L.length then some (pc + n, zset1 L i (zF x), s, M) else none | _ => none : zOut)
  let istD := fun (i : Nat) => (match st with | .inr (.inr (.inr (.inl x))) :: s => if i + 1 < L.length then some (pc + n, zset2 L i (zD x), s, M) else none | _ => none : zOut)
  let istR := fun (i : Nat) => (match st with | .inr (.inr (.inr (.inr x))) :: s => if i < L.length then some (pc + n, zset1 L i (zR x), s, M) else none | _ => none : zOut)
  let b2I := fun (f : Int → Int → Int) => (match st with | .inl y :: .inl x :: s => some (pc + n, L, zI (f x y) :: s, M) | _ => none : zOut)
  let b2L := fun (f : Int → Int → Int) => (match st with | .inr (.inl y) :: .inr (.inl x) :: s => some (pc + n, L, zL (f x y) :: s, M) | _ => none : zOut)
  let bsL := fun (f : Int → Int → Int) => (match st with | .inl y :: .inr (.inl x) :: s => some (pc + n, L, zL (f x y) :: s, M) | _ => none : zOut)
  let b2F := fun (f : UInt32 → UInt32 → UInt32) => (match st with | .inr (.inr (.inl y)) :: .inr (.inr (.inl x)) :: s => if f x y &&& 0x7fffffff ≤ 0x7f800000 then some (pc + n, L, zF (f x y) :: s, M) else none | _ => none : zOut)
  let b2D := fun (f : UInt64 → UInt64 → UInt64) => (match st with | .inr (.inr (.inr (.inl y))) :: .inr (.inr (.inr (.inl x))) :: s => if f x y &&& 0x7fffffffffffffff ≤ 0x7ff0000000000000 then some (pc + n, L, zD (f x y) :: s, M) else none | _ => none : zOut)
  match I with
  | .iconst k => push (zI k)
  | .bipush k => push (zI k)
  | .sipush k => push (zI k)
  | .lconst k => push (zL (k : Nat))
  | .fconst k => push (zF (if (k : Nat) = 0 then FP.fconst0 else if (k : Nat) = 1 then FP.fconst1 else FP.fconst2))
  | .dconst k => push (zD (if (k : Nat) = 0 then FP.dconst0 else FP.dconst1))
  | .ldc _ => push (if r.1 = 0 then zI r.2.2.2 else zF (UInt32.ofNat r.2.2.2.toNat))
  | .ldc_w _ => push (zI r.2.2.2)
  | .ldc2_w _ => push (if r.1 = 0 then zL r.2.2.2 else zD (UInt64.ofNat r.2.2.2.toNat))
  | .iload i => ildI i | .iload_n i => ildI i
  | .lload i => ildL i | .lload_n i => ildL i
  | .fload i => ildF i | .fload_n i => ildF i
  | .dload i => ildD i | .dload_n i => ildD i
  | .aload i => ildR i | .aload_n i => ildR i
  | .istore i => istI i | .istore_n i => istI i
  | .lstore i => istL i | .lstore_n i => istL i
  | .fstore i => istF i | .fstore_n i => istF i
  | .dstore i => istD i | .dstore_n i => istD i
  | .astore i => istR i | .astore_n i => istR i
  | .iinc i k => match L.getD i none with
    | some (.inl x) => some (pc + n, zset1 L i (zI (x + k)), st, M)
    | _ => none
  | .iadd => b2I (fun x y => x + y)
  | .isub => b2I (fun x y => x - y)
  | .imul => b2I (fun x y => x * y)
  | .iand => b2I (fun x y => (Int32.ofInt x &&& Int32.ofInt y).toInt)
  | .ior => b2I (fun x y => (Int32.ofInt x ||| Int32.ofInt y).toInt)
  | .ixor => b2I (fun x y => (Int32.ofInt x ^^^ Int32.ofInt y).toInt)
  | .ishl => b2I (fun x y => (Int32.ofInt x <<< (Int32.ofInt y &&& 31)).toInt)
  | .ishr => b2I (fun x y => (Int32.ofInt x >>> (Int32.ofInt y &&& 31)).toInt)
  | .iushr => b2I (fun x y => (((Int32.ofInt x).toUInt32 >>> ((Int32.ofInt y).toUInt32 &&& Int32.toUInt32 31)).toInt32).toInt)
  | .ladd => b2L (fun x y => x + y)
  | .lsub => b2L (fun x y => x - y)
  | .lmul => b2L (fun x y => x * y)
  | .land => b2L (fun x y => (Int64.ofInt x &&& Int64.ofInt y).toInt)
  | .lor => b2L (fun x y => (Int64.ofInt x ||| Int64.ofInt y).toInt)
  | .lshl => bsL (fun x y => (Int64.ofInt x <<< ((Int32.ofInt y).toInt64 &&& 63)).toInt)
  | .lushr => bsL (fun x y => (((Int64.ofInt x).toUInt64 >>> ((Int32.ofInt y).toInt64.toUInt64 &&& Int64.toUInt64 63)).toInt64).toInt)
  | .ldiv => match st with
    | .inr (.inl y) :: .inr (.inl x) :: s => if 0 < y ∧ y ≤ 9223372036854775807 ∧ -9223372036854775808 ≤ x ∧ x ≤ 9223372036854775807 then some (pc + n, L, zL (x.tdiv y) :: s, M) else none
    | _ => none
  | .lrem => match st with
    | .inr (.inl y) :: .inr (.inl x) :: s => if 0 < y ∧ y ≤ 9223372036854775807 ∧ -9223372036854775808 ≤ x ∧ x ≤ 9223372036854775807 then some (pc + n, L, zL (x.tmod y) :: s, M) else none
    | _ => none
  | .lneg => match st with
    | .inr (.inl x) :: s => some (pc + n, L, zL (-x) :: s, M)
    | _ => none
  | .i2l => match st with
    | .inl x :: s => some (pc + n, L, zL (if -2147483648 ≤ x ∧ x ≤ 2147483647 then x else (Int32.ofInt x).toInt) :: s, M)
    | _ => none
  | .l2i => match st with
    | .inr (.inl x) :: s => some (pc + n, L, zI x :: s, M)
    | _ => none
  | .i2b => match st with
    | .inl x :: s => some (pc + n, L, zI ((Int32.ofInt x).toInt8.toInt) :: s, M)
    | _ => none
  | .i2s => match st with
    | .inl x :: s => some (pc + n, L, zI ((Int32.ofInt x).toInt16.toInt) :: s, M)
    | _ => none
  | .i2f => match st with
    | .inl x :: s => some (pc + n, L, zF (FP.i2f (Int32.ofInt x)) :: s, M)
    | _ => none
  | .l2d => match st with
    | .inr (.inl x) :: s => some (pc + n, L, zD (FP.l2d (Int64.ofInt x)) :: s, M)
    | _ => none
  | .d2l => match st with
    | .inr (.inr (.inr (.inl x))) :: s => some (pc + n, L, zL (FP.d2l x).toInt :: s, M)
    | _ => none
  | .f2d => match st with
    | .inr (.inr (.inl x)) :: s => if FP.f2d x &&& 0x7fffffffffffffff ≤ 0x7ff0000000000000 then some (pc + n, L, zD (FP.f2d x) :: s, M) else none
    | _ => none
  | .dneg => match st with
    | .inr (.inr (.inr (.inl x))) :: s => some (pc + n, L, zD (FP.dneg x) :: s, M)
    | _ => none
  | .fadd => b2F FP.fadd | .fsub => b2F FP.fsub | .fmul => b2F FP.fmul | .fdiv => b2F FP.fdiv
  | .dadd => b2D FP.dadd | .dsub => b2D FP.dsub | .dmul => b2D FP.dmul | .ddiv => b2D FP.ddiv
  | .fcmp op => match st with
    | .inr (.inr (.inl y)) :: .inr (.inr (.inl x)) :: s => some (pc + n, L, zI (Op.cmpValue (FP.fcmp x y) op).toInt :: s, M)
    | _ => none
  | .dcmp op => match st with
    | .inr (.inr (.inr (.inl y))) :: .inr (.inr (.inr (.inl x))) :: s => some (pc + n, L, zI (Op.cmpValue (FP.dcmp x y) op).toInt :: s, M)
    | _ => none
  | .lcmp => match st with
    | .inr (.inl y) :: .inr (.inl x) :: s => if x = y ∨ ((-9223372036854775808 ≤ x ∧ x ≤ 9223372036854775807) ∧ -9223372036854775808 ≤ y ∧ y ≤ 9223372036854775807) then some (pc + n, L, zI (zcmp x y) :: s, M) else none
    | _ => none
  | .dup => match st with
    | v :: s => if zcat v = 1 then some (pc + n, L, v :: v :: s, M) else none
    | _ => none
  | .pop => match st with
    | v :: s => if zcat v = 1 then some (pc + n, L, s, M) else none
    | _ => none
  | .goto _ => some (r.1, L, st, M)
  | .ifCond c _ => match st with
    | .inl x :: s => if -2147483648 ≤ x ∧ x ≤ 2147483647 then some (if zcond c x 0 = true then r.1 else pc + n, L, s, M) else none
    | _ => none
  | .if_icmp c _ => match st with
    | .inl y :: .inl x :: s => if x = y ∨ ((-2147483648 ≤ x ∧ x ≤ 2147483647) ∧ -2147483648 ≤ y ∧ y ≤ 2147483647) then some (if zcond c x y = true then r.1 else pc + n, L, s, M) else none
    | _ => none
  | .tableswitch d lo hi os => match st with
    | .inl x :: s => if -2147483648 ≤ x ∧ x ≤ 2147483647 then (if x < lo ∨ hi < x then some (((pc : Int) + d).toNat, L, s, M) else match os[(x - lo).toNat]? with
        | some o => some (((pc : Int) + o).toNat, L, s, M)
        | none => none) else none
    | _ => none
  | .lookupswitch d ps => match st with
    | .inl x :: s => if -2147483648 ≤ x ∧ x ≤ 2147483647 then some (((pc : Int) + Op.lookupswitch.offset ps.toList d x).toNat, L, s, M) else none
    | _ => none
  | .getfield _ => match st with
    | .inr (.inr (.inr (.inr k))) :: s => if M.1[k]? = some (r.1, 0) then (match (zfk.getD r.1 []).getD r.2.1 9 with
        | 0 => some (pc + n, L, zI (M.2.2 k r.2.1) :: s, M)
        | 4 => some (pc + n, L, zI (M.2.2 k r.2.1) :: s, M)
        | 1 => some (pc + n, L, zL (M.2.2 k r.2.1) :: s, M)
        | 2 => some (pc + n, L, zF (UInt32.ofNat (M.2.2 k r.2.1).toNat) :: s, M)
        | 5 => match zrd M.2.1 k r.2.1 with
          | some j => some (pc + n, L, zR j :: s, M)
          | none => none
        | _ => none) else none
    | _ => none
  | .putfield _ => match st with
    | v :: .inr (.inr (.inr (.inr k))) :: s => if M.1[k]? = some (r.1, 0) then (match (zfk.getD r.1 []).getD r.2.1 9, v with
        | 0, .inl x => some (pc + n, L, s, M.1, M.2.1, zup M.2.2 k r.2.1 x)
        | 4, .inl x => if x = 0 ∨ x = 1 then some (pc + n, L, s, M.1, M.2.1, zup M.2.2 k r.2.1 x) else none
        | 1, .inr (.inl x) => some (pc + n, L, s, M.1, M.2.1, zup M.2.2 k r.2.1 x)
        | 2, .inr (.inr (.inl x)) => some (pc + n, L, s, M.1, M.2.1, zup M.2.2 k r.2.1 x.toNat)
        | 5, .inr (.inr (.inr (.inr j))) => if r.2.1 < (M.2.1.getD k []).length then some (pc + n, L, s, M.1, zrw M.2.1 k r.2.1 j, M.2.2) else none
        | _, _ => none) else none
    | _ => none
  | .getstatic _ => push (if r.1 = 0 then zR 1000 else zL (-9223372036854775808))
  | .iaload => match st with
    | .inl i :: .inr (.inr (.inr (.inr k))) :: s => if k = 1000 then (if 0 ≤ i ∧ i < 7 then some (pc + n, L, zI (([1, 1, 2, 6, 24, 120, 720] : List Int).getD i.toNat 0) :: s, M) else none)
        else if k = 1001 then (if 0 ≤ i ∧ i < M.2.2 1002 0 ∧ i < 2147483648 then some (pc + n, L, zI (M.2.2 1001 i.toNat) :: s, M) else none)
        else match M.1[k]? with
          | some (10, m) => if 0 ≤ i ∧ i < (m : Int) ∧ i < 2147483648 then some (pc + n, L, zI (M.2.2 k i.toNat) :: s, M) else none
          | _ => none
    | _ => none
  | .baload => match st with
    | .inl i :: .inr (.inr (.inr (.inr k))) :: s => match M.1[k]? with
      | some (13, m) => if 0 ≤ i ∧ i < (m : Int) ∧ i < 2147483648 then some (pc + n, L, zI (M.2.2 k i.toNat) :: s, M) else none
      | some (14, m) => if 0 ≤ i ∧ i < (m : Int) ∧ i < 2147483648 then some (pc + n, L, zI (M.2.2 k i.toNat) :: s, M) else none
      | _ => none
    | _ => none
  | .laload => match st with
    | .inl i :: .inr (.inr (.inr (.inr k))) :: s => match M.1[k]? with
      | some (11, m) => if 0 ≤ i ∧ i < (m : Int) ∧ i < 2147483648 then some (pc + n, L, zL (M.2.2 k i.toNat) :: s, M) else none
      | _ => none
    | _ => none
  | .faload => match st with
    | .inl i :: .inr (.inr (.inr (.inr k))) :: s => match M.1[k]? with
      | some (12, m) => if 0 ≤ i ∧ i < (m : Int) ∧ i < 2147483648 then some (pc + n, L, zF (UInt32.ofNat (M.2.2 k i.toNat).toNat) :: s, M) else none
      | _ => none
    | _ => none
  | .aaload => match st with
    | .inl i :: .inr (.inr (.inr (.inr k))) :: s => match M.1[k]? with
      | some (15, m) => if 0 ≤ i ∧ i < (m : Int) ∧ i < 2147483648 then (match zrd M.2.1 k i.toNat with
          | some j => some (pc + n, L, zR j :: s, M)
          | none => none) else none
      | _ => none
    | _ => none
  | .iastore => match st with
    | .inl x :: .inl i :: .inr (.inr (.inr (.inr k))) :: s => match M.1[k]? with
      | some (10, m) => if 0 ≤ i ∧ i < (m : Int) ∧ i < 2147483648 then some (pc + n, L, s, M.1, M.2.1, zup M.2.2 k i.toNat x) else none
      | _ => none
    | _ => none
  | .bastore => match st with
    | .inl x :: .inl i :: .inr (.inr (.inr (.inr k))) :: s => match M.1[k]? with
      | some (13, m) => if (0 ≤ i ∧ i < (m : Int) ∧ i < 2147483648) ∧ -128 ≤ x ∧ x < 128 then some (pc + n, L, s, M.1, M.2.1, zup M.2.2 k i.toNat x) else none
      | some (14, m) => if (0 ≤ i ∧ i < (m : Int) ∧ i < 2147483648) ∧ (x = 0 ∨ x = 1) then some (pc + n, L, s, M.1, M.2.1, zup M.2.2 k i.toNat x) else none
      | _ => none
    | _ => none
  | .lastore => match st with
    | .inr (.inl x) :: .inl i :: .inr (.inr (.inr (.inr k))) :: s => match M.1[k]? with
      | some (11, m) => if 0 ≤ i ∧ i < (m : Int) ∧ i < 2147483648 then some (pc + n, L, s, M.1, M.2.1, zup M.2.2 k i.toNat x) else none
      | _ => none
    | _ => none
  | .fastore => match st with
    | .inr (.inr (.inl x)) :: .inl i :: .inr (.inr (.inr (.inr k))) :: s => match M.1[k]? with
      | some (12, m) => if 0 ≤ i ∧ i < (m : Int) ∧ i < 2147483648 then some (pc + n, L, s, M.1, M.2.1, zup M.2.2 k i.toNat x.toNat) else none
      | _ => none
    | _ => none
  | .aastore => match st with
    | .inr (.inr (.inr (.inr j))) :: .inl i :: .inr (.inr (.inr (.inr k))) :: s => match M.1[k]? with
      | some (15, m) => if (0 ≤ i ∧ i < (m : Int) ∧ i < 2147483648) ∧ M.1[j]? = some (4, 0) ∧ i.toNat < (M.2.1.getD k []).length then some (pc + n, L, s, M.1, zrw M.2.1 k i.toNat j, M.2.2) else none
      | _ => none
    | _ => none
  | .arraylength => match st with
    | .inr (.inr (.inr (.inr k))) :: s => if k = 1001 then some (pc + n, L, zI (M.2.2 1002 0) :: s, M) else match M.1[k]? with
      | some (t, m) => if 10 ≤ t ∧ t ≤ 15 then some (pc + n, L, zI m :: s, M) else none
      | none => none
    | _ => none
  | .new _ => if M.1.length < 900 ∧ M.2.1.length = M.1.length then some (pc + n, L, zR M.1.length :: st, M.1 ++ [(r.1, 0)], M.2.1 ++ [List.replicate (zcls r.1).2.2 none], zclr M.2.2 M.1.length) else none
  | .newarray t => match st with
    | .inl m :: s => if (M.1.length < 900 ∧ M.2.1.length = M.1.length) ∧ 0 ≤ m ∧ m ≤ 1000 then some (pc + n, L, zR M.1.length :: s, M.1 ++ [(zkd t, m.toNat)], M.2.1 ++ [[]], zclr M.2.2 M.1.length) else none
    | _ => none
  | .anewarray _ => match st with
    | .inl m :: s => if (M.1.length < 900 ∧ M.2.1.length = M.1.length) ∧ 0 ≤ m ∧ m ≤ 1000 then some (pc + n, L, zR M.1.length :: s, M.1 ++ [(15, m.toNat)], M.2.1 ++ [List.replicate m.toNat none], zclr M.2.2 M.1.length) else none
    | _ => none
  | .invokespecial _ => if r.1 = 1004 then (match st with
    | .inr (.inr (.inr (.inr _))) :: s => if (s.map zcat).sum ≤ 8 then some (pc + n, L, s, M) else none
    | _ => none) else none
  | .invokestatic _ => if r.1 = 1000 then (match st with
      | .inl m :: .inl dp :: .inr (.inr (.inr (.inr kd))) :: .inl sp :: .inr (.inr (.inr (.inr ks))) :: s => match M.1[ks]?, M.1[kd]? with
        | some (11, a), some (11, b) => if (0 ≤ m ∧ 0 ≤ dp ∧ 0 ≤ sp) ∧ sp + m ≤ (a : Int) ∧ dp + m ≤ (b : Int) ∧ (a : Int) < 2147483648 ∧ (b : Int) < 2147483648 ∧ (s.map zcat).sum ≤ 8 then some (pc + n, L, s, M.1, M.2.1, zcpy M.2.2 ks sp.toNat kd dp.toNat m.toNat) else none
        | _, _ => none
      | _ => none)
    else if r.1 = 1001 then (match st with
      | .inr (.inr (.inl b)) :: s => if (s.map zcat).sum ≤ 8 then some (pc + n, L, zI b.toInt32.toInt :: s, M) else none
      | _ => none)
    else if r.1 = 1002 then (match st with
      | .inr (.inr (.inr (.inl b))) :: s => if (s.map zcat).sum ≤ 8 then some (pc + n, L, zL b.toInt64.toInt :: s, M) else none
      | _ => none)
    else if r.1 = 1003 then (match st with
      | .inr (.inl b) :: s => if (s.map zcat).sum ≤ 8 ∧ vn_snl2d (Int64.ofInt b) = false then some (pc + n, L, zD (Int64.ofInt b).toUInt64 :: s, M) else none
      | _ => none)
    else if r.1 = 1005 then (match st with
      | .inr (.inr (.inr (.inl b))) :: s => if (s.map zcat).sum ≤ 8 ∧ b &&& 0x7fffffffffffffff ≤ 0x7ff0000000000000 then some (pc + n, L, zD (b &&& 0x7fffffffffffffff) :: s, M) else none
      | _ => none)
    else if r.1 = 1006 then (match st with
      | .inr (.inr (.inr (.inl b))) :: .inr (.inr (.inr (.inl a))) :: s => if (s.map zcat).sum ≤ 8 ∧ a &&& 0x7fffffffffffffff ≤ 0x7ff0000000000000 ∧ b &&& 0x7fffffffffffffff ≤ 0x7ff0000000000000 then some (pc + n, L, zD (Native.java_lang_Math.nans.pick64 true a b) :: s, M) else none
      | _ => none)
    else none
  | _ => none
/-- what an instruction does: 0 goes on by itself, 1 leaves, 2 calls -/
def zkind (I : Instr) (r : zRes) : Nat := match I with
  | .ireturn => 1 | .lreturn => 1 | .freturn => 1 | .dreturn => 1 | .return_ => 1
  | .invokevirtual _ => 2
  | .invokespecial _ => if r.1 < 1000 then 2 else 0
  | .invokestatic _ => if r.1 < 1000 then 2 else 0
  | _ => 0
/-- the answer at a leave -/
def zleave (I : Instr) (r : zRes) (st : List zAV) : Option (Option zAV) := match I, st with
  | .ireturn, [.inl x] => if r.1 = 0 ∨ x = 0 ∨ x = 1 then some (some (zI x)) else none
  | .lreturn, [.inr (.inl x)] => some (some (zL x))
  | .freturn, [.inr (.inr (.inl x))] => some (some (zF x))
  | .dreturn, [.inr (.inr (.inr (.inl x)))] => some (some (zD x))
  | .return_, [] => some none
  | _, _ => none
/-- a method's locals at its entry -/
def zsl (vs : List zAV) : zLs := vs.flatMap fun v => if zcat v = 2 then [some v, none] else [some v]
def zent (y : Nat) (vs : List zAV) : zLs := zsl vs ++ List.replicate (zml y - (zsl vs).length) none
/-- how many values a call takes: its arguments, and the receiver -/
def ztake (z : Nat) : Nat := if (zps z).2.2.2.2.2 = 1 then znarg z else znarg z + 1
def zrecv (z : Nat) (M : zM) (vs : List zAV) : Bool := if (zps z).2.2.2.2.2 = 1 then true else match vs with
  | .inr (.inr (.inr (.inr k))) :: _ => match M.1[k]? with
    | some (c, _) => decide (c < 9 ∧ (zcls c).1 = (zname z).cls)
    | none => false
  | _ => false
/-- the run of a method from an instruction on -/
def zrun : Nat → Nat → Nat → zLs → List zAV → zM → Option (Option zAV × zM)
  | 0, _, _, _, _, _ => none
  | f + 1, y, pc, L, st, M => match zcode y pc with
    | none => none
    | some (I, n, r) => match zkind I r with
      | 0 => match zstep I n r pc L st M with
        | some (pc', L', st', M') => zrun f y pc' L' st' M'
        | none => none
      | 1 => match zleave I r st with
        | some v => some (v, M)
        | none => none
      | _ => if ztake r.1 ≤ st.length ∧ ((st.drop (ztake r.1)).map zcat).sum ≤ 8 ∧ (zsl (st.take (ztake r.1)).reverse).length ≤ zml r.1 ∧ zrecv r.1 M (st.take (ztake r.1)).reverse = true then
          (match zrun f r.1 0 (zent r.1 (st.take (ztake r.1)).reverse) [] M with
            | some (v, M') => zrun f y (pc + n) L (v.toList ++ st.drop (ztake r.1)) M'
            | none => none)
        else none
