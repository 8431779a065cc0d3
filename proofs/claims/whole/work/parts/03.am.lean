/-! The abstract machine: ints, longs and references as mathematical integers; a heap of kinds and of numbers; one step, runs by fuel, runs without fuel. -/
abbrev aV : Type := Int ⊕ Int ⊕ Int
abbrev aK : Type := Nat × Nat × (Nat → Nat × Nat)
abbrev aH : Type := aK × (Nat → Nat → Int)
abbrev aL : Type := List (Option aV)
abbrev aE : Type := Instr × Nat × Nat × Nat × Nat × Int
abbrev aM : Type := MethodName × ByteArray × Nat × Option FieldType × List (Nat × aE)
abbrev aO : Type := Option (Option aV × aH)
def w32 (x : Int) : Int := (Int32.ofInt x).toInt
def w64 (x : Int) : Int := (Int64.ofInt x).toInt
def aup (D : Nat → Nat → Int) (r k : Nat) (v : Int) : Nat → Nat → Int := fun q j => if q = r then (if j = k then v else D q j) else D q j
def aok (κ : aK) (x : Int) (code : Nat) : Bool := decide (0 ≤ x) && (decide (x.toNat < κ.1) && Nat.beq (κ.2.2 x.toNat).1 code)
def aln (κ : aK) (x : Int) : Nat := (κ.2.2 x.toNat).2
def ain (κ : aK) (x : Int) (code : Nat) (i : Int) : Bool := aok κ x code && (decide (0 ≤ i) && decide (i.toNat < aln κ x))
def atg (t : Nat) (x : Int) : aV := match t with
  | 0 => .inl x
  | 1 => .inr (.inl x)
  | 2 => .inr (.inr x)
  | _ => .inl x
def acat : aV → Nat
  | .inr (.inl _) => 2
  | _ => 1
def acl : Option aV → Option aV
  | some (.inr (.inl _)) => none
  | v => v
def amod : aL → Nat → aL
  | [], _ => []
  | v :: r, 0 => acl v :: r
  | v :: r, n + 1 => v :: amod r n
def aset (ls : aL) (i : Nat) (v : aV) : Option aL :=
  match i with
  | 0 => match v with
    | .inr (.inl _) => bif Nat.blt 1 ls.length then some ((ls.set 0 (some v)).set 1 none) else none
    | _ => bif Nat.blt 0 ls.length then some (ls.set 0 (some v)) else none
  | j + 1 => match v with
    | .inr (.inl _) => bif Nat.blt (j + 2) ls.length then some (((amod ls j).set (j + 1) (some v)).set (j + 2) none) else none
    | _ => bif Nat.blt (j + 1) ls.length then some ((amod ls j).set (j + 1) (some v)) else none
def agt (ls : aL) (i : Nat) : Option aV := match ls[i]? with
  | some (some v) => some v
  | _ => none
def aslots : List aV → aL
  | [] => []
  | .inr (.inl x) :: r => some (.inr (.inl x)) :: none :: aslots r
  | v :: r => some v :: aslots r
def aent (n : Nat) (args : List aV) : Option aL := bif Nat.ble (aslots args).length n then some (aslots args ++ List.replicate (n - (aslots args).length) none) else none
/-! pure operations of the stack -/
def sI1 (f : Int → Int) : List aV → Option (List aV)
  | .inl x :: r => some (.inl (f x) :: r)
  | _ => none
def sI2 (f : Int → Int → Int) : List aV → Option (List aV)
  | .inl y :: .inl x :: r => some (.inl (f x y) :: r)
  | _ => none
def sJ2 (f : Int → Int → Int) : List aV → Option (List aV)
  | .inr (.inl y) :: .inr (.inl x) :: r => some (.inr (.inl (f x y)) :: r)
  | _ => none
def sJS (f : Int → Int → Int) : List aV → Option (List aV)
  | .inl y :: .inr (.inl x) :: r => some (.inr (.inl (f x y)) :: r)
  | _ => none
def sIJ (f : Int → Int) : List aV → Option (List aV)
  | .inl x :: r => some (.inr (.inl (f x)) :: r)
  | _ => none
def sJI (f : Int → Int) : List aV → Option (List aV)
  | .inr (.inl x) :: r => some (.inl (f x) :: r)
  | _ => none
def sJJ (f : Int → Int → Int) : List aV → Option (List aV)
  | .inr (.inl y) :: .inr (.inl x) :: r => some (.inl (f x y) :: r)
  | _ => none
def sDup : List aV → Option (List aV)
  | .inr (.inl _) :: _ => none
  | v :: r => some (v :: v :: r)
  | _ => none
def sPop : List aV → Option (List aV)
  | .inr (.inl _) :: _ => none
  | _ :: r => some r
  | _ => none
def sDup2 : List aV → Option (List aV)
  | .inr (.inl x) :: r => some (.inr (.inl x) :: .inr (.inl x) :: r)
  | v :: .inr (.inl _) :: r => none
  | v :: w :: r => some (v :: w :: v :: w :: r)
  | _ => none
def oand (x y : Int) : Int := (Int32.ofInt x &&& Int32.ofInt y).toInt
def oor (x y : Int) : Int := (Int32.ofInt x ||| Int32.ofInt y).toInt
def oxor (x y : Int) : Int := (Int32.ofInt x ^^^ Int32.ofInt y).toInt
def odiv (x y : Int) : Int := (Int32.ofInt x / Int32.ofInt y).toInt
def orem (x y : Int) : Int := (Int32.ofInt x - (Int32.ofInt x / Int32.ofInt y) * Int32.ofInt y).toInt
def oshl (x y : Int) : Int := (Int32.ofInt x <<< (Int32.ofInt y &&& 31)).toInt
def oshr (x y : Int) : Int := (Int32.ofInt x >>> (Int32.ofInt y &&& 31)).toInt
def oushr (x y : Int) : Int := ((Int32.ofInt x).toUInt32 >>> ((Int32.ofInt y).toUInt32 &&& Int32.toUInt32 31)).toInt32.toInt
def oi2b (x : Int) : Int := (Int32.ofInt x).toInt8.toInt32.toInt
def oi2c (x : Int) : Int := ((Int32.ofInt x).toUInt32 % 65536).toInt32.toInt
def oland (x y : Int) : Int := (Int64.ofInt x &&& Int64.ofInt y).toInt
def olor (x y : Int) : Int := (Int64.ofInt x ||| Int64.ofInt y).toInt
def olxor (x y : Int) : Int := (Int64.ofInt x ^^^ Int64.ofInt y).toInt
def oldiv (x y : Int) : Int := (Int64.ofInt x / Int64.ofInt y).toInt
def olrem (x y : Int) : Int := (Int64.ofInt x - (Int64.ofInt x / Int64.ofInt y) * Int64.ofInt y).toInt
def olshl (x y : Int) : Int := (Int64.ofInt x <<< ((Int32.ofInt y).toInt64 &&& 63)).toInt
def olshr (x y : Int) : Int := (Int64.ofInt x >>> ((Int32.ofInt y).toInt64 &&& 63)).toInt
def olushr (x y : Int) : Int := ((Int64.ofInt x).toUInt64 >>> ((Int32.ofInt y).toInt64.toUInt64 &&& Int64.toUInt64 63)).toInt64.toInt
def ol2i (x : Int) : Int := (Int64.ofInt x).toInt32.toInt
def olcmp (x y : Int) : Int := if x > y then 1 else if x = y then 0 else -1
def apu (i : Instr) (st : List aV) : Option (List aV) := match i with
  | .iconst n => bif decide (-128 ≤ n) && decide (n ≤ 127) then some (.inl n :: st) else none
  | .bipush n => bif decide (-128 ≤ n) && decide (n ≤ 127) then some (.inl n :: st) else none
  | .sipush n => bif decide (-32768 ≤ n) && decide (n ≤ 32767) then some (.inl n :: st) else none
  | .lconst n => some (.inr (.inl ((n : Nat) : Int)) :: st)
  | .iadd => sI2 (fun x y => w32 (x + y)) st
  | .isub => sI2 (fun x y => w32 (x - y)) st
  | .imul => sI2 (fun x y => w32 (x * y)) st
  | .iand => sI2 oand st
  | .ior => sI2 oor st
  | .ixor => sI2 oxor st
  | .ineg => sI1 (fun x => w32 (-x)) st
  | .ishl => sI2 oshl st
  | .ishr => sI2 oshr st
  | .iushr => sI2 oushr st
  | .i2l => sIJ (fun x => x) st
  | .i2b => sI1 oi2b st
  | .i2c => sI1 oi2c st
  | .l2i => sJI ol2i st
  | .ladd => sJ2 (fun x y => w64 (x + y)) st
  | .lsub => sJ2 (fun x y => w64 (x - y)) st
  | .lmul => sJ2 (fun x y => w64 (x * y)) st
  | .land => sJ2 oland st
  | .lor => sJ2 olor st
  | .lxor => sJ2 olxor st
  | .lshl => sJS olshl st
  | .lshr => sJS olshr st
  | .lushr => sJS olushr st
  | .lcmp => sJJ olcmp st
  | .dup => sDup st
  | .dup2 => sDup2 st
  | .pop => sPop st
  | _ => none
/-! loads and stores of locals -/
def aldI (ls : aL) (i : Nat) (st : List aV) : Option (List aV) := match agt ls i with
  | some (.inl x) => some (.inl x :: st)
  | _ => none
def aldJ (ls : aL) (i : Nat) (st : List aV) : Option (List aV) := match agt ls i with
  | some (.inr (.inl x)) => some (.inr (.inl x) :: st)
  | _ => none
def aldR (ls : aL) (i : Nat) (st : List aV) : Option (List aV) := match agt ls i with
  | some (.inr (.inr x)) => some (.inr (.inr x) :: st)
  | _ => none
def astI (ls : aL) (i : Nat) : List aV → Option (aL × List aV)
  | .inl x :: r => match aset ls i (.inl x) with
    | some ls' => some (ls', r)
    | none => none
  | _ => none
def astJ (ls : aL) (i : Nat) : List aV → Option (aL × List aV)
  | .inr (.inl x) :: r => match aset ls i (.inr (.inl x)) with
    | some ls' => some (ls', r)
    | none => none
  | _ => none
def astR (ls : aL) (i : Nat) : List aV → Option (aL × List aV)
  | .inr (.inr x) :: r => match aset ls i (.inr (.inr x)) with
    | some ls' => some (ls', r)
    | none => none
  | _ => none
def ainc (ls : aL) (i : Nat) (n : Int) : Option aL := match agt ls i with
  | some (.inl x) => aset ls i (.inl (w32 (x + n)))
  | _ => none
def alo (i : Instr) (ls : aL) (st : List aV) : Option (aL × List aV) := match i with
  | .iload n => (aldI ls n st).map (fun r => (ls, r))
  | .iload_n n => (aldI ls n st).map (fun r => (ls, r))
  | .lload n => (aldJ ls n st).map (fun r => (ls, r))
  | .lload_n n => (aldJ ls n st).map (fun r => (ls, r))
  | .aload n => (aldR ls n st).map (fun r => (ls, r))
  | .aload_n n => (aldR ls n st).map (fun r => (ls, r))
  | .istore n => astI ls n st
  | .istore_n n => astI ls n st
  | .lstore n => astJ ls n st
  | .lstore_n n => astJ ls n st
  | .astore n => astR ls n st
  | .astore_n n => astR ls n st
  | .iinc n k => (ainc ls n k).map (fun l => (l, st))
  | _ => none
def acnd : ClassFile.Cond → Int → Int → Bool
  | .eq, x, y => decide (x = y)
  | .ne, x, y => decide (¬ x = y)
  | .lt, x, y => decide (x < y)
  | .ge, x, y => decide (y ≤ x)
  | .gt, x, y => decide (y < x)
  | .le, x, y => decide (x ≤ y)
def asw (pc : Nat) (dflt lo hi : Int) (offs : Array Int) (x : Int) : Nat :=
  if x < lo then ((pc : Int) + dflt).toNat else if hi < x then ((pc : Int) + dflt).toNat else ((pc : Int) + offs.getD (x - lo).toNat dflt).toNat
def bV (r : aO) (k : aH → aO) : aO := match r with
  | some (none, h) => k h
  | _ => none
def bI (r : aO) (k : Int → aH → aO) : aO := match r with
  | some (some (.inl x), h) => k x h
  | _ => none
def bJ (r : aO) (k : Int → aH → aO) : aO := match r with
  | some (some (.inr (.inl x)), h) => k x h
  | _ => none
def bR (r : aO) (k : Int → aH → aO) : aO := match r with
  | some (some (.inr (.inr x)), h) => k x h
  | _ => none
def abnd (c : Nat) (r : aO) (g : List aV → aH → aO) (rest : List aV) : aO := match c with
  | 0 => bV r (fun h => g rest h)
  | 1 => bI r (fun x h => g (.inl x :: rest) h)
  | 2 => bJ r (fun x h => g (.inr (.inl x) :: rest) h)
  | _ => bR r (fun x h => g (.inr (.inr x) :: rest) h)
def aarg (b : Nat) (st : List aV) : Option (List aV × List aV) := bif Nat.ble b st.length then some ((st.take b).reverse, st.drop b) else none
def acats : List aV → Nat
  | [] => 0
  | v :: r => acat v + acats r
def arcv (i : Instr) (args : List aV) (κ : aK) (z : Int) : Bool := match i with
  | .invokevirtual _ => match args with
    | .inr (.inr x) :: _ => aok κ x z.toNat
    | _ => false
  | .invokespecial _ => match args with
    | .inr (.inr x) :: _ => decide (0 ≤ x)
    | _ => false
  | .invokestatic _ => true
  | _ => false
def afind : List (Nat × aE) → Nat → Option aE
  | [], _ => none
  | (q, e) :: r, pc => bif Nat.beq q pc then some e else afind r pc
def anar (t : Nat) (x : Int) : Bool := match t with
  | 3 => decide (x = 0) || decide (x = 1)
  | _ => true
def acpy (f g : Nat → Int) (sp dp n : Nat) : Nat → Int := fun k => if dp ≤ k ∧ k < dp + n then f (sp + (k - dp)) else g k
def aoa (κ : aK) (x : Int) : Bool := decide (0 ≤ x) && (decide (x.toNat < κ.1) && Nat.ble 100 (κ.2.2 x.toNat).1)
def tyA : Nat → Nat → FieldType
  | 0 => tyX0
  | 1 => tyX1
  | 2 => tyX2
  | 3 => tyX3
  | 4 => tyX4
  | 5 => tyX5
  | 6 => tyX6
  | 7 => tyX7
  | 8 => tyX8
  | 9 => tyX9
  | 10 => tyX10
  | 11 => tyX11
  | 12 => tyX12
  | _ => fun _ => .float
def ftc : FieldType → Nat
  | .int => 0
  | .long => 1
  | .boolean => 3
  | .object _ => 2
  | .array _ => 2
  | _ => 9
def adf (ci k : Nat) : Int := match ftc (tyA ci k) with
  | 2 => -1
  | _ => 0
/-- instructions that read or write the heap -/
def aho (xs : List Int) (i : Instr) (a b c : Nat) (z : Int) (st : List aV) (h : aH) : Option (List aV × aH) := match i with
  | .ldc _ => match c with
    | 28 => some (.inr (.inr z) :: st, h)
    | _ => some (.inl z :: st, h)
  | .ldc_w _ => some (.inl z :: st, h)
  | .ldc2_w _ => some (.inr (.inl z) :: st, h)
  | .getfield _ => match st with
    | .inr (.inr x) :: r => bif aok h.1 x a then some (atg c (h.2 x.toNat b) :: r, h) else none
    | _ => none
  | .putfield _ => match c, st with
    | 1, .inr (.inl v) :: .inr (.inr x) :: r => bif aok h.1 x a then some (r, (h.1, aup h.2 x.toNat b v)) else none
    | 2, .inr (.inr v) :: .inr (.inr x) :: r => bif aok h.1 x a then some (r, (h.1, aup h.2 x.toNat b v)) else none
    | 0, .inl v :: .inr (.inr x) :: r => bif aok h.1 x a then some (r, (h.1, aup h.2 x.toNat b v)) else none
    | 3, .inl v :: .inr (.inr x) :: r => bif aok h.1 x a && (decide (v = 0) || decide (v = 1)) then some (r, (h.1, aup h.2 x.toNat b v)) else none
    | _, _ => none
  | .iaload => match c, st with
    | 5, .inl j :: .inr (.inr x) :: r => bif decide (x = -2) && (decide (0 ≤ j) && decide (j.toNat < xs.length)) then some (.inl (xs.getD j.toNat 0) :: r, h) else none
    | 0, .inl j :: .inr (.inr x) :: r => bif ain h.1 x 100 j then some (.inl (h.2 x.toNat j.toNat) :: r, h) else none
    | _, _ => none
  | .laload => match st with
    | .inl j :: .inr (.inr x) :: r => bif ain h.1 x 101 j then some (.inr (.inl (h.2 x.toNat j.toNat)) :: r, h) else none
    | _ => none
  | .baload => match c, st with
    | 2, .inl j :: .inr (.inr x) :: r => bif ain h.1 x 102 j then some (.inl (h.2 x.toNat j.toNat) :: r, h) else none
    | 3, .inl j :: .inr (.inr x) :: r => bif ain h.1 x 103 j then some (.inl (h.2 x.toNat j.toNat) :: r, h) else none
    | _, _ => none
  | .aaload => match st with
    | .inl j :: .inr (.inr x) :: r => bif ain h.1 x 104 j then some (.inr (.inr (h.2 x.toNat j.toNat)) :: r, h) else none
    | _ => none
  | .iastore => match st with
    | .inl v :: .inl j :: .inr (.inr x) :: r => bif ain h.1 x 100 j then some (r, (h.1, aup h.2 x.toNat j.toNat v)) else none
    | _ => none
  | .lastore => match st with
    | .inr (.inl v) :: .inl j :: .inr (.inr x) :: r => bif ain h.1 x 101 j then some (r, (h.1, aup h.2 x.toNat j.toNat v)) else none
    | _ => none
  | .bastore => match c, st with
    | 2, .inl v :: .inl j :: .inr (.inr x) :: r => bif ain h.1 x 102 j then some (r, (h.1, aup h.2 x.toNat j.toNat (oi2b v))) else none
    | 3, .inl v :: .inl j :: .inr (.inr x) :: r => bif ain h.1 x 103 j && (decide (v = 0) || decide (v = 1)) then some (r, (h.1, aup h.2 x.toNat j.toNat v)) else none
    | _, _ => none
  | .aastore => match st with
    | .inr (.inr v) :: .inl j :: .inr (.inr x) :: r => bif ain h.1 x 104 j && aok h.1 v a then some (r, (h.1, aup h.2 x.toNat j.toNat v)) else none
    | _ => none
  | .arraylength => match c, st with
    | 5, .inr (.inr x) :: r => bif decide (x = -2) then some (.inl (xs.length : Int) :: r, h) else none
    | 0, .inr (.inr x) :: r => bif aoa h.1 x then some (.inl (aln h.1 x : Int) :: r, h) else none
    | _, _ => none
  | .new _ => some (.inr (.inr (h.1.1 : Int)) :: st, ((h.1.1 + 1, h.1.2.1 + b, fun q => if q = h.1.1 then (a, b) else h.1.2.2 q), fun q j => if q = h.1.1 then adf a j else h.2 q j))
  | .newarray _ => match st with
    | .inl n :: r => bif decide (0 ≤ n) && decide (n ≤ 1000000) then some (.inr (.inr (h.1.1 : Int)) :: r, ((h.1.1 + 1, h.1.2.1 + n.toNat, fun q => if q = h.1.1 then (c, n.toNat) else h.1.2.2 q), fun q j => if q = h.1.1 then 0 else h.2 q j)) else none
    | _ => none
  | .anewarray _ => match st with
    | .inl n :: r => bif decide (0 ≤ n) && decide (n ≤ 1000000) then some (.inr (.inr (h.1.1 : Int)) :: r, ((h.1.1 + 1, h.1.2.1 + n.toNat, fun q => if q = h.1.1 then (104, n.toNat) else h.1.2.2 q), fun q j => if q = h.1.1 then -1 else h.2 q j)) else none
    | _ => none
  | .idiv => match st with
    | .inl y :: .inl x :: r => bif decide (y = 0) then none else some (.inl (odiv x y) :: r, h)
    | _ => none
  | .irem => match st with
    | .inl y :: .inl x :: r => bif decide (y = 0) then none else some (.inl (orem x y) :: r, h)
    | _ => none
  | .ldiv => match st with
    | .inr (.inl y) :: .inr (.inl x) :: r => bif decide (y = 0) then none else some (.inr (.inl (oldiv x y)) :: r, h)
    | _ => none
  | .lrem => match st with
    | .inr (.inl y) :: .inr (.inl x) :: r => bif decide (y = 0) then none else some (.inr (.inl (olrem x y)) :: r, h)
    | _ => none
  | _ => none
/-- the same, going on by k -/
def ahk (xs : List Int) (i : Instr) (a b c : Nat) (z : Int) (st : List aV) (h : aH) (k : List aV → aH → aO) : aO := match i with
  | .ldc _ => match c with
    | 28 => k (.inr (.inr z) :: st) h
    | _ => k (.inl z :: st) h
  | .ldc_w _ => k (.inl z :: st) h
  | .ldc2_w _ => k (.inr (.inl z) :: st) h
  | .getfield _ => match st with
    | .inr (.inr x) :: r => bif aok h.1 x a then k (atg c (h.2 x.toNat b) :: r) h else none
    | _ => none
  | .putfield _ => match c, st with
    | 1, .inr (.inl v) :: .inr (.inr x) :: r => bif aok h.1 x a then k (r) (h.1, aup h.2 x.toNat b v) else none
    | 2, .inr (.inr v) :: .inr (.inr x) :: r => bif aok h.1 x a then k (r) (h.1, aup h.2 x.toNat b v) else none
    | 0, .inl v :: .inr (.inr x) :: r => bif aok h.1 x a then k (r) (h.1, aup h.2 x.toNat b v) else none
    | 3, .inl v :: .inr (.inr x) :: r => bif aok h.1 x a && (decide (v = 0) || decide (v = 1)) then k (r) (h.1, aup h.2 x.toNat b v) else none
    | _, _ => none
  | .iaload => match c, st with
    | 5, .inl j :: .inr (.inr x) :: r => bif decide (x = -2) && (decide (0 ≤ j) && decide (j.toNat < xs.length)) then k (.inl (xs.getD j.toNat 0) :: r) h else none
    | 0, .inl j :: .inr (.inr x) :: r => bif ain h.1 x 100 j then k (.inl (h.2 x.toNat j.toNat) :: r) h else none
    | _, _ => none
  | .laload => match st with
    | .inl j :: .inr (.inr x) :: r => bif ain h.1 x 101 j then k (.inr (.inl (h.2 x.toNat j.toNat)) :: r) h else none
    | _ => none
  | .baload => match c, st with
    | 2, .inl j :: .inr (.inr x) :: r => bif ain h.1 x 102 j then k (.inl (h.2 x.toNat j.toNat) :: r) h else none
    | 3, .inl j :: .inr (.inr x) :: r => bif ain h.1 x 103 j then k (.inl (h.2 x.toNat j.toNat) :: r) h else none
    | _, _ => none
  | .aaload => match st with
    | .inl j :: .inr (.inr x) :: r => bif ain h.1 x 104 j then k (.inr (.inr (h.2 x.toNat j.toNat)) :: r) h else none
    | _ => none
  | .iastore => match st with
    | .inl v :: .inl j :: .inr (.inr x) :: r => bif ain h.1 x 100 j then k (r) (h.1, aup h.2 x.toNat j.toNat v) else none
    | _ => none
  | .lastore => match st with
    | .inr (.inl v) :: .inl j :: .inr (.inr x) :: r => bif ain h.1 x 101 j then k (r) (h.1, aup h.2 x.toNat j.toNat v) else none
    | _ => none
  | .bastore => match c, st with
    | 2, .inl v :: .inl j :: .inr (.inr x) :: r => bif ain h.1 x 102 j then k (r) (h.1, aup h.2 x.toNat j.toNat (oi2b v)) else none
    | 3, .inl v :: .inl j :: .inr (.inr x) :: r => bif ain h.1 x 103 j && (decide (v = 0) || decide (v = 1)) then k (r) (h.1, aup h.2 x.toNat j.toNat v) else none
    | _, _ => none
  | .aastore => match st with
    | .inr (.inr v) :: .inl j :: .inr (.inr x) :: r => bif ain h.1 x 104 j && aok h.1 v a then k (r) (h.1, aup h.2 x.toNat j.toNat v) else none
    | _ => none
  | .arraylength => match c, st with
    | 5, .inr (.inr x) :: r => bif decide (x = -2) then k (.inl (xs.length : Int) :: r) h else none
    | 0, .inr (.inr x) :: r => bif aoa h.1 x then k (.inl (aln h.1 x : Int) :: r) h else none
    | _, _ => none
  | .new _ => k (.inr (.inr (h.1.1 : Int)) :: st) ((h.1.1 + 1, h.1.2.1 + b, fun q => if q = h.1.1 then (a, b) else h.1.2.2 q), fun q j => if q = h.1.1 then adf a j else h.2 q j)
  | .newarray _ => match st with
    | .inl n :: r => bif decide (0 ≤ n) && decide (n ≤ 1000000) then k (.inr (.inr (h.1.1 : Int)) :: r) ((h.1.1 + 1, h.1.2.1 + n.toNat, fun q => if q = h.1.1 then (c, n.toNat) else h.1.2.2 q), fun q j => if q = h.1.1 then 0 else h.2 q j) else none
    | _ => none
  | .anewarray _ => match st with
    | .inl n :: r => bif decide (0 ≤ n) && decide (n ≤ 1000000) then k (.inr (.inr (h.1.1 : Int)) :: r) ((h.1.1 + 1, h.1.2.1 + n.toNat, fun q => if q = h.1.1 then (104, n.toNat) else h.1.2.2 q), fun q j => if q = h.1.1 then -1 else h.2 q j) else none
    | _ => none
  | .idiv => match st with
    | .inl y :: .inl x :: r => bif decide (y = 0) then none else k (.inl (odiv x y) :: r) h
    | _ => none
  | .irem => match st with
    | .inl y :: .inl x :: r => bif decide (y = 0) then none else k (.inl (orem x y) :: r) h
    | _ => none
  | .ldiv => match st with
    | .inr (.inl y) :: .inr (.inl x) :: r => bif decide (y = 0) then none else k (.inr (.inl (oldiv x y)) :: r) h
    | _ => none
  | .lrem => match st with
    | .inr (.inl y) :: .inr (.inl x) :: r => bif decide (y = 0) then none else k (.inr (.inl (olrem x y)) :: r) h
    | _ => none
  | _ => none
def str0 : List Int := [99, 108, 97, 115, 115, 32, 115, 116, 111, 110, 101, 32, 116, 111, 32, 110, 111, 110, 101, 32, 97, 102, 116, 101, 114, 32, 98, 101, 102, 111, 114, 101, 32, 114, 111, 111, 116, 32, 101, 110, 100, 105, 110, 103, 32, 104, 101, 97, 100, 32, 119, 111, 114, 100, 32, 112, 97, 105, 114, 32, 108, 97, 110, 100, 32, 98, 114, 105, 110, 103, 115, 32, 115, 101, 101, 100, 32, 101, 100, 103, 101, 32, 105, 102, 32, 116, 104, 101, 110, 32, 101, 108, 115, 101, 32, 101, 110, 100, 115, 32, 104, 101, 97, 100, 115, 32, 116, 111, 110, 115, 32, 100, 117, 115, 116, 32, 116, 117, 114, 110, 32, 108, 101, 102, 116, 32]
def str1 : List Int := [59, 61, 43, 45, 42, 47, 60, 40, 41]
def aidx : List Int → Int → Int → Int
  | [], _, _ => -1
  | v :: r, c, i => bif decide (v = c) then i else aidx r c (i + 1)
/-- the strings' own methods: length, charAt, indexOf -/
def sxo (a : Nat) (args : List aV) : Option Int := match a, args with
  | 900, [.inr (.inr x)] => bif decide (x = -10) then some (str0.length : Int) else none
  | 901, [.inr (.inr x), .inl i] => bif decide (x = -10) && (decide (0 ≤ i) && decide (i.toNat < str0.length)) then some (str0.getD i.toNat 0) else none
  | 902, [.inr (.inr x), .inl c] => bif decide (x = -11) then some (aidx str1 c 0) else none
  | _, _ => none
def sxk (a : Nat) (args : List aV) (k : Int → aO) : aO := match a, args with
  | 900, [.inr (.inr x)] => bif decide (x = -10) then k (str0.length : Int) else none
  | 901, [.inr (.inr x), .inl i] => bif decide (x = -10) && (decide (0 ≤ i) && decide (i.toNat < str0.length)) then k (str0.getD i.toNat 0) else none
  | 902, [.inr (.inr x), .inl c] => bif decide (x = -11) then k (aidx str1 c 0) else none
  | _, _ => none
def omax (x y : Int) : Int := if x < y then y else x
def omin (x y : Int) : Int := if y < x then y else x
def ammx (a : Nat) (x y : Int) : Int := match a with
  | 1 => omax x y
  | _ => omin x y
/-- one step, in terms of what goes on in the same method (g) and of calls (gc) -/
def aph (xs : List Int) (g : Nat → aM → Nat → aL → List aV → aH → aO) (gc : Nat → Nat → List aV → aH → aO) (d : Nat) (M : aM) (pc : Nat) (ls : aL) (st : List aV) (h : aH) : aO :=
  match afind M.2.2.2.2 pc with
  | none => none
  | some (i, len, a, b, c, z) =>
    match c with
    | 20 => match apu i st with
      | some st' => g d M (pc + len) ls st' h
      | none => none
    | 21 => match alo i ls st with
      | some (ls', st') => g d M (pc + len) ls' st' h
      | none => none
    | 22 => match i with
      | .goto _ => g d M a ls st h
      | .ifCond cd _ => match st with
        | .inl x :: r => bif acnd cd x 0 then g d M a ls r h else g d M (pc + len) ls r h
        | _ => none
      | .if_icmp cd _ => match st with
        | .inl y :: .inl x :: r => bif acnd cd x y then g d M a ls r h else g d M (pc + len) ls r h
        | _ => none
      | .tableswitch dflt lo hi offs => match st with
        | .inl x :: r => g d M (asw pc dflt lo hi offs x) ls r h
        | _ => none
      | _ => none
    | 23 => match i with
      | .ireturn => match st with
        | [.inl x] => match M.2.2.2.1 with
          | some .int => some (some (.inl x), h)
          | some .boolean => bif decide (x = 0) || decide (x = 1) then some (some (.inl x), h) else none
          | _ => none
        | _ => none
      | .lreturn => match st with
        | [.inr (.inl x)] => match M.2.2.2.1 with
          | some .long => some (some (.inr (.inl x)), h)
          | _ => none
        | _ => none
      | .areturn => match st with
        | [.inr (.inr x)] => match M.2.2.2.1 with
          | some (.object _) => some (some (.inr (.inr x)), h)
          | some (.array _) => some (some (.inr (.inr x)), h)
          | _ => none
        | _ => none
      | .return_ => match st with
        | [] => match M.2.2.2.1 with
          | none => some (none, h)
          | _ => none
        | _ => none
      | _ => none
    | 24 => match st with
      | .inr (.inr x) :: r => bif decide (0 ≤ x) && Nat.ble (acats r) 8 then g d M (pc + 3) ls r h else none
      | _ => none
    | 25 => match st with
      | .inl n :: .inl dp :: .inr (.inr y) :: .inl sp :: .inr (.inr x) :: r =>
        bif aok h.1 x a && (aok h.1 y a && (decide (0 ≤ sp) && (decide (0 ≤ dp) && (decide (0 ≤ n) && (decide (sp.toNat + n.toNat ≤ aln h.1 x) && (decide (dp.toNat + n.toNat ≤ aln h.1 y) && Nat.ble (acats r) 8)))))) then
          g d M (pc + 3) ls r (h.1, fun q j => if q = y.toNat then acpy (h.2 x.toNat) (h.2 y.toNat) sp.toNat dp.toNat n.toNat j else h.2 q j) else none
      | _ => none
    | 26 => match aarg b st with
      | some (args, rest) => bif arcv i args h.1 z && Nat.ble (acats rest) 8 then abnd (len - 3) (gc d a args h) (fun st' h' => g d M (pc + 3) ls st' h') rest else none
      | none => none
    | 29 => match aarg b st with
      | some (args, rest) => bif Nat.ble 8 d && Nat.ble (acats rest) 8 then sxk a args (fun x => g d M (pc + 3) ls (.inl x :: rest) h) else none
      | none => none
    | 30 => match st with
      | .inl y :: .inl x :: r => bif Nat.ble (acats r) 8 then g d M (pc + 3) ls (.inl (ammx a x y) :: r) h else none
      | _ => none
    | _ => ahk xs i a b c z st h (fun st' h' => g d M (pc + len) ls st' h')
def acw (P : Nat → Option aM) (X : Nat → Option (List aV → Option (Option aV))) (g : Nat → aM → Nat → aL → List aV → aH → aO) : Nat → Nat → List aV → aH → aO
  | 0, _, _, _ => none
  | d + 1, m, args, h => match X m with
    | some fx => bif Nat.ble 8 d then (match fx args with
      | some rv => some (rv, h)
      | none => none) else none
    | none => match P m with
      | none => none
      | some M => match aent M.2.2.1 args with
        | none => none
        | some ls => g d M 0 ls [] h
def arun (P : Nat → Option aM) (X : Nat → Option (List aV → Option (Option aV))) (xs : List Int) : Nat → Nat → aM → Nat → aL → List aV → aH → aO
  | 0, _, _, _, _, _, _ => none
  | f + 1, d, M, pc, ls, st, h => aph xs (arun P X xs f) (acw P X (arun P X xs f)) d M pc ls st h
