/-! The tables of the code, checked by number. -/
def lw_good : List Cond := lw_tbl.filter goodWord
theorem gm {w : Cond} (j : Nat) (h : lw_tbl[j]? = some w ∧ goodWord w = true) : w ∈ lw_good := List.mem_filter.mpr ⟨List.mem_of_getElem? h.1, h.2⟩
theorem gmc {y : MethodName} {cc : ByteArray} {n : Nat} {r : Option FieldType} (h : Cond.code y cc n r ∈ tables_1) : Cond.code y cc n r ∈ lw_good := List.mem_filter.mpr ⟨List.mem_append_right _ h, rfl⟩
theorem lw_good_good : ∀ w ∈ lw_good, (w.onTables && w.keeps) = true ∨ ∃ ty, w = .arrayClass ty := fun w hw => good_of_word (List.mem_filter.mp hw).2
def cname : Nat → String
  | 0 => RX0
  | 1 => RX1
  | 2 => RX2
  | 3 => RX3
  | 4 => RX4
  | 5 => RX5
  | 6 => RX6
  | 7 => RX7
  | 8 => RX8
  | 9 => RX9
  | 10 => RX10
  | 11 => RX11
  | 12 => RX12
  | 13 => RL
  | 14 => RJ6
  | 15 => RJ9
  | _ => RJ7
/-- tables: fields, calls, constants, classes; each by the number of the own class and the pool's place -/
def flok (t : Nat × Nat × Nat × Nat) : Prop := ∃ q, vwCl[t.2.2.1]? = some q ∧ t.2.2.2 < q.2.2 ∧ t.2.2.1 < 100 ∧ Cond.fieldLink (cname t.1) t.2.1 (q.2.1 t.2.2.2).1 (q.2.1 t.2.2.2).2.1 (q.2.1 t.2.2.2).2.2.1 ∈ lw_good
def mlok (P : Nat → Option aM) (t : Nat × Nat × Nat) : Prop := ∃ M, P t.2.2 = some M ∧ lnk lw_good (cname t.1) t.2.1 M.1
/-- a callee: its class's number, the number of its parameters, its kind (0 static, 1 init, 2 instance) -/
def cfok (P : Nat → Option aM) (a ci n kd : Nat) : Prop := ∃ M, P a = some M ∧ Cond.code M.1 M.2.1 M.2.2.1 M.2.2.2.1 ∈ lw_good ∧ Cond.initialized M.1.cls ∈ lw_good ∧ (M.1.cls ≠ "java/lang/invoke/MethodHandle" ∧ M.1.cls ≠ "java/lang/invoke/VarHandle") ∧ (parseMethodDescriptor M.1.desc).map (fun d => d.parameters.length) = some n ∧
  ((kd = 0 ∧ Cond.static M.1 ∈ lw_good) ∨ (kd = 1 ∧ M.1.name = "<init>" ∧ M.2.2.2.1 = none ∧ Cond.instanceMethod M.1 ∈ lw_good) ∨ (kd = 2 ∧ ∃ q, vwCl[ci]? = some q ∧ ci < 100 ∧ q.1 = M.1.cls ∧ Cond.instanceMethod M.1 ∈ lw_good ∧ Cond.selects M.1.cls M.1 M.1 ∈ lw_good))
def find3 : List (Nat × Nat × Nat) → Nat → Nat → Option Nat
  | [], _, _ => none
  | (a, b, c) :: r, x, y => bif Nat.beq a x && Nat.beq b y then some c else find3 r x y
def find4 : List (Nat × Nat × Nat × Nat) → Nat → Nat → Option (Nat × Nat)
  | [], _, _ => none
  | (a, b, c) :: r, x, y => bif Nat.beq a x && Nat.beq b y then some c else find4 r x y
theorem find3_mem : ∀ {l : List (Nat × Nat × Nat)} {x y z : Nat}, find3 l x y = some z → (x, y, z) ∈ l
  | [], _, _, _, h => by cases h
  | (a, b, c) :: r, x, y, z, h => by
    unfold find3 at h
    cases hg : Nat.beq a x && Nat.beq b y <;> rw [hg] at h
    · exact List.mem_cons_of_mem _ (find3_mem h)
    · simp only [Bool.and_eq_true] at hg
      cases h
      rw [Nat.eq_of_beq_eq_true hg.1, Nat.eq_of_beq_eq_true hg.2]
      exact List.mem_cons_self
theorem find4_mem : ∀ {l : List (Nat × Nat × Nat × Nat)} {x y : Nat} {z : Nat × Nat}, find4 l x y = some z → (x, y, z) ∈ l
  | [], _, _, _, h => by cases h
  | (a, b, c) :: r, x, y, z, h => by
    unfold find4 at h
    cases hg : Nat.beq a x && Nat.beq b y <;> rw [hg] at h
    · exact List.mem_cons_of_mem _ (find4_mem h)
    · simp only [Bool.and_eq_true] at hg
      cases h
      rw [Nat.eq_of_beq_eq_true hg.1, Nat.eq_of_beq_eq_true hg.2]
      exact List.mem_cons_self
/-- kinds of constants and classes that are read: (own class, place, value) -/
def kcok (t : Nat × Nat × Int) : Prop := Cond.constant (cname t.1) t.2.1 (Int32.ofInt t.2.2) ∈ lw_good ∧ -2147483648 ≤ t.2.2 ∧ t.2.2 < 2147483648
def klok (t : Nat × Nat × Int) : Prop := Cond.constantLong (cname t.1) t.2.1 (Int64.ofInt t.2.2) ∈ lw_good ∧ -9223372036854775808 ≤ t.2.2 ∧ t.2.2 < 9223372036854775808
def clok (t : Nat × Nat × Nat) : Prop := ∃ q, vwCl[t.2.2]? = some q ∧ t.2.2 < 100 ∧ Cond.classLink (cname t.1) t.2.1 q.1 ∈ lw_good ∧ Cond.instantiable q.1 q.2.2 ∈ lw_good ∧ Cond.initialized q.1 ∈ lw_good
def findK : List (Nat × Nat × Int) → Nat → Nat → Int → Bool
  | [], _, _, _ => false
  | (a, b, c) :: r, x, y, z => (Nat.beq a x && (Nat.beq b y && decide (c = z))) || findK r x y z
theorem findK_mem : ∀ {l : List (Nat × Nat × Int)} {x y : Nat} {z : Int}, findK l x y z = true → (x, y, z) ∈ l
  | [], _, _, _, h => by cases h
  | (a, b, c) :: r, x, y, z, h => by
    simp only [findK, Bool.or_eq_true, Bool.and_eq_true, decide_eq_true_eq] at h
    rcases h with ⟨h1, h2, h3⟩ | h
    · rw [Nat.eq_of_beq_eq_true h1, Nat.eq_of_beq_eq_true h2, h3]
      exact List.mem_cons_self
    · exact List.mem_cons_of_mem _ (findK_mem h)
/-- the check of an entry, by numbers: FL fields, ML calls, CF callees, KC, KL constants, CL classes, FIN final fields -/
def eokB (FL : List (Nat × Nat × Nat × Nat)) (ML : List (Nat × Nat × Nat)) (CF : List (Nat × Nat × Nat)) (KC KL : List (Nat × Nat × Int)) (CL : List (Nat × Nat × Nat)) (OI AC SL MX : List (Nat × Nat × Nat)) (oc : Nat) (ini : Bool) (cc : ByteArray) (pc : Nat) (e : aE) : Bool := match e with
  | (i, len, a, b, c, z) =>
    match c with
    | 20 => Nat.beq len (ilen i) && decide (decode cc pc = .ok (i, len))
    | 21 => Nat.beq len (ilen i) && decide (decode cc pc = .ok (i, len))
    | 22 => ((match i with
      | .tableswitch _ _ _ _ => true
      | _ => false) || Nat.beq len 3) && (brok i pc a && decide (decode cc pc = .ok (i, len)))
    | 23 => decide (decode cc pc = .ok (i, 1))
    | 24 => match i with
      | .invokespecial idx => decide (decode cc pc = .ok (i, 3)) && (match find3 OI oc idx with
        | some _ => true
        | none => false)
      | _ => false
    | 25 => match i with
      | .invokestatic idx => (Nat.beq a 100 || Nat.beq a 101) && (decide (decode cc pc = .ok (i, 3)) && (match find3 AC oc idx with
        | some _ => true
        | none => false))
      | _ => false
    | 26 => decide (decode cc pc = .ok (i, 3)) && (match CF[a]? with
      | none => false
      | some (ci, n, kd) => match i with
        | .invokestatic idx => Nat.beq kd 0 && (Nat.beq b n && (match find3 ML oc idx with
          | some a' => Nat.beq a' a
          | none => false))
        | .invokespecial idx => Nat.beq kd 1 && (Nat.beq b (n + 1) && (match find3 ML oc idx with
          | some a' => Nat.beq a' a
          | none => false))
        | .invokevirtual idx => Nat.beq kd 2 && (Nat.beq b (n + 1) && (decide (z = (ci : Int)) && (match find3 ML oc idx with
          | some a' => Nat.beq a' a
          | none => false)))
        | _ => false)
    | 29 => match i with
      | .invokevirtual idx => decide (decode cc pc = .ok (i, 3)) && (Nat.beq oc 4 && ((Nat.beq a 900 && Nat.beq b 1 || (Nat.beq a 901 || Nat.beq a 902) && Nat.beq b 2) && (match find3 SL oc idx with
        | some a' => Nat.beq a' a
        | none => false)))
      | _ => false
    | 30 => match i with
      | .invokestatic idx => decide (decode cc pc = .ok (i, 3)) && (match find3 MX oc idx with
        | some a' => Nat.beq a' a
        | none => false)
      | _ => false
    | _ => Nat.beq len (ilen i) && (decide (decode cc pc = .ok (i, len)) && (match i with
      | .ldc idx => bif Nat.beq c 28 then Nat.beq oc 4 && ((Nat.beq idx 41 && decide (z = -10)) || (Nat.beq idx 77 && decide (z = -11))) else findK KC oc idx z
      | .ldc_w idx => findK KC oc idx z
      | .ldc2_w idx => findK KL oc idx z
      | .getfield idx => match find4 FL oc idx with
        | some (ci, k) => Nat.beq ci a && (Nat.beq k b && Nat.beq c (ftc (tyA a b)))
        | none => false
      | .putfield idx => match find4 FL oc idx with
        | some (ci, k) => Nat.beq ci a && (Nat.beq k b && (Nat.beq c (ftc (tyA a b)) && (match vwCl[a]? with
          | some q => (!(q.2.1 b).2.2.2) || (ini && Nat.beq a oc)
          | none => false)))
        | none => false
      | .new idx => match find3 CL oc idx with
        | some ci => Nat.beq ci a && (match vwCl[a]? with
          | some q => Nat.beq b q.2.2
          | none => false)
        | none => false
      | .newarray at' => match at' with
        | .int => Nat.beq c 100
        | .long => Nat.beq c 101
        | .byte => Nat.beq c 102
        | .boolean => Nat.beq c 103
        | _ => false
      | .anewarray idx => match find3 CL oc idx with
        | some ci => Nat.beq ci 6
        | none => false
      | .aastore => Nat.beq a 6
      | _ => true))
