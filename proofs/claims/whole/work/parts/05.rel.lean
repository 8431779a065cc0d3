/-! The relation between the machine and the abstract machine. -/
def cvv (b : Nat) (ex : Nat → Int) : Value → aV → Prop
  | .int i, v => v = .inl i.toInt
  | .long l, v => v = .inr (.inl l.toInt)
  | .null, v => v = .inr (.inr (-1))
  | .ref a, v => v = .inr (.inr (if a < b then ex a else (a : Int) - (b : Int)))
  | _, _ => False
def srel (b : Nat) (ex : Nat → Int) : List Value → List aV → Prop
  | [], [] => True
  | v :: r, x :: q => cvv b ex v x ∧ srel b ex r q
  | _, _ => False
def lrel (b : Nat) (ex : Nat → Int) (n : Nat) (ls : Array Slot) (la : aL) : Prop := la.length = n ∧ ∃ lv : List (Nat × Value), lv_has ls n lv ∧ ∀ (i : Nat) (v : aV), la[i]? = some (some v) → ∃ cv, (i, cv) ∈ lv ∧ cvv b ex cv v
def ety : Nat → FieldType
  | 100 => .int
  | 101 => .long
  | 102 => .byte
  | 103 => .boolean
  | _ => .object "WordMill$State"
def elt : Nat → Nat
  | 100 => 0
  | 101 => 1
  | 102 => 0
  | 103 => 0
  | _ => 2
def celO (G : va_G) (b : Nat) (ex : Nat → Int) (kc : Nat × Nat) (dt : Nat → Int) (cell : Cell) : Prop := ∃ q, vwCl[kc.1]? = some q ∧ kc.2 = q.2.2 ∧ cell.cls = G.1 kc.1 ∧ cell.vm = .none ∧ ∀ k, k < q.2.2 → ∃ v, cell.slots[G.2 kc.1 k]? = some v ∧ cvv b ex v (atg (ftc (tyA kc.1 k)) (dt k))
def celA (ga : Nat → ClassId) (b : Nat) (ex : Nat → Int) (kc : Nat × Nat) (dt : Nat → Int) (cell : Cell) : Prop := kc.1 ≤ 104 ∧ kc.2 ≤ 1000000 ∧ ∃ f : Nat → Value, cell = arrV (ga kc.1) kc.2 f ∧ ∀ j, j < kc.2 → cvv b ex (f j) (atg (elt kc.1) (dt j))
def cel (G : va_G) (ga : Nat → ClassId) (b : Nat) (ex : Nat → Int) (kc : Nat × Nat) (dt : Nat → Int) (cell : Cell) : Prop := (kc.1 < 100 ∧ celO G b ex kc dt cell) ∨ (100 ≤ kc.1 ∧ celA ga b ex kc dt cell)
def hrel (G : va_G) (ga : Nat → ClassId) (b : Nat) (ex : Nat → Int) (h : aH) (H : Heap) : Prop := H.size = b + h.1.1 ∧ ∀ r, r < h.1.1 → ∃ cell, H[b + r]? = some cell ∧ cel G ga b ex (h.1.2.2 r) (h.2 r) cell
theorem srel_i {b : Nat} {ex : Nat → Int} {st : List Value} {x : Int} {r : List aV} (h : srel b ex st (.inl x :: r)) : ∃ (i : Int32) (st0 : List Value), st = .int i :: st0 ∧ x = i.toInt ∧ srel b ex st0 r := by
  cases st with
  | nil => cases h
  | cons v st0 =>
    obtain ⟨h1, h2⟩ := h
    cases v with
    | int i => exact ⟨i, st0, rfl, Sum.inl.inj h1, h2⟩
    | long i => cases h1
    | null => cases h1
    | ref a => cases h1
    | float _ => cases h1
    | double _ => cases h1
    | retAddr _ => cases h1
theorem srel_j {b : Nat} {ex : Nat → Int} {st : List Value} {x : Int} {r : List aV} (h : srel b ex st (.inr (.inl x) :: r)) : ∃ (i : Int64) (st0 : List Value), st = .long i :: st0 ∧ x = i.toInt ∧ srel b ex st0 r := by
  cases st with
  | nil => cases h
  | cons v st0 =>
    obtain ⟨h1, h2⟩ := h
    cases v with
    | int i => cases h1
    | long i => exact ⟨i, st0, rfl, Sum.inl.inj (Sum.inr.inj h1), h2⟩
    | null => cases h1
    | ref a => cases h1
    | float _ => cases h1
    | double _ => cases h1
    | retAddr _ => cases h1
theorem srel_r {b : Nat} {ex : Nat → Int} {st : List Value} {x : Int} {r : List aV} (h : srel b ex st (.inr (.inr x) :: r)) : ∃ (v : Value) (st0 : List Value), st = v :: st0 ∧ ((v = .null ∧ x = -1) ∨ ∃ a : Nat, v = .ref a ∧ x = if a < b then ex a else (a : Int) - (b : Int)) ∧ srel b ex st0 r := by
  cases st with
  | nil => cases h
  | cons v st0 =>
    obtain ⟨h1, h2⟩ := h
    cases v with
    | int i => cases h1
    | long i => cases h1
    | null => exact ⟨_, st0, rfl, Or.inl ⟨rfl, Sum.inr.inj (Sum.inr.inj h1)⟩, h2⟩
    | ref a => exact ⟨_, st0, rfl, Or.inr ⟨a, rfl, Sum.inr.inj (Sum.inr.inj h1)⟩, h2⟩
    | float _ => cases h1
    | double _ => cases h1
    | retAddr _ => cases h1
/-- a reference that the abstract heap has -/
theorem srel_a {b : Nat} {ex : Nat → Int} (hex : ∀ a, ex a ≤ -2) {st : List Value} {x : Int} {r : List aV} (h : srel b ex st (.inr (.inr x) :: r)) (hx : 0 ≤ x) : ∃ (st0 : List Value), st = .ref (b + x.toNat) :: st0 ∧ srel b ex st0 r := by
  obtain ⟨v, st0, rfl, ⟨rfl, e⟩ | ⟨a, rfl, e⟩, h2⟩ := srel_r h
  · omega
  · by_cases ha : a < b
    · rw [if_pos ha] at e
      have := hex a
      omega
    · rw [if_neg ha] at e
      have : a = b + x.toNat := by omega
      subst this
      exact ⟨st0, rfl, h2⟩
theorem cvv_cat {b : Nat} {ex : Nat → Int} {v : Value} {x : aV} (h : cvv b ex v x) : v.category = acat x := by
  cases v <;> first | (cases h; rfl) | (cases h)
theorem srel_cats {b : Nat} {ex : Nat → Int} : ∀ {st : List Value} {sa : List aV}, srel b ex st sa → (st.map fun v => v.category).sum = acats sa
  | [], [], _ => rfl
  | v :: r, x :: q, h => by
    show v.category + (r.map fun v => v.category).sum = acat x + acats q
    rw [cvv_cat h.1, srel_cats h.2]
theorem am_add (i j : Int32) : (i + j).toInt = w32 (i.toInt + j.toInt) := by rw [w32, Int32.ofInt_add, Int32.ofInt_toInt, Int32.ofInt_toInt]
theorem am_sub (i j : Int32) : (i - j).toInt = w32 (i.toInt - j.toInt) := by rw [w32, Int32.ofInt_sub, Int32.ofInt_toInt, Int32.ofInt_toInt]
theorem am_mul (i j : Int32) : (i * j).toInt = w32 (i.toInt * j.toInt) := by rw [w32, Int32.ofInt_mul, Int32.ofInt_toInt, Int32.ofInt_toInt]
theorem am_neg (i : Int32) : (-i).toInt = w32 (-i.toInt) := by rw [w32, Int32.ofInt_neg, Int32.ofInt_toInt]
theorem am_addL (i j : Int64) : (i + j).toInt = w64 (i.toInt + j.toInt) := by rw [w64, Int64.ofInt_add, Int64.ofInt_toInt, Int64.ofInt_toInt]
theorem am_subL (i j : Int64) : (i - j).toInt = w64 (i.toInt - j.toInt) := by rw [w64, Int64.ofInt_sub, Int64.ofInt_toInt, Int64.ofInt_toInt]
theorem am_mulL (i j : Int64) : (i * j).toInt = w64 (i.toInt * j.toInt) := by rw [w64, Int64.ofInt_mul, Int64.ofInt_toInt, Int64.ofInt_toInt]
theorem am_i2l (i : Int32) : i.toInt64.toInt = i.toInt := by simp
theorem am_cmp (i j : Int64) : (lg_cmp i j).toInt = olcmp i.toInt j.toInt := by
  unfold lg_cmp olcmp
  by_cases h1 : i > j
  · rw [if_pos h1, if_pos (Int64.lt_iff_toInt_lt.mp h1)]; rfl
  · rw [if_neg h1, if_neg (fun q => h1 (Int64.lt_iff_toInt_lt.mpr q))]
    by_cases h2 : i = j
    · rw [if_pos h2, if_pos (by rw [h2])]; rfl
    · rw [if_neg h2, if_neg (fun q => h2 (Int64.toInt_inj.mp q))]; rfl
theorem am_w32 {n : Int} (h1 : -2147483648 ≤ n) (h2 : n < 2147483648) : (Int32.ofInt n).toInt = n := Int32.toInt_ofInt_of_le (by simpa using h1) (by simpa using h2)
theorem am_w8 {n : Int} (h1 : -128 ≤ n) (h2 : n ≤ 127) : (Int8.ofInt n).toInt32.toInt = n := by
  rw [Int8.toInt_toInt32]
  exact Int8.toInt_ofInt_of_le (by simpa using h1) (by simp; omega)
theorem am_w16 {n : Int} (h1 : -32768 ≤ n) (h2 : n ≤ 32767) : (Int16.ofInt n).toInt32.toInt = n := by
  rw [Int16.toInt_toInt32]
  exact Int16.toInt_ofInt_of_le (by simpa using h1) (by simp; omega)
def ilen : Instr → Nat
  | .bipush _ => 2
  | .sipush _ => 3
  | .iload _ => 2
  | .lload _ => 2
  | .aload _ => 2
  | .istore _ => 2
  | .lstore _ => 2
  | .astore _ => 2
  | .iinc _ _ => 3
  | .goto _ => 3
  | .ifCond _ _ => 3
  | .if_icmp _ _ => 3
  | .getfield _ => 3
  | .putfield _ => 3
  | .ldc _ => 2
  | .ldc_w _ => 3
  | .ldc2_w _ => 3
  | .new _ => 3
  | .newarray _ => 2
  | .anewarray _ => 3
  | .invokevirtual _ => 3
  | .invokestatic _ => 3
  | .invokespecial _ => 3
  | _ => 1
