/-! Divisions of whole numbers that are not below nought. -/
theorem odiv_i {x y : Int} (h0 : 0 ≤ x) (h1 : x < 2147483648) (h2 : 0 < y) (h3 : y < 2147483648) : odiv x y = x / y := by
  obtain ⟨a, rfl⟩ := Int.eq_ofNat_of_zero_le h0
  obtain ⟨b, rfl⟩ := Int.eq_ofNat_of_zero_le (Int.le_of_lt h2)
  rw [odiv_nat (by omega) (by omega)]
  rfl
theorem orem_i {x y : Int} (h0 : 0 ≤ x) (h1 : x < 2147483648) (h2 : 0 < y) (h3 : y < 2147483648) : orem x y = x % y := by
  obtain ⟨a, rfl⟩ := Int.eq_ofNat_of_zero_le h0
  obtain ⟨b, rfl⟩ := Int.eq_ofNat_of_zero_le (Int.le_of_lt h2)
  rw [orem_nat (by omega) (by omega)]
  rfl
theorem oldiv_i {x y : Int} (h0 : 0 ≤ x) (h1 : x < 9223372036854775808) (h2 : 0 < y) (h3 : y < 9223372036854775808) : oldiv x y = x / y := by
  obtain ⟨a, rfl⟩ := Int.eq_ofNat_of_zero_le h0
  obtain ⟨b, rfl⟩ := Int.eq_ofNat_of_zero_le (Int.le_of_lt h2)
  rw [oldiv_nat (by omega) (by omega)]
  rfl
theorem olrem_i {x y : Int} (h0 : 0 ≤ x) (h1 : x < 9223372036854775808) (h2 : 0 < y) (h3 : y < 9223372036854775808) : olrem x y = x % y := by
  obtain ⟨a, rfl⟩ := Int.eq_ofNat_of_zero_le h0
  obtain ⟨b, rfl⟩ := Int.eq_ofNat_of_zero_le (Int.le_of_lt h2)
  rw [olrem_nat (by omega) (by omega)]
  rfl
theorem olushr_i {x : Int} {b : Nat} (hb : b < 64) (h0 : 0 ≤ x) (h1 : x < 9223372036854775808) : olushr x (b : Int) = x / ((2 ^ b : Nat) : Int) := by
  obtain ⟨a, rfl⟩ := Int.eq_ofNat_of_zero_le h0
  rw [olushr_nat hb (by omega)]
  rfl
theorem olushr_5 {x : Int} (h0 : 0 ≤ x) (h1 : x < 9223372036854775808) : olushr x 5 = x / 32 := olushr_i (b := 5) (by decide) h0 h1
/-! Words: letters as a list; the reference's number (base 27, the last letter lowest), the class's (5 bits a letter, the first lowest). -/
def wv (l : List Nat) : Prop := ∀ a ∈ l, 1 ≤ a ∧ a ≤ 26
def p27 : List Nat → Nat
  | [] => 0
  | a :: r => a * 27 ^ r.length + p27 r
def p32 : List Nat → Nat
  | [] => 0
  | a :: r => a + 32 * p32 r
theorem p27_snoc : ∀ (l : List Nat) (a : Nat), p27 (l ++ [a]) = 27 * p27 l + a
  | [], a => by simp [p27]
  | b :: r, a => by
    show b * 27 ^ (r ++ [a]).length + p27 (r ++ [a]) = 27 * (b * 27 ^ r.length + p27 r) + a
    rw [p27_snoc r a, List.length_append, List.length_singleton, Nat.pow_succ, Nat.mul_add, ← Nat.mul_assoc, Nat.mul_comm 27 (b * 27 ^ r.length), Nat.mul_assoc b, Nat.add_assoc]
theorem p27_lt : ∀ (l : List Nat), wv l → p27 l < 27 ^ l.length
  | [], _ => by decide
  | a :: r, h => by
    have h1 := p27_lt r (fun x hx => h x (List.mem_cons_of_mem _ hx))
    have h2 := (h a List.mem_cons_self).2
    show a * 27 ^ r.length + p27 r < 27 ^ (r.length + 1)
    rw [Nat.pow_succ]
    have : a * 27 ^ r.length ≤ 26 * 27 ^ r.length := Nat.mul_le_mul_right _ h2
    omega
theorem p32_lt : ∀ (l : List Nat), wv l → p32 l < 32 ^ l.length
  | [], _ => by decide
  | a :: r, h => by
    have h1 := p32_lt r (fun x hx => h x (List.mem_cons_of_mem _ hx))
    have h2 := (h a List.mem_cons_self).2
    show a + 32 * p32 r < 32 ^ (r.length + 1)
    rw [Nat.pow_succ]
    omega
theorem p27_zero {l : List Nat} (h : wv l) (hz : p27 l = 0) : l = [] := by
  cases l with
  | nil => rfl
  | cons a r =>
    have h1 := (h a List.mem_cons_self).1
    have h2 : 0 < a * 27 ^ r.length := Nat.mul_pos (by omega) (Nat.pow_pos (by decide))
    have h3 : a * 27 ^ r.length + p27 r = 0 := hz
    omega
theorem p32_zero {l : List Nat} (h : wv l) (hz : p32 l = 0) : l = [] := by
  cases l with
  | nil => rfl
  | cons a r =>
    have h1 := (h a List.mem_cons_self).1
    have h3 : a + 32 * p32 r = 0 := hz
    omega
theorem pow27_12 {n : Nat} (h : n ≤ 12) : 27 ^ n ≤ 150094635296999121 := by
  have : 27 ^ n ≤ 27 ^ 12 := Nat.pow_le_pow_right (by decide) h
  exact Nat.le_trans this (by decide)
theorem pow32_12 {n : Nat} (h : n ≤ 12) : 32 ^ n ≤ 1152921504606846976 := by
  have : 32 ^ n ≤ 32 ^ 12 := Nat.pow_le_pow_right (by decide) h
  exact Nat.le_trans this (by decide)
theorem list_snoc {α : Type} {l : List α} (h : l ≠ []) : ∃ r a, l = r ++ [a] := ⟨l.dropLast, l.getLast h, (List.dropLast_concat_getLast h).symm⟩
/-- WordMillModel.longOf -/
theorem longOf_loop (xs : List Int) (d : Nat) (v0 : Int) (h : aH) : ∀ (n : Nat) (l : List Nat) (u1 u4 : Option aV) (k : Nat), l.length = n → wv l → n ≤ 12 → k + n ≤ 1000 → ev xs d mm_236 4 [some (.inr (.inl v0)), u1, some (.inl (k : Int)), some (.inr (.inl (p27 l : Int))), u4] [] h = some (some (.inl ((k + n : Nat) : Int)), h)
  | 0, l, u1, u4, k, hl, hw, hn, hk => by
    have : l = [] := List.length_eq_zero_iff.mp hl
    subst this
    rw [q_236_4]
    simp [p27, olcmp_le]
  | n + 1, l, u1, u4, k, hl, hw, hn, hk => by
    obtain ⟨r, a, rfl⟩ := list_snoc (l := l) (fun e => by rw [e] at hl; cases hl)
    have hr : r.length = n := by simpa using hl
    have ha := hw a (by simp)
    have hwr : wv r := fun x hx => hw x (by simp [hx])
    have hlt := p27_lt _ hw
    have h12 := pow27_12 hn
    rw [hl] at hlt
    rw [q_236_4, p27_snoc]
    rw [p27_snoc] at hlt
    have e1 : decide (olcmp ((27 * p27 r + a : Nat) : Int) 0 ≤ 0) = false := decide_eq_false (by rw [olcmp_le]; omega)
    rw [e1, oldiv_i (by omega) (by omega) (by omega) (by omega), show ((27 * p27 r + a : Nat) : Int) / 27 = (p27 r : Int) by omega, w32_id (by omega) (by omega)]
    have := longOf_loop xs d v0 h n r (acl u1) none (k + 1) hr hwr (by omega) (by omega)
    rw [show k + (n + 1) = k + 1 + n by omega]
    exact this
theorem longOf_eq (xs : List Int) (d : Nat) (h : aH) {l : List Nat} (hw : wv l) (hl : l.length ≤ 12) : cl xs (d + 1) 236 [.inr (.inl (p27 l : Int))] h = some (some (.inl (l.length : Int)), h) := by
  rw [c_236]
  have := longOf_loop xs d (p27 l) h l.length l none none 0 rfl hw hl (by omega)
  rw [Nat.zero_add] at this
  exact this
/-- WordMill.sizeOf -/
theorem sizeOf_loop (xs : List Int) (d : Nat) (v0 : Int) (h : aH) : ∀ (l : List Nat) (u1 u4 : Option aV) (k : Nat), wv l → k + l.length ≤ 12 → ev xs d mm_121 4 [some (.inr (.inl v0)), u1, some (.inl (k : Int)), some (.inr (.inl (p32 l : Int))), u4] [] h = some (some (.inl ((k + l.length : Nat) : Int)), h)
  | [], u1, u4, k, hw, hk => by
    rw [q_121_4]
    simp [p32, olcmp_eq]
  | a :: r, u1, u4, k, hw, hk => by
    have ha := hw a List.mem_cons_self
    have hwr : wv r := fun x hx => hw x (List.mem_cons_of_mem _ hx)
    have hk' : k + (r.length + 1) ≤ 12 := hk
    have hlt := p32_lt _ hw
    have h12 := pow32_12 (n := (a :: r).length) (by show r.length + 1 ≤ 12; omega)
    have hp : p32 (a :: r) = a + 32 * p32 r := rfl
    rw [q_121_4]
    have e1 : decide (olcmp (p32 (a :: r) : Int) 0 = 0) = false := decide_eq_false (by rw [olcmp_eq]; omega)
    have e2 : decide ((12 : Int) ≤ (k : Int)) = false := decide_eq_false (by omega)
    rw [e1, e2, olushr_5 (by omega) (by omega), show (p32 (a :: r) : Int) / 32 = (p32 r : Int) by omega, w32_id (by omega) (by omega)]
    have := sizeOf_loop xs d v0 h r (acl u1) none (k + 1) hwr (by omega)
    show ev _ _ _ _ _ _ _ = some (some (.inl ((k + (r.length + 1) : Nat) : Int)), h)
    rw [show k + (r.length + 1) = k + 1 + r.length by omega]
    exact this
theorem sizeOf_eq (xs : List Int) (d : Nat) (h : aH) {l : List Nat} (hw : wv l) (hl : l.length ≤ 12) : cl xs (d + 1) 121 [.inr (.inl (p32 l : Int))] h = some (some (.inl (l.length : Int)), h) := by
  rw [c_121]
  have := sizeOf_loop xs d (p32 l) h l none none 0 hw (by omega)
  rw [Nat.zero_add] at this
  exact this
