/-! The class: letters of a packed word, the stone's work. -/
theorem oand_l2i_31 {x : Int} (h0 : 0 ≤ x) (h1 : x < 9223372036854775808) : oand (ol2i x) 31 = x % 32 := by
  obtain ⟨a, rfl⟩ := Int.eq_ofNat_of_zero_le h0
  unfold oand ol2i
  rw [Int32.ofInt_toInt, show Int32.ofInt 31 = Int32.ofNat 31 from rfl, ofInt64_nat]
  have h32 : a % 4294967296 % 32 = a % 32 := by omega
  have key : ((Int64.ofNat a).toInt32 &&& Int32.ofNat 31).toBitVec.toNat = a % 32 := by
    rw [Int32.toBitVec_and, BitVec.toNat_and, bv32 (by decide), show (Int64.ofNat a).toInt32.toBitVec = (Int64.ofNat a).toBitVec.signExtend 32 from rfl, BitVec.signExtend_eq_setWidth_of_le _ (by decide), BitVec.toNat_setWidth, bv64 (by omega), show (31 : Nat) = 2 ^ 5 - 1 from rfl, Nat.and_two_pow_sub_one_eq_mod]
    exact h32
  rw [i32_of_nat _ key (by omega)]
  omega
theorem p32_append : ∀ (l r : List Nat), p32 (l ++ r) = p32 l + 32 ^ l.length * p32 r
  | [], r => by simp [p32]
  | a :: l, r => by
    show a + 32 * p32 (l ++ r) = a + 32 * p32 l + 32 ^ (l.length + 1) * p32 r
    rw [p32_append l r, Nat.pow_succ, Nat.mul_add, Nat.mul_comm (32 ^ l.length) 32, Nat.mul_assoc, Nat.add_assoc]
theorem p32_div {l : List Nat} (hw : wv l) (i : Nat) : p32 l / 32 ^ i = p32 (l.drop i) := by
  by_cases hi : i ≤ l.length
  · have h1 : l = l.take i ++ l.drop i := (List.take_append_drop _ _).symm
    have h2 : (l.take i).length = i := by simp [hi]
    have h3 : p32 (l.take i) < 32 ^ i := by
      have := p32_lt (l.take i) (fun x hx => hw x (List.mem_of_mem_take hx))
      rw [h2] at this
      exact this
    have h4 : p32 l = p32 (l.take i) + 32 ^ i * p32 (l.drop i) := by
      have := p32_append (l.take i) (l.drop i)
      rw [h2, ← h1] at this
      exact this
    rw [h4, Nat.add_mul_div_left _ _ (Nat.pow_pos (by decide)), Nat.div_eq_of_lt h3, Nat.zero_add]
  · have h1 : l.drop i = [] := List.drop_eq_nil_of_le (by omega)
    rw [h1]
    have h2 := p32_lt l hw
    have h3 : 32 ^ l.length ≤ 32 ^ i := Nat.pow_le_pow_right (by decide) (by omega)
    exact Nat.div_eq_of_lt (by omega)
theorem p32_mod {l : List Nat} (hw : wv l) : p32 l % 32 = l.headD 0 := by
  cases l with
  | nil => rfl
  | cons a r =>
    have := hw a List.mem_cons_self
    show (a + 32 * p32 r) % 32 = a
    omega
theorem pow32_eq (i : Nat) : 2 ^ (5 * i) = 32 ^ i := by rw [Nat.pow_mul]
/-- WordMill.letterAt -/
theorem letterAt_eq (xs : List Int) (d : Nat) (h : aH) {l : List Nat} (hw : wv l) (hl : l.length ≤ 12) {i : Nat} (hi : i ≤ 12) : cl xs (d + 1) 122 [.inr (.inl (p32 l : Int)), .inl (i : Int)] h = some (some (.inl ((l.getD i 0 : Nat) : Int)), h) := by
  rw [c_122]
  have hlt := p32_lt l hw
  have h12 := pow32_12 hl
  have e1 : w32 (5 * (i : Int)) = ((5 * i : Nat) : Int) := by rw [w32_id (by omega) (by omega)]; omega
  rw [e1, olushr_nat (by omega) (by omega), pow32_eq, p32_div hw]
  have hwd : wv (l.drop i) := fun x hx => hw x (List.mem_of_mem_drop hx)
  have h2 := p32_div hw i
  have h3 : p32 l / 32 ^ i ≤ p32 l := Nat.div_le_self _ _
  rw [oand_l2i_31 (by omega) (by omega), show ((p32 (l.drop i) : Nat) : Int) % 32 = ((p32 (l.drop i) % 32 : Nat) : Int) by omega, p32_mod hwd]
  congr 4
  rw [List.headD_eq_head?_getD, List.head?_drop, List.getD_eq_getElem?_getD]
/-! The quick look for a letter: lanes of five bits. -/
def onesL : Nat → Nat
  | 0 => 0
  | n + 1 => 1 + 32 * onesL n
theorem xor_lane {x y a b : Nat} (hx : x < 32) (hy : y < 32) : (x + 32 * a) ^^^ (y + 32 * b) = (x ^^^ y) + 32 * (a ^^^ b) := by
  have h1 : ((x + 32 * a) ^^^ (y + 32 * b)) / 2 ^ 5 = ((x + 32 * a) / 2 ^ 5) ^^^ ((y + 32 * b) / 2 ^ 5) := Nat.xor_div_two_pow
  have h2 : ((x + 32 * a) ^^^ (y + 32 * b)) % 2 ^ 5 = ((x + 32 * a) % 2 ^ 5) ^^^ ((y + 32 * b) % 2 ^ 5) := Nat.xor_mod_two_pow
  rw [show (x + 32 * a) / 2 ^ 5 = a by omega, show (y + 32 * b) / 2 ^ 5 = b by omega] at h1
  rw [show (x + 32 * a) % 2 ^ 5 = x by omega, show (y + 32 * b) % 2 ^ 5 = y by omega] at h2
  generalize (x + 32 * a) ^^^ (y + 32 * b) = z at h1 h2 ⊢
  generalize a ^^^ b = w at h1 ⊢
  generalize x ^^^ y = v at h2 ⊢
  omega
/-- the lanes of a word (n of them), each xored with f -/
def lanes (f : Nat) : Nat → List Nat → Nat
  | 0, _ => 0
  | n + 1, l => (l.headD 0 ^^^ f) + 32 * lanes f n l.tail
theorem lanes_eq {f : Nat} (hf : f < 32) : ∀ (n : Nat) (l : List Nat), wv l → l.length ≤ n → p32 l ^^^ (f * onesL n) = lanes f n l
  | 0, l, _, hl => by
    have : l = [] := List.length_eq_zero_iff.mp (by omega)
    subst this
    simp [p32, onesL, lanes]
  | n + 1, [], hw, hl => by
    have ih := lanes_eq hf n [] hw (Nat.zero_le _)
    have := xor_lane (x := 0) (y := f) (a := 0) (b := f * onesL n) (by decide) hf
    show 0 ^^^ (f * (1 + 32 * onesL n)) = (0 ^^^ f) + 32 * lanes f n []
    rw [show f * (1 + 32 * onesL n) = f + 32 * (f * onesL n) by rw [Nat.mul_add, Nat.mul_one, Nat.mul_left_comm], ← ih]
    exact this
  | n + 1, a :: r, hw, hl => by
    have ha := hw a List.mem_cons_self
    have ih := lanes_eq hf n r (fun x hx => hw x (List.mem_cons_of_mem _ hx)) (by simpa using hl)
    have := xor_lane (x := a) (y := f) (a := p32 r) (b := f * onesL n) (by omega) hf
    show (a + 32 * p32 r) ^^^ (f * (1 + 32 * onesL n)) = (a ^^^ f) + 32 * lanes f n r
    rw [show f * (1 + 32 * onesL n) = f + 32 * (f * onesL n) by rw [Nat.mul_add, Nat.mul_one, Nat.mul_left_comm], ← ih]
    exact this
