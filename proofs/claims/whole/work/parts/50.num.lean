/-! Numbers: the machine's operations on numbers that fit. -/
theorem w32_id {x : Int} (h1 : -2147483648 ≤ x) (h2 : x < 2147483648) : w32 x = x := am_w32 h1 h2
theorem w64_id {x : Int} (h1 : -9223372036854775808 ≤ x) (h2 : x < 9223372036854775808) : w64 x = x := am_z64 h1 h2
theorem w32_rng (x : Int) : -2147483648 ≤ w32 x ∧ w32 x < 2147483648 := ⟨by have := (Int32.ofInt x).le_toInt; simpa [w32] using this, by have := (Int32.ofInt x).toInt_lt; simpa [w32] using this⟩
theorem w64_rng (x : Int) : -9223372036854775808 ≤ w64 x ∧ w64 x < 9223372036854775808 := ⟨by have := (Int64.ofInt x).le_toInt; simpa [w64] using this, by have := (Int64.ofInt x).toInt_lt; simpa [w64] using this⟩
theorem w32_w32 (x : Int) : w32 (w32 x) = w32 x := w32_id (w32_rng x).1 (w32_rng x).2
theorem w32_add_l (x y : Int) : w32 (w32 x + y) = w32 (x + y) := by simp only [w32, Int32.ofInt_add, Int32.ofInt_toInt]
theorem w32_add_r (x y : Int) : w32 (x + w32 y) = w32 (x + y) := by simp only [w32, Int32.ofInt_add, Int32.ofInt_toInt]
theorem w32_sub_l (x y : Int) : w32 (w32 x - y) = w32 (x - y) := by simp only [w32, Int32.ofInt_sub, Int32.ofInt_toInt]
theorem w32_sub_r (x y : Int) : w32 (x - w32 y) = w32 (x - y) := by simp only [w32, Int32.ofInt_sub, Int32.ofInt_toInt]
theorem w32_mul_l (x y : Int) : w32 (w32 x * y) = w32 (x * y) := by simp only [w32, Int32.ofInt_mul, Int32.ofInt_toInt]
theorem w32_mul_r (x y : Int) : w32 (x * w32 y) = w32 (x * y) := by simp only [w32, Int32.ofInt_mul, Int32.ofInt_toInt]
theorem ofInt32_nat (a : Nat) : Int32.ofInt (a : Int) = Int32.ofNat a := rfl
theorem ofInt64_nat (a : Nat) : Int64.ofInt (a : Int) = Int64.ofNat a := rfl
theorem bv32 {a : Nat} (h : a < 4294967296) : (Int32.ofNat a).toBitVec.toNat = a := by
  rw [Int32.toBitVec_ofNat', BitVec.toNat_ofNat]
  exact Nat.mod_eq_of_lt h
theorem bv64 {a : Nat} (h : a < 18446744073709551616) : (Int64.ofNat a).toBitVec.toNat = a := by
  rw [Int64.toBitVec_ofNat', BitVec.toNat_ofNat]
  exact Nat.mod_eq_of_lt h
theorem i32_of_nat (x : Int32) {n : Nat} (h : x.toBitVec.toNat = n) (hn : n < 2147483648) : x.toInt = (n : Int) := by
  rw [← Int32.toInt_toBitVec, BitVec.toInt_eq_toNat_of_lt (by rw [h]; omega), h]
theorem i64_of_nat (x : Int64) {n : Nat} (h : x.toBitVec.toNat = n) (hn : n < 9223372036854775808) : x.toInt = (n : Int) := by
  rw [← Int64.toInt_toBitVec, BitVec.toInt_eq_toNat_of_lt (by rw [h]; omega), h]
theorem oand_nat {a b : Nat} (ha : a < 2147483648) (hb : b < 2147483648) : oand (a : Int) (b : Int) = ((a &&& b : Nat) : Int) := by
  unfold oand
  rw [ofInt32_nat, ofInt32_nat]
  refine i32_of_nat _ ?_ (Nat.lt_of_le_of_lt Nat.and_le_left ha)
  rw [Int32.toBitVec_and, BitVec.toNat_and, bv32 (by omega), bv32 (by omega)]
theorem oor_nat {a b : Nat} (ha : a < 2147483648) (hb : b < 2147483648) : oor (a : Int) (b : Int) = ((a ||| b : Nat) : Int) := by
  unfold oor
  rw [ofInt32_nat, ofInt32_nat]
  refine i32_of_nat _ ?_ (Nat.or_lt_two_pow (n := 31) ha hb)
  rw [Int32.toBitVec_or, BitVec.toNat_or, bv32 (by omega), bv32 (by omega)]
theorem oxor_nat {a b : Nat} (ha : a < 2147483648) (hb : b < 2147483648) : oxor (a : Int) (b : Int) = ((a ^^^ b : Nat) : Int) := by
  unfold oxor
  rw [ofInt32_nat, ofInt32_nat]
  refine i32_of_nat _ ?_ (Nat.xor_lt_two_pow (n := 31) ha hb)
  rw [Int32.toBitVec_xor, BitVec.toNat_xor, bv32 (by omega), bv32 (by omega)]
theorem oland_nat {a b : Nat} (ha : a < 9223372036854775808) (hb : b < 9223372036854775808) : oland (a : Int) (b : Int) = ((a &&& b : Nat) : Int) := by
  unfold oland
  rw [ofInt64_nat, ofInt64_nat]
  refine i64_of_nat _ ?_ (Nat.lt_of_le_of_lt Nat.and_le_left ha)
  rw [Int64.toBitVec_and, BitVec.toNat_and, bv64 (by omega), bv64 (by omega)]
theorem olor_nat {a b : Nat} (ha : a < 9223372036854775808) (hb : b < 9223372036854775808) : olor (a : Int) (b : Int) = ((a ||| b : Nat) : Int) := by
  unfold olor
  rw [ofInt64_nat, ofInt64_nat]
  refine i64_of_nat _ ?_ (Nat.or_lt_two_pow (n := 63) ha hb)
  rw [Int64.toBitVec_or, BitVec.toNat_or, bv64 (by omega), bv64 (by omega)]
theorem olxor_nat {a b : Nat} (ha : a < 9223372036854775808) (hb : b < 9223372036854775808) : olxor (a : Int) (b : Int) = ((a ^^^ b : Nat) : Int) := by
  unfold olxor
  rw [ofInt64_nat, ofInt64_nat]
  refine i64_of_nat _ ?_ (Nat.xor_lt_two_pow (n := 63) ha hb)
  rw [Int64.toBitVec_xor, BitVec.toNat_xor, bv64 (by omega), bv64 (by omega)]
theorem ol2i_id {x : Int} (h1 : -2147483648 ≤ x) (h2 : x < 2147483648) : ol2i x = x := by
  unfold ol2i
  rw [Int64.toInt_toInt32, am_z64 (by omega) (by omega)]
  exact Int.bmod_eq_of_le (by simpa using h1) (by simpa using h2)
theorem odiv_nat {a b : Nat} (ha : a < 2147483648) (hb : b < 2147483648) : odiv (a : Int) (b : Int) = ((a / b : Nat) : Int) := by
  unfold odiv
  rw [Int32.toInt_div_of_ne_left _ _ (fun h => by
    have := congrArg Int32.toInt h
    rw [am_w32 (by omega) (by omega)] at this
    have e : Int32.minValue.toInt = -2147483648 := rfl
    omega), am_w32 (by omega) (by omega), am_w32 (by omega) (by omega)]
  rfl
theorem orem_nat {a b : Nat} (ha : a < 2147483648) (hb : b < 2147483648) : orem (a : Int) (b : Int) = ((a % b : Nat) : Int) := by
  unfold orem
  rw [rem_toInt, am_w32 (by omega) (by omega), am_w32 (by omega) (by omega)]
  rfl
theorem oldiv_nat {a b : Nat} (ha : a < 9223372036854775808) (hb : b < 9223372036854775808) : oldiv (a : Int) (b : Int) = ((a / b : Nat) : Int) := by
  unfold oldiv
  rw [Int64.toInt_div_of_ne_left _ _ (fun h => by
    have := congrArg Int64.toInt h
    rw [am_z64 (by omega) (by omega)] at this
    have e : Int64.minValue.toInt = -9223372036854775808 := rfl
    omega), am_z64 (by omega) (by omega), am_z64 (by omega) (by omega)]
  rfl
theorem olrem_nat {a b : Nat} (ha : a < 9223372036854775808) (hb : b < 9223372036854775808) : olrem (a : Int) (b : Int) = ((a % b : Nat) : Int) := by
  have h1 : olrem (a : Int) (b : Int) = w64 ((a : Int) - oldiv a b * b) := by
    unfold olrem oldiv w64
    rw [Int64.ofInt_sub, Int64.ofInt_mul, Int64.ofInt_toInt]
  rw [h1, oldiv_nat ha hb]
  have h2 : (a : Int) - ((a / b : Nat) : Int) * (b : Int) = ((a % b : Nat) : Int) := by
    have := Nat.div_add_mod a b
    have h3 : ((b * (a / b) + a % b : Nat) : Int) = (a : Int) := by rw [this]
    rw [Int.natCast_add, Int.natCast_mul] at h3
    rw [Int.mul_comm]
    omega
  rw [h2]
  have h4 : a % b ≤ a := Nat.mod_le a b
  exact w64_id (by omega) (by omega)
theorem sh_amt32 {b : Nat} (hb : b < 32) : ((Int32.ofNat b &&& 31).toBitVec.smod 32).toNat = b := by
  have key : ∀ b : Fin 32, ((Int32.ofNat b.val &&& 31).toBitVec.smod 32).toNat = b.val := by decide +kernel
  exact key ⟨b, hb⟩
theorem sh_amt64 {b : Nat} (hb : b < 64) : (((Int32.ofNat b).toInt64 &&& 63).toBitVec.smod 64).toNat = b := by
  have key : ∀ b : Fin 64, (((Int32.ofNat b.val).toInt64 &&& 63).toBitVec.smod 64).toNat = b.val := by decide +kernel
  exact key ⟨b, hb⟩
theorem sh_amtu32 {b : Nat} (hb : b < 32) : ((Int32.ofNat b).toUInt32 &&& Int32.toUInt32 31).toNat % 32 = b := by
  have key : ∀ b : Fin 32, ((Int32.ofNat b.val).toUInt32 &&& Int32.toUInt32 31).toNat % 32 = b.val := by decide +kernel
  exact key ⟨b, hb⟩
theorem sh_amtu64 {b : Nat} (hb : b < 64) : ((Int32.ofNat b).toInt64.toUInt64 &&& Int64.toUInt64 63).toNat % 64 = b := by
  have key : ∀ b : Fin 64, ((Int32.ofNat b.val).toInt64.toUInt64 &&& Int64.toUInt64 63).toNat % 64 = b.val := by decide +kernel
  exact key ⟨b, hb⟩
theorem oshl_nat {a b : Nat} (hb : b < 32) (h : a * 2 ^ b < 2147483648) : oshl (a : Int) (b : Int) = ((a * 2 ^ b : Nat) : Int) := by
  have ha : a ≤ a * 2 ^ b := Nat.le_mul_of_pos_right a (Nat.two_pow_pos b)
  unfold oshl
  rw [ofInt32_nat, ofInt32_nat]
  refine i32_of_nat _ ?_ h
  rw [Int32.toBitVec_shiftLeft, BitVec.shiftLeft_eq', BitVec.toNat_shiftLeft, sh_amt32 hb, bv32 (by omega), Nat.shiftLeft_eq]
  exact Nat.mod_eq_of_lt (by omega)
theorem oshr_nat {a b : Nat} (hb : b < 32) (h : a < 2147483648) : oshr (a : Int) (b : Int) = ((a / 2 ^ b : Nat) : Int) := by
  unfold oshr
  rw [ofInt32_nat, ofInt32_nat]
  refine i32_of_nat _ ?_ (Nat.lt_of_le_of_lt (Nat.div_le_self _ _) h)
  rw [Int32.toBitVec_shiftRight, show ∀ x y : BitVec 32, x.sshiftRight' y = x.sshiftRight y.toNat from fun _ _ => rfl, sh_amt32 hb, BitVec.sshiftRight_eq_of_msb_false (by rw [BitVec.msb_eq_false_iff_two_mul_lt, bv32 (by omega)]; omega), BitVec.toNat_ushiftRight, bv32 (by omega), Nat.shiftRight_eq_div_pow]
theorem oushr_nat {a b : Nat} (hb : b < 32) (h : a < 2147483648) : oushr (a : Int) (b : Int) = ((a / 2 ^ b : Nat) : Int) := by
  unfold oushr
  rw [ofInt32_nat, ofInt32_nat]
  refine i32_of_nat _ ?_ (Nat.lt_of_le_of_lt (Nat.div_le_self _ _) h)
  show ((Int32.ofNat a).toUInt32 >>> ((Int32.ofNat b).toUInt32 &&& Int32.toUInt32 31)).toNat = _
  rw [UInt32.toNat_shiftRight, sh_amtu32 hb, show (Int32.ofNat a).toUInt32.toNat = (Int32.ofNat a).toBitVec.toNat from rfl, bv32 (by omega), Nat.shiftRight_eq_div_pow]
theorem olshl_nat {a b : Nat} (hb : b < 64) (h : a * 2 ^ b < 9223372036854775808) : olshl (a : Int) (b : Int) = ((a * 2 ^ b : Nat) : Int) := by
  have ha : a ≤ a * 2 ^ b := Nat.le_mul_of_pos_right a (Nat.two_pow_pos b)
  unfold olshl
  rw [ofInt64_nat, ofInt32_nat]
  refine i64_of_nat _ ?_ h
  rw [Int64.toBitVec_shiftLeft, BitVec.shiftLeft_eq', BitVec.toNat_shiftLeft, sh_amt64 hb, bv64 (by omega), Nat.shiftLeft_eq]
  exact Nat.mod_eq_of_lt (by omega)
theorem olshr_nat {a b : Nat} (hb : b < 64) (h : a < 9223372036854775808) : olshr (a : Int) (b : Int) = ((a / 2 ^ b : Nat) : Int) := by
  unfold olshr
  rw [ofInt64_nat, ofInt32_nat]
  refine i64_of_nat _ ?_ (Nat.lt_of_le_of_lt (Nat.div_le_self _ _) h)
  rw [Int64.toBitVec_shiftRight, show ∀ x y : BitVec 64, x.sshiftRight' y = x.sshiftRight y.toNat from fun _ _ => rfl, sh_amt64 hb, BitVec.sshiftRight_eq_of_msb_false (by rw [BitVec.msb_eq_false_iff_two_mul_lt, bv64 (by omega)]; omega), BitVec.toNat_ushiftRight, bv64 (by omega), Nat.shiftRight_eq_div_pow]
theorem olushr_nat {a b : Nat} (hb : b < 64) (h : a < 9223372036854775808) : olushr (a : Int) (b : Int) = ((a / 2 ^ b : Nat) : Int) := by
  unfold olushr
  rw [ofInt64_nat, ofInt32_nat]
  refine i64_of_nat _ ?_ (Nat.lt_of_le_of_lt (Nat.div_le_self _ _) h)
  show ((Int64.ofNat a).toUInt64 >>> ((Int32.ofNat b).toInt64.toUInt64 &&& Int64.toUInt64 63)).toNat = _
  rw [UInt64.toNat_shiftRight, sh_amtu64 hb, show (Int64.ofNat a).toUInt64.toNat = (Int64.ofNat a).toBitVec.toNat from rfl, bv64 (by omega), Nat.shiftRight_eq_div_pow]
/-! the heap's cells, by what is known of them -/
theorem aok_t {κ : aK} {x : Int} {code n : Nat} (r : Nat) (hx : x = (r : Int)) (hr : r < κ.1) (hk : κ.2.2 r = (code, n)) : aok κ x code = true := by
  subst hx
  simp [aok, hr, hk]
theorem ain_t {κ : aK} {x i : Int} {code n : Nat} (r j : Nat) (hx : x = (r : Int)) (hi : i = (j : Int)) (hr : r < κ.1) (hk : κ.2.2 r = (code, n)) (hj : j < n) : ain κ x code i = true := by
  subst hx
  subst hi
  simp [ain, aok, aln, hr, hk, hj]
theorem olcmp_le {x y : Int} : olcmp x y ≤ 0 ↔ x ≤ y := by
  unfold olcmp
  split
  · constructor <;> intro h <;> omega
  · split <;> constructor <;> intro h <;> omega
theorem olcmp_eq {x y : Int} : olcmp x y = 0 ↔ x = y := by
  unfold olcmp
  split
  · constructor <;> intro h <;> omega
  · split <;> constructor <;> intro h <;> omega
theorem olcmp_ge {x y : Int} : 0 ≤ olcmp x y ↔ y ≤ x := by
  unfold olcmp
  split
  · constructor <;> intro h <;> omega
  · split <;> constructor <;> intro h <;> omega
theorem olcmp_lt {x y : Int} : olcmp x y < 0 ↔ x < y := by
  unfold olcmp
  split
  · constructor <;> intro h <;> omega
  · split <;> constructor <;> intro h <;> omega
theorem olcmp_gt {x y : Int} : 0 < olcmp x y ↔ y < x := by
  unfold olcmp
  split
  · constructor <;> intro h <;> omega
  · split <;> constructor <;> intro h <;> omega
