/-! A letter that is there is seen by the quick look. -/
theorem lanes_lt {f : Nat} (hf : f < 32) : ∀ (n : Nat) (l : List Nat), wv l → lanes f n l < 32 ^ n
  | 0, _, _ => Nat.one_pos
  | n + 1, l, hw => by
    have ih := lanes_lt hf n l.tail (fun x hx => hw x (List.mem_of_mem_tail hx))
    have h1 : l.headD 0 < 32 := by
      cases l with
      | nil => decide
      | cons a r => have := hw a List.mem_cons_self; show a < 32; omega
    have h2 : l.headD 0 ^^^ f < 32 := Nat.xor_lt_two_pow (n := 5) h1 hf
    show (l.headD 0 ^^^ f) + 32 * lanes f n l.tail < 32 ^ (n + 1)
    rw [Nat.pow_succ]
    omega
theorem xor_ne {a b : Nat} (h : a ≠ b) : a ^^^ b ≠ 0 := fun e => by
  have h2 : a ^^^ (a ^^^ b) = b := by rw [← Nat.xor_assoc, Nat.xor_self, Nat.zero_xor]
  rw [e, Nat.xor_zero] at h2
  exact h h2
theorem zlane {f : Nat} (hf : f < 32) : ∀ (n : Nat) (l : List Nat), wv l → l.length ≤ n → f ∈ l → ∃ a x y, a < n ∧ lanes f n l = x + 32 ^ a * (32 * y) ∧ x < 32 ^ a ∧ onesL a ≤ x
  | 0, l, _, hl, hm => by
    have : l = [] := List.length_eq_zero_iff.mp (by omega)
    subst this
    cases hm
  | n + 1, [], _, _, hm => by cases hm
  | n + 1, c :: r, hw, hl, hm => by
    by_cases hc : c = f
    · subst hc
      refine ⟨0, 0, lanes c n r, by omega, ?_, by decide, Nat.le_refl _⟩
      show (c ^^^ c) + 32 * lanes c n r = 0 + 32 ^ 0 * (32 * lanes c n r)
      rw [Nat.xor_self]
      omega
    · have hm' : f ∈ r := by
        rcases List.mem_cons.mp hm with h | h
        · exact absurd h.symm hc
        · exact h
      obtain ⟨a, x, y, h1, h2, h3, h4⟩ := zlane hf n r (fun z hz => hw z (List.mem_cons_of_mem _ hz)) (by simpa using hl) hm'
      have hcw := hw c List.mem_cons_self
      have hz : c ^^^ f < 32 := Nat.xor_lt_two_pow (n := 5) (show c < 2 ^ 5 by omega) hf
      have hz0 := xor_ne hc
      refine ⟨a + 1, (c ^^^ f) + 32 * x, y, by omega, ?_, ?_, ?_⟩
      · show (c ^^^ f) + 32 * lanes f n r = _
        rw [h2, Nat.pow_succ, Nat.mul_add, Nat.add_assoc, Nat.mul_comm (32 ^ a) 32, Nat.mul_assoc]
      · rw [Nat.pow_succ]; omega
      · show 1 + 32 * onesL a ≤ _
        omega
theorem quick_bits {U a x y : Nat} (ha : a < 8) (hU : U = x + 32 ^ a * (32 * y)) (hx : x < 32 ^ a) (ho : onesL a ≤ x) : (18446744073709551616 - 35468117025 + U).testBit (5 * a + 4) = true ∧ U.testBit (5 * a + 4) = false ∧ (567489872400 : Nat).testBit (5 * a + 4) = true := by
  simp only [Nat.testBit_eq_decide_div_mod_eq, decide_eq_true_eq, decide_eq_false_iff_not]
  match a, ha with
  | 0, _ => simp [onesL] at hx ho hU ⊢; omega
  | 1, _ => simp [onesL] at hx ho hU ⊢; omega
  | 2, _ => simp [onesL] at hx ho hU ⊢; omega
  | 3, _ => simp [onesL] at hx ho hU ⊢; omega
  | 4, _ => simp [onesL] at hx ho hU ⊢; omega
  | 5, _ => simp [onesL] at hx ho hU ⊢; omega
  | 6, _ => simp [onesL] at hx ho hU ⊢; omega
  | 7, _ => simp [onesL] at hx ho hU ⊢; omega
theorem quick_ne {U a : Nat} (ha : a < 8) (hU : U < 1099511627776) (h1 : (18446744073709551616 - 35468117025 + U).testBit (5 * a + 4) = true) (h2 : U.testBit (5 * a + 4) = false) (h3 : (567489872400 : Nat).testBit (5 * a + 4) = true) : ¬ oland (oland (w64 ((U : Int) - 35468117025)) (olxor (U : Int) (-1))) 567489872400 = 0 := by
  intro h
  unfold oland olxor w64 at h
  rw [Int64.ofInt_toInt, Int64.ofInt_toInt, Int64.ofInt_toInt, Int64.ofInt_sub] at h
  have hz : ((Int64.ofInt (U : Int) - Int64.ofInt 35468117025) &&& (Int64.ofInt (U : Int) ^^^ Int64.ofInt (-1))) &&& Int64.ofInt 567489872400 = 0 := Int64.toInt_inj.mp h
  have hb := congrArg (fun z => z.toBitVec.getLsbD (5 * a + 4)) hz
  simp only [Int64.toBitVec_and, Int64.toBitVec_xor, Int64.toBitVec_sub, BitVec.getLsbD_and, BitVec.getLsbD_xor] at hb
  have k64 : 5 * a + 4 < 64 := by omega
  have b1 : ((Int64.ofInt (U : Int)).toBitVec - (Int64.ofInt 35468117025).toBitVec).getLsbD (5 * a + 4) = true := by
    rw [BitVec.getLsbD, BitVec.toNat_sub, show Int64.ofInt (U : Int) = Int64.ofNat U from rfl, bv64 (by omega), show (Int64.ofInt 35468117025).toBitVec.toNat = 35468117025 from rfl, Nat.testBit_mod_two_pow]
    simp only [k64, decide_true, Bool.true_and]
    exact h1
  have b2 : (Int64.ofInt (U : Int)).toBitVec.getLsbD (5 * a + 4) = false := by
    rw [BitVec.getLsbD, show Int64.ofInt (U : Int) = Int64.ofNat U from rfl, bv64 (by omega)]
    exact h2
  have b3 : (Int64.ofInt 567489872400).toBitVec.getLsbD (5 * a + 4) = true := by
    rw [BitVec.getLsbD, show (Int64.ofInt 567489872400).toBitVec.toNat = 567489872400 from rfl]
    exact h3
  have b4 : (Int64.ofInt (-1)).toBitVec.getLsbD (5 * a + 4) = true := by
    rw [show (Int64.ofInt (-1)).toBitVec = BitVec.allOnes 64 from by decide, BitVec.getLsbD_allOnes]
    simp [k64]
  rw [b1, b2, b3, b4] at hb
  have : ((0 : Int64).toBitVec).getLsbD (5 * a + 4) = false := by simp
  rw [this] at hb
  cases hb
/-- Stones.hasLetter: where it says no, the letter isn't there -/
theorem hasLetter_eq (xs : List Int) (d : Nat) (h : aH) {l : List Nat} (hw : wv l) (hl : l.length ≤ 8) {f : Nat} (hf : f < 32) : ∃ b : Int, (b = 0 ∨ b = 1) ∧ (b = 0 → f ∉ l) ∧ cl xs (d + 1) 87 [.inr (.inl (p32 l : Int)), .inl (f : Int)] h = some (some (.inl b), h) := by
  rw [c_87]
  have hlt := p32_lt l hw
  have h32 : 32 ^ l.length ≤ 32 ^ 8 := Nat.pow_le_pow_right (by decide) hl
  have e8 : (32 : Nat) ^ 8 = 1099511627776 := by decide
  have e1 : w64 ((f : Int) * 35468117025) = ((f * 35468117025 : Nat) : Int) := by rw [w64_id (by omega) (by omega)]; omega
  have e2 : olxor (p32 l : Int) ((f * 35468117025 : Nat) : Int) = ((lanes f 8 l : Nat) : Int) := by
    rw [olxor_nat (by omega) (by omega), ← lanes_eq hf 8 l hw hl]
    rfl
  rw [e1, e2]
  have hll := lanes_lt hf 8 l hw
  rw [e8] at hll
  by_cases hz : oland (oland (w64 (((lanes f 8 l : Nat) : Int) - 35468117025)) (olxor ((lanes f 8 l : Nat) : Int) (-1))) 567489872400 = 0
  · refine ⟨0, Or.inl rfl, fun _ hm => ?_, ?_⟩
    · obtain ⟨a, x, y, h1, h2, h3, h4⟩ := zlane hf 8 l hw hl hm
      obtain ⟨k1, k2, k3⟩ := quick_bits h1 h2 h3 h4
      exact quick_ne h1 hll k1 k2 k3 hz
    · rw [hz]
      rfl
  · refine ⟨1, Or.inr rfl, fun h => absurd h (by decide), ?_⟩
    rw [show decide (olcmp (oland (oland (w64 (((lanes f 8 l : Nat) : Int) - 35468117025)) (olxor ((lanes f 8 l : Nat) : Int) (-1))) 567489872400) 0 = 0) = false from decide_eq_false (fun q => hz (olcmp_eq.mp q))]
    rfl
