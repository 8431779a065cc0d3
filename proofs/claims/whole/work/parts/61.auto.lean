/-! Simplification by numbers that fit. -/
theorem dT {p : Prop} {i : Decidable p} (h : p) : @decide p i = true := decide_eq_true h
theorem dF {p : Prop} {i : Decidable p} (h : ¬ p) : @decide p i = false := decide_eq_false h
theorem w_al {a n : Nat} (h : a + @OfNat.ofNat Nat n (instOfNatNat n) < 2147483648) : w32 ((a : Int) + no_index (@OfNat.ofNat Int n instOfNat)) = ((a + @OfNat.ofNat Nat n (instOfNatNat n) : Nat) : Int) := by
  have h : a + n < 2147483648 := h
  show w32 ((a : Int) + (n : Int)) = ((a + n : Nat) : Int)
  rw [w32_id (by omega) (by omega)]; omega
theorem w_la {a n : Nat} (h : @OfNat.ofNat Nat n (instOfNatNat n) + a < 2147483648) : w32 (no_index (@OfNat.ofNat Int n instOfNat) + (a : Int)) = ((@OfNat.ofNat Nat n (instOfNatNat n) + a : Nat) : Int) := by
  have h : n + a < 2147483648 := h
  show w32 ((n : Int) + (a : Int)) = ((n + a : Nat) : Int)
  rw [w32_id (by omega) (by omega)]; omega
theorem w_ab {a b : Nat} (h : a + b < 2147483648) : w32 ((a : Int) + (b : Int)) = ((a + b : Nat) : Int) := by
  rw [w32_id (by omega) (by omega)]; omega
theorem w_sl {a n : Nat} (h : @OfNat.ofNat Nat n (instOfNatNat n) ≤ a) (h2 : a < 2147483648) : w32 ((a : Int) - no_index (@OfNat.ofNat Int n instOfNat)) = ((a - @OfNat.ofNat Nat n (instOfNatNat n) : Nat) : Int) := by
  have h : n ≤ a := h
  show w32 ((a : Int) - (n : Int)) = ((a - n : Nat) : Int)
  rw [w32_id (by omega) (by omega)]; omega
theorem w_sb {a b : Nat} (h : b ≤ a) (h2 : a < 2147483648) : w32 ((a : Int) - (b : Int)) = ((a - b : Nat) : Int) := by
  rw [w32_id (by omega) (by omega)]; omega
theorem w_dec {a : Nat} (h : 1 ≤ a) (h2 : a < 2147483648) : w32 ((a : Int) + (-1)) = ((a - 1 : Nat) : Int) := by
  rw [w32_id (by omega) (by omega)]; omega
theorem w_ml {a n : Nat} (h : a * @OfNat.ofNat Nat n (instOfNatNat n) < 2147483648) : w32 ((a : Int) * no_index (@OfNat.ofNat Int n instOfNat)) = ((a * @OfNat.ofNat Nat n (instOfNatNat n) : Nat) : Int) := by
  have h : a * n < 2147483648 := h
  show w32 ((a : Int) * (n : Int)) = ((a * n : Nat) : Int)
  rw [← Int.natCast_mul, w32_id (by omega) (by omega)]
theorem w_lm {a n : Nat} (h : @OfNat.ofNat Nat n (instOfNatNat n) * a < 2147483648) : w32 (no_index (@OfNat.ofNat Int n instOfNat) * (a : Int)) = ((@OfNat.ofNat Nat n (instOfNatNat n) * a : Nat) : Int) := by
  have h : n * a < 2147483648 := h
  show w32 ((n : Int) * (a : Int)) = ((n * a : Nat) : Int)
  rw [← Int.natCast_mul, w32_id (by omega) (by omega)]
theorem ol2i_n {a : Nat} (h : a < 2147483648) : ol2i (a : Int) = (a : Int) := ol2i_id (by omega) (by omega)
theorem aupN {D : Nat → Nat → Int} {r k : Nat} {v : Int} {q : Nat} (h : q ≠ r) : aup D r k v q = D q := by funext j; simp [aup, h]
theorem aupE (D : Nat → Nat → Int) (r k : Nat) (v : Int) : aup D r k v r k = v := by simp [aup]
theorem aupJ {D : Nat → Nat → Int} {r k : Nat} {v : Int} {j : Nat} (h : j ≠ k) : aup D r k v r j = D r j := by simp [aup, h]
theorem not_dec {p : Prop} {i : Decidable p} {j : Decidable (¬ p)} : @decide (¬ p) j = !(@decide p i) := by
  by_cases h : p <;> simp [h]
theorem ol2i_w (x : Int) : ol2i x = w32 x := by
  unfold ol2i w32
  rw [Int64.toInt32_ofInt]
theorem bI_s (x : Int) (h : aH) (k : Int → aH → aO) : bI (some (some (.inl x), h)) k = k x h := rfl
theorem bJ_s (x : Int) (h : aH) (k : Int → aH → aO) : bJ (some (some (.inr (.inl x)), h)) k = k x h := rfl
theorem bR_s (x : Int) (h : aH) (k : Int → aH → aO) : bR (some (some (.inr (.inr x)), h)) k = k x h := rfl
theorem bV_s (h : aH) (k : aH → aO) : bV (some (none, h)) k = k h := rfl
