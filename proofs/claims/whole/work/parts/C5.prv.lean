/-! Orders: links, by itself. -/
theorem prv_spec (ow : Nat → Nat) (s : Nat) : ∀ k, (prv ow s k = -1 ∧ ∀ j, j < k → ow j ≠ s) ∨ ∃ i : Nat, i < k ∧ prv ow s k = (i : Int) ∧ ow i = s ∧ ∀ j, i < j → j < k → ow j ≠ s
  | 0 => Or.inl ⟨rfl, fun j hj => absurd hj (by omega)⟩
  | k + 1 => by
    show ((if ow k = s then (k : Int) else prv ow s k) = -1 ∧ _) ∨ ∃ i : Nat, i < k + 1 ∧ (if ow k = s then (k : Int) else prv ow s k) = (i : Int) ∧ _
    by_cases h : ow k = s
    · rw [if_pos h]
      exact Or.inr ⟨k, by omega, rfl, h, fun j h1 h2 => absurd h1 (by omega)⟩
    · rw [if_neg h]
      rcases prv_spec ow s k with ⟨a, b⟩ | ⟨i, a, b, c, f⟩
      · refine Or.inl ⟨a, fun j hj => ?_⟩
        by_cases hjk : j = k
        · rw [hjk]; exact h
        · exact b j (by omega)
      · refine Or.inr ⟨i, by omega, b, c, fun j h1 h2 => ?_⟩
        by_cases hjk : j = k
        · rw [hjk]; exact h
        · exact f j h1 (by omega)
theorem prv_up (ow : Nat → Nat) (m s' s : Nat) : ∀ k, k ≤ m → prv (upN ow m s') s k = prv ow s k
  | 0, _ => rfl
  | k + 1, h => by
    show (if upN ow m s' k = s then (k : Int) else prv (upN ow m s') s k) = (if ow k = s then (k : Int) else prv ow s k)
    rw [upN_n (by omega), prv_up ow m s' s k (by omega)]
theorem prv_top (ow : Nat → Nat) (m s' s : Nat) : prv (upN ow m s') s (m + 1) = if s' = s then (m : Int) else prv ow s m := by
  show (if upN ow m s' m = s then (m : Int) else prv (upN ow m s') s m) = _
  rw [upN_e, prv_up ow m s' s m (Nat.le_refl _)]
theorem prv_rng (ow : Nat → Nat) (s k : Nat) : -1 ≤ prv ow s k ∧ prv ow s k < (k : Int) := by
  rcases prv_spec ow s k with ⟨a, _⟩ | ⟨i, a, b, _, _⟩ <;> omega
/-- what the reference and the class tell of a bag, for the first k pairs -/
def fitL (tk : Nat → List Nat → List Nat) (pin pout : Nat → List Nat) (k : Nat) (l : List Nat) : Bool := (List.range k).all (fun p => decide (oP tk l (pin p) = pout p))
def fitC (tk : Nat → List Nat → List Nat) (pin pout : Nat → List Nat) (k : Nat) (B : List (List Nat)) : List (List Nat) := B.filter (fitL tk pin pout k)
theorem fitL_s (tk : Nat → List Nat → List Nat) (pin pout : Nat → List Nat) (k : Nat) (l : List Nat) : fitL tk pin pout (k + 1) l = (fitL tk pin pout k l && decide (oP tk l (pin k) = pout k)) := by
  unfold fitL
  rw [List.range_succ, List.all_append]
  simp
/-- many, first, fewest for the bag: RkOK -/
def rkOK (tk : Nat → List Nat → List Nat) (pin pout : Nat → List Nat) (ps : Nat → Nat) (B : List (List Nat)) (k a o w : Nat) : Prop := a = (fitC tk pin pout k B).length ∧ (a ≠ 0 → isMin cd8 (fitC tk pin pout k B) o ∧ isMin (inv ps) (fitC tk pin pout k B) w)
theorem rkOK_perm {tk : Nat → List Nat → List Nat} {pin pout : Nat → List Nat} {ps : Nat → Nat} {B B' : List (List Nat)} {k a o w : Nat} (hp : List.Perm B B') (h : rkOK tk pin pout ps B k a o w) : rkOK tk pin pout ps B' k a o w := by
  have q : List.Perm (fitC tk pin pout k B) (fitC tk pin pout k B') := hp.filter _
  exact ⟨h.1.trans q.length_eq, fun h0 => ⟨isMin_perm q (h.2 h0).1, isMin_perm q (h.2 h0).2⟩⟩
theorem fitC_same {tk : Nat → List Nat → List Nat} {pin pout : Nat → List Nat} {n k : Nat} (hk : k ≤ n) {C : List (List Nat)} {v : VV} (h : ∀ l ∈ C, vP tk pin n l = v) : ∀ l ∈ C, fitL tk pin pout k l = (List.range k).all (fun p => decide (v.getD p [] = pout p)) := fun l hl => by
  unfold fitL
  rw [← h l hl]
  rw [Bool.eq_iff_iff, List.all_eq_true, List.all_eq_true]
  constructor
  · intro q p hp
    rw [vP_get tk pin l (Nat.lt_of_lt_of_le (List.mem_range.mp hp) hk)]
    exact q p hp
  · intro q p hp
    have := q p hp
    rw [vP_get tk pin l (Nat.lt_of_lt_of_le (List.mem_range.mp hp) hk)] at this
    exact this
theorem rk_hit {tk : Nat → List Nat → List Nat} {pin pout : Nat → List Nat} {ps : Nat → Nat} {B C : List (List Nat)} {k a o w a' o' w' : Nat} (h : rkOK tk pin pout ps B k a o w) (hf : ∀ l ∈ C, fitL tk pin pout k l = true) (hC : 1 ≤ a' ∧ a' = C.length ∧ isMin cd8 C o' ∧ isMin (inv ps) C w') : rkOK tk pin pout ps (B ++ C) k (a + a') (if a = 0 then o' else min o o') (if a = 0 then w' else min w w') := by
  obtain ⟨c1, c2, c3, c4⟩ := hC
  obtain ⟨h1, h2⟩ := h
  have e : fitC tk pin pout k (B ++ C) = fitC tk pin pout k B ++ C := by
    unfold fitC
    rw [List.filter_append, List.filter_eq_self.mpr hf]
  unfold rkOK
  rw [e]
  refine ⟨by rw [List.length_append]; omega, fun _ => ?_⟩
  by_cases h0 : a = 0
  · rw [if_pos h0, if_pos h0]
    have : fitC tk pin pout k B = [] := List.length_eq_zero_iff.mp (by omega)
    rw [this, List.nil_append]
    exact ⟨c3, c4⟩
  · rw [if_neg h0, if_neg h0]
    exact ⟨isMin_app (h2 h0).1 c3, isMin_app (h2 h0).2 c4⟩
theorem rk_miss {tk : Nat → List Nat → List Nat} {pin pout : Nat → List Nat} {ps : Nat → Nat} {B C : List (List Nat)} {k a o w : Nat} (h : rkOK tk pin pout ps B k a o w) (hf : ∀ l ∈ C, fitL tk pin pout k l = false) : rkOK tk pin pout ps (B ++ C) k a o w := by
  have e : fitC tk pin pout k (B ++ C) = fitC tk pin pout k B := by
    unfold fitC
    rw [List.filter_append, List.filter_eq_nil_iff (l := C) |>.mpr (fun l hl q => by rw [hf l hl] at q; cases q), List.append_nil]
  unfold rkOK
  rw [e]
  exact h
