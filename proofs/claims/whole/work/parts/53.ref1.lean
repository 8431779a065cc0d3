/-! The reference: what stands beside, a stone's work. -/
def isbR (D : Nat → Nat → Int) (sort of a : Int) : Bool := if sort = 0 then true else if sort = 3 then decide (a = 0) else if a ≤ 0 then false else if sort = 1 then decide (a = of) else decide (oand (oshr (D 266 (6 * D 256 18 + of).toNat) a) 1 = 1)
theorem isBeside_eq (xs : List Int) (d : Nat) {κ : aK} {D : Nat → Nat → Int} (hκ : Shp κ) (hp : PtrR D) (hl : D 256 18 = 0 ∨ D 256 18 = 1) {sort of a : Int} (hof : ¬ sort = 0 → ¬ sort = 3 → ¬ sort = 1 → 0 ≤ of ∧ of < 6) : cl xs (d + 1) 238 [.inr (.inr 256), .inl sort, .inl of, .inl a] (κ, D) = some (some (.inl (if isbR D sort of a then 1 else 0)), (κ, D)) := by
  rw [c_238]
  unfold isbR
  by_cases h0 : sort = 0
  · simp [h0]
  · by_cases h3 : sort = 3
    · by_cases ha : a = 0 <;> simp [h3, ha]
    · by_cases ha : a ≤ 0
      · simp [h0, h3, ha]
      · by_cases h1 : sort = 1
        · by_cases he : a = of
          · simp [h1, ha, he]
            intro h
            exact absurd (he ▸ h) ha
          · simp [h1, ha, he]
        · have ho := hof h0 h3 h1
          have e1 : w32 (w32 (6 * D 256 18) + of) = 6 * D 256 18 + of := by
            rw [w32_add_l]
            exact w32_id (by omega) (by omega)
          have e2 : ain κ 266 100 (6 * D 256 18 + of) = true := n_266 hκ (by omega) (by omega)
          by_cases hb : oand (oshr (D 266 (6 * D 256 18 + of).toNat) a) 1 = 1
          · simp [h0, h3, h1, ha, k_256 hκ, pr_22 hp, e1, e2, hb]
          · simp [h0, h3, h1, ha, k_256 hκ, pr_22 hp, e1, e2, hb]
