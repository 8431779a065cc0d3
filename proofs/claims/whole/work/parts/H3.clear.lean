/-! The reference reads: the side is cleared. -/
theorem y0_R {E : Nat → Nat → Int} {u : Nat} (z264 : E 264 u = 0) (z267 : E 267 u = 0) (z274 : ∀ s, s < 3 → E 274 (3 * u + s) = 0) (z277 : E 277 u = 0) (z279 : E 279 u = 0) (z283 : E 283 u = 0) (z288 : E 288 u = 0) (z289 : E 289 u = E 290 u) : RvY E u Y0 ∧ RvC E u (fun _ => 0) := by
  refine ⟨⟨⟨⟨⟨?_, Nat.zero_le _, fun s hs => absurd hs (Nat.not_lt_zero s)⟩, fun s hs => absurd hs (Nat.not_lt_zero s)⟩, ⟨?_, fun s hs => absurd hs (Nat.not_lt_zero s)⟩, fun s hs => ⟨?_, fun k hk => absurd hk (Nat.not_lt_zero k)⟩, ⟨?_, fun s hs => absurd hs (Nat.not_lt_zero s)⟩, ⟨?_, fun s hs => absurd hs (Nat.not_lt_zero s)⟩, ?_, ?_⟩, fun k hk => absurd hk (Nat.not_lt_zero k), fun s hs => absurd hs (Nat.not_lt_zero s), Or.inl ⟨z289, rfl⟩⟩, z264, z267, z274, z277, z279, z283, fun j _ => Nat.zero_le _⟩
  · rw [sid_q (by decide)]; exact z267
  · rw [sid_q (by decide)]; exact z277
  · rw [sid_q (by decide)]; exact z274 s hs
  · rw [sid_q (by decide)]; exact z279
  · rw [sid_q (by decide)]; exact z283
  · rw [sid_q (by decide)]; exact z288
  · rw [sid_q (by decide)]; exact z264
