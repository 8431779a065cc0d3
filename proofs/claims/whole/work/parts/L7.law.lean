/-! The law runs, and answers 1. -/
theorem ppl_53 : ∀ p ∈ ppl, (p.1 < 53 ∨ 57 < p.1) ∨ (p.1 = 53 ∧ 1 ≤ p.2.1 ∧ p.2.1 ≤ 4) := by decide +kernel
theorem inv0 {E D : Nat → Nat → Int} (b2 : ∀ q, q < 53 ∨ 57 < q → E q = hB.2 q) (b3 : ∀ j, 1 ≤ j → j ≤ 4 → E 53 j = hB.2 53 j) (b4 : E 53 0 = 0 ∧ E 53 5 = 0 ∧ E 53 6 = 0 ∧ E 53 7 = 0 ∧ E 53 8 = 0) (b5 : ∀ i, i < 24 → E 57 i = 0) (r1 : ∀ q, q < 256 → D q = E q) (r2 : KyR D) (r3 : RCore D 0 X0 (S0 X0) 0 (fun _ => S0 X0) (fun _ => none)) (r4 : LwR D 0 X0) (r5 : D 256 2 = 0) (r6 : D 256 17 = -1) : Inv hR D := by
  have hb : ∀ q, (q < 53 ∨ 57 < q) → q < 256 → D q = hB.2 q := fun q a b => (r1 q b).trans (b2 q a)
  have d53 : D 53 = E 53 := r1 53 (by decide)
  have d57 : D 57 = E 57 := r1 57 (by decide)
  have c0 := hb 0 (by decide) (by decide)
  have c6 := hb 6 (by decide) (by decide)
  have c9 := hb 9 (by decide) (by decide)
  have c12 := hb 12 (by decide) (by decide)
  have c18 := hb 18 (by decide) (by decide)
  have c27 := hb 27 (by decide) (by decide)
  have c68 := hb 68 (by decide) (by decide)
  have c72 := hb 72 (by decide) (by decide)
  have c77 := hb 77 (by decide) (by decide)
  obtain ⟨z1, z2, z3, z4, z5, z6, z7, z8, z9, z10, z11, z12, z13, z14, z15, z16, z17, z18, z19, z20, z21, z22, z23, z24, z25, z26, z27, z28⟩ := hB_z
  have hs := hR_shp
  have hp : OrP hR D 64 := by
    refine ⟨84, 85, 86, 87, 88, 0, ⟨⟨⟨(hs 84 (by decide)).1, (hs 84 (by decide)).2.trans (by decide)⟩, ⟨(hs 85 (by decide)).1, (hs 85 (by decide)).2.trans (by decide)⟩, ⟨(hs 86 (by decide)).1, (hs 86 (by decide)).2.trans (by decide)⟩, ⟨(hs 87 (by decide)).1, (hs 87 (by decide)).2.trans (by decide)⟩, ⟨(hs 88 (by decide)).1, (hs 88 (by decide)).2.trans (by decide)⟩⟩, ⟨Or.inl (by decide), Or.inl (by decide), Or.inl (by decide), Or.inl (by decide), Or.inl (by decide)⟩, by decide, by decide, by decide⟩, ?_⟩
    unfold OrF
    rw [c77]
    exact ⟨z23, z24, z25, z26, z27, z28⟩
  have h68 : D 68 2 = ((70 : Nat) : Int) := by rw [c68]; exact z19
  refine ⟨9, 31, 0, X0, S0 X0, 0, fun _ => S0 X0, fun _ => none, 0, fun _ => 0, -1, S0_a Y0_ok.1, Nat.zero_le _, fun j hj => absurd hj (Nat.not_lt_zero j), ⟨⟨hs, fun r k v hm => ?_, Or.inl rfl, ?_, ?_, ?_, ⟨?_, Nat.zero_le _, 0, by decide, ?_, fun i hi => absurd hi (Nat.not_lt_zero i)⟩, 0, by decide, ?_, fun i hi => ⟨?_, fun S hS => by cases hS⟩⟩, Or.inl ⟨?_, rfl⟩, fun q hq => ?_, ⟨Or.inr rfl, rfl, ?_⟩, ⟨Or.inl ⟨h68, ?_⟩, 0, by decide, ?_, fun n _ hn => ?_⟩, ⟨⟨64, hp⟩, Or.inl ?_⟩, Or.inl ?_, ?_, ?_, fun j hj => absurd hj (Nat.not_lt_zero j)⟩, ⟨r3, r4, r2, r5, r6, fun j hj => absurd hj (Nat.not_lt_zero j)⟩, ?_, ?_⟩
  · have hv : hB.2 r k = ((v : Nat) : Int) := hB_p (r, k, v) hm
    have hlo : r < 256 := ppl_lo _ hm
    rcases ppl_53 _ hm with g | ⟨g1, g2, g3⟩
    · rw [hb r g hlo]; exact hv
    · have g1 : r = 53 := g1
      subst g1
      rw [d53, b3 k g2 g3]; exact hv
  · rw [c0]; exact z3
  · refine ⟨⟨?_, fun s hs => absurd hs (Nat.not_lt_zero s)⟩, ⟨?_, fun s hs => absurd hs (Nat.not_lt_zero s)⟩, fun s hs => ⟨?_, fun k hk => absurd hk (Nat.not_lt_zero k)⟩, ⟨?_, fun s hs => absurd hs (Nat.not_lt_zero s)⟩, ⟨?_, fun s hs => absurd hs (Nat.not_lt_zero s)⟩, ?_, ?_⟩
    · show D 12 0 = _
      rw [c12]; exact z13
    · rw [c9]; exact z9
    · show D 18 s = _
      rw [c18]
      rcases (show s = 0 ∨ s = 1 ∨ s = 2 by omega) with rfl | rfl | rfl
      · exact z14
      · exact z15
      · exact z16
    · rw [c9]; exact z10
    · rw [c9]; exact z11
    · rw [c9]; exact z12
    · rw [c9]; exact z8
  · refine ⟨?_, fun k hk => absurd hk (Nat.not_lt_zero k), fun k hk => absurd hk (Nat.not_lt_zero k), fun k hk => absurd hk (Nat.not_lt_zero k), fun i hi => ?_, ?_, ?_, ?_, ?_⟩
    · rw [d53]; exact b4.1
    · show D 57 i = _
      rw [d57]; exact b5 i hi
    · rw [d53]; exact b4.2.1
    · rw [d53]; exact b4.2.2.1
    · rw [d53]; exact b4.2.2.2.1
    · rw [d53]; exact b4.2.2.2.2
  · rw [c0]; exact z6
  · rw [c0]; exact z5
  · rw [c0]; exact z7
  · rw [Nat.zero_div]; rfl
  · show D 27 1 = 0
    rw [c27]; exact z17
  · rw [c6]; exact hB_w q hq
  · rw [c0]; exact z4
  · rw [c68]; exact z20
  · rw [c68]; exact z18
  · rw [Nat.zero_testBit] at hn
    cases hn
  · rw [c77]; exact z22
  · rw [c72]; exact z21
  · rw [c0]; exact z1
  · rw [c0]; exact z2
  · rw [hR_n.1, hR_n.2]
    decide
  · rw [orP_R hp, hR_n.2]
    unfold mdR
    rw [if_pos h68]
    decide
theorem law_ev : LawEv := by
  intro xs hl hr
  obtain ⟨E, a1, a2, a3, a4, a5⟩ := cls0 xs 1290
  obtain ⟨D, b1, b2, b3, b4, b5, b6, b7⟩ := ref0 xs 1292 E
  obtain ⟨h', e, r1, r2⟩ := law_loop hl xs.length 0 hR D (by omega) (by omega) (inv0 a2 a3 a4 a5 b2 b3 b4 b5 b6 b7)
  refine ⟨h', ?_, r1, r2⟩
  have n1 : hB.1.1 = 256 := hB_n
  rw [← e, q_321_0]
  have a1 : cl xs 1300 120 [.inr (.inr 0)] ((0 + 1, 0 + 20, fun q => if q = 0 then (11, 20) else (0, 0)), fun q j => if q = 0 then adf 11 j else 0) = some (none, (hB.1, E)) := a1
  have b1 : cl xs 1300 187 [.inr (.inr 256)] ((256 + 1, hB.1.2.1 + 85, fun q => if q = 256 then (12, 85) else hB.1.2.2 q), fun q j => if q = 256 then adf 12 j else E q j) = some (none, (hR, D)) := b1
  show ev xs 1300 mm_321 3 [some (.inr (.inr (-2))), none, none, none] [.inr (.inr 0)] ((0 + 1, 0 + 20, fun q => if q = 0 then (11, 20) else (0, 0)), fun q j => if q = 0 then adf 11 j else 0) = _
  rw [q_321_3]
  simp only [a1, bV_s, show decide ((0 : Int) ≤ 0) = true from rfl, Bool.and_true, cond_true, n1]
  rw [q_321_11]
  have t1 : ((256 : Nat) : Int) = 256 := rfl
  simp only [t1, b1, bV_s, show decide ((0 : Int) ≤ 256) = true from rfl, Bool.and_true, cond_true]
  rfl
