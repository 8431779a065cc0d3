/-! The law: a call, by its case. -/
theorem Inv.shp {κ : aK} {D : Nat → Nat → Int} (h : Inv κ D) : Shp κ := by
  obtain ⟨t, t', v, X, S, n, H, Hd, tn, f, pl, hA, htn, hf, hC, hR, hm⟩ := h
  exact hC.1.1
theorem dm2 : decide ((-2 : Int) = -2) = true := rfl
theorem lwa {i k : Nat} (hi : i + k < 2147483648) : w32 (((i : Nat) : Int) + ((k : Nat) : Int)) = ((i + k : Nat) : Int) := by rw [w32_id (by omega) (by omega)]; omega
theorem lc_212 {xs : List Int} {κ : aK} {D : Nat → Nat → Int} {i : Nat} (hi : i + 6 ≤ xs.length) (hl : xs.length ≤ 3072) (h : Inv κ D) : ∃ κ1 D1, Inv κ1 D1 ∧ ev xs 1300 mm_321 212 [some (.inr (.inr (-2))), some (.inr (.inr 0)), some (.inr (.inr 256)), some (.inl ((i : Nat) : Int))] [] (κ, D) = ev xs 1300 mm_321 18 [some (.inr (.inr (-2))), some (.inr (.inr 0)), some (.inr (.inr 256)), some (.inl ((i + 6 : Nat) : Int))] [] (κ1, D1) := by
  obtain ⟨x, κ1, D1, D2, e1, hs, e2, h2⟩ := bd_feed (xs := xs) h (xs.getD (i + 1) 0) (xs.getD (i + 2) 0) (xs.getD (i + 3) 0) (xs.getD (i + 4) 0) (xs.getD (i + 5) 0)
  refine ⟨κ1, D2, h2, ?_⟩
  have a1 : w32 (((i : Nat) : Int) + 1) = ((i + 1 : Nat) : Int) := lwa (k := 1) (by omega)
  have a2 : w32 (((i : Nat) : Int) + 2) = ((i + 2 : Nat) : Int) := lwa (k := 2) (by omega)
  have a3 : w32 (((i : Nat) : Int) + 3) = ((i + 3 : Nat) : Int) := lwa (k := 3) (by omega)
  have a4 : w32 (((i : Nat) : Int) + 4) = ((i + 4 : Nat) : Int) := lwa (k := 4) (by omega)
  have a5 : w32 (((i : Nat) : Int) + 5) = ((i + 5 : Nat) : Int) := lwa (k := 5) (by omega)
  have a6 : w32 (((i : Nat) : Int) + 6) = ((i + 6 : Nat) : Int) := lwa (k := 6) (by omega)
  have k0 : aok κ 0 11 = true := kc_0 h.shp
  have k2 : aok κ1 256 12 = true := k_256 hs
  rw [q_321_212]
  simp (disch := omega) only [dm2, decide_true, a1, a2, a3, a4, a5, a6, dT, Bool.and_true, Bool.true_and, cond_true, cond_false, Int.toNat_natCast, k0, e1, bI_s, k2, e2]
theorem lc_275 {xs : List Int} {κ : aK} {D : Nat → Nat → Int} {i : Nat} (hi : i + 6 ≤ xs.length) (hl : xs.length ≤ 3072) (h : Inv κ D) : ∃ κ1 D1, Inv κ1 D1 ∧ ev xs 1300 mm_321 275 [some (.inr (.inr (-2))), some (.inr (.inr 0)), some (.inr (.inr 256)), some (.inl ((i : Nat) : Int))] [] (κ, D) = ev xs 1300 mm_321 18 [some (.inr (.inr (-2))), some (.inr (.inr 0)), some (.inr (.inr 256)), some (.inl ((i + 6 : Nat) : Int))] [] (κ1, D1) := by
  obtain ⟨x, κ1, D1, D2, e1, hs, e2, h2⟩ := bd_back (xs := xs) h (xs.getD (i + 1) 0)
  refine ⟨κ1, D2, h2, ?_⟩
  have a1 : w32 (((i : Nat) : Int) + 1) = ((i + 1 : Nat) : Int) := lwa (k := 1) (by omega)
  have a2 : w32 (((i : Nat) : Int) + 2) = ((i + 2 : Nat) : Int) := lwa (k := 2) (by omega)
  have a3 : w32 (((i : Nat) : Int) + 3) = ((i + 3 : Nat) : Int) := lwa (k := 3) (by omega)
  have a4 : w32 (((i : Nat) : Int) + 4) = ((i + 4 : Nat) : Int) := lwa (k := 4) (by omega)
  have a5 : w32 (((i : Nat) : Int) + 5) = ((i + 5 : Nat) : Int) := lwa (k := 5) (by omega)
  have a6 : w32 (((i : Nat) : Int) + 6) = ((i + 6 : Nat) : Int) := lwa (k := 6) (by omega)
  have k0 : aok κ 0 11 = true := kc_0 h.shp
  have k2 : aok κ1 256 12 = true := k_256 hs
  rw [q_321_275]
  simp (disch := omega) only [dm2, decide_true, a1, a2, a3, a4, a5, a6, dT, Bool.and_true, Bool.true_and, cond_true, cond_false, Int.toNat_natCast, k0, e1, bI_s, k2, e2]
theorem lc_298 {xs : List Int} {κ : aK} {D : Nat → Nat → Int} {i : Nat} (hi : i + 6 ≤ xs.length) (hl : xs.length ≤ 3072) (h : Inv κ D) : ∃ κ1 D1, Inv κ1 D1 ∧ ev xs 1300 mm_321 298 [some (.inr (.inr (-2))), some (.inr (.inr 0)), some (.inr (.inr 256)), some (.inl ((i : Nat) : Int))] [] (κ, D) = ev xs 1300 mm_321 18 [some (.inr (.inr (-2))), some (.inr (.inr 0)), some (.inr (.inr 256)), some (.inl ((i + 6 : Nat) : Int))] [] (κ1, D1) := by
  obtain ⟨x, κ1, D1, D2, e1, hs, e2, h2⟩ := bd_read (xs := xs) h 
  refine ⟨κ1, D2, h2, ?_⟩
  have a1 : w32 (((i : Nat) : Int) + 1) = ((i + 1 : Nat) : Int) := lwa (k := 1) (by omega)
  have a2 : w32 (((i : Nat) : Int) + 2) = ((i + 2 : Nat) : Int) := lwa (k := 2) (by omega)
  have a3 : w32 (((i : Nat) : Int) + 3) = ((i + 3 : Nat) : Int) := lwa (k := 3) (by omega)
  have a4 : w32 (((i : Nat) : Int) + 4) = ((i + 4 : Nat) : Int) := lwa (k := 4) (by omega)
  have a5 : w32 (((i : Nat) : Int) + 5) = ((i + 5 : Nat) : Int) := lwa (k := 5) (by omega)
  have a6 : w32 (((i : Nat) : Int) + 6) = ((i + 6 : Nat) : Int) := lwa (k := 6) (by omega)
  have k0 : aok κ 0 11 = true := kc_0 h.shp
  have k2 : aok κ1 256 12 = true := k_256 hs
  rw [q_321_298]
  simp (disch := omega) only [dm2, decide_true, a1, a2, a3, a4, a5, a6, dT, Bool.and_true, Bool.true_and, cond_true, cond_false, Int.toNat_natCast, k0, e1, bI_s, k2, e2]
theorem lc_311 {xs : List Int} {κ : aK} {D : Nat → Nat → Int} {i : Nat} (hi : i + 6 ≤ xs.length) (hl : xs.length ≤ 3072) (h : Inv κ D) : ∃ κ1 D1, Inv κ1 D1 ∧ ev xs 1300 mm_321 311 [some (.inr (.inr (-2))), some (.inr (.inr 0)), some (.inr (.inr 256)), some (.inl ((i : Nat) : Int))] [] (κ, D) = ev xs 1300 mm_321 18 [some (.inr (.inr (-2))), some (.inr (.inr 0)), some (.inr (.inr 256)), some (.inl ((i + 6 : Nat) : Int))] [] (κ1, D1) := by
  obtain ⟨x, κ1, D1, D2, e1, hs, e2, h2⟩ := bq_place (xs := xs) h 
  refine ⟨κ1, D2, h2, ?_⟩
  have a1 : w32 (((i : Nat) : Int) + 1) = ((i + 1 : Nat) : Int) := lwa (k := 1) (by omega)
  have a2 : w32 (((i : Nat) : Int) + 2) = ((i + 2 : Nat) : Int) := lwa (k := 2) (by omega)
  have a3 : w32 (((i : Nat) : Int) + 3) = ((i + 3 : Nat) : Int) := lwa (k := 3) (by omega)
  have a4 : w32 (((i : Nat) : Int) + 4) = ((i + 4 : Nat) : Int) := lwa (k := 4) (by omega)
  have a5 : w32 (((i : Nat) : Int) + 5) = ((i + 5 : Nat) : Int) := lwa (k := 5) (by omega)
  have a6 : w32 (((i : Nat) : Int) + 6) = ((i + 6 : Nat) : Int) := lwa (k := 6) (by omega)
  have k0 : aok κ 0 11 = true := kc_0 h.shp
  have k2 : aok κ1 256 12 = true := k_256 hs
  rw [q_321_311]
  simp (disch := omega) only [dm2, decide_true, a1, a2, a3, a4, a5, a6, dT, Bool.and_true, Bool.true_and, cond_true, cond_false, Int.toNat_natCast, k0, e1, bI_s, k2, e2]
theorem lc_324 {xs : List Int} {κ : aK} {D : Nat → Nat → Int} {i : Nat} (hi : i + 6 ≤ xs.length) (hl : xs.length ≤ 3072) (h : Inv κ D) : ∃ κ1 D1, Inv κ1 D1 ∧ ev xs 1300 mm_321 324 [some (.inr (.inr (-2))), some (.inr (.inr 0)), some (.inr (.inr 256)), some (.inl ((i : Nat) : Int))] [] (κ, D) = ev xs 1300 mm_321 18 [some (.inr (.inr (-2))), some (.inr (.inr 0)), some (.inr (.inr 256)), some (.inl ((i + 6 : Nat) : Int))] [] (κ1, D1) := by
  obtain ⟨x, κ1, D1, D2, e1, hs, e2, h2⟩ := bq_word (xs := xs) h (xs.getD (i + 1) 0) (xs.getD (i + 2) 0)
  refine ⟨κ1, D2, h2, ?_⟩
  have a1 : w32 (((i : Nat) : Int) + 1) = ((i + 1 : Nat) : Int) := lwa (k := 1) (by omega)
  have a2 : w32 (((i : Nat) : Int) + 2) = ((i + 2 : Nat) : Int) := lwa (k := 2) (by omega)
  have a3 : w32 (((i : Nat) : Int) + 3) = ((i + 3 : Nat) : Int) := lwa (k := 3) (by omega)
  have a4 : w32 (((i : Nat) : Int) + 4) = ((i + 4 : Nat) : Int) := lwa (k := 4) (by omega)
  have a5 : w32 (((i : Nat) : Int) + 5) = ((i + 5 : Nat) : Int) := lwa (k := 5) (by omega)
  have a6 : w32 (((i : Nat) : Int) + 6) = ((i + 6 : Nat) : Int) := lwa (k := 6) (by omega)
  have k0 : aok κ 0 11 = true := kc_0 h.shp
  have k2 : aok κ1 256 12 = true := k_256 hs
  rw [q_321_324]
  simp (disch := omega) only [dm2, decide_true, a1, a2, a3, a4, a5, a6, dT, Bool.and_true, Bool.true_and, cond_true, cond_false, Int.toNat_natCast, k0, e1, bI_s, k2, e2]
theorem lc_357 {xs : List Int} {κ : aK} {D : Nat → Nat → Int} {i : Nat} (hi : i + 6 ≤ xs.length) (hl : xs.length ≤ 3072) (h : Inv κ D) : ∃ κ1 D1, Inv κ1 D1 ∧ ev xs 1300 mm_321 357 [some (.inr (.inr (-2))), some (.inr (.inr 0)), some (.inr (.inr 256)), some (.inl ((i : Nat) : Int))] [] (κ, D) = ev xs 1300 mm_321 18 [some (.inr (.inr (-2))), some (.inr (.inr 0)), some (.inr (.inr 256)), some (.inl ((i + 6 : Nat) : Int))] [] (κ1, D1) := by
  obtain ⟨x, κ1, D1, D2, e1, hs, e2, h2⟩ := bq_run (xs := xs) h (xs.getD (i + 1) 0) (xs.getD (i + 2) 0)
  refine ⟨κ1, D2, h2, ?_⟩
  have a1 : w32 (((i : Nat) : Int) + 1) = ((i + 1 : Nat) : Int) := lwa (k := 1) (by omega)
  have a2 : w32 (((i : Nat) : Int) + 2) = ((i + 2 : Nat) : Int) := lwa (k := 2) (by omega)
  have a3 : w32 (((i : Nat) : Int) + 3) = ((i + 3 : Nat) : Int) := lwa (k := 3) (by omega)
  have a4 : w32 (((i : Nat) : Int) + 4) = ((i + 4 : Nat) : Int) := lwa (k := 4) (by omega)
  have a5 : w32 (((i : Nat) : Int) + 5) = ((i + 5 : Nat) : Int) := lwa (k := 5) (by omega)
  have a6 : w32 (((i : Nat) : Int) + 6) = ((i + 6 : Nat) : Int) := lwa (k := 6) (by omega)
  have k0 : aok κ 0 11 = true := kc_0 h.shp
  have k2 : aok κ1 256 12 = true := k_256 hs
  rw [q_321_357]
  simp (disch := omega) only [dm2, decide_true, a1, a2, a3, a4, a5, a6, dT, Bool.and_true, Bool.true_and, cond_true, cond_false, Int.toNat_natCast, k0, e1, bI_s, k2, e2]
theorem lc_390 {xs : List Int} {κ : aK} {D : Nat → Nat → Int} {i : Nat} (hi : i + 6 ≤ xs.length) (hl : xs.length ≤ 3072) (h : Inv κ D) : ∃ κ1 D1, Inv κ1 D1 ∧ ev xs 1300 mm_321 390 [some (.inr (.inr (-2))), some (.inr (.inr 0)), some (.inr (.inr 256)), some (.inl ((i : Nat) : Int))] [] (κ, D) = ev xs 1300 mm_321 18 [some (.inr (.inr (-2))), some (.inr (.inr 0)), some (.inr (.inr 256)), some (.inl ((i + 6 : Nat) : Int))] [] (κ1, D1) := by
  obtain ⟨x, κ1, D1, D2, e1, hs, e2, h2⟩ := bq_stage (xs := xs) h (xs.getD (i + 1) 0) (xs.getD (i + 2) 0) (xs.getD (i + 3) 0)
  refine ⟨κ1, D2, h2, ?_⟩
  have a1 : w32 (((i : Nat) : Int) + 1) = ((i + 1 : Nat) : Int) := lwa (k := 1) (by omega)
  have a2 : w32 (((i : Nat) : Int) + 2) = ((i + 2 : Nat) : Int) := lwa (k := 2) (by omega)
  have a3 : w32 (((i : Nat) : Int) + 3) = ((i + 3 : Nat) : Int) := lwa (k := 3) (by omega)
  have a4 : w32 (((i : Nat) : Int) + 4) = ((i + 4 : Nat) : Int) := lwa (k := 4) (by omega)
  have a5 : w32 (((i : Nat) : Int) + 5) = ((i + 5 : Nat) : Int) := lwa (k := 5) (by omega)
  have a6 : w32 (((i : Nat) : Int) + 6) = ((i + 6 : Nat) : Int) := lwa (k := 6) (by omega)
  have k0 : aok κ 0 11 = true := kc_0 h.shp
  have k2 : aok κ1 256 12 = true := k_256 hs
  rw [q_321_390]
  simp (disch := omega) only [dm2, decide_true, a1, a2, a3, a4, a5, a6, dT, Bool.and_true, Bool.true_and, cond_true, cond_false, Int.toNat_natCast, k0, e1, bI_s, k2, e2]
theorem lc_433 {xs : List Int} {κ : aK} {D : Nat → Nat → Int} {i : Nat} (hi : i + 6 ≤ xs.length) (hl : xs.length ≤ 3072) (h : Inv κ D) : ∃ κ1 D1, Inv κ1 D1 ∧ ev xs 1300 mm_321 433 [some (.inr (.inr (-2))), some (.inr (.inr 0)), some (.inr (.inr 256)), some (.inl ((i : Nat) : Int))] [] (κ, D) = ev xs 1300 mm_321 18 [some (.inr (.inr (-2))), some (.inr (.inr 0)), some (.inr (.inr 256)), some (.inl ((i + 6 : Nat) : Int))] [] (κ1, D1) := by
  obtain ⟨x, κ1, D1, D2, e1, hs, e2, h2⟩ := bq_jams (xs := xs) h (xs.getD (i + 1) 0)
  refine ⟨κ1, D2, h2, ?_⟩
  have a1 : w32 (((i : Nat) : Int) + 1) = ((i + 1 : Nat) : Int) := lwa (k := 1) (by omega)
  have a2 : w32 (((i : Nat) : Int) + 2) = ((i + 2 : Nat) : Int) := lwa (k := 2) (by omega)
  have a3 : w32 (((i : Nat) : Int) + 3) = ((i + 3 : Nat) : Int) := lwa (k := 3) (by omega)
  have a4 : w32 (((i : Nat) : Int) + 4) = ((i + 4 : Nat) : Int) := lwa (k := 4) (by omega)
  have a5 : w32 (((i : Nat) : Int) + 5) = ((i + 5 : Nat) : Int) := lwa (k := 5) (by omega)
  have a6 : w32 (((i : Nat) : Int) + 6) = ((i + 6 : Nat) : Int) := lwa (k := 6) (by omega)
  have k0 : aok κ 0 11 = true := kc_0 h.shp
  have k2 : aok κ1 256 12 = true := k_256 hs
  rw [q_321_433]
  simp (disch := omega) only [dm2, decide_true, a1, a2, a3, a4, a5, a6, dT, Bool.and_true, Bool.true_and, cond_true, cond_false, Int.toNat_natCast, k0, e1, bI_s, k2, e2]
theorem lc_456 {xs : List Int} {κ : aK} {D : Nat → Nat → Int} {i : Nat} (hi : i + 6 ≤ xs.length) (hl : xs.length ≤ 3072) (h : Inv κ D) : ∃ κ1 D1, Inv κ1 D1 ∧ ev xs 1300 mm_321 456 [some (.inr (.inr (-2))), some (.inr (.inr 0)), some (.inr (.inr 256)), some (.inl ((i : Nat) : Int))] [] (κ, D) = ev xs 1300 mm_321 18 [some (.inr (.inr (-2))), some (.inr (.inr 0)), some (.inr (.inr 256)), some (.inl ((i + 6 : Nat) : Int))] [] (κ1, D1) := by
  obtain ⟨x, κ1, D1, D2, e1, hs, e2, h2⟩ := bq_way (xs := xs) h (xs.getD (i + 1) 0) (xs.getD (i + 2) 0)
  refine ⟨κ1, D2, h2, ?_⟩
  have a1 : w32 (((i : Nat) : Int) + 1) = ((i + 1 : Nat) : Int) := lwa (k := 1) (by omega)
  have a2 : w32 (((i : Nat) : Int) + 2) = ((i + 2 : Nat) : Int) := lwa (k := 2) (by omega)
  have a3 : w32 (((i : Nat) : Int) + 3) = ((i + 3 : Nat) : Int) := lwa (k := 3) (by omega)
  have a4 : w32 (((i : Nat) : Int) + 4) = ((i + 4 : Nat) : Int) := lwa (k := 4) (by omega)
  have a5 : w32 (((i : Nat) : Int) + 5) = ((i + 5 : Nat) : Int) := lwa (k := 5) (by omega)
  have a6 : w32 (((i : Nat) : Int) + 6) = ((i + 6 : Nat) : Int) := lwa (k := 6) (by omega)
  have k0 : aok κ 0 11 = true := kc_0 h.shp
  have k2 : aok κ1 256 12 = true := k_256 hs
  rw [q_321_456]
  simp (disch := omega) only [dm2, decide_true, a1, a2, a3, a4, a5, a6, dT, Bool.and_true, Bool.true_and, cond_true, cond_false, Int.toNat_natCast, k0, e1, bI_s, k2, e2]
theorem lc_489 {xs : List Int} {κ : aK} {D : Nat → Nat → Int} {i : Nat} (hi : i + 6 ≤ xs.length) (hl : xs.length ≤ 3072) (h : Inv κ D) : ∃ κ1 D1, Inv κ1 D1 ∧ ev xs 1300 mm_321 489 [some (.inr (.inr (-2))), some (.inr (.inr 0)), some (.inr (.inr 256)), some (.inl ((i : Nat) : Int))] [] (κ, D) = ev xs 1300 mm_321 18 [some (.inr (.inr (-2))), some (.inr (.inr 0)), some (.inr (.inr 256)), some (.inl ((i + 6 : Nat) : Int))] [] (κ1, D1) := by
  obtain ⟨x, κ1, D1, D2, e1, hs, e2, h2⟩ := bq_order (xs := xs) h (xs.getD (i + 1) 0)
  refine ⟨κ1, D2, h2, ?_⟩
  have a1 : w32 (((i : Nat) : Int) + 1) = ((i + 1 : Nat) : Int) := lwa (k := 1) (by omega)
  have a2 : w32 (((i : Nat) : Int) + 2) = ((i + 2 : Nat) : Int) := lwa (k := 2) (by omega)
  have a3 : w32 (((i : Nat) : Int) + 3) = ((i + 3 : Nat) : Int) := lwa (k := 3) (by omega)
  have a4 : w32 (((i : Nat) : Int) + 4) = ((i + 4 : Nat) : Int) := lwa (k := 4) (by omega)
  have a5 : w32 (((i : Nat) : Int) + 5) = ((i + 5 : Nat) : Int) := lwa (k := 5) (by omega)
  have a6 : w32 (((i : Nat) : Int) + 6) = ((i + 6 : Nat) : Int) := lwa (k := 6) (by omega)
  have k0 : aok κ 0 11 = true := kc_0 h.shp
  have k2 : aok κ1 256 12 = true := k_256 hs
  rw [q_321_489]
  simp (disch := omega) only [dm2, decide_true, a1, a2, a3, a4, a5, a6, dT, Bool.and_true, Bool.true_and, cond_true, cond_false, Int.toNat_natCast, k0, e1, bI_s, k2, e2]
theorem lc_512 {xs : List Int} {κ : aK} {D : Nat → Nat → Int} {i : Nat} (hi : i + 6 ≤ xs.length) (hl : xs.length ≤ 3072) (h : Inv κ D) : ∃ κ1 D1, Inv κ1 D1 ∧ ev xs 1300 mm_321 512 [some (.inr (.inr (-2))), some (.inr (.inr 0)), some (.inr (.inr 256)), some (.inl ((i : Nat) : Int))] [] (κ, D) = ev xs 1300 mm_321 18 [some (.inr (.inr (-2))), some (.inr (.inr 0)), some (.inr (.inr 256)), some (.inl ((i + 6 : Nat) : Int))] [] (κ1, D1) := by
  obtain ⟨x, κ1, D1, D2, e1, hs, e2, h2⟩ := bq_isOn (xs := xs) h (xs.getD (i + 1) 0)
  refine ⟨κ1, D2, h2, ?_⟩
  have a1 : w32 (((i : Nat) : Int) + 1) = ((i + 1 : Nat) : Int) := lwa (k := 1) (by omega)
  have a2 : w32 (((i : Nat) : Int) + 2) = ((i + 2 : Nat) : Int) := lwa (k := 2) (by omega)
  have a3 : w32 (((i : Nat) : Int) + 3) = ((i + 3 : Nat) : Int) := lwa (k := 3) (by omega)
  have a4 : w32 (((i : Nat) : Int) + 4) = ((i + 4 : Nat) : Int) := lwa (k := 4) (by omega)
  have a5 : w32 (((i : Nat) : Int) + 5) = ((i + 5 : Nat) : Int) := lwa (k := 5) (by omega)
  have a6 : w32 (((i : Nat) : Int) + 6) = ((i + 6 : Nat) : Int) := lwa (k := 6) (by omega)
  have k0 : aok κ 0 11 = true := kc_0 h.shp
  have k2 : aok κ1 256 12 = true := k_256 hs
  rw [q_321_512]
  simp (disch := omega) only [dm2, decide_true, a1, a2, a3, a4, a5, a6, dT, Bool.and_true, Bool.true_and, cond_true, cond_false, Int.toNat_natCast, k0, e1, bI_s, k2, e2]
theorem lc_535 {xs : List Int} {κ : aK} {D : Nat → Nat → Int} {i : Nat} (hi : i + 6 ≤ xs.length) (hl : xs.length ≤ 3072) (h : Inv κ D) : ∃ κ1 D1, Inv κ1 D1 ∧ ev xs 1300 mm_321 535 [some (.inr (.inr (-2))), some (.inr (.inr 0)), some (.inr (.inr 256)), some (.inl ((i : Nat) : Int))] [] (κ, D) = ev xs 1300 mm_321 18 [some (.inr (.inr (-2))), some (.inr (.inr 0)), some (.inr (.inr 256)), some (.inl ((i + 6 : Nat) : Int))] [] (κ1, D1) := by
  obtain ⟨x, κ1, D1, D2, e1, hs, e2, h2⟩ := bd_turn (xs := xs) h (xs.getD (i + 1) 0)
  refine ⟨κ1, D2, h2, ?_⟩
  have a1 : w32 (((i : Nat) : Int) + 1) = ((i + 1 : Nat) : Int) := lwa (k := 1) (by omega)
  have a2 : w32 (((i : Nat) : Int) + 2) = ((i + 2 : Nat) : Int) := lwa (k := 2) (by omega)
  have a3 : w32 (((i : Nat) : Int) + 3) = ((i + 3 : Nat) : Int) := lwa (k := 3) (by omega)
  have a4 : w32 (((i : Nat) : Int) + 4) = ((i + 4 : Nat) : Int) := lwa (k := 4) (by omega)
  have a5 : w32 (((i : Nat) : Int) + 5) = ((i + 5 : Nat) : Int) := lwa (k := 5) (by omega)
  have a6 : w32 (((i : Nat) : Int) + 6) = ((i + 6 : Nat) : Int) := lwa (k := 6) (by omega)
  have k0 : aok κ 0 11 = true := kc_0 h.shp
  have k2 : aok κ1 256 12 = true := k_256 hs
  rw [q_321_535]
  simp (disch := omega) only [dm2, decide_true, a1, a2, a3, a4, a5, a6, dT, Bool.and_true, Bool.true_and, cond_true, cond_false, Int.toNat_natCast, k0, e1, bI_s, k2, e2]
theorem lc_558 {xs : List Int} {κ : aK} {D : Nat → Nat → Int} {i : Nat} (hi : i + 6 ≤ xs.length) (hl : xs.length ≤ 3072) (h : Inv κ D) : ∃ κ1 D1, Inv κ1 D1 ∧ ev xs 1300 mm_321 558 [some (.inr (.inr (-2))), some (.inr (.inr 0)), some (.inr (.inr 256)), some (.inl ((i : Nat) : Int))] [] (κ, D) = ev xs 1300 mm_321 18 [some (.inr (.inr (-2))), some (.inr (.inr 0)), some (.inr (.inr 256)), some (.inl ((i + 6 : Nat) : Int))] [] (κ1, D1) := by
  obtain ⟨x, κ1, D1, D2, e1, hs, e2, h2⟩ := bd_swap (xs := xs) h (xs.getD (i + 1) 0) (xs.getD (i + 2) 0)
  refine ⟨κ1, D2, h2, ?_⟩
  have a1 : w32 (((i : Nat) : Int) + 1) = ((i + 1 : Nat) : Int) := lwa (k := 1) (by omega)
  have a2 : w32 (((i : Nat) : Int) + 2) = ((i + 2 : Nat) : Int) := lwa (k := 2) (by omega)
  have a3 : w32 (((i : Nat) : Int) + 3) = ((i + 3 : Nat) : Int) := lwa (k := 3) (by omega)
  have a4 : w32 (((i : Nat) : Int) + 4) = ((i + 4 : Nat) : Int) := lwa (k := 4) (by omega)
  have a5 : w32 (((i : Nat) : Int) + 5) = ((i + 5 : Nat) : Int) := lwa (k := 5) (by omega)
  have a6 : w32 (((i : Nat) : Int) + 6) = ((i + 6 : Nat) : Int) := lwa (k := 6) (by omega)
  have k0 : aok κ 0 11 = true := kc_0 h.shp
  have k2 : aok κ1 256 12 = true := k_256 hs
  rw [q_321_558]
  simp (disch := omega) only [dm2, decide_true, a1, a2, a3, a4, a5, a6, dT, Bool.and_true, Bool.true_and, cond_true, cond_false, Int.toNat_natCast, k0, e1, bI_s, k2, e2]
theorem lc_591 {xs : List Int} {κ : aK} {D : Nat → Nat → Int} {i : Nat} (hi : i + 6 ≤ xs.length) (hl : xs.length ≤ 3072) (h : Inv κ D) : ∃ κ1 D1, Inv κ1 D1 ∧ ev xs 1300 mm_321 591 [some (.inr (.inr (-2))), some (.inr (.inr 0)), some (.inr (.inr 256)), some (.inl ((i : Nat) : Int))] [] (κ, D) = ev xs 1300 mm_321 18 [some (.inr (.inr (-2))), some (.inr (.inr 0)), some (.inr (.inr 256)), some (.inl ((i + 6 : Nat) : Int))] [] (κ1, D1) := by
  obtain ⟨x, κ1, D1, D2, e1, hs, e2, h2⟩ := bd_grind (xs := xs) h (xs.getD (i + 1) 0)
  refine ⟨κ1, D2, h2, ?_⟩
  have a1 : w32 (((i : Nat) : Int) + 1) = ((i + 1 : Nat) : Int) := lwa (k := 1) (by omega)
  have a2 : w32 (((i : Nat) : Int) + 2) = ((i + 2 : Nat) : Int) := lwa (k := 2) (by omega)
  have a3 : w32 (((i : Nat) : Int) + 3) = ((i + 3 : Nat) : Int) := lwa (k := 3) (by omega)
  have a4 : w32 (((i : Nat) : Int) + 4) = ((i + 4 : Nat) : Int) := lwa (k := 4) (by omega)
  have a5 : w32 (((i : Nat) : Int) + 5) = ((i + 5 : Nat) : Int) := lwa (k := 5) (by omega)
  have a6 : w32 (((i : Nat) : Int) + 6) = ((i + 6 : Nat) : Int) := lwa (k := 6) (by omega)
  have k0 : aok κ 0 11 = true := kc_0 h.shp
  have k2 : aok κ1 256 12 = true := k_256 hs
  rw [q_321_591]
  simp (disch := omega) only [dm2, decide_true, a1, a2, a3, a4, a5, a6, dT, Bool.and_true, Bool.true_and, cond_true, cond_false, Int.toNat_natCast, k0, e1, bI_s, k2, e2]
theorem lc_614 {xs : List Int} {κ : aK} {D : Nat → Nat → Int} {i : Nat} (hi : i + 6 ≤ xs.length) (hl : xs.length ≤ 3072) (h : Inv κ D) : ∃ κ1 D1, Inv κ1 D1 ∧ ev xs 1300 mm_321 614 [some (.inr (.inr (-2))), some (.inr (.inr 0)), some (.inr (.inr 256)), some (.inl ((i : Nat) : Int))] [] (κ, D) = ev xs 1300 mm_321 18 [some (.inr (.inr (-2))), some (.inr (.inr 0)), some (.inr (.inr 256)), some (.inl ((i + 6 : Nat) : Int))] [] (κ1, D1) := by
  obtain ⟨x, κ1, D1, D2, e1, hs, e2, h2⟩ := bd_sell (xs := xs) h (xs.getD (i + 1) 0)
  refine ⟨κ1, D2, h2, ?_⟩
  have a1 : w32 (((i : Nat) : Int) + 1) = ((i + 1 : Nat) : Int) := lwa (k := 1) (by omega)
  have a2 : w32 (((i : Nat) : Int) + 2) = ((i + 2 : Nat) : Int) := lwa (k := 2) (by omega)
  have a3 : w32 (((i : Nat) : Int) + 3) = ((i + 3 : Nat) : Int) := lwa (k := 3) (by omega)
  have a4 : w32 (((i : Nat) : Int) + 4) = ((i + 4 : Nat) : Int) := lwa (k := 4) (by omega)
  have a5 : w32 (((i : Nat) : Int) + 5) = ((i + 5 : Nat) : Int) := lwa (k := 5) (by omega)
  have a6 : w32 (((i : Nat) : Int) + 6) = ((i + 6 : Nat) : Int) := lwa (k := 6) (by omega)
  have k0 : aok κ 0 11 = true := kc_0 h.shp
  have k2 : aok κ1 256 12 = true := k_256 hs
  rw [q_321_614]
  simp (disch := omega) only [dm2, decide_true, a1, a2, a3, a4, a5, a6, dT, Bool.and_true, Bool.true_and, cond_true, cond_false, Int.toNat_natCast, k0, e1, bI_s, k2, e2]
theorem lc_637 {xs : List Int} {κ : aK} {D : Nat → Nat → Int} {i : Nat} (hi : i + 6 ≤ xs.length) (hl : xs.length ≤ 3072) (h : Inv κ D) : ∃ κ1 D1, Inv κ1 D1 ∧ ev xs 1300 mm_321 637 [some (.inr (.inr (-2))), some (.inr (.inr 0)), some (.inr (.inr 256)), some (.inl ((i : Nat) : Int))] [] (κ, D) = ev xs 1300 mm_321 18 [some (.inr (.inr (-2))), some (.inr (.inr 0)), some (.inr (.inr 256)), some (.inl ((i + 6 : Nat) : Int))] [] (κ1, D1) := by
  obtain ⟨x, κ1, D1, D2, e1, hs, e2, h2⟩ := bd_cent (xs := xs) h (xs.getD (i + 1) 0)
  refine ⟨κ1, D2, h2, ?_⟩
  have a1 : w32 (((i : Nat) : Int) + 1) = ((i + 1 : Nat) : Int) := lwa (k := 1) (by omega)
  have a2 : w32 (((i : Nat) : Int) + 2) = ((i + 2 : Nat) : Int) := lwa (k := 2) (by omega)
  have a3 : w32 (((i : Nat) : Int) + 3) = ((i + 3 : Nat) : Int) := lwa (k := 3) (by omega)
  have a4 : w32 (((i : Nat) : Int) + 4) = ((i + 4 : Nat) : Int) := lwa (k := 4) (by omega)
  have a5 : w32 (((i : Nat) : Int) + 5) = ((i + 5 : Nat) : Int) := lwa (k := 5) (by omega)
  have a6 : w32 (((i : Nat) : Int) + 6) = ((i + 6 : Nat) : Int) := lwa (k := 6) (by omega)
  have k0 : aok κ 0 11 = true := kc_0 h.shp
  have k2 : aok κ1 256 12 = true := k_256 hs
  rw [q_321_637]
  simp (disch := omega) only [dm2, decide_true, a1, a2, a3, a4, a5, a6, dT, Bool.and_true, Bool.true_and, cond_true, cond_false, Int.toNat_natCast, k0, e1, bI_s, k2, e2]
theorem lc_660 {xs : List Int} {κ : aK} {D : Nat → Nat → Int} {i : Nat} (hi : i + 6 ≤ xs.length) (hl : xs.length ≤ 3072) (h : Inv κ D) : ∃ κ1 D1, Inv κ1 D1 ∧ ev xs 1300 mm_321 660 [some (.inr (.inr (-2))), some (.inr (.inr 0)), some (.inr (.inr 256)), some (.inl ((i : Nat) : Int))] [] (κ, D) = ev xs 1300 mm_321 18 [some (.inr (.inr (-2))), some (.inr (.inr 0)), some (.inr (.inr 256)), some (.inl ((i + 6 : Nat) : Int))] [] (κ1, D1) := by
  obtain ⟨x, κ1, D1, D2, e1, hs, e2, h2⟩ := bd_undo (xs := xs) h 
  refine ⟨κ1, D2, h2, ?_⟩
  have a1 : w32 (((i : Nat) : Int) + 1) = ((i + 1 : Nat) : Int) := lwa (k := 1) (by omega)
  have a2 : w32 (((i : Nat) : Int) + 2) = ((i + 2 : Nat) : Int) := lwa (k := 2) (by omega)
  have a3 : w32 (((i : Nat) : Int) + 3) = ((i + 3 : Nat) : Int) := lwa (k := 3) (by omega)
  have a4 : w32 (((i : Nat) : Int) + 4) = ((i + 4 : Nat) : Int) := lwa (k := 4) (by omega)
  have a5 : w32 (((i : Nat) : Int) + 5) = ((i + 5 : Nat) : Int) := lwa (k := 5) (by omega)
  have a6 : w32 (((i : Nat) : Int) + 6) = ((i + 6 : Nat) : Int) := lwa (k := 6) (by omega)
  have k0 : aok κ 0 11 = true := kc_0 h.shp
  have k2 : aok κ1 256 12 = true := k_256 hs
  rw [q_321_660]
  simp (disch := omega) only [dm2, decide_true, a1, a2, a3, a4, a5, a6, dT, Bool.and_true, Bool.true_and, cond_true, cond_false, Int.toNat_natCast, k0, e1, bI_s, k2, e2]
theorem lc_673 {xs : List Int} {κ : aK} {D : Nat → Nat → Int} {i : Nat} (hi : i + 6 ≤ xs.length) (hl : xs.length ≤ 3072) (h : Inv κ D) : ∃ κ1 D1, Inv κ1 D1 ∧ ev xs 1300 mm_321 673 [some (.inr (.inr (-2))), some (.inr (.inr 0)), some (.inr (.inr 256)), some (.inl ((i : Nat) : Int))] [] (κ, D) = ev xs 1300 mm_321 18 [some (.inr (.inr (-2))), some (.inr (.inr 0)), some (.inr (.inr 256)), some (.inl ((i + 6 : Nat) : Int))] [] (κ1, D1) := by
  obtain ⟨x, κ1, D1, D2, e1, hs, e2, h2⟩ := bq_stock (xs := xs) h (xs.getD (i + 1) 0) (xs.getD (i + 2) 0)
  refine ⟨κ1, D2, h2, ?_⟩
  have a1 : w32 (((i : Nat) : Int) + 1) = ((i + 1 : Nat) : Int) := lwa (k := 1) (by omega)
  have a2 : w32 (((i : Nat) : Int) + 2) = ((i + 2 : Nat) : Int) := lwa (k := 2) (by omega)
  have a3 : w32 (((i : Nat) : Int) + 3) = ((i + 3 : Nat) : Int) := lwa (k := 3) (by omega)
  have a4 : w32 (((i : Nat) : Int) + 4) = ((i + 4 : Nat) : Int) := lwa (k := 4) (by omega)
  have a5 : w32 (((i : Nat) : Int) + 5) = ((i + 5 : Nat) : Int) := lwa (k := 5) (by omega)
  have a6 : w32 (((i : Nat) : Int) + 6) = ((i + 6 : Nat) : Int) := lwa (k := 6) (by omega)
  have k0 : aok κ 0 11 = true := kc_0 h.shp
  have k2 : aok κ1 256 12 = true := k_256 hs
  rw [q_321_673]
  simp (disch := omega) only [dm2, decide_true, a1, a2, a3, a4, a5, a6, dT, Bool.and_true, Bool.true_and, cond_true, cond_false, Int.toNat_natCast, k0, e1, bI_s, k2, e2]
theorem lc_706 {xs : List Int} {κ : aK} {D : Nat → Nat → Int} {i : Nat} (hi : i + 6 ≤ xs.length) (hl : xs.length ≤ 3072) (h : Inv κ D) : ∃ κ1 D1, Inv κ1 D1 ∧ ev xs 1300 mm_321 706 [some (.inr (.inr (-2))), some (.inr (.inr 0)), some (.inr (.inr 256)), some (.inl ((i : Nat) : Int))] [] (κ, D) = ev xs 1300 mm_321 18 [some (.inr (.inr (-2))), some (.inr (.inr 0)), some (.inr (.inr 256)), some (.inl ((i + 6 : Nat) : Int))] [] (κ1, D1) := by
  obtain ⟨x, κ1, D1, D2, e1, hs, e2, h2⟩ := bq_made (xs := xs) h (xs.getD (i + 1) 0) (xs.getD (i + 2) 0)
  refine ⟨κ1, D2, h2, ?_⟩
  have a1 : w32 (((i : Nat) : Int) + 1) = ((i + 1 : Nat) : Int) := lwa (k := 1) (by omega)
  have a2 : w32 (((i : Nat) : Int) + 2) = ((i + 2 : Nat) : Int) := lwa (k := 2) (by omega)
  have a3 : w32 (((i : Nat) : Int) + 3) = ((i + 3 : Nat) : Int) := lwa (k := 3) (by omega)
  have a4 : w32 (((i : Nat) : Int) + 4) = ((i + 4 : Nat) : Int) := lwa (k := 4) (by omega)
  have a5 : w32 (((i : Nat) : Int) + 5) = ((i + 5 : Nat) : Int) := lwa (k := 5) (by omega)
  have a6 : w32 (((i : Nat) : Int) + 6) = ((i + 6 : Nat) : Int) := lwa (k := 6) (by omega)
  have k0 : aok κ 0 11 = true := kc_0 h.shp
  have k2 : aok κ1 256 12 = true := k_256 hs
  rw [q_321_706]
  simp (disch := omega) only [dm2, decide_true, a1, a2, a3, a4, a5, a6, dT, Bool.and_true, Bool.true_and, cond_true, cond_false, Int.toNat_natCast, k0, e1, bI_s, k2, e2]
theorem lc_739_0 {xs : List Int} {κ : aK} {D : Nat → Nat → Int} {i : Nat} (hi : i + 6 ≤ xs.length) (hl : xs.length ≤ 3072) (h : Inv κ D) (hb : xs.getD (i + 2) 0 = 0) : ∃ κ1 D1, Inv κ1 D1 ∧ ev xs 1300 mm_321 739 [some (.inr (.inr (-2))), some (.inr (.inr 0)), some (.inr (.inr 256)), some (.inl ((i : Nat) : Int))] [] (κ, D) = ev xs 1300 mm_321 18 [some (.inr (.inr (-2))), some (.inr (.inr 0)), some (.inr (.inr 256)), some (.inl ((i + 6 : Nat) : Int))] [] (κ1, D1) := by
  obtain ⟨x, κ1, D1, D2, e1, hs, e2, h2⟩ := bq_pair (xs := xs) h (xs.getD (i + 1) 0) 0
  refine ⟨κ1, D2, h2, ?_⟩
  have a1 : w32 (((i : Nat) : Int) + 1) = ((i + 1 : Nat) : Int) := lwa (k := 1) (by omega)
  have a2 : w32 (((i : Nat) : Int) + 2) = ((i + 2 : Nat) : Int) := lwa (k := 2) (by omega)
  have a3 : w32 (((i : Nat) : Int) + 3) = ((i + 3 : Nat) : Int) := lwa (k := 3) (by omega)
  have a4 : w32 (((i : Nat) : Int) + 4) = ((i + 4 : Nat) : Int) := lwa (k := 4) (by omega)
  have a5 : w32 (((i : Nat) : Int) + 5) = ((i + 5 : Nat) : Int) := lwa (k := 5) (by omega)
  have a6 : w32 (((i : Nat) : Int) + 6) = ((i + 6 : Nat) : Int) := lwa (k := 6) (by omega)
  have k0 : aok κ 0 11 = true := kc_0 h.shp
  have k2 : aok κ1 256 12 = true := k_256 hs
  rw [q_321_739]
  simp (disch := omega) only [dm2, decide_true, a1, a2, dT, dF, hb, decide_true, decide_false, Bool.and_true, Bool.true_and, cond_true, cond_false, Int.toNat_natCast]
  rw [q_321_758]
  simp (disch := omega) only [dm2, decide_true, a1, a2, a3, dT, dF, hb, decide_true, decide_false, Bool.and_true, Bool.true_and, cond_true, cond_false, Int.toNat_natCast, k0, e1, bI_s]
  rw [q_321_780]
  simp (disch := omega) only [dm2, decide_true, a1, a2, a3, a6, dT, Bool.and_true, Bool.true_and, cond_true, cond_false, Int.toNat_natCast, k2, e2, bI_s]
theorem lc_739_1 {xs : List Int} {κ : aK} {D : Nat → Nat → Int} {i : Nat} (hi : i + 6 ≤ xs.length) (hl : xs.length ≤ 3072) (h : Inv κ D) (hb : ¬ xs.getD (i + 2) 0 = 0) : ∃ κ1 D1, Inv κ1 D1 ∧ ev xs 1300 mm_321 739 [some (.inr (.inr (-2))), some (.inr (.inr 0)), some (.inr (.inr 256)), some (.inl ((i : Nat) : Int))] [] (κ, D) = ev xs 1300 mm_321 18 [some (.inr (.inr (-2))), some (.inr (.inr 0)), some (.inr (.inr 256)), some (.inl ((i + 6 : Nat) : Int))] [] (κ1, D1) := by
  obtain ⟨x, κ1, D1, D2, e1, hs, e2, h2⟩ := bq_pair (xs := xs) h (xs.getD (i + 1) 0) 1
  refine ⟨κ1, D2, h2, ?_⟩
  have a1 : w32 (((i : Nat) : Int) + 1) = ((i + 1 : Nat) : Int) := lwa (k := 1) (by omega)
  have a2 : w32 (((i : Nat) : Int) + 2) = ((i + 2 : Nat) : Int) := lwa (k := 2) (by omega)
  have a3 : w32 (((i : Nat) : Int) + 3) = ((i + 3 : Nat) : Int) := lwa (k := 3) (by omega)
  have a4 : w32 (((i : Nat) : Int) + 4) = ((i + 4 : Nat) : Int) := lwa (k := 4) (by omega)
  have a5 : w32 (((i : Nat) : Int) + 5) = ((i + 5 : Nat) : Int) := lwa (k := 5) (by omega)
  have a6 : w32 (((i : Nat) : Int) + 6) = ((i + 6 : Nat) : Int) := lwa (k := 6) (by omega)
  have k0 : aok κ 0 11 = true := kc_0 h.shp
  have k2 : aok κ1 256 12 = true := k_256 hs
  rw [q_321_739]
  simp (disch := omega) only [dm2, decide_true, a1, a2, dT, dF, hb, decide_true, decide_false, Bool.and_true, Bool.true_and, cond_true, cond_false, Int.toNat_natCast]
  rw [q_321_758]
  simp (disch := omega) only [dm2, decide_true, a1, a2, a3, dT, dF, hb, decide_true, decide_false, Bool.and_true, Bool.true_and, cond_true, cond_false, Int.toNat_natCast, k0, e1, bI_s]
  rw [q_321_780]
  simp (disch := omega) only [dm2, decide_true, a1, a2, a3, a6, dT, Bool.and_true, Bool.true_and, cond_true, cond_false, Int.toNat_natCast, k2, e2, bI_s]
theorem lc_739 {xs : List Int} {κ : aK} {D : Nat → Nat → Int} {i : Nat} (hi : i + 6 ≤ xs.length) (hl : xs.length ≤ 3072) (h : Inv κ D) : ∃ κ1 D1, Inv κ1 D1 ∧ ev xs 1300 mm_321 739 [some (.inr (.inr (-2))), some (.inr (.inr 0)), some (.inr (.inr 256)), some (.inl ((i : Nat) : Int))] [] (κ, D) = ev xs 1300 mm_321 18 [some (.inr (.inr (-2))), some (.inr (.inr 0)), some (.inr (.inr 256)), some (.inl ((i + 6 : Nat) : Int))] [] (κ1, D1) := by
  by_cases hb : xs.getD (i + 2) 0 = 0
  · exact lc_739_0 hi hl h hb
  · exact lc_739_1 hi hl h hb
theorem lc_788 {xs : List Int} {κ : aK} {D : Nat → Nat → Int} {i : Nat} (hi : i + 6 ≤ xs.length) (hl : xs.length ≤ 3072) (h : Inv κ D) : ∃ κ1 D1, Inv κ1 D1 ∧ ev xs 1300 mm_321 788 [some (.inr (.inr (-2))), some (.inr (.inr 0)), some (.inr (.inr 256)), some (.inl ((i : Nat) : Int))] [] (κ, D) = ev xs 1300 mm_321 18 [some (.inr (.inr (-2))), some (.inr (.inr 0)), some (.inr (.inr 256)), some (.inl ((i + 6 : Nat) : Int))] [] (κ1, D1) := by
  obtain ⟨x, κ1, D1, D2, e1, hs, e2, h2⟩ := bq_orders (xs := xs) h (xs.getD (i + 1) 0)
  refine ⟨κ1, D2, h2, ?_⟩
  have a1 : w32 (((i : Nat) : Int) + 1) = ((i + 1 : Nat) : Int) := lwa (k := 1) (by omega)
  have a2 : w32 (((i : Nat) : Int) + 2) = ((i + 2 : Nat) : Int) := lwa (k := 2) (by omega)
  have a3 : w32 (((i : Nat) : Int) + 3) = ((i + 3 : Nat) : Int) := lwa (k := 3) (by omega)
  have a4 : w32 (((i : Nat) : Int) + 4) = ((i + 4 : Nat) : Int) := lwa (k := 4) (by omega)
  have a5 : w32 (((i : Nat) : Int) + 5) = ((i + 5 : Nat) : Int) := lwa (k := 5) (by omega)
  have a6 : w32 (((i : Nat) : Int) + 6) = ((i + 6 : Nat) : Int) := lwa (k := 6) (by omega)
  have k0 : aok κ 0 11 = true := kc_0 h.shp
  have k2 : aok κ1 256 12 = true := k_256 hs
  rw [q_321_788]
  simp (disch := omega) only [dm2, decide_true, a1, a2, a3, a4, a5, a6, dT, Bool.and_true, Bool.true_and, cond_true, cond_false, Int.toNat_natCast, k0, e1, bI_s, k2, e2]
theorem lc_811 {xs : List Int} {κ : aK} {D : Nat → Nat → Int} {i : Nat} (hi : i + 6 ≤ xs.length) (hl : xs.length ≤ 3072) (h : Inv κ D) : ∃ κ1 D1, Inv κ1 D1 ∧ ev xs 1300 mm_321 811 [some (.inr (.inr (-2))), some (.inr (.inr 0)), some (.inr (.inr 256)), some (.inl ((i : Nat) : Int))] [] (κ, D) = ev xs 1300 mm_321 18 [some (.inr (.inr (-2))), some (.inr (.inr 0)), some (.inr (.inr 256)), some (.inl ((i + 6 : Nat) : Int))] [] (κ1, D1) := by
  obtain ⟨x, κ1, D1, D2, e1, hs, e2, h2⟩ := bq_orderAt (xs := xs) h (xs.getD (i + 1) 0) (xs.getD (i + 2) 0)
  refine ⟨κ1, D2, h2, ?_⟩
  have a1 : w32 (((i : Nat) : Int) + 1) = ((i + 1 : Nat) : Int) := lwa (k := 1) (by omega)
  have a2 : w32 (((i : Nat) : Int) + 2) = ((i + 2 : Nat) : Int) := lwa (k := 2) (by omega)
  have a3 : w32 (((i : Nat) : Int) + 3) = ((i + 3 : Nat) : Int) := lwa (k := 3) (by omega)
  have a4 : w32 (((i : Nat) : Int) + 4) = ((i + 4 : Nat) : Int) := lwa (k := 4) (by omega)
  have a5 : w32 (((i : Nat) : Int) + 5) = ((i + 5 : Nat) : Int) := lwa (k := 5) (by omega)
  have a6 : w32 (((i : Nat) : Int) + 6) = ((i + 6 : Nat) : Int) := lwa (k := 6) (by omega)
  have k0 : aok κ 0 11 = true := kc_0 h.shp
  have k2 : aok κ1 256 12 = true := k_256 hs
  rw [q_321_811]
  simp (disch := omega) only [dm2, decide_true, a1, a2, a3, a4, a5, a6, dT, Bool.and_true, Bool.true_and, cond_true, cond_false, Int.toNat_natCast, k0, e1, bI_s, k2, e2]
theorem lc_844 {xs : List Int} {κ : aK} {D : Nat → Nat → Int} {i : Nat} (hi : i + 6 ≤ xs.length) (hl : xs.length ≤ 3072) (h : Inv κ D) : ∃ κ1 D1, Inv κ1 D1 ∧ ev xs 1300 mm_321 844 [some (.inr (.inr (-2))), some (.inr (.inr 0)), some (.inr (.inr 256)), some (.inl ((i : Nat) : Int))] [] (κ, D) = ev xs 1300 mm_321 18 [some (.inr (.inr (-2))), some (.inr (.inr 0)), some (.inr (.inr 256)), some (.inl ((i + 6 : Nat) : Int))] [] (κ1, D1) := by
  obtain ⟨x, κ1, D1, D2, e1, hs, e2, h2⟩ := bq_swaps (xs := xs) h (xs.getD (i + 1) 0)
  refine ⟨κ1, D2, h2, ?_⟩
  have a1 : w32 (((i : Nat) : Int) + 1) = ((i + 1 : Nat) : Int) := lwa (k := 1) (by omega)
  have a2 : w32 (((i : Nat) : Int) + 2) = ((i + 2 : Nat) : Int) := lwa (k := 2) (by omega)
  have a3 : w32 (((i : Nat) : Int) + 3) = ((i + 3 : Nat) : Int) := lwa (k := 3) (by omega)
  have a4 : w32 (((i : Nat) : Int) + 4) = ((i + 4 : Nat) : Int) := lwa (k := 4) (by omega)
  have a5 : w32 (((i : Nat) : Int) + 5) = ((i + 5 : Nat) : Int) := lwa (k := 5) (by omega)
  have a6 : w32 (((i : Nat) : Int) + 6) = ((i + 6 : Nat) : Int) := lwa (k := 6) (by omega)
  have k0 : aok κ 0 11 = true := kc_0 h.shp
  have k2 : aok κ1 256 12 = true := k_256 hs
  rw [q_321_844]
  simp (disch := omega) only [dm2, decide_true, a1, a2, a3, a4, a5, a6, dT, Bool.and_true, Bool.true_and, cond_true, cond_false, Int.toNat_natCast, k0, e1, bI_s, k2, e2]
theorem lc_867_0 {xs : List Int} {κ : aK} {D : Nat → Nat → Int} {i : Nat} (hi : i + 6 ≤ xs.length) (hl : xs.length ≤ 3072) (h : Inv κ D) (hb : xs.getD (i + 2) 0 = 0) : ∃ κ1 D1, Inv κ1 D1 ∧ ev xs 1300 mm_321 867 [some (.inr (.inr (-2))), some (.inr (.inr 0)), some (.inr (.inr 256)), some (.inl ((i : Nat) : Int))] [] (κ, D) = ev xs 1300 mm_321 18 [some (.inr (.inr (-2))), some (.inr (.inr 0)), some (.inr (.inr 256)), some (.inl ((i + 6 : Nat) : Int))] [] (κ1, D1) := by
  obtain ⟨x, κ1, D1, D2, e1, hs, e2, h2⟩ := bq_sets (xs := xs) h (xs.getD (i + 1) 0) 0 (xs.getD (i + 3) 0)
  refine ⟨κ1, D2, h2, ?_⟩
  have a1 : w32 (((i : Nat) : Int) + 1) = ((i + 1 : Nat) : Int) := lwa (k := 1) (by omega)
  have a2 : w32 (((i : Nat) : Int) + 2) = ((i + 2 : Nat) : Int) := lwa (k := 2) (by omega)
  have a3 : w32 (((i : Nat) : Int) + 3) = ((i + 3 : Nat) : Int) := lwa (k := 3) (by omega)
  have a4 : w32 (((i : Nat) : Int) + 4) = ((i + 4 : Nat) : Int) := lwa (k := 4) (by omega)
  have a5 : w32 (((i : Nat) : Int) + 5) = ((i + 5 : Nat) : Int) := lwa (k := 5) (by omega)
  have a6 : w32 (((i : Nat) : Int) + 6) = ((i + 6 : Nat) : Int) := lwa (k := 6) (by omega)
  have k0 : aok κ 0 11 = true := kc_0 h.shp
  have k2 : aok κ1 256 12 = true := k_256 hs
  rw [q_321_867]
  simp (disch := omega) only [dm2, decide_true, a1, a2, dT, dF, hb, decide_true, decide_false, Bool.and_true, Bool.true_and, cond_true, cond_false, Int.toNat_natCast]
  rw [q_321_886]
  simp (disch := omega) only [dm2, decide_true, a1, a2, a3, dT, dF, hb, decide_true, decide_false, Bool.and_true, Bool.true_and, cond_true, cond_false, Int.toNat_natCast, k0, e1, bI_s]
  rw [q_321_913]
  simp (disch := omega) only [dm2, decide_true, a1, a2, a3, a6, dT, Bool.and_true, Bool.true_and, cond_true, cond_false, Int.toNat_natCast, k2, e2, bI_s]
theorem lc_867_1 {xs : List Int} {κ : aK} {D : Nat → Nat → Int} {i : Nat} (hi : i + 6 ≤ xs.length) (hl : xs.length ≤ 3072) (h : Inv κ D) (hb : ¬ xs.getD (i + 2) 0 = 0) : ∃ κ1 D1, Inv κ1 D1 ∧ ev xs 1300 mm_321 867 [some (.inr (.inr (-2))), some (.inr (.inr 0)), some (.inr (.inr 256)), some (.inl ((i : Nat) : Int))] [] (κ, D) = ev xs 1300 mm_321 18 [some (.inr (.inr (-2))), some (.inr (.inr 0)), some (.inr (.inr 256)), some (.inl ((i + 6 : Nat) : Int))] [] (κ1, D1) := by
  obtain ⟨x, κ1, D1, D2, e1, hs, e2, h2⟩ := bq_sets (xs := xs) h (xs.getD (i + 1) 0) 1 (xs.getD (i + 3) 0)
  refine ⟨κ1, D2, h2, ?_⟩
  have a1 : w32 (((i : Nat) : Int) + 1) = ((i + 1 : Nat) : Int) := lwa (k := 1) (by omega)
  have a2 : w32 (((i : Nat) : Int) + 2) = ((i + 2 : Nat) : Int) := lwa (k := 2) (by omega)
  have a3 : w32 (((i : Nat) : Int) + 3) = ((i + 3 : Nat) : Int) := lwa (k := 3) (by omega)
  have a4 : w32 (((i : Nat) : Int) + 4) = ((i + 4 : Nat) : Int) := lwa (k := 4) (by omega)
  have a5 : w32 (((i : Nat) : Int) + 5) = ((i + 5 : Nat) : Int) := lwa (k := 5) (by omega)
  have a6 : w32 (((i : Nat) : Int) + 6) = ((i + 6 : Nat) : Int) := lwa (k := 6) (by omega)
  have k0 : aok κ 0 11 = true := kc_0 h.shp
  have k2 : aok κ1 256 12 = true := k_256 hs
  rw [q_321_867]
  simp (disch := omega) only [dm2, decide_true, a1, a2, dT, dF, hb, decide_true, decide_false, Bool.and_true, Bool.true_and, cond_true, cond_false, Int.toNat_natCast]
  rw [q_321_886]
  simp (disch := omega) only [dm2, decide_true, a1, a2, a3, dT, dF, hb, decide_true, decide_false, Bool.and_true, Bool.true_and, cond_true, cond_false, Int.toNat_natCast, k0, e1, bI_s]
  rw [q_321_913]
  simp (disch := omega) only [dm2, decide_true, a1, a2, a3, a6, dT, Bool.and_true, Bool.true_and, cond_true, cond_false, Int.toNat_natCast, k2, e2, bI_s]
theorem lc_867 {xs : List Int} {κ : aK} {D : Nat → Nat → Int} {i : Nat} (hi : i + 6 ≤ xs.length) (hl : xs.length ≤ 3072) (h : Inv κ D) : ∃ κ1 D1, Inv κ1 D1 ∧ ev xs 1300 mm_321 867 [some (.inr (.inr (-2))), some (.inr (.inr 0)), some (.inr (.inr 256)), some (.inl ((i : Nat) : Int))] [] (κ, D) = ev xs 1300 mm_321 18 [some (.inr (.inr (-2))), some (.inr (.inr 0)), some (.inr (.inr 256)), some (.inl ((i + 6 : Nat) : Int))] [] (κ1, D1) := by
  by_cases hb : xs.getD (i + 2) 0 = 0
  · exact lc_867_0 hi hl h hb
  · exact lc_867_1 hi hl h hb
theorem lc_926 {xs : List Int} {κ : aK} {D : Nat → Nat → Int} {i : Nat} (hi : i + 6 ≤ xs.length) (hl : xs.length ≤ 3072) (h : Inv κ D) : ∃ κ1 D1, Inv κ1 D1 ∧ ev xs 1300 mm_321 926 [some (.inr (.inr (-2))), some (.inr (.inr 0)), some (.inr (.inr 256)), some (.inl ((i : Nat) : Int))] [] (κ, D) = ev xs 1300 mm_321 18 [some (.inr (.inr (-2))), some (.inr (.inr 0)), some (.inr (.inr 256)), some (.inl ((i + 6 : Nat) : Int))] [] (κ1, D1) := by
  obtain ⟨x, κ1, D1, D2, e1, hs, e2, h2⟩ := bq_list (xs := xs) h (xs.getD (i + 1) 0)
  refine ⟨κ1, D2, h2, ?_⟩
  have a1 : w32 (((i : Nat) : Int) + 1) = ((i + 1 : Nat) : Int) := lwa (k := 1) (by omega)
  have a2 : w32 (((i : Nat) : Int) + 2) = ((i + 2 : Nat) : Int) := lwa (k := 2) (by omega)
  have a3 : w32 (((i : Nat) : Int) + 3) = ((i + 3 : Nat) : Int) := lwa (k := 3) (by omega)
  have a4 : w32 (((i : Nat) : Int) + 4) = ((i + 4 : Nat) : Int) := lwa (k := 4) (by omega)
  have a5 : w32 (((i : Nat) : Int) + 5) = ((i + 5 : Nat) : Int) := lwa (k := 5) (by omega)
  have a6 : w32 (((i : Nat) : Int) + 6) = ((i + 6 : Nat) : Int) := lwa (k := 6) (by omega)
  have k0 : aok κ 0 11 = true := kc_0 h.shp
  have k2 : aok κ1 256 12 = true := k_256 hs
  rw [q_321_926]
  simp (disch := omega) only [dm2, decide_true, a1, a2, a3, a4, a5, a6, dT, Bool.and_true, Bool.true_and, cond_true, cond_false, Int.toNat_natCast, k0, e1, bI_s, k2, e2]
theorem lc_949 {xs : List Int} {κ : aK} {D : Nat → Nat → Int} {i : Nat} (hi : i + 6 ≤ xs.length) (hl : xs.length ≤ 3072) (h : Inv κ D) : ∃ κ1 D1, Inv κ1 D1 ∧ ev xs 1300 mm_321 949 [some (.inr (.inr (-2))), some (.inr (.inr 0)), some (.inr (.inr 256)), some (.inl ((i : Nat) : Int))] [] (κ, D) = ev xs 1300 mm_321 18 [some (.inr (.inr (-2))), some (.inr (.inr 0)), some (.inr (.inr 256)), some (.inl ((i + 6 : Nat) : Int))] [] (κ1, D1) := by
  obtain ⟨x, κ1, D1, D2, e1, hs, e2, h2⟩ := bq_next (xs := xs) h (xs.getD (i + 1) 0) (xs.getD (i + 2) 0)
  refine ⟨κ1, D2, h2, ?_⟩
  have a1 : w32 (((i : Nat) : Int) + 1) = ((i + 1 : Nat) : Int) := lwa (k := 1) (by omega)
  have a2 : w32 (((i : Nat) : Int) + 2) = ((i + 2 : Nat) : Int) := lwa (k := 2) (by omega)
  have a3 : w32 (((i : Nat) : Int) + 3) = ((i + 3 : Nat) : Int) := lwa (k := 3) (by omega)
  have a4 : w32 (((i : Nat) : Int) + 4) = ((i + 4 : Nat) : Int) := lwa (k := 4) (by omega)
  have a5 : w32 (((i : Nat) : Int) + 5) = ((i + 5 : Nat) : Int) := lwa (k := 5) (by omega)
  have a6 : w32 (((i : Nat) : Int) + 6) = ((i + 6 : Nat) : Int) := lwa (k := 6) (by omega)
  have k0 : aok κ 0 11 = true := kc_0 h.shp
  have k2 : aok κ1 256 12 = true := k_256 hs
  rw [q_321_949]
  simp (disch := omega) only [dm2, decide_true, a1, a2, a3, a4, a5, a6, dT, Bool.and_true, Bool.true_and, cond_true, cond_false, Int.toNat_natCast, k0, e1, bI_s, k2, e2]
theorem lc_982 {xs : List Int} {κ : aK} {D : Nat → Nat → Int} {i : Nat} (hi : i + 6 ≤ xs.length) (hl : xs.length ≤ 3072) (h : Inv κ D) : ∃ κ1 D1, Inv κ1 D1 ∧ ev xs 1300 mm_321 982 [some (.inr (.inr (-2))), some (.inr (.inr 0)), some (.inr (.inr 256)), some (.inl ((i : Nat) : Int))] [] (κ, D) = ev xs 1300 mm_321 18 [some (.inr (.inr (-2))), some (.inr (.inr 0)), some (.inr (.inr 256)), some (.inl ((i + 6 : Nat) : Int))] [] (κ1, D1) := by
  obtain ⟨x, κ1, D1, D2, e1, hs, e2, h2⟩ := bq_parted (xs := xs) h (xs.getD (i + 1) 0)
  refine ⟨κ1, D2, h2, ?_⟩
  have a1 : w32 (((i : Nat) : Int) + 1) = ((i + 1 : Nat) : Int) := lwa (k := 1) (by omega)
  have a2 : w32 (((i : Nat) : Int) + 2) = ((i + 2 : Nat) : Int) := lwa (k := 2) (by omega)
  have a3 : w32 (((i : Nat) : Int) + 3) = ((i + 3 : Nat) : Int) := lwa (k := 3) (by omega)
  have a4 : w32 (((i : Nat) : Int) + 4) = ((i + 4 : Nat) : Int) := lwa (k := 4) (by omega)
  have a5 : w32 (((i : Nat) : Int) + 5) = ((i + 5 : Nat) : Int) := lwa (k := 5) (by omega)
  have a6 : w32 (((i : Nat) : Int) + 6) = ((i + 6 : Nat) : Int) := lwa (k := 6) (by omega)
  have k0 : aok κ 0 11 = true := kc_0 h.shp
  have k2 : aok κ1 256 12 = true := k_256 hs
  rw [q_321_982]
  simp (disch := omega) only [dm2, decide_true, a1, a2, a3, a4, a5, a6, dT, Bool.and_true, Bool.true_and, cond_true, cond_false, Int.toNat_natCast, k0, e1, bI_s, k2, e2]
theorem lc_1005 {xs : List Int} {κ : aK} {D : Nat → Nat → Int} {i : Nat} (hi : i + 6 ≤ xs.length) (hl : xs.length ≤ 3072) (h : Inv κ D) : ∃ κ1 D1, Inv κ1 D1 ∧ ev xs 1300 mm_321 1005 [some (.inr (.inr (-2))), some (.inr (.inr 0)), some (.inr (.inr 256)), some (.inl ((i : Nat) : Int))] [] (κ, D) = ev xs 1300 mm_321 18 [some (.inr (.inr (-2))), some (.inr (.inr 0)), some (.inr (.inr 256)), some (.inl ((i + 6 : Nat) : Int))] [] (κ1, D1) := by
  obtain ⟨x, κ1, D1, D2, e1, hs, e2, h2⟩ := bq_derived (xs := xs) h (xs.getD (i + 1) 0) (xs.getD (i + 2) 0) (xs.getD (i + 3) 0)
  refine ⟨κ1, D2, h2, ?_⟩
  have a1 : w32 (((i : Nat) : Int) + 1) = ((i + 1 : Nat) : Int) := lwa (k := 1) (by omega)
  have a2 : w32 (((i : Nat) : Int) + 2) = ((i + 2 : Nat) : Int) := lwa (k := 2) (by omega)
  have a3 : w32 (((i : Nat) : Int) + 3) = ((i + 3 : Nat) : Int) := lwa (k := 3) (by omega)
  have a4 : w32 (((i : Nat) : Int) + 4) = ((i + 4 : Nat) : Int) := lwa (k := 4) (by omega)
  have a5 : w32 (((i : Nat) : Int) + 5) = ((i + 5 : Nat) : Int) := lwa (k := 5) (by omega)
  have a6 : w32 (((i : Nat) : Int) + 6) = ((i + 6 : Nat) : Int) := lwa (k := 6) (by omega)
  have k0 : aok κ 0 11 = true := kc_0 h.shp
  have k2 : aok κ1 256 12 = true := k_256 hs
  rw [q_321_1005]
  simp (disch := omega) only [dm2, decide_true, a1, a2, a3, a4, a5, a6, dT, Bool.and_true, Bool.true_and, cond_true, cond_false, Int.toNat_natCast, k0, e1, bI_s, k2, e2]
theorem lc_1048 {xs : List Int} {κ : aK} {D : Nat → Nat → Int} {i : Nat} (hi : i + 6 ≤ xs.length) (hl : xs.length ≤ 3072) (h : Inv κ D) : ∃ κ1 D1, Inv κ1 D1 ∧ ev xs 1300 mm_321 1048 [some (.inr (.inr (-2))), some (.inr (.inr 0)), some (.inr (.inr 256)), some (.inl ((i : Nat) : Int))] [] (κ, D) = ev xs 1300 mm_321 18 [some (.inr (.inr (-2))), some (.inr (.inr 0)), some (.inr (.inr 256)), some (.inl ((i + 6 : Nat) : Int))] [] (κ1, D1) := by
  obtain ⟨x, κ1, D1, D2, e1, hs, e2, h2⟩ := bq_apart (xs := xs) h (xs.getD (i + 1) 0) (xs.getD (i + 2) 0)
  refine ⟨κ1, D2, h2, ?_⟩
  have a1 : w32 (((i : Nat) : Int) + 1) = ((i + 1 : Nat) : Int) := lwa (k := 1) (by omega)
  have a2 : w32 (((i : Nat) : Int) + 2) = ((i + 2 : Nat) : Int) := lwa (k := 2) (by omega)
  have a3 : w32 (((i : Nat) : Int) + 3) = ((i + 3 : Nat) : Int) := lwa (k := 3) (by omega)
  have a4 : w32 (((i : Nat) : Int) + 4) = ((i + 4 : Nat) : Int) := lwa (k := 4) (by omega)
  have a5 : w32 (((i : Nat) : Int) + 5) = ((i + 5 : Nat) : Int) := lwa (k := 5) (by omega)
  have a6 : w32 (((i : Nat) : Int) + 6) = ((i + 6 : Nat) : Int) := lwa (k := 6) (by omega)
  have k0 : aok κ 0 11 = true := kc_0 h.shp
  have k2 : aok κ1 256 12 = true := k_256 hs
  rw [q_321_1048]
  simp (disch := omega) only [dm2, decide_true, a1, a2, a3, a4, a5, a6, dT, Bool.and_true, Bool.true_and, cond_true, cond_false, Int.toNat_natCast, k0, e1, bI_s, k2, e2]
theorem lc_1081 {xs : List Int} {κ : aK} {D : Nat → Nat → Int} {i : Nat} (hi : i + 6 ≤ xs.length) (hl : xs.length ≤ 3072) (h : Inv κ D) : ∃ κ1 D1, Inv κ1 D1 ∧ ev xs 1300 mm_321 1081 [some (.inr (.inr (-2))), some (.inr (.inr 0)), some (.inr (.inr 256)), some (.inl ((i : Nat) : Int))] [] (κ, D) = ev xs 1300 mm_321 18 [some (.inr (.inr (-2))), some (.inr (.inr 0)), some (.inr (.inr 256)), some (.inl ((i + 6 : Nat) : Int))] [] (κ1, D1) := by
  obtain ⟨x, κ1, D1, D2, e1, hs, e2, h2⟩ := bq_rhymes (xs := xs) h (xs.getD (i + 1) 0) (xs.getD (i + 2) 0)
  refine ⟨κ1, D2, h2, ?_⟩
  have a1 : w32 (((i : Nat) : Int) + 1) = ((i + 1 : Nat) : Int) := lwa (k := 1) (by omega)
  have a2 : w32 (((i : Nat) : Int) + 2) = ((i + 2 : Nat) : Int) := lwa (k := 2) (by omega)
  have a3 : w32 (((i : Nat) : Int) + 3) = ((i + 3 : Nat) : Int) := lwa (k := 3) (by omega)
  have a4 : w32 (((i : Nat) : Int) + 4) = ((i + 4 : Nat) : Int) := lwa (k := 4) (by omega)
  have a5 : w32 (((i : Nat) : Int) + 5) = ((i + 5 : Nat) : Int) := lwa (k := 5) (by omega)
  have a6 : w32 (((i : Nat) : Int) + 6) = ((i + 6 : Nat) : Int) := lwa (k := 6) (by omega)
  have k0 : aok κ 0 11 = true := kc_0 h.shp
  have k2 : aok κ1 256 12 = true := k_256 hs
  rw [q_321_1081]
  simp (disch := omega) only [dm2, decide_true, a1, a2, a3, a4, a5, a6, dT, Bool.and_true, Bool.true_and, cond_true, cond_false, Int.toNat_natCast, k0, e1, bI_s, k2, e2]
theorem lc_1114 {xs : List Int} {κ : aK} {D : Nat → Nat → Int} {i : Nat} (hi : i + 6 ≤ xs.length) (hl : xs.length ≤ 3072) (h : Inv κ D) : ∃ κ1 D1, Inv κ1 D1 ∧ ev xs 1300 mm_321 1114 [some (.inr (.inr (-2))), some (.inr (.inr 0)), some (.inr (.inr 256)), some (.inl ((i : Nat) : Int))] [] (κ, D) = ev xs 1300 mm_321 18 [some (.inr (.inr (-2))), some (.inr (.inr 0)), some (.inr (.inr 256)), some (.inl ((i + 6 : Nat) : Int))] [] (κ1, D1) := by
  obtain ⟨x, κ1, D1, D2, e1, hs, e2, h2⟩ := bq_best (xs := xs) h (xs.getD (i + 1) 0)
  refine ⟨κ1, D2, h2, ?_⟩
  have a1 : w32 (((i : Nat) : Int) + 1) = ((i + 1 : Nat) : Int) := lwa (k := 1) (by omega)
  have a2 : w32 (((i : Nat) : Int) + 2) = ((i + 2 : Nat) : Int) := lwa (k := 2) (by omega)
  have a3 : w32 (((i : Nat) : Int) + 3) = ((i + 3 : Nat) : Int) := lwa (k := 3) (by omega)
  have a4 : w32 (((i : Nat) : Int) + 4) = ((i + 4 : Nat) : Int) := lwa (k := 4) (by omega)
  have a5 : w32 (((i : Nat) : Int) + 5) = ((i + 5 : Nat) : Int) := lwa (k := 5) (by omega)
  have a6 : w32 (((i : Nat) : Int) + 6) = ((i + 6 : Nat) : Int) := lwa (k := 6) (by omega)
  have k0 : aok κ 0 11 = true := kc_0 h.shp
  have k2 : aok κ1 256 12 = true := k_256 hs
  rw [q_321_1114]
  simp (disch := omega) only [dm2, decide_true, a1, a2, a3, a4, a5, a6, dT, Bool.and_true, Bool.true_and, cond_true, cond_false, Int.toNat_natCast, k0, e1, bI_s, k2, e2]
theorem lc_1137 {xs : List Int} {κ : aK} {D : Nat → Nat → Int} {i : Nat} (hi : i + 6 ≤ xs.length) (hl : xs.length ≤ 3072) (h : Inv κ D) : ∃ κ1 D1, Inv κ1 D1 ∧ ev xs 1300 mm_321 1137 [some (.inr (.inr (-2))), some (.inr (.inr 0)), some (.inr (.inr 256)), some (.inl ((i : Nat) : Int))] [] (κ, D) = ev xs 1300 mm_321 18 [some (.inr (.inr (-2))), some (.inr (.inr 0)), some (.inr (.inr 256)), some (.inl ((i + 6 : Nat) : Int))] [] (κ1, D1) := by
  obtain ⟨x, κ1, D1, D2, e1, hs, e2, h2⟩ := bq_most (xs := xs) h (xs.getD (i + 1) 0) (xs.getD (i + 2) 0)
  refine ⟨κ1, D2, h2, ?_⟩
  have a1 : w32 (((i : Nat) : Int) + 1) = ((i + 1 : Nat) : Int) := lwa (k := 1) (by omega)
  have a2 : w32 (((i : Nat) : Int) + 2) = ((i + 2 : Nat) : Int) := lwa (k := 2) (by omega)
  have a3 : w32 (((i : Nat) : Int) + 3) = ((i + 3 : Nat) : Int) := lwa (k := 3) (by omega)
  have a4 : w32 (((i : Nat) : Int) + 4) = ((i + 4 : Nat) : Int) := lwa (k := 4) (by omega)
  have a5 : w32 (((i : Nat) : Int) + 5) = ((i + 5 : Nat) : Int) := lwa (k := 5) (by omega)
  have a6 : w32 (((i : Nat) : Int) + 6) = ((i + 6 : Nat) : Int) := lwa (k := 6) (by omega)
  have k0 : aok κ 0 11 = true := kc_0 h.shp
  have k2 : aok κ1 256 12 = true := k_256 hs
  rw [q_321_1137]
  simp (disch := omega) only [dm2, decide_true, a1, a2, a3, a4, a5, a6, dT, Bool.and_true, Bool.true_and, cond_true, cond_false, Int.toNat_natCast, k0, e1, bI_s, k2, e2]
theorem lc_1170 {xs : List Int} {κ : aK} {D : Nat → Nat → Int} {i : Nat} (hi : i + 6 ≤ xs.length) (hl : xs.length ≤ 3072) (h : Inv κ D) : ∃ κ1 D1, Inv κ1 D1 ∧ ev xs 1300 mm_321 1170 [some (.inr (.inr (-2))), some (.inr (.inr 0)), some (.inr (.inr 256)), some (.inl ((i : Nat) : Int))] [] (κ, D) = ev xs 1300 mm_321 18 [some (.inr (.inr (-2))), some (.inr (.inr 0)), some (.inr (.inr 256)), some (.inl ((i + 6 : Nat) : Int))] [] (κ1, D1) := by
  obtain ⟨x, κ1, D1, D2, e1, hs, e2, h2⟩ := bq_lacks (xs := xs) h (xs.getD (i + 1) 0) (xs.getD (i + 2) 0)
  refine ⟨κ1, D2, h2, ?_⟩
  have a1 : w32 (((i : Nat) : Int) + 1) = ((i + 1 : Nat) : Int) := lwa (k := 1) (by omega)
  have a2 : w32 (((i : Nat) : Int) + 2) = ((i + 2 : Nat) : Int) := lwa (k := 2) (by omega)
  have a3 : w32 (((i : Nat) : Int) + 3) = ((i + 3 : Nat) : Int) := lwa (k := 3) (by omega)
  have a4 : w32 (((i : Nat) : Int) + 4) = ((i + 4 : Nat) : Int) := lwa (k := 4) (by omega)
  have a5 : w32 (((i : Nat) : Int) + 5) = ((i + 5 : Nat) : Int) := lwa (k := 5) (by omega)
  have a6 : w32 (((i : Nat) : Int) + 6) = ((i + 6 : Nat) : Int) := lwa (k := 6) (by omega)
  have k0 : aok κ 0 11 = true := kc_0 h.shp
  have k2 : aok κ1 256 12 = true := k_256 hs
  rw [q_321_1170]
  simp (disch := omega) only [dm2, decide_true, a1, a2, a3, a4, a5, a6, dT, Bool.and_true, Bool.true_and, cond_true, cond_false, Int.toNat_natCast, k0, e1, bI_s, k2, e2]
theorem lc_1203 {xs : List Int} {κ : aK} {D : Nat → Nat → Int} {i : Nat} (hi : i + 6 ≤ xs.length) (hl : xs.length ≤ 3072) (h : Inv κ D) : ∃ κ1 D1, Inv κ1 D1 ∧ ev xs 1300 mm_321 1203 [some (.inr (.inr (-2))), some (.inr (.inr 0)), some (.inr (.inr 256)), some (.inl ((i : Nat) : Int))] [] (κ, D) = ev xs 1300 mm_321 18 [some (.inr (.inr (-2))), some (.inr (.inr 0)), some (.inr (.inr 256)), some (.inl ((i + 6 : Nat) : Int))] [] (κ1, D1) := by
  obtain ⟨x, κ1, D1, D2, e1, hs, e2, h2⟩ := bq_future (xs := xs) h (xs.getD (i + 1) 0) (xs.getD (i + 2) 0) (xs.getD (i + 3) 0)
  refine ⟨κ1, D2, h2, ?_⟩
  have a1 : w32 (((i : Nat) : Int) + 1) = ((i + 1 : Nat) : Int) := lwa (k := 1) (by omega)
  have a2 : w32 (((i : Nat) : Int) + 2) = ((i + 2 : Nat) : Int) := lwa (k := 2) (by omega)
  have a3 : w32 (((i : Nat) : Int) + 3) = ((i + 3 : Nat) : Int) := lwa (k := 3) (by omega)
  have a4 : w32 (((i : Nat) : Int) + 4) = ((i + 4 : Nat) : Int) := lwa (k := 4) (by omega)
  have a5 : w32 (((i : Nat) : Int) + 5) = ((i + 5 : Nat) : Int) := lwa (k := 5) (by omega)
  have a6 : w32 (((i : Nat) : Int) + 6) = ((i + 6 : Nat) : Int) := lwa (k := 6) (by omega)
  have k0 : aok κ 0 11 = true := kc_0 h.shp
  have k2 : aok κ1 256 12 = true := k_256 hs
  rw [q_321_1203]
  simp (disch := omega) only [dm2, decide_true, a1, a2, a3, a4, a5, a6, dT, Bool.and_true, Bool.true_and, cond_true, cond_false, Int.toNat_natCast, k0, e1, bI_s, k2, e2]
theorem lc_1246 {xs : List Int} {κ : aK} {D : Nat → Nat → Int} {i : Nat} (hi : i + 6 ≤ xs.length) (hl : xs.length ≤ 3072) (h : Inv κ D) : ∃ κ1 D1, Inv κ1 D1 ∧ ev xs 1300 mm_321 1246 [some (.inr (.inr (-2))), some (.inr (.inr 0)), some (.inr (.inr 256)), some (.inl ((i : Nat) : Int))] [] (κ, D) = ev xs 1300 mm_321 18 [some (.inr (.inr (-2))), some (.inr (.inr 0)), some (.inr (.inr 256)), some (.inl ((i + 6 : Nat) : Int))] [] (κ1, D1) := by
  obtain ⟨x, κ1, D1, D2, e1, hs, e2, h2⟩ := bq_sales (xs := xs) h (xs.getD (i + 1) 0)
  refine ⟨κ1, D2, h2, ?_⟩
  have a1 : w32 (((i : Nat) : Int) + 1) = ((i + 1 : Nat) : Int) := lwa (k := 1) (by omega)
  have a2 : w32 (((i : Nat) : Int) + 2) = ((i + 2 : Nat) : Int) := lwa (k := 2) (by omega)
  have a3 : w32 (((i : Nat) : Int) + 3) = ((i + 3 : Nat) : Int) := lwa (k := 3) (by omega)
  have a4 : w32 (((i : Nat) : Int) + 4) = ((i + 4 : Nat) : Int) := lwa (k := 4) (by omega)
  have a5 : w32 (((i : Nat) : Int) + 5) = ((i + 5 : Nat) : Int) := lwa (k := 5) (by omega)
  have a6 : w32 (((i : Nat) : Int) + 6) = ((i + 6 : Nat) : Int) := lwa (k := 6) (by omega)
  have k0 : aok κ 0 11 = true := kc_0 h.shp
  have k2 : aok κ1 256 12 = true := k_256 hs
  rw [q_321_1246]
  simp (disch := omega) only [dm2, decide_true, a1, a2, a3, a4, a5, a6, dT, Bool.and_true, Bool.true_and, cond_true, cond_false, Int.toNat_natCast, k0, e1, bI_s, k2, e2]
theorem lc_1269 {xs : List Int} {κ : aK} {D : Nat → Nat → Int} {i : Nat} (hi : i + 6 ≤ xs.length) (hl : xs.length ≤ 3072) (h : Inv κ D) : ∃ κ1 D1, Inv κ1 D1 ∧ ev xs 1300 mm_321 1269 [some (.inr (.inr (-2))), some (.inr (.inr 0)), some (.inr (.inr 256)), some (.inl ((i : Nat) : Int))] [] (κ, D) = ev xs 1300 mm_321 18 [some (.inr (.inr (-2))), some (.inr (.inr 0)), some (.inr (.inr 256)), some (.inl ((i + 6 : Nat) : Int))] [] (κ1, D1) := by
  obtain ⟨x, κ1, D1, D2, e1, hs, e2, h2⟩ := bq_forged (xs := xs) h 
  refine ⟨κ1, D2, h2, ?_⟩
  have a1 : w32 (((i : Nat) : Int) + 1) = ((i + 1 : Nat) : Int) := lwa (k := 1) (by omega)
  have a2 : w32 (((i : Nat) : Int) + 2) = ((i + 2 : Nat) : Int) := lwa (k := 2) (by omega)
  have a3 : w32 (((i : Nat) : Int) + 3) = ((i + 3 : Nat) : Int) := lwa (k := 3) (by omega)
  have a4 : w32 (((i : Nat) : Int) + 4) = ((i + 4 : Nat) : Int) := lwa (k := 4) (by omega)
  have a5 : w32 (((i : Nat) : Int) + 5) = ((i + 5 : Nat) : Int) := lwa (k := 5) (by omega)
  have a6 : w32 (((i : Nat) : Int) + 6) = ((i + 6 : Nat) : Int) := lwa (k := 6) (by omega)
  have k0 : aok κ 0 11 = true := kc_0 h.shp
  have k2 : aok κ1 256 12 = true := k_256 hs
  rw [q_321_1269]
  simp (disch := omega) only [dm2, decide_true, a1, a2, a3, a4, a5, a6, dT, Bool.and_true, Bool.true_and, cond_true, cond_false, Int.toNat_natCast, k0, e1, bI_s, k2, e2]
theorem lc_1282 {xs : List Int} {κ : aK} {D : Nat → Nat → Int} {i : Nat} (hi : i + 6 ≤ xs.length) (hl : xs.length ≤ 3072) (h : Inv κ D) : ∃ κ1 D1, Inv κ1 D1 ∧ ev xs 1300 mm_321 1282 [some (.inr (.inr (-2))), some (.inr (.inr 0)), some (.inr (.inr 256)), some (.inl ((i : Nat) : Int))] [] (κ, D) = ev xs 1300 mm_321 18 [some (.inr (.inr (-2))), some (.inr (.inr 0)), some (.inr (.inr 256)), some (.inl ((i + 6 : Nat) : Int))] [] (κ1, D1) := by
  obtain ⟨x, κ1, D1, D2, e1, hs, e2, h2⟩ := bq_lives (xs := xs) h (xs.getD (i + 1) 0)
  refine ⟨κ1, D2, h2, ?_⟩
  have a1 : w32 (((i : Nat) : Int) + 1) = ((i + 1 : Nat) : Int) := lwa (k := 1) (by omega)
  have a2 : w32 (((i : Nat) : Int) + 2) = ((i + 2 : Nat) : Int) := lwa (k := 2) (by omega)
  have a3 : w32 (((i : Nat) : Int) + 3) = ((i + 3 : Nat) : Int) := lwa (k := 3) (by omega)
  have a4 : w32 (((i : Nat) : Int) + 4) = ((i + 4 : Nat) : Int) := lwa (k := 4) (by omega)
  have a5 : w32 (((i : Nat) : Int) + 5) = ((i + 5 : Nat) : Int) := lwa (k := 5) (by omega)
  have a6 : w32 (((i : Nat) : Int) + 6) = ((i + 6 : Nat) : Int) := lwa (k := 6) (by omega)
  have k0 : aok κ 0 11 = true := kc_0 h.shp
  have k2 : aok κ1 256 12 = true := k_256 hs
  rw [q_321_1282]
  simp (disch := omega) only [dm2, decide_true, a1, a2, a3, a4, a5, a6, dT, Bool.and_true, Bool.true_and, cond_true, cond_false, Int.toNat_natCast, k0, e1, bI_s, k2, e2]
theorem lc_1305 {xs : List Int} {κ : aK} {D : Nat → Nat → Int} {i : Nat} (hi : i + 6 ≤ xs.length) (hl : xs.length ≤ 3072) (h : Inv κ D) : ∃ κ1 D1, Inv κ1 D1 ∧ ev xs 1300 mm_321 1305 [some (.inr (.inr (-2))), some (.inr (.inr 0)), some (.inr (.inr 256)), some (.inl ((i : Nat) : Int))] [] (κ, D) = ev xs 1300 mm_321 18 [some (.inr (.inr (-2))), some (.inr (.inr 0)), some (.inr (.inr 256)), some (.inl ((i + 6 : Nat) : Int))] [] (κ1, D1) := by
  obtain ⟨x, κ1, D1, D2, e1, hs, e2, h2⟩ := bq_left (xs := xs) h (xs.getD (i + 1) 0)
  refine ⟨κ1, D2, h2, ?_⟩
  have a1 : w32 (((i : Nat) : Int) + 1) = ((i + 1 : Nat) : Int) := lwa (k := 1) (by omega)
  have a2 : w32 (((i : Nat) : Int) + 2) = ((i + 2 : Nat) : Int) := lwa (k := 2) (by omega)
  have a3 : w32 (((i : Nat) : Int) + 3) = ((i + 3 : Nat) : Int) := lwa (k := 3) (by omega)
  have a4 : w32 (((i : Nat) : Int) + 4) = ((i + 4 : Nat) : Int) := lwa (k := 4) (by omega)
  have a5 : w32 (((i : Nat) : Int) + 5) = ((i + 5 : Nat) : Int) := lwa (k := 5) (by omega)
  have a6 : w32 (((i : Nat) : Int) + 6) = ((i + 6 : Nat) : Int) := lwa (k := 6) (by omega)
  have k0 : aok κ 0 11 = true := kc_0 h.shp
  have k2 : aok κ1 256 12 = true := k_256 hs
  rw [q_321_1305]
  simp (disch := omega) only [dm2, decide_true, a1, a2, a3, a4, a5, a6, dT, Bool.and_true, Bool.true_and, cond_true, cond_false, Int.toNat_natCast, k0, e1, bI_s, k2, e2]
theorem lc_1328 {xs : List Int} {κ : aK} {D : Nat → Nat → Int} {i : Nat} (hi : i + 6 ≤ xs.length) (hl : xs.length ≤ 3072) (h : Inv κ D) : ∃ κ1 D1, Inv κ1 D1 ∧ ev xs 1300 mm_321 1328 [some (.inr (.inr (-2))), some (.inr (.inr 0)), some (.inr (.inr 256)), some (.inl ((i : Nat) : Int))] [] (κ, D) = ev xs 1300 mm_321 18 [some (.inr (.inr (-2))), some (.inr (.inr 0)), some (.inr (.inr 256)), some (.inl ((i + 6 : Nat) : Int))] [] (κ1, D1) := by
  obtain ⟨x, κ1, D1, D2, e1, hs, e2, h2⟩ := bd_hold (xs := xs) h (xs.getD (i + 1) 0)
  refine ⟨κ1, D2, h2, ?_⟩
  have a1 : w32 (((i : Nat) : Int) + 1) = ((i + 1 : Nat) : Int) := lwa (k := 1) (by omega)
  have a2 : w32 (((i : Nat) : Int) + 2) = ((i + 2 : Nat) : Int) := lwa (k := 2) (by omega)
  have a3 : w32 (((i : Nat) : Int) + 3) = ((i + 3 : Nat) : Int) := lwa (k := 3) (by omega)
  have a4 : w32 (((i : Nat) : Int) + 4) = ((i + 4 : Nat) : Int) := lwa (k := 4) (by omega)
  have a5 : w32 (((i : Nat) : Int) + 5) = ((i + 5 : Nat) : Int) := lwa (k := 5) (by omega)
  have a6 : w32 (((i : Nat) : Int) + 6) = ((i + 6 : Nat) : Int) := lwa (k := 6) (by omega)
  have k0 : aok κ 0 11 = true := kc_0 h.shp
  have k2 : aok κ1 256 12 = true := k_256 hs
  rw [q_321_1328]
  simp (disch := omega) only [dm2, decide_true, a1, a2, a3, a4, a5, a6, dT, Bool.and_true, Bool.true_and, cond_true, cond_false, Int.toNat_natCast, k0, e1, bI_s, k2, e2]
theorem lc_1351 {xs : List Int} {κ : aK} {D : Nat → Nat → Int} {i : Nat} (hi : i + 6 ≤ xs.length) (hl : xs.length ≤ 3072) (h : Inv κ D) : ∃ κ1 D1, Inv κ1 D1 ∧ ev xs 1300 mm_321 1351 [some (.inr (.inr (-2))), some (.inr (.inr 0)), some (.inr (.inr 256)), some (.inl ((i : Nat) : Int))] [] (κ, D) = ev xs 1300 mm_321 18 [some (.inr (.inr (-2))), some (.inr (.inr 0)), some (.inr (.inr 256)), some (.inl ((i + 6 : Nat) : Int))] [] (κ1, D1) := by
  obtain ⟨x, κ1, D1, D2, e1, hs, e2, h2⟩ := bd_restore (xs := xs) h (xs.getD (i + 1) 0)
  refine ⟨κ1, D2, h2, ?_⟩
  have a1 : w32 (((i : Nat) : Int) + 1) = ((i + 1 : Nat) : Int) := lwa (k := 1) (by omega)
  have a2 : w32 (((i : Nat) : Int) + 2) = ((i + 2 : Nat) : Int) := lwa (k := 2) (by omega)
  have a3 : w32 (((i : Nat) : Int) + 3) = ((i + 3 : Nat) : Int) := lwa (k := 3) (by omega)
  have a4 : w32 (((i : Nat) : Int) + 4) = ((i + 4 : Nat) : Int) := lwa (k := 4) (by omega)
  have a5 : w32 (((i : Nat) : Int) + 5) = ((i + 5 : Nat) : Int) := lwa (k := 5) (by omega)
  have a6 : w32 (((i : Nat) : Int) + 6) = ((i + 6 : Nat) : Int) := lwa (k := 6) (by omega)
  have k0 : aok κ 0 11 = true := kc_0 h.shp
  have k2 : aok κ1 256 12 = true := k_256 hs
  rw [q_321_1351]
  simp (disch := omega) only [dm2, decide_true, a1, a2, a3, a4, a5, a6, dT, Bool.and_true, Bool.true_and, cond_true, cond_false, Int.toNat_natCast, k0, e1, bI_s, k2, e2]
theorem lc_1374 {xs : List Int} {κ : aK} {D : Nat → Nat → Int} {i : Nat} (hi : i + 6 ≤ xs.length) (hl : xs.length ≤ 3072) (h : Inv κ D) : ∃ κ1 D1, Inv κ1 D1 ∧ ev xs 1300 mm_321 1374 [some (.inr (.inr (-2))), some (.inr (.inr 0)), some (.inr (.inr 256)), some (.inl ((i : Nat) : Int))] [] (κ, D) = ev xs 1300 mm_321 18 [some (.inr (.inr (-2))), some (.inr (.inr 0)), some (.inr (.inr 256)), some (.inl ((i + 6 : Nat) : Int))] [] (κ1, D1) := by
  obtain ⟨x, κ1, D1, D2, e1, hs, e2, h2⟩ := bq_count (xs := xs) h (xs.getD (i + 1) 0)
  refine ⟨κ1, D2, h2, ?_⟩
  have a1 : w32 (((i : Nat) : Int) + 1) = ((i + 1 : Nat) : Int) := lwa (k := 1) (by omega)
  have a2 : w32 (((i : Nat) : Int) + 2) = ((i + 2 : Nat) : Int) := lwa (k := 2) (by omega)
  have a3 : w32 (((i : Nat) : Int) + 3) = ((i + 3 : Nat) : Int) := lwa (k := 3) (by omega)
  have a4 : w32 (((i : Nat) : Int) + 4) = ((i + 4 : Nat) : Int) := lwa (k := 4) (by omega)
  have a5 : w32 (((i : Nat) : Int) + 5) = ((i + 5 : Nat) : Int) := lwa (k := 5) (by omega)
  have a6 : w32 (((i : Nat) : Int) + 6) = ((i + 6 : Nat) : Int) := lwa (k := 6) (by omega)
  have k0 : aok κ 0 11 = true := kc_0 h.shp
  have k2 : aok κ1 256 12 = true := k_256 hs
  rw [q_321_1374]
  simp (disch := omega) only [dm2, decide_true, a1, a2, a3, a4, a5, a6, dT, Bool.and_true, Bool.true_and, cond_true, cond_false, Int.toNat_natCast, k0, e1, bI_s, k2, e2]
theorem lc_1397 {xs : List Int} {κ : aK} {D : Nat → Nat → Int} {i : Nat} (hi : i + 6 ≤ xs.length) (hl : xs.length ≤ 3072) (h : Inv κ D) : ∃ κ1 D1, Inv κ1 D1 ∧ ev xs 1300 mm_321 1397 [some (.inr (.inr (-2))), some (.inr (.inr 0)), some (.inr (.inr 256)), some (.inl ((i : Nat) : Int))] [] (κ, D) = ev xs 1300 mm_321 18 [some (.inr (.inr (-2))), some (.inr (.inr 0)), some (.inr (.inr 256)), some (.inl ((i + 6 : Nat) : Int))] [] (κ1, D1) := by
  refine ⟨κ, D, h, ?_⟩
  have a6 : w32 (((i : Nat) : Int) + 6) = ((i + 6 : Nat) : Int) := lwa (k := 6) (by omega)
  rw [q_321_1397, a6]
