/-! The law: its loop. -/
theorem oand63 (x : Int) : ∃ m : Nat, m < 64 ∧ oand x 63 = ((m : Nat) : Int) := by
  refine ⟨((Int32.ofInt x).toBitVec &&& 63#32).toNat, ?_, ?_⟩
  · rw [BitVec.toNat_and]
    exact Nat.lt_of_le_of_lt Nat.and_le_right (by decide)
  · unfold oand
    refine i32_of_nat _ ?_ ?_
    · rfl
    · rw [BitVec.toNat_and]
      exact Nat.lt_of_le_of_lt Nat.and_le_right (by decide)
set_option maxRecDepth 100000 in
theorem law_sw : ∀ m, m < 64 → asw 33 1364 0 40 #[179, 242, 265, 278, 291, 324, 357, 400, 423, 456, 479, 502, 525, 558, 581, 604, 627, 640, 673, 706, 755, 778, 811, 834, 893, 916, 949, 972, 1015, 1048, 1081, 1104, 1137, 1170, 1213, 1236, 1249, 1272, 1295, 1318, 1341] ((m : Nat) : Int) ∈ [212, 275, 298, 311, 324, 357, 390, 433, 456, 489, 512, 535, 558, 591, 614, 637, 660, 673, 706, 739, 788, 811, 844, 867, 926, 949, 982, 1005, 1048, 1081, 1114, 1137, 1170, 1203, 1246, 1269, 1282, 1305, 1328, 1351, 1374, 1397] := by decide +kernel
theorem law_step {xs : List Int} {κ : aK} {D : Nat → Nat → Int} {i : Nat} (hi : i + 6 ≤ xs.length) (hl : xs.length ≤ 3072) (h : Inv κ D) : ∃ κ1 D1, Inv κ1 D1 ∧ ev xs 1300 mm_321 18 [some (.inr (.inr (-2))), some (.inr (.inr 0)), some (.inr (.inr 256)), some (.inl ((i : Nat) : Int))] [] (κ, D) = ev xs 1300 mm_321 18 [some (.inr (.inr (-2))), some (.inr (.inr 0)), some (.inr (.inr 256)), some (.inl ((i + 6 : Nat) : Int))] [] (κ1, D1) := by
  have a0 : w32 ((xs.length : Int) - 6) = (xs.length : Int) - 6 := w32_id (by omega) (by omega)
  obtain ⟨m, hm, e⟩ := oand63 (xs.getD i 0)
  have hp := law_sw m hm
  rw [← e] at hp
  have st : ev xs 1300 mm_321 18 [some (.inr (.inr (-2))), some (.inr (.inr 0)), some (.inr (.inr 256)), some (.inl ((i : Nat) : Int))] [] (κ, D) = ev xs 1300 mm_321 (asw 33 1364 0 40 #[179, 242, 265, 278, 291, 324, 357, 400, 423, 456, 479, 502, 525, 558, 581, 604, 627, 640, 673, 706, 755, 778, 811, 834, 893, 916, 949, 972, 1015, 1048, 1081, 1104, 1137, 1170, 1213, 1236, 1249, 1272, 1295, 1318, 1341] (oand (xs.getD i 0) 63)) [some (.inr (.inr (-2))), some (.inr (.inr 0)), some (.inr (.inr 256)), some (.inl ((i : Nat) : Int))] [] (κ, D) := by
    rw [q_321_18]
    simp (disch := omega) only [dm2, decide_true, a0, dT, dF, Bool.and_true, Bool.true_and, cond_true, cond_false, Int.toNat_natCast]
  rw [st]
  generalize asw 33 1364 0 40 #[179, 242, 265, 278, 291, 324, 357, 400, 423, 456, 479, 502, 525, 558, 581, 604, 627, 640, 673, 706, 755, 778, 811, 834, 893, 916, 949, 972, 1015, 1048, 1081, 1104, 1137, 1170, 1213, 1236, 1249, 1272, 1295, 1318, 1341] (oand (xs.getD i 0) 63) = p at hp ⊢
  simp only [List.mem_cons, List.not_mem_nil, or_false] at hp
  rcases hp with rfl | rfl | rfl | rfl | rfl | rfl | rfl | rfl | rfl | rfl | rfl | rfl | rfl | rfl | rfl | rfl | rfl | rfl | rfl | rfl | rfl | rfl | rfl | rfl | rfl | rfl | rfl | rfl | rfl | rfl | rfl | rfl | rfl | rfl | rfl | rfl | rfl | rfl | rfl | rfl | rfl | rfl
  · exact lc_212 hi hl h
  · exact lc_275 hi hl h
  · exact lc_298 hi hl h
  · exact lc_311 hi hl h
  · exact lc_324 hi hl h
  · exact lc_357 hi hl h
  · exact lc_390 hi hl h
  · exact lc_433 hi hl h
  · exact lc_456 hi hl h
  · exact lc_489 hi hl h
  · exact lc_512 hi hl h
  · exact lc_535 hi hl h
  · exact lc_558 hi hl h
  · exact lc_591 hi hl h
  · exact lc_614 hi hl h
  · exact lc_637 hi hl h
  · exact lc_660 hi hl h
  · exact lc_673 hi hl h
  · exact lc_706 hi hl h
  · exact lc_739 hi hl h
  · exact lc_788 hi hl h
  · exact lc_811 hi hl h
  · exact lc_844 hi hl h
  · exact lc_867 hi hl h
  · exact lc_926 hi hl h
  · exact lc_949 hi hl h
  · exact lc_982 hi hl h
  · exact lc_1005 hi hl h
  · exact lc_1048 hi hl h
  · exact lc_1081 hi hl h
  · exact lc_1114 hi hl h
  · exact lc_1137 hi hl h
  · exact lc_1170 hi hl h
  · exact lc_1203 hi hl h
  · exact lc_1246 hi hl h
  · exact lc_1269 hi hl h
  · exact lc_1282 hi hl h
  · exact lc_1305 hi hl h
  · exact lc_1328 hi hl h
  · exact lc_1351 hi hl h
  · exact lc_1374 hi hl h
  · exact lc_1397 hi hl h
theorem Inv.room {κ : aK} {D : Nat → Nat → Int} (h : Inv κ D) : κ.1 ≤ 600000 ∧ κ.2.1 ≤ 7302250 := by
  obtain ⟨t, t', v, X, S, n, H, Hd, tn, f, pl, hA, htn, hf, hC, hR, hm1, hm2⟩ := h
  exact ⟨by omega, by omega⟩
theorem law_loop {xs : List Int} (hl : xs.length ≤ 3072) : ∀ (m i : Nat) (κ : aK) (D : Nat → Nat → Int), xs.length ≤ i + m → i ≤ 3078 → Inv κ D → ∃ h' : aH, ev xs 1300 mm_321 18 [some (.inr (.inr (-2))), some (.inr (.inr 0)), some (.inr (.inr 256)), some (.inl ((i : Nat) : Int))] [] (κ, D) = some (some (.inl 1), h') ∧ h'.1.1 ≤ 600000 ∧ h'.1.2.1 ≤ 7302250 := by
  intro m
  induction m using Nat.strongRecOn with
  | ind m ih =>
    intro i κ D hm hi h
    by_cases hq : i + 6 ≤ xs.length
    · obtain ⟨κ1, D1, h1, e1⟩ := law_step hq hl h
      obtain ⟨h', e2, r1, r2⟩ := ih (m - 6) (by omega) (i + 6) κ1 D1 (by omega) (by omega) h1
      exact ⟨h', e1.trans e2, r1, r2⟩
    · refine ⟨(κ, D), ?_, h.room.1, h.room.2⟩
      have a0 : w32 ((xs.length : Int) - 6) = (xs.length : Int) - 6 := w32_id (by omega) (by omega)
      rw [q_321_18]
      simp (disch := omega) only [dm2, decide_true, a0, dT, cond_true]
