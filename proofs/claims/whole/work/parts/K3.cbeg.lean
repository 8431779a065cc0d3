/-! The class is made: its first text, of nothing, begins. -/
theorem kd_oa {h : aH} {r c n : Nat} (hk : kd h r c n) (hc : 100 ≤ c) : aoa h.1 ((r : Nat) : Int) = true := aoa_g hk.1 hk.2 hc
theorem kd_ln {h : aH} {r c n : Nat} (hk : kd h r c n) : aln h.1 ((r : Nat) : Int) = n := by
  unfold aln
  rw [Int.toNat_natCast, hk.2]
theorem fill_g (xs : List Int) (d : Nat) {κ : aK} {D : Nat → Nat → Int} {r n : Nat} (hk : kd (κ, D) r 100 n) (hn : n < 100000) (x : Int) : ∀ (m i : Nat) (g : Nat → Int), i + m = n → (∀ j, j < i → g j = x) → ∃ g' : Nat → Int, (∀ j, j < n → g' j = x) ∧ ev xs d mm_318 5 [some (.inr (.inr ((r : Nat) : Int))), some (.inl x), some (.inl ((i : Nat) : Int)), some (.inl ((n : Nat) : Int))] [] (κ, setc D r g) = some (none, (κ, setc D r g'))
  | 0, i, g, hi, hg => by
    refine ⟨g, fun j hj => hg j (by omega), ?_⟩
    rw [q_318_5]
    simp (disch := omega) only [dT, cond_true]
  | m + 1, i, g, hi, hg => by
    obtain ⟨g', e1, e2⟩ := fill_g xs d hk hn x m (i + 1) (fun j => if j = i then x else g j) (by omega) (fun j hj => by
      by_cases e : j = i
      · rw [if_pos e]
      · rw [if_neg e]; exact hg j (by omega))
    refine ⟨g', e1, ?_⟩
    have k1 : ain κ ((r : Nat) : Int) 100 ((i : Nat) : Int) = true := kd_in hk (by omega)
    rw [← e2, q_318_5]
    simp (disch := omega) only [dF, cond_false, cond_true, k1, Int.toNat_natCast, aup_setc, w_al]
theorem fill_c (xs : List Int) (d : Nat) {κ : aK} {D : Nat → Nat → Int} {r n : Nat} (hk : kd (κ, D) r 100 n) (hn : n < 100000) (x : Int) : ∃ g' : Nat → Int, (∀ j, j < n → g' j = x) ∧ cl xs (d + 1) 318 [.inr (.inr ((r : Nat) : Int)), .inl x] (κ, D) = some (none, (κ, setc D r g')) := by
  obtain ⟨g', e1, e2⟩ := fill_g xs d hk hn x n 0 (D r) (by omega) (fun j hj => absurd hj (Nat.not_lt_zero j))
  rw [setc_id] at e2
  refine ⟨g', e1, ?_⟩
  have a1 : aoa κ ((r : Nat) : Int) = true := kd_oa hk (Nat.le_refl _)
  have a2 : aln κ ((r : Nat) : Int) = n := kd_ln hk
  rw [← e2, c_318]
  simp only [a1, a2, cond_true]
  rfl
theorem ord_g (xs : List Int) (d : Nat) {κ : aK} {D : Nat → Nat → Int} (k53 : kd (κ, D) 53 6 9) (k54 : kd (κ, D) 54 100 7) (p1 : D 53 1 = ((54 : Nat) : Int)) (u1 : Int) : ∀ (m i : Nat) (g : Nat → Int), i + m = 7 → ∃ g' : Nat → Int, ev xs d mm_73 16 [some (.inr (.inr ((53 : Nat) : Int))), some (.inr (.inr u1)), some (.inl ((i : Nat) : Int))] [] (κ, setc D 54 g) = ev xs d mm_73 16 [some (.inr (.inr ((53 : Nat) : Int))), some (.inr (.inr u1)), some (.inl ((7 : Nat) : Int))] [] (κ, setc D 54 g')
  | 0, i, g, hi => by
    have : i = 7 := by omega
    subst this
    exact ⟨g, rfl⟩
  | m + 1, i, g, hi => by
    obtain ⟨g', e2⟩ := ord_g xs d k53 k54 p1 u1 m (i + 1) (fun j => if j = i then ((i : Nat) : Int) else g j) (by omega)
    refine ⟨g', ?_⟩
    have k1 : aok κ ((53 : Nat) : Int) 6 = true := kd_ok k53
    have k2 : ain κ ((54 : Nat) : Int) 100 ((i : Nat) : Int) = true := kd_in k54 (by omega)
    have p1' : setc D 54 g 53 1 = ((54 : Nat) : Int) := by rw [setc_ne (by decide)]; exact p1
    rw [← e2, q_73_16]
    simp (disch := omega) only [dF, cond_false, cond_true, k1, Int.toNat_natCast, p1', k2, aup_setc, w_al]
theorem beg0 (xs : List Int) (d : Nat) {κ : aK} {D : Nat → Nat → Int} (k53 : kd (κ, D) 53 6 9) (k54 : kd (κ, D) 54 100 7) (k55 : kd (κ, D) 55 101 10) (k56 : kd (κ, D) 56 100 10) (k57 : kd (κ, D) 57 100 24) (k9 : kd (κ, D) 9 9 16) (k12 : kd (κ, D) 12 7 5) (k21 : kd (κ, D) 21 101 10) (p1 : D 53 1 = ((54 : Nat) : Int)) (p2 : D 53 2 = ((55 : Nat) : Int)) (p3 : D 53 3 = ((56 : Nat) : Int)) (p4 : D 53 4 = ((57 : Nat) : Int)) (q3 : D 9 3 = ((12 : Nat) : Int)) (q6 : D 9 6 = ((21 : Nat) : Int)) (z : D 12 0 = ((0 : Nat) : Int)) : ∃ E, cl xs (d + 2) 73 [.inr (.inr ((53 : Nat) : Int)), .inr (.inr ((9 : Nat) : Int))] (κ, D) = some (none, (κ, E)) ∧ (∀ q, q < 53 ∨ 57 < q → E q = D q) ∧ (∀ j, 1 ≤ j → j ≤ 4 → E 53 j = D 53 j) ∧ (E 53 0 = 0 ∧ E 53 5 = 0 ∧ E 53 6 = 0 ∧ E 53 7 = 0 ∧ E 53 8 = 0) ∧ ∀ i, i < 24 → E 57 i = 0 := by
  have bb := bitsBelow_eq xs d (κ, D) (n := 0) (by omega)
  have a53 : aok κ ((53 : Nat) : Int) 6 = true := kd_ok k53
  have a9 : aok κ ((9 : Nat) : Int) 9 = true := kd_ok k9
  have a12 : aok κ ((12 : Nat) : Int) 7 = true := kd_ok k12
  have a21 : aok κ ((21 : Nat) : Int) 101 = true := kd_ok k21
  have a55 : aok κ ((55 : Nat) : Int) 101 = true := kd_ok k55
  have l21 : aln κ ((21 : Nat) : Int) = 10 := kd_ln k21
  have l55 : aln κ ((55 : Nat) : Int) = 10 := kd_ln k55
  obtain ⟨g, g2⟩ := ord_g xs (d + 1) (D := aup D 53 0 0) k53 k54 ((aupJ (by decide)).trans p1) ((9 : Nat) : Int) 7 0 (aup D 53 0 0 54) rfl
  rw [setc_id] at g2
  have st : cl xs (d + 2) 73 [.inr (.inr ((53 : Nat) : Int)), .inr (.inr ((9 : Nat) : Int))] (κ, D) = ev xs (d + 1) mm_73 16 [some (.inr (.inr ((53 : Nat) : Int))), some (.inr (.inr ((9 : Nat) : Int))), some (.inl ((7 : Nat) : Int))] [] (κ, setc (aup D 53 0 0) 54 g) := by
    rw [← g2, c_73]
    simp only [cond_true, a9, Int.toNat_natCast, q3, a12, z, bb, bI_s, a53]
    rfl
  generalize hD1 : setc (aup D 53 0 0) 54 g = D1 at *
  have f1 : ∀ q, q ≠ 53 → q ≠ 54 → D1 q = D q := fun q q1 q2 => by rw [← hD1, setc_ne q2, aupN q1]
  have f53 : ∀ j, j ≠ 0 → D1 53 j = D 53 j := fun j hj => by rw [← hD1, setc_ne (by decide), aupJ hj]
  have f530 : D1 53 0 = 0 := by rw [← hD1, setc_ne (by decide), aupE]
  generalize hF : acpy (D1 21) (D1 55) 0 0 10 = F
  obtain ⟨u, u1, u2⟩ := fill_c xs d (D := setc D1 55 F) (r := 56) (κ := κ) k56 (by decide) 0
  obtain ⟨w, w1, w2⟩ := fill_c xs d (D := setc (setc D1 55 F) 56 u) (r := 57) (κ := κ) k57 (by decide) 0
  have r6 : D1 9 6 = ((21 : Nat) : Int) := by rw [f1 9 (by decide) (by decide)]; exact q6
  have r2 : D1 53 2 = ((55 : Nat) : Int) := by rw [f53 2 (by decide)]; exact p2
  have r3 : setc D1 55 F 53 3 = ((56 : Nat) : Int) := by rw [setc_ne (by decide), f53 3 (by decide)]; exact p3
  have r4 : setc (setc D1 55 F) 56 u 53 4 = ((57 : Nat) : Int) := by rw [setc_ne (by decide), setc_ne (by decide), f53 4 (by decide)]; exact p4
  refine ⟨aup (aup (aup (aup (setc (setc (setc D1 55 F) 56 u) 57 w) 53 5 0) 53 6 0) 53 7 0) 53 8 0, ?_, fun q hq => ?_, fun j j1 j4 => ?_, ⟨?_, ?_, ?_, ?_, ?_⟩, fun i hi => ?_⟩
  · have b7 : decide ((7 : Int) ≤ ((7 : Nat) : Int)) = true := rfl
    rw [st, q_73_16]
    simp only [b7, cond_true, a9, a53, Int.toNat_natCast, r6, r2, a21, a55, l21, l55, Bool.true_and, Bool.and_true, Int.reduceToNat, setc_fold, hF]
    have r3' : D1 53 3 = ((56 : Nat) : Int) := by rw [f53 3 (by decide)]; exact p3
    simp only [show decide ((0 : Nat) ≤ 0) = true from rfl, show decide ((0 : Nat) ≤ 10) = true from rfl, show decide ((0 : Int) ≤ 0) = true from rfl, show decide ((0 : Int) ≤ 10) = true from rfl, if_neg (show ¬ (53 : Nat) = 55 by decide), r3', show decide (0 + 10 ≤ 10) = true from rfl, Bool.true_and, Bool.and_true, cond_true, r3, u2, bV_s, r4, w2, a53]
    rw [q_73_71]
    simp only [cond_true, a53, Int.toNat_natCast]
    rw [q_73_86]
  · have q1 : q ≠ 53 := by omega
    rw [aupN q1, aupN q1, aupN q1, aupN q1, setc_ne (by omega), setc_ne (by omega), setc_ne (by omega), f1 q q1 (by omega)]
  · rw [aupJ (by omega), aupJ (by omega), aupJ (by omega), aupJ (by omega), setc_ne (by decide), setc_ne (by decide), setc_ne (by decide), f53 j (by omega)]
  · rw [aupJ (by decide), aupJ (by decide), aupJ (by decide), aupJ (by decide), setc_ne (by decide), setc_ne (by decide), setc_ne (by decide)]; exact f530
  · rw [aupJ (by decide), aupJ (by decide), aupJ (by decide), aupE]
  · rw [aupJ (by decide), aupJ (by decide), aupE]
  · rw [aupJ (by decide), aupE]
  · rw [aupE]
  · rw [aupN (by decide), aupN (by decide), aupN (by decide), aupN (by decide), setc_self]; exact w1 i hi
def hA : aH := opA h00 0 11 20 (adf 11)
def hB : aH := lpA 64 256 3 3 (lpA 63 241 30 30 (o120 hA 0 1))
