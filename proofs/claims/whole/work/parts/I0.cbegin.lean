/-! The class reads: a text begins. -/
theorem cbegin_loop (xs : List Int) (d : Nat) {κ : aK} {D : Nat → Nat → Int} (hκ : Shp κ) (hc : CPtr D) {c : Nat} (hs : isS c) (u1 : Int) : ∀ (m i : Nat) (g : Nat → Int), i + m = 7 → (∀ j, j < i → g j = (j : Int)) → ∃ g' : Nat → Int, (∀ j, j < 7 → g' j = (j : Int)) ∧ ev xs d mm_73 16 [some (.inr (.inr (c : Int))), some (.inr (.inr u1)), some (.inl (i : Int))] [] (κ, setc D (c + 1) g) = ev xs d mm_73 16 [some (.inr (.inr (c : Int))), some (.inr (.inr u1)), some (.inl ((7 : Nat) : Int))] [] (κ, setc D (c + 1) g')
  | 0, i, g, hi, hg => by
    have : i = 7 := by omega
    subst this
    exact ⟨g, hg, rfl⟩
  | m + 1, i, g, hi, hg => by
    have hc' := hc.setc (isS_c hs).1 g
    have k0 := sk_0 hκ hs
    have p1 := sp_1 hc' hs
    obtain ⟨g', e1, e2⟩ := cbegin_loop xs d hκ hc hs u1 m (i + 1) (fun j => if j = i then (i : Int) else g j) (by omega) (fun j hj => by
      by_cases e : j = i
      · rw [if_pos e, e]
      · rw [if_neg e]; exact hg j (by omega))
    refine ⟨g', e1, ?_⟩
    rw [← e2, q_73_16]
    simp (disch := omega) only [cond_true, cond_false, k0, Int.toNat_natCast, Int.reduceToNat, dT, dF, p1, sn_1 hκ hs, aup_setc, w_al]
theorem begin_eq (xs : List Int) (d : Nat) {κ : aK} {D : Nat → Nat → Int} (hκ : Shp κ) (hc : CPtr D) {c : Nat} (hs : isS c) {t : Nat} (ht : isT t) {X : TX} (hX : TXok X) (hx : TxC D t X) : ∃ E, cl xs (d + 2) 73 [.inr (.inr (c : Int)), .inr (.inr (t : Int))] (κ, D) = some (none, (κ, E)) ∧ StC E c X (S0 X) ∧ CPtr E ∧ (∀ q, q < c ∨ c + 4 < q → E q = D q) := by
  have hl := isS_lt hs
  have ht' : t = 9 ∨ t = 31 := ht
  have x1 := hX.1.1
  have x2 := hX.2.1.1
  obtain ⟨z1, z2, z3, z4, z5, z6, z7, z8, z9⟩ := isS_c hs
  have h1 : CPtr (aup D c 0 ((2 ^ xns X - 1 : Nat) : Int)) := hc.up z5 _
  obtain ⟨g, g1, g2⟩ := cbegin_loop xs (d + 1) hκ h1 hs (t : Int) 7 0 (aup D c 0 ((2 ^ xns X - 1 : Nat) : Int) (c + 1)) rfl (fun j hj => absurd hj (Nat.not_lt_zero j))
  rw [setc_id] at g2
  have h2 := h1.setc z1 g
  have kt : KT (t + 12) = (101, 10) := by rcases ht' with e | e <;> (rw [e]; rfl)
  have al : aln κ ((t + 12 : Nat) : Int) = 10 := aln_s hκ (t + 12) (by omega) kt
  have bb := bitsBelow_eq xs d (κ, D) (n := xns X) (by omega)
  have hns : D (t + 3) 0 = (xns X : Int) := hx.1.1
  have st : cl xs (d + 2) 73 [.inr (.inr (c : Int)), .inr (.inr (t : Int))] (κ, D) = ev xs (d + 1) mm_73 16 [some (.inr (.inr (c : Int))), some (.inr (.inr (t : Int))), some (.inl ((7 : Nat) : Int))] [] (κ, setc (aup D c 0 ((2 ^ xns X - 1 : Nat) : Int)) (c + 1) g) := by
    rw [← g2, c_73]
    simp (disch := omega) only [cond_true, cond_false, sk_0 hκ hs, tk_0 hκ ht, tk_3 hκ ht, Int.toNat_natCast, Int.reduceToNat, tp_0_3 hc ht, hns, bb, bI_s]
    rfl
  generalize hD1 : setc (aup D c 0 ((2 ^ xns X - 1 : Nat) : Int)) (c + 1) g = D1 at *
  have d1 : ∀ q, q ≠ c → q ≠ c + 1 → D1 q = D q := fun q q1 q2 => by rw [← hD1, setc_ne q2, aupN q1]
  have d2 : D1 (c + 1) = g := by rw [← hD1, setc_self]
  have d3 : D1 c 0 = ((2 ^ xns X - 1 : Nat) : Int) := by rw [← hD1, setc_ne (by omega), aupE]
  have h3 := h2.setc z2 (acpy (D1 (t + 12)) (D1 (c + 2)) 0 0 10)
  have f1 := fillI_eq xs d (D := setc D1 (c + 2) (acpy (D1 (t + 12)) (D1 (c + 2)) 0 0 10)) hκ (c + 3) (by omega) (isS_t hs).2.2.2.1 (by decide) 0
  have h4 := h3.setc z3 (cpn 10 (fun _ => 0) (setc D1 (c + 2) (acpy (D1 (t + 12)) (D1 (c + 2)) 0 0 10) (c + 3)))
  generalize hD2 : setc (setc D1 (c + 2) (acpy (D1 (t + 12)) (D1 (c + 2)) 0 0 10)) (c + 3) (cpn 10 (fun _ => 0) (setc D1 (c + 2) (acpy (D1 (t + 12)) (D1 (c + 2)) 0 0 10) (c + 3))) = D2 at *
  have f2 := fillI_eq xs d (D := D2) hκ (c + 4) (by omega) (isS_t hs).2.2.2.2 (by decide) 0
  have h5 := h4.setc z4 (cpn 24 (fun _ => 0) (D2 (c + 4)))
  have e1 : ∀ q, q ≠ c + 2 → q ≠ c + 3 → D2 q = D1 q := fun q q1 q2 => by rw [← hD2, setc_ne q2, setc_ne q1]
  have e2 : D2 (c + 2) = acpy (D1 (t + 12)) (D1 (c + 2)) 0 0 10 := by rw [← hD2, setc_ne (by omega), setc_self]
  have e3 : ∀ j, j < 10 → D2 (c + 3) j = 0 := fun j hj => by rw [← hD2, setc_self, cpn_at hj]
  generalize hD3 : setc D2 (c + 4) (cpn 24 (fun _ => 0) (D2 (c + 4))) = D3 at *
  have i1 : ∀ q, q ≠ c + 4 → D3 q = D2 q := fun q q1 => by rw [← hD3, setc_ne q1]
  have i2 : ∀ j, j < 24 → D3 (c + 4) j = 0 := fun j hj => by rw [← hD3, setc_self, cpn_at hj]
  have fr : ∀ q, q ≠ c → aup (aup (aup (aup D3 c 5 0) c 6 0) c 7 0) c 8 0 q = D3 q := fun q hq => by rw [aupN hq, aupN hq, aupN hq, aupN hq]
  refine ⟨aup (aup (aup (aup D3 c 5 0) c 6 0) c 7 0) c 8 0, ?_, ⟨?_, fun k hk => ?_, fun w hw => ?_, fun w hw => ?_, fun i hi => ?_, ?_, ?_, ?_, ?_⟩, (((h5.up z6 _).up z7 _).up z8 _).up z9 _, fun q hq => ?_⟩
  · have b7 : decide ((7 : Int) ≤ ((7 : Nat) : Int)) = true := rfl
    have p2 := sp_2 h2 hs
    skip
    have p4 := sp_4 h4 hs
    have q6 := tp_0_6 h2 ht
    rw [st, q_73_16]
    simp (disch := omega) only [b7, cond_true, cond_false, Bool.and_true, Bool.true_and, sk_0 hκ hs, sk_2 hκ hs, tk_0 hκ ht, tk_12 hκ ht, Int.toNat_natCast, Int.reduceToNat, dT, dF, Int.toNat_zero, p2, q6, al, sl_1 hκ hs, sl_2 hκ hs, sl_3 hκ hs, sl_4 hκ hs, setc_fold, iT, iF, sp_3 h2 hs, f1, bV_s, p4, f2]
    rw [q_73_71]
    simp (disch := omega) only [cond_true, sk_0 hκ hs, Int.toNat_natCast]
    rw [q_73_86]
  · rw [aupJ (by decide), aupJ (by decide), aupJ (by decide), aupJ (by decide), i1 c (by omega), e1 c (by omega) (by omega)]; exact d3
  · rw [fr _ (by omega), i1 _ (by omega), e1 _ (by omega) (by omega), d2]; exact g1 k (by omega)
  · rw [fr _ (by omega), i1 _ (by omega), e2]
    unfold acpy
    rw [if_pos (by omega), d1 _ (by omega) (by omega), Nat.zero_add, Nat.sub_zero]
    exact hx.2.1.2 w hw
  · rw [fr _ (by omega), i1 _ (by omega)]; exact e3 w (by omega)
  · rw [fr _ (by omega)]; exact i2 i hi
  · rw [aupJ (by decide), aupJ (by decide), aupJ (by decide), aupE]; rfl
  · rw [aupJ (by decide), aupJ (by decide), aupE]; rfl
  · rw [aupJ (by decide), aupE]; rfl
  · rw [aupE]; rfl
  · rw [fr _ (by omega), i1 _ (by omega), e1 _ (by omega) (by omega), d1 _ (by omega) (by omega)]
