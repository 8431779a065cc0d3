/-! The reference reads. -/
theorem rread (xs : List Int) (d : Nat) {κ : aK} {D : Nat → Nat → Int} (hκ : Shp κ) (hq : KyR D) {n : Nat} {f : Nat → Int} (hn : n ≤ 2000) (h2 : D 256 2 = (n : Int)) (hf : ∀ j, j < n → D 257 j = f j ∧ -128 ≤ f j ∧ f j ≤ 127) {v : Nat} {X : TX} {S : ST} {nn : Nat} {H : Nat → ST} {Hd : Nat → Option ST} (hX : TXok X) (h : RCore D v X S nn H Hd) (hl : LwR D v X) : ∃ E, cl xs (d + 8) 204 [.inr (.inr 256)] (κ, D) = some (some (.inl (rdF (tkT f n) : Int)), (κ, E)) ∧ E 256 2 = 0 ∧ E 256 17 = rdP (tkT f n) ∧ (∀ q, q < 256 ∨ q = 257 ∨ q = 263 → E q = D q) ∧ (¬ rdF (tkT f n) = 0 → RCore E v X S nn H Hd ∧ LwR E v X) ∧ (rdF (tkT f n) = 0 → TXok (rdX (tkT f n)) ∧ RCore E (1 - v) (rdX (tkT f n)) (S0 (rdX (tkT f n))) 0 (fun _ => S0 (rdX (tkT f n))) (fun _ => none) ∧ LwR E (1 - v) (rdX (tkT f n))) := by
  have k256 := k_256 hκ
  have hT := tkT_ok (f := f) hn
  obtain ⟨hp, e18, hv, e303, hx⟩ := h.1
  obtain ⟨E, v2, a1, a2, a3, a4, a5, a6, a7⟩ := r_upto xs d hκ hp hq hn h2 hf (v := v) (u := 1 - v) hv (by omega) (by omega) e18
  generalize hTT : tkT f n = T at *
  rw [a1, q_204_228]
  by_cases hr : (recG T).2 = 0
  · obtain ⟨b1, b2, b3⟩ := a7 hr
    have a5' : E 256 13 = 0 := by rw [a5, hr]; rfl
    by_cases hm : (menG T).2.1 = 0
    · have eF : rdF T = 0 := (if_pos hr).trans hm
      have eP : rdP T = -1 := (if_pos hr).trans (if_pos hm)
      have b1' : E 256 15 = 0 := by rw [b1, hm]; rfl
      obtain ⟨y1, y2, y3, y4⟩ := b3 hm
      have hY := ml_ok hT 401 (fun _ => 0) 0 Y0 (0, 0) Y0_ok ⟨rfl, rfl, rfl, rfl, rfl, rfl, rfl, rfl⟩ hr hm
      have hX' : TXok (rdX T) := hY.1
      have pE : PtrR E := hp.of (fun j hj => a2.2.1 j (pr_rf j hj))
      have pF : PtrR (aup (aup E 256 17 (-1)) 256 18 ((1 - v : Nat) : Int)) := pE.of (fun j hj => by rw [aupJ (prL_ne hj (by decide)), aupJ (prL_ne hj (by decide))])
      have tF : TxV (aup (aup E 256 17 (-1)) 256 18 ((1 - v : Nat) : Int)) (1 - v) (rdX T) := TxV.congr y1 (fun q q1 q2 => by rw [sid_q (by omega), aupN (by omega), aupN (by omega)]) (by rw [sid_18, aupE])
      obtain ⟨r, c1, c2⟩ := rbeg_eq xs (d + 6) hκ pF (v := 1 - v) (by omega) (aupE ..) hX' tF
      have pG := pF.setc (r := 302) (by decide) r
      have c3 := keepsRow_eq xs (d + 6) hκ pG
      rw [setc_self] at c3
      generalize hF : aup (aup E 256 17 (-1)) 256 18 ((1 - v : Nat) : Int) = F at *
      have f0 : ∀ q, q ≠ 256 → F q = E q := fun q hq' => by rw [← hF, aupN hq', aupN hq']
      have f17 : F 256 17 = -1 := by rw [← hF, aupJ (by decide), aupE]
      have f18 : F 256 18 = ((1 - v : Nat) : Int) := by rw [← hF, aupE]
      have f02 : F 256 2 = 0 := by rw [← hF, aupJ (by decide), aupJ (by decide)]; exact a3
      have pK := pG.setc (r := 301) (by decide) (cpn 60 r (setc F 302 r 301))
      have p83 := pr_83 pK
      generalize hK : setc (setc F 302 r) 301 (cpn 60 r (setc F 302 r 301)) = K at *
      have k0 : ∀ q, q ≠ 301 → q ≠ 302 → K q = F q := fun q q1 q2 => by rw [← hK, setc_ne q1, setc_ne q2]
      have k1 : K 301 = cpn 60 r (setc F 302 r 301) := by rw [← hK, setc_self]
      have hG : ∀ q, q ≠ 256 → q ≠ 313 → aup (aup (aup (aup K 256 70 0) 313 0 0) 313 1 0) 313 2 0 q = K q := fun q q1 q2 => by rw [aupN q2, aupN q2, aupN q2, aupN q1]
      have hG2 : ∀ j, j ≠ 70 → aup (aup (aup (aup K 256 70 0) 313 0 0) 313 1 0) 313 2 0 256 j = F 256 j := fun j hj => by rw [aupN (by decide), aupN (by decide), aupN (by decide), aupJ hj, k0 256 (by decide) (by decide)]
      refine ⟨aup (aup (aup (aup K 256 70 0) 313 0 0) 313 1 0) 313 2 0, ?_, by rw [hG2 2 (by decide)]; exact f02, by rw [hG2 17 (by decide), eP]; exact f17, fun q hq' => ?_, fun z => absurd eF z, fun _ => ⟨hX', ⟨⟨pF.of (fun j hj => hG2 j (prL_ne hj (by decide))), by rw [hG2 18 (by decide)]; exact f18, by omega, ?_, TxV.congr tF (fun q q1 q2 => by rw [hG q (by omega) (by omega), k0 q (by omega) (by omega)]) (hG2 18 (by decide))⟩, ?_, ⟨?_, Nat.zero_le _, fun i hi => absurd hi (Nat.not_lt_zero i)⟩, fun i hi => ⟨?_, fun S h => by cases h⟩⟩, y4.congr (fun q q1 q2 => by rw [hG q (by omega) (by omega), k0 q (by omega) (by omega), f0 q (by omega)]) rfl⟩⟩
      · simp (disch := omega) only [cond_true, cond_false, k256, Int.toNat_natCast, Int.reduceToNat, Bool.and_true, a5', b1', dT, dF]
        rw [q_204_258]
        simp (disch := omega) only [cond_true, cond_false, k256, Int.toNat_natCast, Int.reduceToNat, Bool.and_true, aup_ne, aupJ, a5', b1', a4, hF, dT, dF, c2, c3, bV_s]
        rw [q_204_306, q_204_308]
        have w1 : w32 ((0 : Int) + 1) = 1 := by decide
        have w2 : w32 ((1 : Int) + 1) = 2 := by decide
        have w3 : w32 ((2 : Int) + 1) = 3 := by decide
        simp (disch := omega) only [cond_true, cond_false, k256, Int.toNat_natCast, Int.reduceToNat, Bool.and_true, aup_ne, aupJ, p83, n_313 hκ, w1, dT, dF]
        rw [q_204_308]
        simp (disch := omega) only [cond_true, cond_false, k256, Int.toNat_natCast, Int.reduceToNat, Bool.and_true, aup_ne, aupJ, p83, n_313 hκ, w2, dT, dF]
        rw [q_204_308]
        simp (disch := omega) only [cond_true, cond_false, k256, Int.toNat_natCast, Int.reduceToNat, Bool.and_true, aup_ne, aupJ, p83, n_313 hκ, w3, dT, dF]
        rw [q_204_308, eF]
        rfl
      · rw [hG q (by omega) (by omega), k0 q (by omega) (by omega), f0 q (by omega)]
        exact a2.1 q (by omega) (by omega)
      · rw [hG 303 (by decide) (by decide), k0 303 (by decide) (by decide), f0 303 (by decide), a2.1 303 (by decide) (by omega)]
        exact e303
      · rw [hG 301 (by decide) (by decide), k1]
        exact c1.cpn hX'
      · rw [aupN (by decide), aupN (by decide), aupN (by decide), aupE]; rfl
      · rcases (show i = 0 ∨ i = 1 ∨ i = 2 by omega) with e | e | e
        · rw [e, aupJ (by decide), aupJ (by decide), aupE]; rfl
        · rw [e, aupJ (by decide), aupE]; rfl
        · rw [e, aupE]; rfl
    · have eF : rdF T = (menG T).2.1 := if_pos hr
      have eP : rdP T = ((menG T).2.2 : Int) := (if_pos hr).trans (if_neg hm)
      have e16 := b2 hm
      have fr := a2.fld (j := 17) (by decide) ((menG T).2.2 : Int)
      refine ⟨aup E 256 17 ((menG T).2.2 : Int), ?_, by rw [aupJ (by decide)]; exact a3, by rw [aupE, eP], fun q hq' => ?_, fun _ => ⟨h.rd hX fr, hl.sd fr.2.2⟩, fun z => absurd (eF.symm.trans z) hm⟩
      · simp (disch := omega) only [cond_true, cond_false, k256, Int.toNat_natCast, Int.reduceToNat, Bool.and_true, a5', b1, e16, dT, dF]
        rw [q_204_258, eF]
        simp (disch := omega) only [cond_true, cond_false, k256, Int.toNat_natCast, Int.reduceToNat, Bool.and_true, aup_ne, aupJ, a5', b1, dT, dF]
      · exact fr.1 q (by omega) (by omega)
  · have eF : rdF T = (recG T).2 := if_neg hr
    have eP : rdP T = (tkP (T (recG T).1) : Int) := if_neg hr
    have e14 := a6 hr
    have fr := a2.fld (j := 17) (by decide) (tkP (T (recG T).1) : Int)
    refine ⟨aup E 256 17 (tkP (T (recG T).1) : Int), ?_, by rw [aupJ (by decide)]; exact a3, by rw [aupE, eP], fun q hq' => ?_, fun _ => ⟨h.rd hX fr, hl.sd fr.2.2⟩, fun z => absurd (eF.symm.trans z) hr⟩
    · simp (disch := omega) only [cond_true, cond_false, k256, Int.toNat_natCast, Int.reduceToNat, Bool.and_true, a5, e14, dT, dF]
      rw [q_204_258, eF]
      simp (disch := omega) only [cond_true, cond_false, k256, Int.toNat_natCast, Int.reduceToNat, Bool.and_true, aup_ne, aupJ, a5, dT, dF]
    · exact fr.1 q (by omega) (by omega)
