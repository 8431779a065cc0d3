/-! The class reads. -/
theorem ScE.ptr {D E : Nat → Nat → Int} {T : Nat → TK} (h : ScE D E T) (hc : CPtr D) : CPtr E := by
  obtain ⟨p1, p2, p3, p4, _⟩ := pd_scan
  refine hc.congr (fun r k hr => ?_)
  have hc' := ptrd_c hr
  by_cases h2 : r = 2
  · subst h2
    refine h.2.2 k (fun e => ?_)
    subst e
    rw [p1] at hr
    cases hr
  · rw [h.2.1 r ?_]
    by_cases h3 : r = 3
    · subst h3; rw [p2] at hc'; cases hc'
    · by_cases h4 : r = 4
      · subst h4; rw [p3] at hc'; cases hc'
      · by_cases h5 : r = 5
        · subst h5; rw [p4] at hc'; cases hc'
        · omega
/-- what reading leaves, but for the text told into t -/
def RdC (D E : Nat → Nat → Int) (t : Nat) : Prop := (∀ q, q = 1 ∨ q = 6 ∨ 8 < q → q < t ∨ t + 21 < q → E q = D q) ∧ (∀ j, j ≠ 1 → j ≠ 2 → E 0 j = D 0 j) ∧ CPtr E
theorem c_upto (xs : List Int) (d : Nat) {κ : aK} {D : Nat → Nat → Int} (hκ : Shp κ) (hc : CPtr D) (hq : QwC D) {n : Nat} {f : Nat → Int} (hn : n ≤ 2000) (h1 : D 0 1 = (n : Int)) (hf : ∀ j, j < n → D 1 j = f j ∧ -128 ≤ f j ∧ f j ≤ 127) {t : Nat} (ht : isT t) (h6 : D 0 6 = (t : Int)) : ∃ E, cl xs (d + 12) 130 [.inr (.inr 0)] (κ, D) = ev xs (d + 11) mm_130 68 [some (.inr (.inr 0)), some (.inl (n : Int)), some (.inl (rdF (tkT f n) : Int)), none] [] (κ, E) ∧ E 0 1 = 0 ∧ E 0 2 = rdP (tkT f n) ∧ RdC D E t ∧ (rdF (tkT f n) = 0 → TcY E t (menG (tkT f n)).1 ∧ YOk (menG (tkT f n)).1) := by
  have hk0 : aok κ 0 11 = true := kc_0 hκ
  have hT := tkT_ok (f := f) hn
  have ht' : t = 9 ∨ t = 31 := ht
  have hc1 : CPtr (aup D 0 1 0) := hc.up pd_0.1 _
  obtain ⟨E1, a1, a2⟩ := scan_eq xs d hκ hc1 (n := n) (f := f) (fun q hq' => by rw [aupN (by decide)]; exact hq q hq') hn (fun j hj => by rw [aupN (by decide)]; exact hf j hj)
  generalize hTT : tkT f n = T at *
  have hc2 := a2.ptr hc1
  obtain ⟨a3, a4, a5⟩ := a2
  obtain ⟨E2, g, b1, b2⟩ := check_eq xs (d + 4) hκ hc2 a3
  have hc3 := b2.ptr hc2
  have tk3 := b2.tk a3
  obtain ⟨b3, b4, b5, b6, b7, b8, b9, b10⟩ := b2
  have f2 : ∀ q, q = 1 ∨ q = 6 ∨ 7 < q → E2 q = D q := fun q hq' => by rw [b3 q (by omega) (by omega), a4 q (by omega), aupN (by omega)]
  have f0 : ∀ j, j ≠ 1 → E2 0 j = D 0 j := fun j hj => by rw [b3 0 (by decide) (by decide), a4 0 (by decide), aupJ hj]
  have f01 : E2 0 1 = 0 := by rw [b3 0 (by decide) (by decide), a4 0 (by decide), aupE]
  have e6 : E2 0 6 = (t : Int) := (f0 6 (by decide)).trans h6
  rw [c_130]
  by_cases hr : (recG T).2 = 0
  · have e5 : E2 2 5 = -1 := by rw [b8, if_pos hr]
    have hc4 : CPtr (aup E2 0 2 (-1)) := hc3.up pd_0.2.1 _
    have tk4 : TkC (aup E2 0 2 (-1)) T := tk3.congr (by rw [aupN (by decide)]) (fun q h1 h2 => by rw [aupN (by omega)])
    obtain ⟨E3, d1, d2, d3, d4, d5⟩ := tell_eq xs (d + 2) hκ hc4 ht hT tk4 hr
    rw [hr] at b1
    have eF : rdF T = (menG T).2.1 := if_pos hr
    have e0 : E3 0 = aup E2 0 2 (-1) 0 := d2 0 (by decide) (by omega)
    refine ⟨aup E3 0 2 (E3 8 1), ?_, ?_, ?_, ⟨fun q q1 q2 => ?_, fun j j1 j2 => ?_, d3.up pd_0.2.1 _⟩, fun z => ?_⟩
    · rw [eF]
      have b1' : cl xs (d + 11) 49 [.inr (.inr ((2 : Nat) : Int))] (κ, E1) = some (some (.inl 0), (κ, E2)) := b1
      have nz : decide (¬ (0 : Int) = 0) = false := rfl
      simp (disch := omega) only [cond_true, cond_false, Bool.and_true, hk0, Int.reduceToNat, Int.toNat_natCast, aupJ, pc_0_3 hc, pc_0_0 hc, h1, kc_2 hκ, a1, bV_s, pc_0_3 hc2, b1', bI_s, pc_0_3 hc3, e5, not_true_eq_false, decide_false, pc_0_4 hc3, e6, kc_8 hκ, d1, pc_0_4 d3]
    · rw [aupJ (by decide), e0, aupJ (by decide)]; exact f01
    · rw [aupE, d4]
      exact (if_pos hr).symm
    · rw [aupN (by omega), d2 q (by omega) q2, aupN (by omega)]; exact f2 q (by omega)
    · rw [aupJ j2, e0, aupJ j2]; exact f0 j j1
    · obtain ⟨y1, y2⟩ := d5 (eF ▸ z)
      exact ⟨y1.congr (fun q q1 q2 => aupN (by omega)), y2⟩
  · have eF : rdF T = (recG T).2 := if_neg hr
    refine ⟨aup E2 0 2 (E2 2 5), ?_, ?_, ?_, ⟨fun q q1 q2 => ?_, fun j j1 j2 => ?_, hc3.up pd_0.2.1 _⟩, fun z => absurd (eF.symm.trans z) hr⟩
    · rw [eF]
      have b1' : cl xs (d + 11) 49 [.inr (.inr ((2 : Nat) : Int))] (κ, E1) = some (some (.inl ((recG T).2 : Int)), (κ, E2)) := b1
      simp (disch := omega) only [cond_true, cond_false, Bool.and_true, hk0, Int.reduceToNat, Int.toNat_natCast, aupJ, pc_0_3 hc, pc_0_0 hc, h1, kc_2 hκ, a1, bV_s, pc_0_3 hc2, b1', bI_s, pc_0_3 hc3, dT, dF]
    · rw [aupJ (by decide)]; exact f01
    · rw [aupE, b8, if_neg hr]
      exact (if_neg hr).symm
    · rw [aupN (by omega)]; exact f2 q (by omega)
    · rw [aupJ j2]; exact f0 j j1
theorem CCore.congr {κ : aK} {D D' : Nat → Nat → Int} {t : Nat} {X : TX} {S : ST} {n : Nat} {H : Nat → ST} {Hd : Nat → Option ST} (h : CCore κ D t X S n H Hd) (hc : CPtr D') (h0 : ∀ j, j = 5 ∨ j = 10 ∨ j = 11 ∨ j = 13 → D' 0 j = D 0 j) (h1 : ∀ q, (t ≤ q ∧ q < t + 18) ∨ (53 ≤ q ∧ q < 58) ∨ (91 ≤ q ∧ q < 256) → D' q = D q) : CCore κ D' t X S n H Hd := by
  obtain ⟨hκ, _, ht, h5, hx, hs, hh, hl⟩ := h
  exact ⟨hκ, hc, ht, by rw [h0 5 (by omega)]; exact h5, hx.congr (fun q a b => h1 q (by omega)), hs.congr (fun q a b => h1 q (by omega)), hh.congr (fun j hj => h0 j (by omega)) (fun q a b => h1 q (by omega)), hl.congr (h0 13 (by omega)) (fun q a b => h1 q (by omega))⟩
theorem cread (xs : List Int) (d : Nat) {κ : aK} {D : Nat → Nat → Int} (hq : QwC D) {n : Nat} {f : Nat → Int} (hn : n ≤ 2000) (h1 : D 0 1 = (n : Int)) (hf : ∀ j, j < n → D 1 j = f j ∧ -128 ≤ f j ∧ f j ≤ 127) {t t' : Nat} {X : TX} {S : ST} {nn : Nat} {H : Nat → ST} {Hd : Nat → Option ST} (ht' : isT t') (htt : t + t' = 40) (h6 : D 0 6 = (t' : Int)) (h : CCore κ D t X S nn H Hd) (hl : LwC D t X) : ∃ E, cl xs (d + 12) 130 [.inr (.inr 0)] (κ, D) = some (some (.inl (rdF (tkT f n) : Int)), (κ, E)) ∧ E 0 1 = 0 ∧ E 0 2 = rdP (tkT f n) ∧ (∀ q, q = 1 ∨ q = 6 ∨ 256 ≤ q → E q = D q) ∧ (¬ rdF (tkT f n) = 0 → CCore κ E t X S nn H Hd ∧ LwC E t X ∧ E 0 6 = (t' : Int) ∧ (∀ q, 53 ≤ q → E q = D q)) ∧ (rdF (tkT f n) = 0 → CCore κ E t' (rdX (tkT f n)) (S0 (rdX (tkT f n))) 0 (fun _ => S0 (rdX (tkT f n))) (fun _ => none) ∧ LwC E t' (rdX (tkT f n)) ∧ E 0 6 = (t : Int) ∧ (∀ q, 58 ≤ q → q ≠ 68 → q ≠ 72 → q ≠ 77 → E q = D q) ∧ (∀ j, j ≠ 0 → E 68 j = D 68 j ∧ E 77 j = D 77 j) ∧ E 68 0 = 0 ∧ E 72 0 = 0 ∧ E 77 0 = 0) := by
  have hk0 : aok κ 0 11 = true := kc_0 h.1
  have hκ := h.1
  have ht9 : t' = 9 ∨ t' = 31 := ht'
  obtain ⟨E, a1, a2, a3, ⟨a4, a5, a6⟩, a7⟩ := c_upto xs d hκ h.2.1 hq hn h1 hf ht' h6
  generalize hTT : tkT f n = T at *
  rw [a1, q_130_68]
  by_cases hr : rdF T = 0
  · obtain ⟨y1, y2⟩ := a7 hr
    obtain ⟨y3, y4, y5, y6⟩ := y1
    have e5 : E 0 5 = (t : Int) := by rw [a5 5 (by decide) (by decide)]; exact h.2.2.2.1
    have e6 : E 0 6 = (t' : Int) := by rw [a5 6 (by decide) (by decide)]; exact h6
    have cF : CPtr (aup (aup E 0 5 (t' : Int)) 0 6 (t : Int)) := (a6.up pd_0.2.2.1 _).up pd_0.2.2.2.1 _
    generalize hF : aup (aup E 0 5 (t' : Int)) 0 6 (t : Int) = F at *
    have f0 : ∀ q, q ≠ 0 → F q = E q := fun q hq' => by rw [← hF, aupN hq', aupN hq']
    have f1 : ∀ j, j ≠ 5 → j ≠ 6 → F 0 j = E 0 j := fun j j1 j2 => by rw [← hF, aupJ j2, aupJ j1]
    have f5 : F 0 5 = (t' : Int) := by rw [← hF, aupJ (by decide), aupE]
    have f6 : F 0 6 = (t : Int) := by rw [← hF, aupE]
    obtain ⟨G, b1, b2, b3, b4⟩ := begin_eq xs (d + 8) hκ cF is53 ht' y2.1 (y3.congr (fun q q1 q2 => f0 q (by omega)))
    have g0 : G 0 = F 0 := b4 0 (by omega)
    obtain ⟨p1, p2, p3, p4, p5, p6, p7, p8, p9, p10⟩ := pd_0
    have cK : CPtr (aup (aup (aup (aup G 0 10 0) 0 11 0) 0 13 0) 68 0 0) := (((b3.up p5 _).up p6 _).up p7 _).up p10 _
    have fe := forget_eq xs (d + 9) hκ cK
    generalize hK : aup (aup (aup (aup G 0 10 0) 0 11 0) 0 13 0) 68 0 0 = K at *
    have k0 : ∀ q, q ≠ 0 → q ≠ 68 → K q = G q := fun q q1 q2 => by rw [← hK, aupN q2, aupN q1, aupN q1, aupN q1]
    have k1 : ∀ j, j ≠ 10 → j ≠ 11 → j ≠ 13 → K 0 j = G 0 j := fun j j1 j2 j3 => by rw [← hK, aupN (by decide), aupJ j3, aupJ j2, aupJ j1]
    have k10 : K 0 10 = 0 := by rw [← hK, aupN (by decide), aupJ (by decide), aupJ (by decide), aupE]
    have k11 : K 0 11 = 0 := by rw [← hK, aupN (by decide), aupJ (by decide), aupE]
    have k13 : K 0 13 = 0 := by rw [← hK, aupN (by decide), aupE]
    have k68 : K 68 0 = 0 := by rw [← hK, aupE]
    have k68j : ∀ j, j ≠ 0 → K 68 j = G 68 j := fun j hj => by rw [← hK, aupJ hj, aupN (by decide), aupN (by decide), aupN (by decide)]
    have m0 : ∀ q, q ≠ 72 → q ≠ 77 → aup (aup K 72 0 0) 77 0 0 q = K q := fun q q1 q2 => by rw [aupN q2, aupN q1]
    refine ⟨aup (aup K 72 0 0) 77 0 0, ?_, ?_, ?_, fun q hq' => ?_, fun z => absurd hr z, fun _ => ⟨⟨hκ, (cK.up p8 _).up p9 _, ht', ?_, ?_, ?_, ⟨?_, Nat.zero_le _, 0, by decide, ?_, fun i hi => absurd hi (Nat.not_lt_zero i)⟩, 0, by decide, ?_, fun i hi => ⟨?_, fun S hS => by cases hS⟩⟩, ?_, ?_, fun q q1 q2 q3 q4 => ?_, fun j hj => ⟨?_, ?_⟩, ?_, ?_, ?_⟩⟩
    · have z0 : ((rdF T : Nat) : Int) = 0 := by rw [hr]; rfl
      have nz : decide (¬ (0 : Int) = 0) = false := rfl
      have b1' : cl xs (d + 10) 73 [.inr (.inr ((53 : Nat) : Int)), .inr (.inr (t' : Int))] (κ, F) = some (none, (κ, G)) := b1
      rw [z0]
      simp (disch := omega) only [not_true_eq_false, decide_false, cond_false, cond_true, hk0, Int.reduceToNat, aupJ, e5, e6, hF, Bool.and_true]
      rw [c_131]
      simp (disch := omega) only [cond_false, cond_true, hk0, Int.reduceToNat, Bool.and_true, pc_0_7 cF, f5, sk_0 hκ is53, b1', bV_s]
      rw [c_132]
      simp (disch := omega) only [cond_false, cond_true, hk0, Int.reduceToNat, Bool.and_true, bV_s, aupJ, pc_0_15 b3, kc_68 hκ]
      rw [c_12]
      simp (disch := omega) only [cond_false, cond_true, hk0, Int.reduceToNat, Int.toNat_natCast, Bool.and_true, bV_s, kc_68 hκ, hK, fe]
    · rw [m0 0 (by decide) (by decide), k1 1 (by decide) (by decide) (by decide), g0, f1 1 (by decide) (by decide)]; exact a2
    · rw [m0 0 (by decide) (by decide), k1 2 (by decide) (by decide) (by decide), g0, f1 2 (by decide) (by decide)]; exact a3
    · rw [m0 q (by omega) (by omega), k0 q (by omega) (by omega), b4 q (by omega), f0 q (by omega)]
      exact a4 q (by omega) (by omega)
    · rw [m0 0 (by decide) (by decide), k1 5 (by decide) (by decide) (by decide), g0]; exact f5
    · exact y3.congr (fun q q1 q2 => by rw [m0 q (by omega) (by omega), k0 q (by omega) (by omega), b4 q (by omega), f0 q (by omega)])
    · exact b2.congr (fun q q1 q2 => by rw [m0 q (by omega) (by omega), k0 q (by omega) (by omega)])
    · rw [m0 0 (by decide) (by decide)]; exact k11
    · rw [m0 0 (by decide) (by decide)]; exact k10
    · rw [m0 0 (by decide) (by decide)]; exact k13
    · rw [Nat.zero_div]; rfl
    · exact LwC_up y6 (by rw [m0 _ (by omega) (by omega), k0 _ (by omega) (by omega), b4 _ (by omega), f0 _ (by omega)]) (by rw [m0 _ (by omega) (by omega), k0 _ (by omega) (by omega), b4 _ (by omega), f0 _ (by omega)]) (by rw [m0 _ (by omega) (by omega), k0 _ (by omega) (by omega), b4 _ (by omega), f0 _ (by omega)]) rfl
    · rw [m0 0 (by decide) (by decide), k1 6 (by decide) (by decide) (by decide), g0]; exact f6
    · rw [m0 q q3 q4, k0 q (by omega) q2, b4 q (by omega), f0 q (by omega)]
      exact a4 q (by omega) (by omega)
    · rw [m0 68 (by decide) (by decide), k68j j hj, b4 68 (by omega), f0 68 (by decide), a4 68 (by omega) (by omega)]
    · rw [aupJ hj, aupN (by decide), k0 77 (by decide) (by decide), b4 77 (by omega), f0 77 (by decide), a4 77 (by omega) (by omega)]
    · rw [m0 68 (by decide) (by decide)]; exact k68
    · rw [aupN (by decide), aupE]
    · rw [aupE]
  · refine ⟨E, ?_, a2, a3, fun q hq' => a4 q (by omega) (by omega), fun _ => ⟨h.congr a6 (fun j hj => a5 j (by omega) (by omega)) (fun q hq' => a4 q (by omega) (by omega)), LwC_up hl ?_ ?_ ?_ rfl, by rw [a5 6 (by decide) (by decide)]; exact h6, fun q hq' => a4 q (by omega) (by omega)⟩, fun z => absurd z hr⟩
    · simp (disch := omega) only [cond_true, dT]
    · rw [a4 (t + 18) (by omega) (by omega)]
    · exact a4 (t + 20) (by omega) (by omega)
    · exact a4 (t + 21) (by omega) (by omega)
