/-! The reference reads: an if of a law; the law. -/
theorem rLawIf (xs : List Int) (d : Nat) {κ : aK} {D E : Nat → Nat → Int} (hκ : Shp κ) (hpD : PtrR D) {v : Nat} {T : Nat → TK} (hT : TKok T) (hk : TkR D T) {s w : SS} (h : RpS D E v T s w) {u b k k0 : Nat} (hsd : RsD D v u) (hb : b < 118) (hs0 : s.2 = 0) (hK : tkK (T s.1) = 143) (e47 : E 256 47 = ((130 * u + b : Nat) : Int)) (e53 : E 256 53 = ((420 * u + k0 : Nat) : Int)) (hk0 : k ≤ k0) (e12 : E 256 12 = 0) (hks : k0 ≤ s.1) {v1 : Int} {n : Nat} (hn : n < 100) : ∃ E', ev xs (d + 5) mm_219 38 [some (.inr (.inr 256)), some (.inl v1), some (.inl (n : Int))] [] (κ, E) = ev xs (d + 5) mm_219 12 [some (.inr (.inr 256)), some (.inl v1), some (.inl ((n + 1 : Nat) : Int))] [] (κ, E') ∧ RpS D E' v T (ifG T s) w ∧ RwF E E' u b k ∧ E' 256 47 = ((130 * u + (b + 1) : Nat) : Int) ∧ ((ifG T s).2 = 0 → E' 256 12 = 0 ∧ ∃ k1 k2 k3 : Nat, k0 ≤ k1 ∧ k1 ≤ k2 ∧ k2 ≤ k3 ∧ k3 ≤ 400 ∧ E' 256 53 = ((420 * u + k3 : Nat) : Int) ∧ k3 ≤ (ifG T s).1 ∧ E' 291 (130 * u + b) = 1 ∧ E' 292 (130 * u + b) = ((420 * u + k0 : Nat) : Int) ∧ E' 293 (130 * u + b) = ((420 * u + k1 : Nat) : Int) ∧ E' 294 (130 * u + b) = ((420 * u + k2 : Nat) : Int) ∧ E' 295 (130 * u + b) = ((420 * u + k3 : Nat) : Int) ∧ seg E' (420 * u + k0) (420 * u + k1) (smE T (s.1 + 1)).2.2 ∧ seg E' (420 * u + k1) (420 * u + k2) (smE T ((smE T (s.1 + 1)).1 + 1)).2.2 ∧ seg E' (420 * u + k2) (420 * u + k3) (smE T ((smE T ((smE T (s.1 + 1)).1 + 1)).1 + 1)).2.2) := by
  have k256 := k_256 hκ
  have hu2 := hsd.2.2.2.1
  have h13 : E 256 13 = 0 := by have := h.2.1; rw [hs0] at this; exact this
  obtain ⟨E1, a1, a2, a3⟩ := r_go xs (d + 3) hκ hpD hT hk h (fun _ => by rw [hK]; decide)
  rw [← goG_mu hK] at a2
  have e47a : E1 256 47 = ((130 * u + b : Nat) : Int) := (a3.f (by decide)).trans e47
  have e53a : E1 256 53 = ((420 * u + k0 : Nat) : Int) := (a3.f (by decide)).trans e53
  have hp1 := a2.1.ptr hpD
  have s1 := arr_S (arr_S a2 hsd (q := 291) (b := b) (by decide) (by decide) (by omega) 1) hsd (q := 292) (b := b) (by decide) (by decide) (by omega) ((420 * u + k0 : Nat) : Int)
  generalize hs1' : mu T 143 s = t1 at a2 s1
  have p1 : t1.2 = 0 → t1 = (s.1 + 1, 0) := fun z => by rw [← hs1'] at z ⊢; exact (mu_ok z).2.2.2
  obtain ⟨E2, b1, b2, b3, b4⟩ := rExpr xs (d + 1) hκ hpD hT hk s1 hsd (k := k0) (by rw [aupN (by decide), aupN (by decide)]; exact e53a) (fun z => by
    rw [aupN (by decide), aupN (by decide), a3.f (by decide), p1 z]
    exact ⟨e12, Nat.le_succ_of_le hks⟩)
  generalize hs2' : sm T t1 = t2 at b2 b4
  obtain ⟨E3, c1, c2, c3⟩ := r_must xs (d + 2) hκ hpD hT hk b2 (k := 60) (by decide) (by decide) (kk := 13) rfl
  have e47c : E3 256 47 = ((130 * u + b : Nat) : Int) := by rw [c3.f (by decide), b3.2.2 47 (by decide), aupN (by decide), aupN (by decide)]; exact e47a
  have hp3 := c2.1.ptr hpD
  have s3 := arr_S c2 hsd (q := 293) (b := b) (by decide) (by decide) (by omega) (E3 256 53)
  generalize hs3' : mu T 60 t2 = t3 at c2 s3
  have h13c := c2.2.1
  have st : ev xs (d + 5) mm_219 38 [some (.inr (.inr 256)), some (.inl v1), some (.inl (n : Int))] [] (κ, E) = ev xs (d + 5) mm_219 99 [some (.inr (.inr 256)), some (.inl v1), some (.inl ((n + 1 : Nat) : Int))] [] (κ, aup E3 293 (130 * u + b) (E3 256 53)) := by
    rw [q_219_38]
    simp (disch := omega) only [k256, h13, a1, pr_48 hp1, pr_49 hp1, e47a, n_291 hκ, n_292 hκ, e53a, b1, c1, pr_50 hp3, e47c, n_293 hκ, cond_true, cond_false, Bool.and_true, Bool.true_and, Bool.and_false, Bool.false_and, Int.toNat_natCast, Int.reduceToNat, bI_s, bJ_s, bV_s, bR_s, decide_true, decide_false, not_true_eq_false, not_false_eq_true, dT, dF, w_al, w_la, w_ab, w_sl, w_sb, w_dec, w_ml, w_lm, ol2i_n, aup_ne, aupE, aupJ, setc_self, setc_ne]
  -- the first expression's end
  have w2 : t2.2 = 0 → E2 256 12 = 0 ∧ ∃ k1 : Nat, k0 ≤ k1 ∧ k1 ≤ t2.1 ∧ E2 256 53 = ((420 * u + k1 : Nat) : Int) ∧ seg E2 (420 * u + k0) (420 * u + k1) (smE T (s.1 + 1)).2.2 := fun z => by
    obtain ⟨q1, k1, q2, q3, q4, q5⟩ := b4 z
    have z1 : t1.2 = 0 := by rw [← hs2'] at z; exact (sm_ok z).1
    rw [p1 z1] at q5
    exact ⟨q1, k1, q2, q3, q4, q5⟩
  -- the second expression
  have hsec : ∃ E4 : Nat → Nat → Int, ev xs (d + 5) mm_219 99 [some (.inr (.inr 256)), some (.inl v1), some (.inl ((n + 1 : Nat) : Int))] [] (κ, aup E3 293 (130 * u + b) (E3 256 53)) = ev xs (d + 5) mm_219 110 [some (.inr (.inr 256)), some (.inl v1), some (.inl ((n + 1 : Nat) : Int))] [] (κ, E4) ∧ RpS D E4 v T (sm T t3) w ∧ (∃ kk, k0 ≤ kk ∧ RxF (aup E3 293 (130 * u + b) (E3 256 53)) E4 u kk ∧ (t2.2 = 0 → E2 256 53 = ((420 * u + kk : Nat) : Int))) ∧ ((sm T t3).2 = 0 → E4 256 12 = 0 ∧ ∃ k1 k2 : Nat, E2 256 53 = ((420 * u + k1 : Nat) : Int) ∧ k1 ≤ k2 ∧ k2 ≤ (sm T t3).1 ∧ E4 256 53 = ((420 * u + k2 : Nat) : Int) ∧ seg E4 (420 * u + k1) (420 * u + k2) (smE T t3.1).2.2) := by
    rw [q_219_99]
    by_cases z : t3.2 = 0
    · rw [z] at h13c
      have h13d : E3 256 13 = 0 := h13c
      have z2 : t2.2 = 0 := by rw [← hs3'] at z; exact (mu_ok z).1
      obtain ⟨q1, k1, q2, q3, q4, q5⟩ := w2 z2
      have e53c : E3 256 53 = ((420 * u + k1 : Nat) : Int) := (c3.f (by decide)).trans q4
      obtain ⟨E4, f1, f2, f3, f4⟩ := rExpr xs (d + 1) hκ hpD hT hk s3 hsd (k := k1) (by rw [aupN (by decide)]; exact e53c) (fun _ => by
        rw [aupN (by decide), c3.f (by decide)]
        refine ⟨q1, ?_⟩
        rw [← hs3', (mu_ok (by rw [hs3']; exact z)).2.2.2]
        exact Nat.le_succ_of_le q3)
      refine ⟨E4, ?_, f2, ⟨k1, q2, f3, fun _ => q4⟩, fun y => ?_⟩
      · have : aup E3 293 (130 * u + b) (E3 256 53) 256 13 = 0 := by rw [aupN (by decide)]; exact h13d
        simp (disch := omega) only [k256, h13d, f1, cond_true, cond_false, Bool.and_true, Bool.true_and, Bool.and_false, Bool.false_and, Int.toNat_natCast, Int.reduceToNat, bI_s, bJ_s, bV_s, bR_s, decide_true, decide_false, not_true_eq_false, not_false_eq_true, dT, dF, w_al, w_la, w_ab, w_sl, w_sb, w_dec, w_ml, w_lm, ol2i_n, aup_ne, aupE, aupJ, setc_self, setc_ne]
      · obtain ⟨g1, k2, g2, g3, g4, g5⟩ := f4 y
        exact ⟨g1, k1, k2, q4, g2, g3, g4, g5⟩
    · rw [sm_f z]
      by_cases z2 : t2.2 = 0
      · obtain ⟨q1, k1, q2, q3, q4, q5⟩ := w2 z2
        refine ⟨aup E3 293 (130 * u + b) (E3 256 53), ?_, s3, ⟨k1, q2, RxF.rfl', fun _ => q4⟩, fun y => absurd y z⟩
        simp (disch := omega) only [k256, h13c, cond_true, cond_false, Bool.and_true, Bool.true_and, Bool.and_false, Bool.false_and, Int.toNat_natCast, Int.reduceToNat, bI_s, bJ_s, bV_s, bR_s, decide_true, decide_false, not_true_eq_false, not_false_eq_true, dT, dF, w_al, w_la, w_ab, w_sl, w_sb, w_dec, w_ml, w_lm, ol2i_n, aup_ne, aupE, aupJ, setc_self, setc_ne]
      · refine ⟨aup E3 293 (130 * u + b) (E3 256 53), ?_, s3, ⟨k0, Nat.le_refl _, RxF.rfl', fun y => absurd y z2⟩, fun y => absurd y z⟩
        simp (disch := omega) only [k256, h13c, cond_true, cond_false, Bool.and_true, Bool.true_and, Bool.and_false, Bool.false_and, Int.toNat_natCast, Int.reduceToNat, bI_s, bJ_s, bV_s, bR_s, decide_true, decide_false, not_true_eq_false, not_false_eq_true, dT, dF, w_al, w_la, w_ab, w_sl, w_sb, w_dec, w_ml, w_lm, ol2i_n, aup_ne, aupE, aupJ, setc_self, setc_ne]
  obtain ⟨E4, f1, f2, ⟨kk, f3, f4, f5⟩, f6⟩ := hsec
  obtain ⟨E5, g1, g2, g3⟩ := r_must xs (d + 2) hκ hpD hT hk f2 (k := 144) (by decide) (by decide) (kk := 36) rfl
  have e47e : E5 256 47 = ((130 * u + b : Nat) : Int) := by rw [g3.f (by decide), f4.2.2 47 (by decide), aupN (by decide)]; exact e47c
  obtain ⟨E6, i1, i2, i3, i4, i5, i6, i7, i8⟩ := rTerm xs d hκ hpD hT hk g2 hsd (b := b) (k := k) (by omega) e47e (fun z => by
    obtain ⟨m1, m2, m3, m4⟩ := mu_ok z
    obtain ⟨q1, k1, k2, q2, q3, q4, q5, q6⟩ := f6 m1
    have m1' := (sm_ok m1).1
    have z2 : t2.2 = 0 := by rw [← hs3'] at m1'; exact (mu_ok m1').1
    obtain ⟨_, k1', r2, _, r4, _⟩ := w2 z2
    refine ⟨k2, by rw [g3.f (by decide)]; exact q5, by omega, by rw [g3.f (by decide)]; exact q1, ?_⟩
    rw [m4]
    exact Nat.le_succ_of_le q4)
  obtain ⟨E7, j1, j2, j3⟩ := r_must xs (d + 2) hκ hpD hT hk i2 (k := 145) (by decide) (by decide) (kk := 37) rfl
  have eI : mu T 145 (sm T (mu T 144 (sm T t3))) = ifG T s := by rw [← hs3', ← hs2', ← hs1']; rfl
  rw [eI] at j2
  have F3 : RwF E (aup E3 293 (130 * u + b) (E3 256 53)) u b k0 := (((a3.wf u b k0).trans ((RwF.arr (by decide) (by decide) (Nat.le_refl _) _).trans (RwF.arr (by decide) (by decide) (Nat.le_refl _) _) (Nat.le_refl _) (Nat.le_refl _)) (Nat.le_refl _) (Nat.le_refl _)).trans ((b3.wf b).trans (c3.wf u b k0) (Nat.le_refl _) (Nat.le_refl _)) (Nat.le_refl _) (Nat.le_refl _)).trans (RwF.arr (by decide) (by decide) (Nat.le_refl _) _) (Nat.le_refl _) (Nat.le_refl _)
  have F5 : RwF E E5 u b k0 := F3.trans ((f4.wf b).trans (g3.wf u b kk) (Nat.le_refl _) (Nat.le_refl _)) (Nat.le_refl _) f3
  have lo : ∀ (F G : Nat → Nat → Int), RwF F G u b k0 → RwF F G u b k := fun F G hF => ⟨hF.1, hF.2.1, fun j hj => hF.2.2.1 j (by omega), hF.2.2.2⟩
  refine ⟨E7, ?_, j2, (lo _ _ F5).trans (i3.trans (j3.wf u b k) (Nat.le_refl _) (Nat.le_refl _)) (Nat.le_refl _) (Nat.le_refl _), (j3.f (by decide)).trans i4, fun z => ?_⟩
  · rw [st, f1, q_219_110]
    simp (disch := omega) only [k256, g1, i1, j1, cond_true, cond_false, Bool.and_true, Bool.true_and, Bool.and_false, Bool.false_and, Int.toNat_natCast, Int.reduceToNat, bI_s, bJ_s, bV_s, bR_s, decide_true, decide_false, not_true_eq_false, not_false_eq_true, dT, dF, w_al, w_la, w_ab, w_sl, w_sb, w_dec, w_ml, w_lm, ol2i_n, aup_ne, aupE, aupJ, setc_self, setc_ne]
  · have zz := z
    rw [← eI] at z
    obtain ⟨m1, m2, m3, m4⟩ := mu_ok z
    obtain ⟨l1, k2, k3, l2, l3, l4, l5, l6, l7⟩ := i8 m1
    obtain ⟨n1, n2, n3, n4⟩ := mu_ok (sm_ok m1).1
    obtain ⟨o1, k1, k2', o2, o3, o4, o5, o6⟩ := f6 n1
    have n1' := (sm_ok n1).1
    have z2 : t2.2 = 0 := by rw [← hs3'] at n1'; exact (mu_ok n1').1
    obtain ⟨_, k1', r2, r3, r4, r5⟩ := w2 z2
    have ek1 : k1' = k1 := by rw [r4] at o2; omega
    subst ek1
    have ekk : kk = k1' := by have := f5 z2; rw [r4] at this; omega
    subst ekk
    have ek2 : k2 = k2' := by rw [g3.f (by decide), o5] at l2; omega
    subst ek2
    have hk34 : k3 ≤ 400 := by
      have := (i2.2.2.2.2 m1).2.1
      omega
    -- positions of the three expressions
    have z1 : t1.2 = 0 := by rw [← hs2'] at z2; exact (sm_ok z2).1
    have et1 := p1 z1
    have et2 : t2.1 = (smE T (s.1 + 1)).1 := by rw [← hs2', (sm_ok (by rw [hs2']; exact z2)).2.2.1, et1]
    have et3 : t3.1 = (smE T (s.1 + 1)).1 + 1 := by rw [← hs3', (mu_ok (by rw [hs3']; exact n1')).2.2.2, et2]
    have et4 : (sm T t3).1 = (smE T ((smE T (s.1 + 1)).1 + 1)).1 := by rw [(sm_ok n1).2.2.1, et3]
    have et5 : (mu T 144 (sm T t3)).1 = (smE T ((smE T (s.1 + 1)).1 + 1)).1 + 1 := by rw [n4, et4]
    rw [et3] at o6
    rw [et5] at l6
    refine ⟨(j3.f (by decide)).trans l1, kk, k2, k3, f3, o3, l3, hk34, (j3.f (by decide)).trans l5, ?_, ?_, ?_, ?_, ?_, ?_, ?_, ?_, ?_⟩
    · rw [← eI, m4]
      exact Nat.le_succ_of_le l4
    · rw [j3.cell (by decide), i5 291 (by decide) (by decide), g3.cell (by decide), f4.1 291 (by decide) (by decide) (by decide) (by decide), aupN (by decide), c3.cell (by decide), b3.1 291 (by decide) (by decide) (by decide) (by decide), aupN (by decide), aupE]
    · rw [j3.cell (by decide), i5 292 (by decide) (by decide), g3.cell (by decide), f4.1 292 (by decide) (by decide) (by decide) (by decide), aupN (by decide), c3.cell (by decide), b3.1 292 (by decide) (by decide) (by decide) (by decide), aupE]
    · rw [j3.cell (by decide), i5 293 (by decide) (by decide), g3.cell (by decide), f4.1 293 (by decide) (by decide) (by decide) (by decide), aupE, c3.f (by decide)]; exact r4
    · rw [j3.cell (by decide), i6, g3.f (by decide)]; exact o5
    · rw [j3.cell (by decide), i7]; exact l5
    · refine seg_same r5 (fun j hj => ?_)
      have e1 := f4.2.1 j hj
      have e2 := l7 j (by omega)
      rw [j3.cell (by decide), j3.cell (by decide), e2.1, e2.2, g3.cell (by decide), g3.cell (by decide), e1.1, e1.2, aupN (by decide), aupN (by decide), c3.cell (by decide), c3.cell (by decide)]
      exact ⟨rfl, rfl⟩
    · refine seg_same o6 (fun j hj => ?_)
      have e2 := l7 j hj
      rw [j3.cell (by decide), j3.cell (by decide), e2.1, e2.2, g3.cell (by decide), g3.cell (by decide)]
      exact ⟨rfl, rfl⟩
    · exact seg_same l6 (fun j _ => by rw [j3.cell (by decide), j3.cell (by decide)]; exact ⟨rfl, rfl⟩)
