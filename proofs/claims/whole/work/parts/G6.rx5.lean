/-! The reference reads: a law's terms. -/
theorem seg_same {E E' : Nat → Nat → Int} {p q : Nat} {g : VF} (h : seg E p q g) (hd : ∀ j, j < q → E' 296 j = E 296 j ∧ E' 297 j = E 297 j) : seg E' p q g := by
  obtain ⟨h1, h2, h3, h4⟩ := h
  refine ⟨h1, h2, fun i a b => ?_, fun V => ?_⟩
  · rw [(hd i b).1, (hd i b).2]; exact h3 i a b
  · rw [rpn_congr (C := E 296) (I := E 297) (q - p) p [] (fun i a b => hd i (by omega))]
    exact h4 V
theorem XI.seg {E : Nat → Nat → Int} {u p0 k : Nat} {g : VF} (h : XI E u p0 k [] [g]) (hk : k ≤ p0 + 400) : seg E (420 * u + p0) (420 * u + k) g := by
  obtain ⟨h1, h2, h3, h4, h5, h6⟩ := h
  refine ⟨by omega, by omega, fun i a b => ?_, fun V => ?_⟩
  · have := h5 (i - 420 * u) (by omega) (by omega)
    rw [show 420 * u + (i - 420 * u) = i by omega] at this
    exact this
  · rw [show 420 * u + k - (420 * u + p0) = k - p0 by omega, h6 V]
    have e : seqO [g] V = (match g V, (some [] : Option (List Int)) with
      | some x, some y => some (x :: y)
      | _, _ => none) := rfl
    rw [e]
    cases g V <;> rfl
theorem rExpr (xs : List Int) (d : Nat) {κ : aK} {D E : Nat → Nat → Int} (hκ : Shp κ) (hpD : PtrR D) {v : Nat} {T : Nat → TK} (hT : TKok T) (hk : TkR D T) {s w : SS} (h : RpS D E v T s w) {u k : Nat} (hsd : RsD D v u) (e53 : E 256 53 = ((420 * u + k : Nat) : Int)) (h0 : s.2 = 0 → E 256 12 = 0 ∧ k ≤ s.1) : ∃ E', cl xs (d + 4) 223 [.inr (.inr 256)] (κ, E) = some (none, (κ, E')) ∧ RpS D E' v T (sm T s) w ∧ RxF E E' u k ∧ ((sm T s).2 = 0 → E' 256 12 = 0 ∧ ∃ k', k ≤ k' ∧ k' ≤ (sm T s).1 ∧ E' 256 53 = ((420 * u + k' : Nat) : Int) ∧ seg E' (420 * u + k) (420 * u + k') (smE T s.1).2.2) := by
  have k256 := k_256 hκ
  have h13 := h.2.1
  have s1 := fld_S h (j := 59) (by omega) 0
  rw [c_223]
  by_cases hs : s.2 = 0
  · obtain ⟨e12, hks⟩ := h0 hs
    have es : s = (s.1, 0) := Prod.ext rfl hs
    have ha4 : s.1 ≤ 400 := (h.2.2.2.2 hs).2.1
    rw [hs] at h13
    have h13' : E 256 13 = 0 := h13
    have X0 : XI (aup E 256 59 0) u k k [] [] := ⟨by rw [aupJ (by decide)]; exact e53, Nat.le_refl _, by rw [aupE]; rfl, fun i hi => absurd hi (Nat.not_lt_zero i), fun i a b => by omega, fun V => by rw [Nat.sub_self]; rfl⟩
    rw [es] at s1
    obtain ⟨E', i1, i2, i3, i4⟩ := rexL xs d hκ hpD hT hk hsd (p0 := k) (401 - s.1) s.1 (none, none) [] true cz (aup E 256 59 0) k (by omega) (by decide) ⟨fun _ z => (by cases z), fun _ z => (by cases z)⟩ (fun _ z => (by cases z)) s1 (by show k + 0 ≤ s.1; omega) (by rw [aupJ (by decide)]; exact e12) X0
    have esm : sm T s = ((smE T s.1).1, (smE T s.1).2.1) := if_pos hs
    rw [esm]
    refine ⟨E', ?_, i2, (RxF.fld (by omega) _).trans i3 (Nat.le_refl _), fun z => ?_⟩
    · have i1 : ev xs (d + 3) mm_223 23 [some (.inr (.inr 256)), some (.inl 0), some (.inl 1)] [] (κ, aup E 256 59 0) = some (none, (κ, E')) := i1
      rw [← i1]
      simp (disch := omega) only [cond_true, cond_false, Bool.and_true, Bool.true_and, Bool.and_false, Bool.false_and, Int.toNat_natCast, Int.reduceToNat, bI_s, bJ_s, bV_s, bR_s, decide_true, decide_false, not_true_eq_false, not_false_eq_true, dT, dF, w_al, w_la, w_ab, w_sl, w_sb, w_dec, w_ml, w_lm, ol2i_n, aup_ne, aupE, aupJ, setc_self, setc_ne, k256, e12]
      rw [q_223_12]
      simp (disch := omega) only [cond_true, cond_false, Bool.and_true, Bool.true_and, Bool.and_false, Bool.false_and, Int.toNat_natCast, Int.reduceToNat, bI_s, bJ_s, bV_s, bR_s, decide_true, decide_false, not_true_eq_false, not_false_eq_true, dT, dF, w_al, w_la, w_ab, w_sl, w_sb, w_dec, w_ml, w_lm, ol2i_n, aup_ne, aupE, aupJ, setc_self, setc_ne, k256, h13']
    · obtain ⟨j1, k', j2, j3, j4⟩ := i4 z
      have hk4 : (smE T s.1).1 ≤ 400 := by
        have := i2.2.2.2.2 z
        exact this.2.1
      have j3 : k' ≤ (smE T s.1).1 := j3
      exact ⟨j1, k', j2, j3, j4.1, j4.seg (by omega)⟩
  · rw [sm_f hs]
    refine ⟨aup E 256 59 0, ?_, s1, RxF.fld (by omega) _, fun z => absurd z hs⟩
    simp (disch := omega) only [cond_true, cond_false, Bool.and_true, Bool.true_and, Bool.and_false, Bool.false_and, Int.toNat_natCast, Int.reduceToNat, bI_s, bJ_s, bV_s, bR_s, decide_true, decide_false, not_true_eq_false, not_false_eq_true, dT, dF, w_al, w_la, w_ab, w_sl, w_sb, w_dec, w_ml, w_lm, ol2i_n, aup_ne, aupE, aupJ, setc_self, setc_ne, k256]
    rw [q_223_12]
    simp (disch := omega) only [cond_true, cond_false, Bool.and_true, Bool.true_and, Bool.and_false, Bool.false_and, Int.toNat_natCast, Int.reduceToNat, bI_s, bJ_s, bV_s, bR_s, decide_true, decide_false, not_true_eq_false, not_false_eq_true, dT, dF, w_al, w_la, w_ab, w_sl, w_sb, w_dec, w_ml, w_lm, ol2i_n, aup_ne, aupE, aupJ, setc_self, setc_ne, k256, h13]
/-- what a law's telling leaves as it was -/
def RwF (E E' : Nat → Nat → Int) (u b k : Nat) : Prop := (∀ q, q ≠ 256 → q < 291 ∨ 298 < q → E' q = E q) ∧ (∀ q, 291 ≤ q → q ≤ 295 → ∀ j, j < 130 * u + b → E' q j = E q j) ∧ (∀ j, j < 420 * u + k → E' 296 j = E 296 j ∧ E' 297 j = E 297 j) ∧ (∀ j, ¬ (j = 11 ∨ j = 12 ∨ j = 13 ∨ j = 14 ∨ j = 15 ∨ j = 16 ∨ j = 47 ∨ j = 53 ∨ j = 59) → E' 256 j = E 256 j)
theorem RwF.trans {E E1 E2 : Nat → Nat → Int} {u b k b1 k1 : Nat} (h1 : RwF E E1 u b k) (h2 : RwF E1 E2 u b1 k1) (hb : b ≤ b1) (hk : k ≤ k1) : RwF E E2 u b k := ⟨fun q a c => (h2.1 q a c).trans (h1.1 q a c), fun q a c j hj => (h2.2.1 q a c j (by omega)).trans (h1.2.1 q a c j hj), fun j hj => ⟨((h2.2.2.1 j (by omega)).1).trans (h1.2.2.1 j hj).1, ((h2.2.2.1 j (by omega)).2).trans (h1.2.2.1 j hj).2⟩, fun j a => (h2.2.2.2 j a).trans (h1.2.2.2 j a)⟩
theorem RxF.wf {E E' : Nat → Nat → Int} {u k : Nat} (h : RxF E E' u k) (b : Nat) : RwF E E' u b k := ⟨fun q a c => h.1 q a (by omega) (by omega) (by omega), fun q a c j _ => by rw [h.1 q (by omega) (by omega) (by omega) (by omega)], h.2.1, fun j a => h.2.2 j (by omega)⟩
theorem Rq.wf {E E' : Nat → Nat → Int} (h : Rq E E') (u b k : Nat) : RwF E E' u b k := (h.xf u k).wf b
theorem RwF.arr {E : Nat → Nat → Int} {u b k q j : Nat} (h1 : 291 ≤ q) (h2 : q ≤ 295) (hj : 130 * u + b ≤ j) (x : Int) : RwF E (aup E q j x) u b k := ⟨fun q' a c => aupN (by omega), fun q' a c i hi => by
  by_cases e : q' = q
  · subst e; rw [aupJ (by omega)]
  · rw [aupN e], fun i _ => ⟨by rw [aupN (by omega)], by rw [aupN (by omega)]⟩, fun i _ => by rw [aupN (by omega)]⟩
theorem RwF.f47 {E : Nat → Nat → Int} {u b k : Nat} (x : Int) : RwF E (aup E 256 47 x) u b k := ⟨fun q' a c => aupN a, fun q' a c i hi => by rw [aupN (by omega)], fun i _ => ⟨by rw [aupN (by decide)], by rw [aupN (by decide)]⟩, fun i hi => aupJ (by omega)⟩
theorem arr_S {D E : Nat → Nat → Int} {v u : Nat} {T : Nat → TK} {s w : SS} (h : RpS D E v T s w) (hsd : RsD D v u) {q b : Nat} (h1 : 291 ≤ q) (h2 : q ≤ 295) (hb : b < 130) (x : Int) : RpS D (aup E q (130 * u + b) x) v T s w := by
  have hq : q = 291 ∨ q = 292 ∨ q = 293 ∨ q = 294 ∨ q = 295 := by omega
  have hd : strd q = 130 := by rcases hq with e | e | e | e | e <;> (rw [e]; rfl)
  have := hsd.2.2.2.2
  exact h.fr (h.1.wr (by omega) (by omega) (by rw [hd]; omega) _) (fun j hj => by rw [aupN (by omega)])
theorem f47_S {D E : Nat → Nat → Int} {v : Nat} {T : Nat → TK} {s w : SS} (h : RpS D E v T s w) (x : Int) : RpS D (aup E 256 47 x) v T s w := h.fr (h.1.fld (by decide) _) (fun j hj => aupJ (by omega))
/-- a term: an expression, and where its code stands -/
theorem rTerm (xs : List Int) (d : Nat) {κ : aK} {D E : Nat → Nat → Int} (hκ : Shp κ) (hpD : PtrR D) {v : Nat} {T : Nat → TK} (hT : TKok T) (hk : TkR D T) {s w : SS} (h : RpS D E v T s w) {u b k : Nat} (hsd : RsD D v u) (hb : b < 120) (e47 : E 256 47 = ((130 * u + b : Nat) : Int)) (hc : s.2 = 0 → ∃ k0 : Nat, E 256 53 = ((420 * u + k0 : Nat) : Int) ∧ k ≤ k0 ∧ E 256 12 = 0 ∧ k0 ≤ s.1) : ∃ E', cl xs (d + 5) 220 [.inr (.inr 256)] (κ, E) = some (none, (κ, E')) ∧ RpS D E' v T (sm T s) w ∧ RwF E E' u b k ∧ E' 256 47 = ((130 * u + (b + 1) : Nat) : Int) ∧ (∀ q, 291 ≤ q → q ≤ 293 → E' q = E q) ∧ E' 294 (130 * u + b) = E 256 53 ∧ E' 295 (130 * u + b) = E' 256 53 ∧ ((sm T s).2 = 0 → E' 256 12 = 0 ∧ ∃ k0 k' : Nat, E 256 53 = ((420 * u + k0 : Nat) : Int) ∧ k0 ≤ k' ∧ k' ≤ (sm T s).1 ∧ E' 256 53 = ((420 * u + k' : Nat) : Int) ∧ seg E' (420 * u + k0) (420 * u + k') (smE T s.1).2.2 ∧ ∀ j, j < 420 * u + k0 → E' 296 j = E 296 j ∧ E' 297 j = E 297 j) := by
  have k256 := k_256 hκ
  have hp := h.1.ptr hpD
  have h13 := h.2.1
  have s1 := arr_S h hsd (q := 294) (b := b) (by decide) (by decide) (by omega) (E 256 53)
  obtain ⟨v1, v2, v3, v4, v5⟩ := hsd
  have hsd : RsD D v u := ⟨v1, v2, v3, v4, v5⟩
  -- behind the expression
  have fin : ∀ (E1 : Nat → Nat → Int) (s1 : SS), RpS D E1 v T s1 w → E1 256 47 = ((130 * u + b : Nat) : Int) → ev xs (d + 4) mm_220 24 [some (.inr (.inr 256))] [] (κ, E1) = some (none, (κ, aup (aup E1 295 (130 * u + b) (E1 256 53)) 256 47 ((130 * u + (b + 1) : Nat) : Int))) ∧ RpS D (aup (aup E1 295 (130 * u + b) (E1 256 53)) 256 47 ((130 * u + (b + 1) : Nat) : Int)) v T s1 w := fun E1 s1 g1 g47 => by
    have hp1 := g1.1.ptr hpD
    have ew : w32 (((130 * u + b : Nat) : Int) + 1) = ((130 * u + (b + 1) : Nat) : Int) := by rw [w32_id (by omega) (by omega)]; omega
    refine ⟨?_, f47_S (arr_S g1 hsd (q := 295) (b := b) (by decide) (by decide) (by omega) _) _⟩
    rw [q_220_24]
    simp (disch := omega) only [k256, pr_52 hp1, g47, n_295 hκ, ew, cond_true, cond_false, Bool.and_true, Bool.true_and, Bool.and_false, Bool.false_and, Int.toNat_natCast, Int.reduceToNat, bI_s, bJ_s, bV_s, bR_s, decide_true, decide_false, not_true_eq_false, not_false_eq_true, dT, dF, w_al, w_la, w_ab, w_sl, w_sb, w_dec, w_ml, w_lm, ol2i_n, aup_ne, aupE, aupJ, setc_self, setc_ne]
  rw [c_220]
  by_cases hs : s.2 = 0
  · rw [hs] at h13
    obtain ⟨k0, e53, hk0, h01, h02⟩ := hc hs
    have h0 : s.2 = 0 → E 256 12 = 0 ∧ k0 ≤ s.1 := fun _ => ⟨h01, h02⟩
    have h13' : E 256 13 = 0 := h13
    obtain ⟨E1, a1, a2, a3, a4⟩ := rExpr xs d hκ hpD hT hk s1 hsd (k := k0) (by rw [aupN (by decide)]; exact e53) (fun z => by rw [aupN (by decide)]; exact h0 z)
    have g47 : E1 256 47 = ((130 * u + b : Nat) : Int) := by rw [a3.2.2 47 (by decide), aupN (by decide)]; exact e47
    obtain ⟨f1, f2⟩ := fin E1 _ a2 g47
    have F0 : RwF E (aup (aup E1 295 (130 * u + b) (E1 256 53)) 256 47 ((130 * u + (b + 1) : Nat) : Int)) u b k0 := ((RwF.arr (by decide) (by decide) (Nat.le_refl _) _).trans (a3.wf b) (Nat.le_refl _) (Nat.le_refl _)).trans ((RwF.arr (by decide) (by decide) (Nat.le_refl _) _).trans (RwF.f47 _) (Nat.le_refl _) (Nat.le_refl k0)) (Nat.le_refl _) (Nat.le_refl _)
    have F : RwF E (aup (aup E1 295 (130 * u + b) (E1 256 53)) 256 47 ((130 * u + (b + 1) : Nat) : Int)) u b k := ⟨F0.1, F0.2.1, fun j hj => F0.2.2.1 j (by omega), F0.2.2.2⟩
    have c53 : aup (aup E1 295 (130 * u + b) (E1 256 53)) 256 47 ((130 * u + (b + 1) : Nat) : Int) 256 53 = E1 256 53 := by rw [aupJ (by decide), aupN (by decide)]
    refine ⟨_, ?_, f2, F, by rw [aupE], fun q q1 q2 => by rw [aupN (by omega), aupN (by omega), a3.1 q (by omega) (by omega) (by omega) (by omega), aupN (by omega)], ?_, ?_, fun z => ?_⟩
    · rw [← f1]
      simp (disch := omega) only [k256, pr_51 hp, e47, n_294 hκ, h13', a1, cond_true, cond_false, Bool.and_true, Bool.true_and, Bool.and_false, Bool.false_and, Int.toNat_natCast, Int.reduceToNat, bI_s, bJ_s, bV_s, bR_s, decide_true, decide_false, not_true_eq_false, not_false_eq_true, dT, dF, w_al, w_la, w_ab, w_sl, w_sb, w_dec, w_ml, w_lm, ol2i_n, aup_ne, aupE, aupJ, setc_self, setc_ne]
    · rw [aupN (by decide), aupN (by decide), a3.1 294 (by decide) (by decide) (by decide) (by decide), aupE]
    · rw [c53, aupN (by decide), aupE]
    · obtain ⟨j1, k', j2, j3, j4, j5⟩ := a4 z
      rw [c53]
      refine ⟨by rw [aupJ (by decide), aupN (by decide)]; exact j1, k0, k', e53, j2, j3, j4, seg_same j5 (fun j hj => ⟨by rw [aupN (by decide), aupN (by decide)], by rw [aupN (by decide), aupN (by decide)]⟩), F0.2.2.1⟩
  · rw [sm_f hs]
    have g47 : aup E 294 (130 * u + b) (E 256 53) 256 47 = ((130 * u + b : Nat) : Int) := by rw [aupN (by decide)]; exact e47
    obtain ⟨f1, f2⟩ := fin _ _ s1 g47
    have c53 : aup (aup (aup E 294 (130 * u + b) (E 256 53)) 295 (130 * u + b) (aup E 294 (130 * u + b) (E 256 53) 256 53)) 256 47 ((130 * u + (b + 1) : Nat) : Int) 256 53 = E 256 53 := by rw [aupJ (by decide), aupN (by decide), aupN (by decide)]
    refine ⟨_, ?_, f2, ((RwF.arr (by decide) (by decide) (Nat.le_refl _) _).trans (RwF.arr (by decide) (by decide) (Nat.le_refl _) _) (Nat.le_refl _) (Nat.le_refl k)).trans (RwF.f47 _) (Nat.le_refl _) (Nat.le_refl _), by rw [aupE], fun q q1 q2 => by rw [aupN (by omega), aupN (by omega), aupN (by omega)], ?_, ?_, fun z => absurd z hs⟩
    · rw [← f1]
      simp (disch := omega) only [k256, pr_51 hp, e47, n_294 hκ, h13, cond_true, cond_false, Bool.and_true, Bool.true_and, Bool.and_false, Bool.false_and, Int.toNat_natCast, Int.reduceToNat, bI_s, bJ_s, bV_s, bR_s, decide_true, decide_false, not_true_eq_false, not_false_eq_true, dT, dF, w_al, w_la, w_ab, w_sl, w_sb, w_dec, w_ml, w_lm, ol2i_n, aup_ne, aupE, aupJ, setc_self, setc_ne]
    · rw [aupN (by decide), aupN (by decide), aupE]
    · rw [c53, aupN (by decide), aupE, aupN (by decide)]
