/-! The reference reads: its steps. -/
def pfL : List Nat := [11, 12, 13, 14, 15, 16, 47, 53, 56, 57, 59]
def strL : List Nat := [1, 6, 6, 1, 7, 7, 7, 7, 7, 7, 3, 24, 24, 1, 10, 1, 8, 8, 8, 1, 5, 5, 20, 20, 1, 1, 1, 130, 130, 130, 130, 130, 420, 420]
def strd (q : Nat) : Nat := strL.getD (q - 264) 1
/-- what reading leaves as it was: all but the tell's own fields, and the side of the text told now -/
def RFp (D E : Nat → Nat → Int) (v : Nat) : Prop := (∀ q, q ≠ 256 → q < 264 ∨ 298 < q → E q = D q) ∧ (∀ j, j ∉ pfL → E 256 j = D 256 j) ∧ (∀ q, 264 ≤ q → q ≤ 297 → ∀ j, j / strd q = v → E q j = D q j)
theorem pr_pf : ∀ j ∈ prL, j ∉ pfL := by decide
theorem RFp.ptr {D E : Nat → Nat → Int} {v : Nat} (h : RFp D E v) (hp : PtrR D) : PtrR E := hp.of (fun j hj => h.2.1 j (pr_pf j hj))
theorem RFp.wr {D E : Nat → Nat → Int} {v : Nat} (h : RFp D E v) {q j : Nat} (h1 : 264 ≤ q) (h2 : q ≤ 297) (hj : ¬ j / strd q = v) (x : Int) : RFp D (aup E q j x) v := by
  obtain ⟨a1, a2, a3⟩ := h
  refine ⟨fun q' b1 b2 => by rw [aupN (by omega)]; exact a1 q' b1 b2, fun i hi => by rw [aupN (by omega)]; exact a2 i hi, fun q' b1 b2 i hi => ?_⟩
  by_cases e : q' = q
  · subst e
    rw [aupJ (show i ≠ j from fun e => hj (by rw [← e]; exact hi))]
    exact a3 q' b1 b2 i hi
  · rw [aupN e]
    exact a3 q' b1 b2 i hi
theorem RFp.fld {D E : Nat → Nat → Int} {v : Nat} (h : RFp D E v) {j : Nat} (hj : j ∈ pfL) (x : Int) : RFp D (aup E 256 j x) v := by
  obtain ⟨a1, a2, a3⟩ := h
  exact ⟨fun q' b1 b2 => by rw [aupN b1]; exact a1 q' b1 b2, fun i hi => by rw [aupJ (show i ≠ j from fun e => hi (by rw [e]; exact hj))]; exact a2 i hi, fun q' b1 b2 i hi => by rw [aupN (by omega)]; exact a3 q' b1 b2 i hi⟩
theorem RFp.w298 {D E : Nat → Nat → Int} {v : Nat} (h : RFp D E v) (j : Nat) (x : Int) : RFp D (aup E 298 j x) v := by
  obtain ⟨a1, a2, a3⟩ := h
  exact ⟨fun q' b1 b2 => by rw [aupN (by omega)]; exact a1 q' b1 b2, fun i hi => by rw [aupN (by decide)]; exact a2 i hi, fun q' b1 b2 i hi => by rw [aupN (by omega)]; exact a3 q' b1 b2 i hi⟩
/-- the reference's place in the tokens, its fault, and the worst word so far -/
def RpS (D E : Nat → Nat → Int) (v : Nat) (T : Nat → TK) (s w : SS) : Prop := RFp D E v ∧ E 256 13 = (s.2 : Int) ∧ (∃ t : Nat, t ≤ 400 ∧ E 256 11 = (t : Int)) ∧ (¬ s.2 = 0 → E 256 14 = (tkP (T s.1) : Int)) ∧ (s.2 = 0 → E 256 11 = (s.1 : Int) ∧ s.1 ≤ 400 ∧ live T s.1 ∧ E 256 15 = (w.1 : Int) ∧ (¬ w.1 = 0 → E 256 16 = (w.2 : Int)))
theorem RpS.any {D E : Nat → Nat → Int} {v : Nat} {T : Nat → TK} {s w : SS} (h : RpS D E v T s w) (hs : ¬ s.2 = 0) (w' : SS) : RpS D E v T s w' := ⟨h.1, h.2.1, h.2.2.1, h.2.2.2.1, fun q => absurd q hs⟩
theorem RpS.fr {D E E' : Nat → Nat → Int} {v : Nat} {T : Nat → TK} {s w : SS} (h : RpS D E v T s w) (hf : RFp D E' v) (he : ∀ j, j = 11 ∨ j = 13 ∨ j = 14 ∨ j = 15 ∨ j = 16 → E' 256 j = E 256 j) : RpS D E' v T s w := by
  obtain ⟨h1, h2, h3, h4, h5⟩ := h
  exact ⟨hf, by rw [he 13 (by omega)]; exact h2, by rw [he 11 (by omega)]; exact h3, by rw [he 14 (by omega)]; exact h4, by rw [he 11 (by omega), he 15 (by omega), he 16 (by omega)]; exact h5⟩
def Rq (E E' : Nat → Nat → Int) : Prop := (∀ q, q ≠ 256 → E' q = E q) ∧ (∀ j, ¬ (j = 11 ∨ j = 13 ∨ j = 14 ∨ j = 15 ∨ j = 16) → E' 256 j = E 256 j)
theorem Rq.rfl' {E : Nat → Nat → Int} : Rq E E := ⟨fun _ _ => rfl, fun _ _ => rfl⟩
theorem Rq.trans {E E1 E2 : Nat → Nat → Int} (h1 : Rq E E1) (h2 : Rq E1 E2) : Rq E E2 := ⟨fun q a => (h2.1 q a).trans (h1.1 q a), fun j a => (h2.2 j a).trans (h1.2 j a)⟩
theorem Rq.up {E : Nat → Nat → Int} {j : Nat} (hj : j = 11 ∨ j = 13 ∨ j = 14 ∨ j = 15 ∨ j = 16) (x : Int) : Rq E (aup E 256 j x) := ⟨fun q a => aupN a, fun i hi => aupJ (fun e => hi (e ▸ hj))⟩
theorem RFp.tk {D E : Nat → Nat → Int} {v : Nat} {T : Nat → TK} (h : RFp D E v) (hk : TkR D T) : TkR E T := by
  intro j hj hl
  rw [h.1 259 (by decide) (by omega), h.1 260 (by decide) (by omega), h.1 261 (by decide) (by omega), h.1 262 (by decide) (by omega)]
  exact hk j hj hl
theorem r_is (xs : List Int) (d : Nat) {κ : aK} {D E : Nat → Nat → Int} (hκ : Shp κ) (hpD : PtrR D) {v : Nat} {T : Nat → TK} (hT : TKok T) (hk : TkR D T) {s w : SS} (h : RpS D E v T s w) {k : Nat} (hkv : k ∈ kvL) {kk : Int} (hkk : kk = (rho k : Int)) : cl xs (d + 1) 199 [.inr (.inr 256), .inl kk] (κ, E) = some (some (.inl (if s.2 = 0 ∧ tkK (T s.1) = k then 1 else 0)), (κ, E)) := by
  have k256 := k_256 hκ
  have hp := h.1.ptr hpD
  have htk := h.1.tk hk
  obtain ⟨h1, h2, h3, h4, h5⟩ := h
  subst hkk
  rw [c_199]
  by_cases hs : s.2 = 0
  · obtain ⟨g1, g2, g3, g4, g5⟩ := h5 hs
    have e := (htk s.1 g2 g3).1
    rw [hs] at h2
    by_cases hk' : tkK (T s.1) = k
    · rw [if_pos ⟨hs, hk'⟩]
      rw [hk'] at e
      simp (disch := omega) only [cond_true, cond_false, Bool.and_true, Bool.true_and, Bool.and_false, Bool.false_and, Int.toNat_natCast, Int.reduceToNat, bI_s, bJ_s, bV_s, bR_s, decide_true, decide_false, not_true_eq_false, not_false_eq_true, dT, dF, w_al, w_la, w_ab, w_sl, w_sb, w_dec, w_ml, w_lm, ol2i_n, aup_ne, aupE, aupJ, setc_self, setc_ne, k256, h2, Int.ofNat_zero, Int.natCast_zero, pr_5 hp, g1, n_259 hκ, e]
    · rw [if_neg (fun q => hk' q.2)]
      have ne : ¬ ((rho (tkK (T s.1)) : Nat) : Int) = ((rho k : Nat) : Int) := fun q => hk' ((rho_iff (hT.1 _) hkv).mp q)
      simp (disch := omega) only [cond_true, cond_false, Bool.and_true, Bool.true_and, Bool.and_false, Bool.false_and, Int.toNat_natCast, Int.reduceToNat, bI_s, bJ_s, bV_s, bR_s, decide_true, decide_false, not_true_eq_false, not_false_eq_true, dT, dF, w_al, w_la, w_ab, w_sl, w_sb, w_dec, w_ml, w_lm, ol2i_n, aup_ne, aupE, aupJ, setc_self, setc_ne, k256, h2, Int.ofNat_zero, Int.natCast_zero, pr_5 hp, g1, n_259 hκ, e, ne]
  · rw [if_neg (fun q => hs q.1)]
    simp (disch := omega) only [cond_true, cond_false, Bool.and_true, Bool.true_and, Bool.and_false, Bool.false_and, Int.toNat_natCast, Int.reduceToNat, bI_s, bJ_s, bV_s, bR_s, decide_true, decide_false, not_true_eq_false, not_false_eq_true, dT, dF, w_al, w_la, w_ab, w_sl, w_sb, w_dec, w_ml, w_lm, ol2i_n, aup_ne, aupE, aupJ, setc_self, setc_ne, k256, h2]
theorem r_fail (xs : List Int) (d : Nat) {κ : aK} {D E : Nat → Nat → Int} (hκ : Shp κ) (hpD : PtrR D) {v : Nat} {T : Nat → TK} (hT : TKok T) (hk : TkR D T) {s w : SS} (h : RpS D E v T s w) {k : Nat} (hk0 : ¬ k = 0) {kk : Int} (hkk : kk = (k : Int)) : ∃ E', cl xs (d + 1) 200 [.inr (.inr 256), .inl kk] (κ, E) = some (none, (κ, E')) ∧ RpS D E' v T (fl k s) w ∧ Rq E E' := by
  have k256 := k_256 hκ
  have hp := h.1.ptr hpD
  have htk := h.1.tk hk
  have hh := h
  obtain ⟨h1, h2, h3, h4, h5⟩ := h
  subst hkk
  rw [c_200]
  unfold fl
  by_cases hs : s.2 = 0
  · rw [if_pos hs]
    obtain ⟨g1, g2, g3, g4, g5⟩ := h5 hs
    have e := (htk s.1 g2 g3).2.1
    rw [hs] at h2
    refine ⟨aup (aup E 256 13 (k : Int)) 256 14 (tkP (T s.1) : Int), ?_, ⟨(h1.fld (by decide) _).fld (by decide) _, by rw [aupJ (by decide), aupE], ⟨s.1, g2, by rw [aupJ (by decide), aupJ (by decide)]; exact g1⟩, fun _ => by rw [aupE], fun q => absurd q hk0⟩, (Rq.up (by omega) _).trans (Rq.up (by omega) _)⟩
    simp (disch := omega) only [cond_true, cond_false, Bool.and_true, Bool.true_and, Bool.and_false, Bool.false_and, Int.toNat_natCast, Int.reduceToNat, bI_s, bJ_s, bV_s, bR_s, decide_true, decide_false, not_true_eq_false, not_false_eq_true, dT, dF, w_al, w_la, w_ab, w_sl, w_sb, w_dec, w_ml, w_lm, ol2i_n, aup_ne, aupE, aupJ, setc_self, setc_ne, k256, h2, Int.ofNat_zero, Int.natCast_zero, pr_6 hp, g1, n_260 hκ, e]
  · rw [if_neg hs]
    refine ⟨E, ?_, hh, Rq.rfl'⟩
    simp (disch := omega) only [cond_true, cond_false, Bool.and_true, Bool.true_and, Bool.and_false, Bool.false_and, Int.toNat_natCast, Int.reduceToNat, bI_s, bJ_s, bV_s, bR_s, decide_true, decide_false, not_true_eq_false, not_false_eq_true, dT, dF, w_al, w_la, w_ab, w_sl, w_sb, w_dec, w_ml, w_lm, ol2i_n, aup_ne, aupE, aupJ, setc_self, setc_ne, k256, h2]
def goG (s : SS) : SS := if s.2 = 0 then (if 400 ≤ s.1 then (s.1, 2) else (s.1 + 1, 0)) else s
theorem goG_f {s : SS} (h : ¬ s.2 = 0) : goG s = s := if_neg h
theorem goG_mu {T : Nat → TK} {k : Nat} {s : SS} (h : tkK (T s.1) = k) : mu T k s = goG s := by
  unfold mu goG
  by_cases hs : s.2 = 0
  · rw [if_pos hs, if_pos hs, if_pos h]
  · rw [if_neg hs, if_neg hs]
theorem r_go (xs : List Int) (d : Nat) {κ : aK} {D E : Nat → Nat → Int} (hκ : Shp κ) (hpD : PtrR D) {v : Nat} {T : Nat → TK} (hT : TKok T) (hk : TkR D T) {s w : SS} (h : RpS D E v T s w) (hz : s.2 = 0 → ¬ tkK (T s.1) = 0) : ∃ E', cl xs (d + 2) 202 [.inr (.inr 256)] (κ, E) = some (none, (κ, E')) ∧ RpS D E' v T (goG s) w ∧ Rq E E' := by
  have k256 := k_256 hκ
  have hh := h
  obtain ⟨h1, h2, ⟨t, t1, t2⟩, h4, h5⟩ := h
  by_cases hs : s.2 = 0
  · obtain ⟨g1, g2, g3, g4, g5⟩ := h5 hs
    have eg : goG s = (if 400 ≤ s.1 then (s.1, 2) else (s.1 + 1, 0)) := if_pos hs
    rw [eg]
    by_cases h400 : 400 ≤ s.1
    · rw [if_pos h400]
      obtain ⟨E', e1, e2, e3⟩ := r_fail xs d hκ hpD hT hk hh (k := 2) (by decide) (kk := 2) rfl
      have ef : fl 2 s = (s.1, 2) := if_pos hs
      rw [ef] at e2
      refine ⟨E', ?_, e2, e3⟩
      have : E 256 11 = 400 := by rw [g1]; omega
      rw [c_202]
      simp (disch := omega) only [cond_true, cond_false, Bool.and_true, Bool.true_and, Bool.and_false, Bool.false_and, Int.toNat_natCast, Int.reduceToNat, bI_s, bJ_s, bV_s, bR_s, decide_true, decide_false, not_true_eq_false, not_false_eq_true, dT, dF, w_al, w_la, w_ab, w_sl, w_sb, w_dec, w_ml, w_lm, ol2i_n, aup_ne, aupE, aupJ, setc_self, setc_ne, k256, this, e1]
    · rw [if_neg h400]
      refine ⟨aup E 256 11 ((s.1 + 1 : Nat) : Int), ?_, ⟨h1.fld (by decide) _, by rw [aupJ (by decide), h2, hs], ⟨s.1 + 1, by omega, by rw [aupE]⟩, fun q => absurd rfl q, fun _ => ⟨by rw [aupE], by show s.1 + 1 ≤ 400; omega, live_s g3 (hz hs), by rw [aupJ (by decide)]; exact g4, by rw [aupJ (by decide)]; exact g5⟩⟩, Rq.up (by omega) _⟩
      rw [c_202]
      simp (disch := omega) only [cond_true, cond_false, Bool.and_true, Bool.true_and, Bool.and_false, Bool.false_and, Int.toNat_natCast, Int.reduceToNat, bI_s, bJ_s, bV_s, bR_s, decide_true, decide_false, not_true_eq_false, not_false_eq_true, dT, dF, w_al, w_la, w_ab, w_sl, w_sb, w_dec, w_ml, w_lm, ol2i_n, aup_ne, aupE, aupJ, setc_self, setc_ne, k256, g1]
  · rw [goG_f hs]
    by_cases h400 : t = 400
    · obtain ⟨E', e1, e2, e3⟩ := r_fail xs d hκ hpD hT hk hh (k := 2) (by decide) (kk := 2) rfl
      rw [fl_f hs] at e2
      refine ⟨E', ?_, e2, e3⟩
      have : E 256 11 = 400 := by rw [t2]; omega
      rw [c_202]
      simp (disch := omega) only [cond_true, cond_false, Bool.and_true, Bool.true_and, Bool.and_false, Bool.false_and, Int.toNat_natCast, Int.reduceToNat, bI_s, bJ_s, bV_s, bR_s, decide_true, decide_false, not_true_eq_false, not_false_eq_true, dT, dF, w_al, w_la, w_ab, w_sl, w_sb, w_dec, w_ml, w_lm, ol2i_n, aup_ne, aupE, aupJ, setc_self, setc_ne, k256, this, e1]
    · refine ⟨aup E 256 11 ((t + 1 : Nat) : Int), ?_, ⟨h1.fld (by decide) _, by rw [aupJ (by decide)]; exact h2, ⟨t + 1, by omega, by rw [aupE]⟩, fun q => by rw [aupJ (by decide)]; exact h4 q, fun q => absurd q hs⟩, Rq.up (by omega) _⟩
      rw [c_202]
      simp (disch := omega) only [cond_true, cond_false, Bool.and_true, Bool.true_and, Bool.and_false, Bool.false_and, Int.toNat_natCast, Int.reduceToNat, bI_s, bJ_s, bV_s, bR_s, decide_true, decide_false, not_true_eq_false, not_false_eq_true, dT, dF, w_al, w_la, w_ab, w_sl, w_sb, w_dec, w_ml, w_lm, ol2i_n, aup_ne, aupE, aupJ, setc_self, setc_ne, k256, t2]
theorem r_must (xs : List Int) (d : Nat) {κ : aK} {D E : Nat → Nat → Int} (hκ : Shp κ) (hpD : PtrR D) {v : Nat} {T : Nat → TK} (hT : TKok T) (hk : TkR D T) {s w : SS} (h : RpS D E v T s w) {k : Nat} (hkv : k ∈ kvL) (hk0 : ¬ k = 0) {kk : Int} (hkk : kk = (rho k : Int)) : ∃ E', cl xs (d + 3) 203 [.inr (.inr 256), .inl kk] (κ, E) = some (none, (κ, E')) ∧ RpS D E' v T (mu T k s) w ∧ Rq E E' := by
  have k256 := k_256 hκ
  have is := r_is xs (d + 1) hκ hpD hT hk h hkv hkk
  rw [c_203]
  by_cases hc : s.2 = 0 ∧ tkK (T s.1) = k
  · rw [if_pos hc] at is
    obtain ⟨E', e1, e2, e3⟩ := r_go xs d hκ hpD hT hk h (fun _ => by rw [hc.2]; exact hk0)
    rw [goG_mu hc.2]
    refine ⟨E', ?_, e2, e3⟩
    simp (disch := omega) only [cond_true, cond_false, Bool.and_true, Bool.true_and, Bool.and_false, Bool.false_and, Int.toNat_natCast, Int.reduceToNat, bI_s, bJ_s, bV_s, bR_s, decide_true, decide_false, not_true_eq_false, not_false_eq_true, dT, dF, w_al, w_la, w_ab, w_sl, w_sb, w_dec, w_ml, w_lm, ol2i_n, aup_ne, aupE, aupJ, setc_self, setc_ne, k256, is, e1]
  · rw [if_neg hc] at is
    obtain ⟨E', e1, e2, e3⟩ := r_fail xs (d + 1) hκ hpD hT hk h (k := 1) (by decide) (kk := 1) rfl
    have em : mu T k s = fl 1 s := by
      unfold mu fl
      split
      · rename_i q
        rw [if_neg (fun z => hc ⟨q, z⟩)]
      · rfl
    rw [em]
    refine ⟨E', ?_, e2, e3⟩
    simp (disch := omega) only [cond_true, cond_false, Bool.and_true, Bool.true_and, Bool.and_false, Bool.false_and, Int.toNat_natCast, Int.reduceToNat, bI_s, bJ_s, bV_s, bR_s, decide_true, decide_false, not_true_eq_false, not_false_eq_true, dT, dF, w_al, w_la, w_ab, w_sl, w_sb, w_dec, w_ml, w_lm, ol2i_n, aup_ne, aupE, aupJ, setc_self, setc_ne, k256, is, e1]
def wbf (T : Nat → TK) (w : SS) (j : Nat) : Prop := w.1 = 0 ∨ w.2 < tkP (T j)
theorem wbf_s {T : Nat → TK} (hT : TKok T) {w : SS} {j : Nat} (h : wbf T w j) (hz : ¬ tkK (T j) = 0) : wbf T w (j + 1) := by
  rcases h with h | h
  · exact Or.inl h
  · exact Or.inr (Nat.lt_trans h (hT.2.1 j hz))
theorem wbf_le {T : Nat → TK} (hT : TKok T) {w : SS} {i j : Nat} (h : wbf T w i) (hl : live T j) (hij : i ≤ j) : wbf T w j := by
  induction j with
  | zero =>
    have : i = 0 := by omega
    subst this
    exact h
  | succ j ih =>
    by_cases e : i = j + 1
    · rw [← e]; exact h
    · exact wbf_s hT (ih (live_le hl (by omega)) (by omega)) (hl j (by omega))
theorem wbf_w {T : Nat → TK} (hT : TKok T) {w : SS} {j k : Nat} (h : wbf T w j) (hz : ¬ tkK (T j) = 0) : wbf T (wrg w k (tkP (T j))) (j + 1) := by
  unfold wrg
  split
  · exact Or.inr (hT.2.1 j hz)
  · exact wbf_s hT h hz
/-- a word that is wrong, of a kind told once more at the same place or farther on -/
theorem r_wrong (xs : List Int) (d : Nat) {κ : aK} {D E : Nat → Nat → Int} (hκ : Shp κ) (hpD : PtrR D) {v : Nat} {T : Nat → TK} (hT : TKok T) (hk : TkR D T) {s w : SS} (h : RpS D E v T s w) {j : Nat} (hj : j ≤ 400) (hl : s.2 = 0 → live T j) {k : Nat} (hk0 : ¬ k = 0) {kk jj : Int} (hkk : kk = (k : Int)) (hjj : jj = (j : Int)) (hb : s.2 = 0 → wbf T w j ∨ (w.2 = tkP (T j) ∧ w.1 ≤ k)) : ∃ E', cl xs (d + 1) 201 [.inr (.inr 256), .inl kk, .inl jj] (κ, E) = some (none, (κ, E')) ∧ RpS D E' v T s (wrg w k (tkP (T j))) ∧ Rq E E' := by
  have k256 := k_256 hκ
  have hp := h.1.ptr hpD
  have htk := h.1.tk hk
  have hh := h
  obtain ⟨h1, h2, h3, h4, h5⟩ := h
  subst hkk hjj
  rw [c_201]
  by_cases hs : s.2 = 0
  · obtain ⟨g1, g2, g3, g4, g5⟩ := h5 hs
    have e := (htk j hj (hl hs)).2.1
    rw [hs] at h2
    have h2' : E 256 13 = 0 := h2
    by_cases hw : w.1 = 0
    · have ew : wrg w k (tkP (T j)) = (k, tkP (T j)) := if_pos hw
      rw [ew]
      have g4' : E 256 15 = 0 := by rw [g4, hw]; rfl
      refine ⟨aup (aup E 256 15 (k : Int)) 256 16 (tkP (T j) : Int), ?_, ⟨(h1.fld (by decide) _).fld (by decide) _, by rw [aupJ (by decide), aupJ (by decide), hs]; exact h2, by rw [aupJ (by decide), aupJ (by decide)]; exact h3, by rw [aupJ (by decide), aupJ (by decide)]; exact h4, fun _ => ⟨by rw [aupJ (by decide), aupJ (by decide)]; exact g1, g2, g3, by rw [aupJ (by decide), aupE], fun _ => by rw [aupE]⟩⟩, (Rq.up (by omega) _).trans (Rq.up (by omega) _)⟩
      simp (disch := omega) only [cond_true, cond_false, Bool.and_true, Bool.true_and, Bool.and_false, Bool.false_and, Int.toNat_natCast, Int.reduceToNat, bI_s, bJ_s, bV_s, bR_s, decide_true, decide_false, not_true_eq_false, not_false_eq_true, dT, dF, w_al, w_la, w_ab, w_sl, w_sb, w_dec, w_ml, w_lm, ol2i_n, aup_ne, aupE, aupJ, setc_self, setc_ne, k256, h2', pr_6 hp, n_260 hκ, e, g4']
    · have ew : wrg w k (tkP (T j)) = w := if_neg hw
      rw [ew]
      refine ⟨E, ?_, hh, Rq.rfl'⟩
      have g5' := g5 hw
      have nz : ¬ ((w.1 : Nat) : Int) = 0 := by omega
      rcases hb hs with hb | ⟨hb1, hb2⟩
      · have hlt : w.2 < tkP (T j) := by rcases hb with q | q; exact absurd q hw; exact q
        simp (disch := omega) only [cond_true, cond_false, Bool.and_true, Bool.true_and, Bool.and_false, Bool.false_and, Int.toNat_natCast, Int.reduceToNat, bI_s, bJ_s, bV_s, bR_s, decide_true, decide_false, not_true_eq_false, not_false_eq_true, dT, dF, w_al, w_la, w_ab, w_sl, w_sb, w_dec, w_ml, w_lm, ol2i_n, aup_ne, aupE, aupJ, setc_self, setc_ne, k256, h2', pr_6 hp, n_260 hκ, e, g4, nz, g5']
      · rw [← hb1] at e
        simp (disch := omega) only [cond_true, cond_false, Bool.and_true, Bool.true_and, Bool.and_false, Bool.false_and, Int.toNat_natCast, Int.reduceToNat, bI_s, bJ_s, bV_s, bR_s, decide_true, decide_false, not_true_eq_false, not_false_eq_true, dT, dF, w_al, w_la, w_ab, w_sl, w_sb, w_dec, w_ml, w_lm, ol2i_n, aup_ne, aupE, aupJ, setc_self, setc_ne, k256, h2', pr_6 hp, n_260 hκ, e, g4, nz, g5']
  · refine ⟨E, ?_, hh.any hs _, Rq.rfl'⟩
    obtain ⟨t, t1, t2⟩ := h3
    simp (disch := omega) only [cond_true, cond_false, Bool.and_true, Bool.true_and, Bool.and_false, Bool.false_and, Int.toNat_natCast, Int.reduceToNat, bI_s, bJ_s, bV_s, bR_s, decide_true, decide_false, not_true_eq_false, not_false_eq_true, dT, dF, w_al, w_la, w_ab, w_sl, w_sb, w_dec, w_ml, w_lm, ol2i_n, aup_ne, aupE, aupJ, setc_self, setc_ne, k256, h2, pr_6 hp, n_260 hκ]
/-- room for one more, at its first token -/
theorem r_room (xs : List Int) (d : Nat) {κ : aK} {D E : Nat → Nat → Int} (hκ : Shp κ) (hpD : PtrR D) {v : Nat} {T : Nat → TK} (hT : TKok T) (hk : TkR D T) {s w : SS} (h : RpS D E v T s w) (hz : s.2 = 0 → ¬ tkK (T s.1) = 0) {has most : Nat} (hm : has ≤ most) {hh' mm : Int} (e1 : hh' = (has : Int)) (e2 : mm = (most : Int)) : ∃ E', cl xs (d + 3) 206 [.inr (.inr 256), .inl hh', .inl mm] (κ, E) = some (none, (κ, E')) ∧ RpS D E' v T (if s.2 = 0 then (if most ≤ has then (s.1, 2) else goG s) else s) w ∧ Rq E E' := by
  have k256 := k_256 hκ
  subst e1 e2
  have h2 := h.2.1
  -- what follows
  have nx : ∀ (E1 : Nat → Nat → Int) (s1 : SS), RpS D E1 v T s1 w → (s1.2 = 0 → ¬ tkK (T s1.1) = 0) → ∃ E', ev xs (d + 2) mm_206 10 [some (.inr (.inr 256)), some (.inl (has : Int)), some (.inl (most : Int))] [] (κ, E1) = some (none, (κ, E')) ∧ RpS D E' v T (goG s1) w ∧ Rq E1 E' := fun E1 s1 g gz => by
    have g2 := g.2.1
    rw [q_206_10]
    by_cases hs : s1.2 = 0
    · obtain ⟨E', f1, f2, f3⟩ := r_go xs d hκ hpD hT hk g gz
      rw [hs] at g2
      have g2' : E1 256 13 = 0 := g2
      refine ⟨E', ?_, f2, f3⟩
      simp (disch := omega) only [cond_true, cond_false, Bool.and_true, Bool.true_and, Bool.and_false, Bool.false_and, Int.toNat_natCast, Int.reduceToNat, bI_s, bJ_s, bV_s, bR_s, decide_true, decide_false, not_true_eq_false, not_false_eq_true, dT, dF, w_al, w_la, w_ab, w_sl, w_sb, w_dec, w_ml, w_lm, ol2i_n, aup_ne, aupE, aupJ, setc_self, setc_ne, k256, g2', f1]
    · rw [goG_f hs]
      refine ⟨E1, ?_, g, Rq.rfl'⟩
      simp (disch := omega) only [cond_true, cond_false, Bool.and_true, Bool.true_and, Bool.and_false, Bool.false_and, Int.toNat_natCast, Int.reduceToNat, bI_s, bJ_s, bV_s, bR_s, decide_true, decide_false, not_true_eq_false, not_false_eq_true, dT, dF, w_al, w_la, w_ab, w_sl, w_sb, w_dec, w_ml, w_lm, ol2i_n, aup_ne, aupE, aupJ, setc_self, setc_ne, k256, g2]
  rw [c_206]
  by_cases hs : s.2 = 0
  · rw [if_pos hs]
    by_cases hmh : most ≤ has
    · rw [if_pos hmh]
      have e : has = most := by omega
      obtain ⟨E1, f1, f2, f3⟩ := r_fail xs (d + 1) hκ hpD hT hk h (k := 2) (by decide) (kk := 2) rfl
      have ef : fl 2 s = (s.1, 2) := if_pos hs
      rw [ef] at f2
      obtain ⟨E', g1, g2, g3⟩ := nx E1 _ f2 (fun q => absurd q (show ¬ 2 = 0 by decide))
      rw [goG_f (show ¬ (s.1, 2).2 = 0 from (show ¬ 2 = 0 by decide))] at g2
      refine ⟨E', ?_, g2, f3.trans g3⟩
      rw [← g1, e]
      simp (disch := omega) only [cond_true, cond_false, Bool.and_true, Bool.true_and, Bool.and_false, Bool.false_and, Int.toNat_natCast, Int.reduceToNat, bI_s, bJ_s, bV_s, bR_s, decide_true, decide_false, not_true_eq_false, not_false_eq_true, dT, dF, w_al, w_la, w_ab, w_sl, w_sb, w_dec, w_ml, w_lm, ol2i_n, aup_ne, aupE, aupJ, setc_self, setc_ne, k256, f1]
    · rw [if_neg hmh]
      obtain ⟨E', g1, g2, g3⟩ := nx E s h hz
      refine ⟨E', ?_, g2, g3⟩
      rw [← g1]
      have ne : ¬ (has : Int) = (most : Int) := by omega
      simp (disch := omega) only [cond_true, cond_false, Bool.and_true, Bool.true_and, Bool.and_false, Bool.false_and, Int.toNat_natCast, Int.reduceToNat, bI_s, bJ_s, bV_s, bR_s, decide_true, decide_false, not_true_eq_false, not_false_eq_true, dT, dF, w_al, w_la, w_ab, w_sl, w_sb, w_dec, w_ml, w_lm, ol2i_n, aup_ne, aupE, aupJ, setc_self, setc_ne, ne]
  · rw [if_neg hs]
    obtain ⟨E1, f1, f2, f3⟩ := r_fail xs (d + 1) hκ hpD hT hk h (k := 2) (by decide) (kk := 2) rfl
    rw [fl_f hs] at f2
    by_cases e : has = most
    · obtain ⟨E', g1, g2, g3⟩ := nx E1 _ f2 (fun q => absurd q hs)
      rw [goG_f hs] at g2
      refine ⟨E', ?_, g2, f3.trans g3⟩
      rw [← g1, e]
      simp (disch := omega) only [cond_true, cond_false, Bool.and_true, Bool.true_and, Bool.and_false, Bool.false_and, Int.toNat_natCast, Int.reduceToNat, bI_s, bJ_s, bV_s, bR_s, decide_true, decide_false, not_true_eq_false, not_false_eq_true, dT, dF, w_al, w_la, w_ab, w_sl, w_sb, w_dec, w_ml, w_lm, ol2i_n, aup_ne, aupE, aupJ, setc_self, setc_ne, k256, f1]
    · obtain ⟨E', g1, g2, g3⟩ := nx E s h hz
      rw [goG_f hs] at g2
      refine ⟨E', ?_, g2, g3⟩
      rw [← g1]
      have ne : ¬ (has : Int) = (most : Int) := by omega
      simp (disch := omega) only [cond_true, cond_false, Bool.and_true, Bool.true_and, Bool.and_false, Bool.false_and, Int.toNat_natCast, Int.reduceToNat, bI_s, bJ_s, bV_s, bR_s, decide_true, decide_false, not_true_eq_false, not_false_eq_true, dT, dF, w_al, w_la, w_ab, w_sl, w_sb, w_dec, w_ml, w_lm, ol2i_n, aup_ne, aupE, aupJ, setc_self, setc_ne, ne]
/-- a number -/
theorem r_num (xs : List Int) (d : Nat) {κ : aK} {D E : Nat → Nat → Int} (hκ : Shp κ) (hpD : PtrR D) {v : Nat} {T : Nat → TK} (hT : TKok T) (hk : TkR D T) {s w : SS} (h : RpS D E v T s w) {lo hi : Nat} {l' h' : Int} (e1 : l' = (lo : Int)) (e2 : h' = (hi : Int)) (hb : s.2 = 0 → wbf T w s.1) : ∃ (x : Int) (E' : Nat → Nat → Int), cl xs (d + 4) 209 [.inr (.inr 256), .inl l', .inl h'] (κ, E) = some (some (.inl x), (κ, E')) ∧ ((mu T 3 s).2 = 0 → x = (tkV (T s.1) : Int)) ∧ RpS D E' v T (mu T 3 s) (w1N T s.1 lo hi w) ∧ Rq E E' := by
  have k256 := k_256 hκ
  subst e1 e2
  have h2 := h.2.1
  have is := r_is xs (d + 2) hκ hpD hT hk h (k := 3) (by decide) (kk := 2) rfl
  rw [c_209]
  by_cases hs : s.2 = 0
  · obtain ⟨g1, g2, g3, g4, g5⟩ := h.2.2.2.2 hs
    rw [hs] at h2
    have h2' : E 256 13 = 0 := h2
    by_cases hk3 : tkK (T s.1) = 3
    · rw [if_pos ⟨hs, hk3⟩] at is
      have hp := h.1.ptr hpD
      have eV := ((h.1.tk hk) s.1 g2 g3).2.2.1 hk3
      have hz : s.2 = 0 → ¬ tkK (T s.1) = 0 := fun _ => by rw [hk3]; decide
      rw [goG_mu hk3]
      by_cases hr : tkV (T s.1) < lo ∨ hi < tkV (T s.1)
      · have ew : w1N T s.1 lo hi w = wrg w 5 (tkP (T s.1)) := if_pos hr
        rw [ew]
        obtain ⟨E1, f1, f2, f3⟩ := r_wrong xs (d + 2) hκ hpD hT hk h g2 (fun _ => g3) (k := 5) (by decide) (kk := 5) (jj := (s.1 : Int)) rfl rfl (fun q => Or.inl (hb q))
        obtain ⟨E', o1, o2, o3⟩ := r_go xs (d + 1) hκ hpD hT hk f2 hz
        refine ⟨(tkV (T s.1) : Int), E', ?_, fun _ => rfl, o2, f3.trans o3⟩
        by_cases hr1 : tkV (T s.1) < lo
        · simp (disch := omega) only [cond_true, cond_false, Bool.and_true, Bool.true_and, Bool.and_false, Bool.false_and, Int.toNat_natCast, Int.reduceToNat, bI_s, bJ_s, bV_s, bR_s, decide_true, decide_false, not_true_eq_false, not_false_eq_true, dT, dF, w_al, w_la, w_ab, w_sl, w_sb, w_dec, w_ml, w_lm, ol2i_n, aup_ne, aupE, aupJ, setc_self, setc_ne, k256, h2', is, pr_7 hp, n_261 hκ, g1, eV]
          rw [q_209_42]
          simp (disch := omega) only [cond_true, cond_false, Bool.and_true, Bool.true_and, Bool.and_false, Bool.false_and, Int.toNat_natCast, Int.reduceToNat, bI_s, bJ_s, bV_s, bR_s, decide_true, decide_false, not_true_eq_false, not_false_eq_true, dT, dF, w_al, w_la, w_ab, w_sl, w_sb, w_dec, w_ml, w_lm, ol2i_n, aup_ne, aupE, aupJ, setc_self, setc_ne, k256, g1, f1]
          rw [q_209_51]
          simp (disch := omega) only [cond_true, cond_false, Bool.and_true, Bool.true_and, Bool.and_false, Bool.false_and, Int.toNat_natCast, Int.reduceToNat, bI_s, bJ_s, bV_s, bR_s, decide_true, decide_false, not_true_eq_false, not_false_eq_true, dT, dF, w_al, w_la, w_ab, w_sl, w_sb, w_dec, w_ml, w_lm, ol2i_n, aup_ne, aupE, aupJ, setc_self, setc_ne, k256, o1]
        · simp (disch := omega) only [cond_true, cond_false, Bool.and_true, Bool.true_and, Bool.and_false, Bool.false_and, Int.toNat_natCast, Int.reduceToNat, bI_s, bJ_s, bV_s, bR_s, decide_true, decide_false, not_true_eq_false, not_false_eq_true, dT, dF, w_al, w_la, w_ab, w_sl, w_sb, w_dec, w_ml, w_lm, ol2i_n, aup_ne, aupE, aupJ, setc_self, setc_ne, k256, h2', is, pr_7 hp, n_261 hκ, g1, eV]
          rw [q_209_42]
          simp (disch := omega) only [cond_true, cond_false, Bool.and_true, Bool.true_and, Bool.and_false, Bool.false_and, Int.toNat_natCast, Int.reduceToNat, bI_s, bJ_s, bV_s, bR_s, decide_true, decide_false, not_true_eq_false, not_false_eq_true, dT, dF, w_al, w_la, w_ab, w_sl, w_sb, w_dec, w_ml, w_lm, ol2i_n, aup_ne, aupE, aupJ, setc_self, setc_ne, k256, g1, f1]
          rw [q_209_51]
          simp (disch := omega) only [cond_true, cond_false, Bool.and_true, Bool.true_and, Bool.and_false, Bool.false_and, Int.toNat_natCast, Int.reduceToNat, bI_s, bJ_s, bV_s, bR_s, decide_true, decide_false, not_true_eq_false, not_false_eq_true, dT, dF, w_al, w_la, w_ab, w_sl, w_sb, w_dec, w_ml, w_lm, ol2i_n, aup_ne, aupE, aupJ, setc_self, setc_ne, k256, o1]
      · have ew : w1N T s.1 lo hi w = w := if_neg hr
        rw [ew]
        obtain ⟨E', o1, o2, o3⟩ := r_go xs (d + 1) hκ hpD hT hk h hz
        refine ⟨(tkV (T s.1) : Int), E', ?_, fun _ => rfl, o2, o3⟩
        simp (disch := omega) only [cond_true, cond_false, Bool.and_true, Bool.true_and, Bool.and_false, Bool.false_and, Int.toNat_natCast, Int.reduceToNat, bI_s, bJ_s, bV_s, bR_s, decide_true, decide_false, not_true_eq_false, not_false_eq_true, dT, dF, w_al, w_la, w_ab, w_sl, w_sb, w_dec, w_ml, w_lm, ol2i_n, aup_ne, aupE, aupJ, setc_self, setc_ne, k256, h2', is, pr_7 hp, n_261 hκ, g1, eV]
        rw [q_209_51]
        simp (disch := omega) only [cond_true, cond_false, Bool.and_true, Bool.true_and, Bool.and_false, Bool.false_and, Int.toNat_natCast, Int.reduceToNat, bI_s, bJ_s, bV_s, bR_s, decide_true, decide_false, not_true_eq_false, not_false_eq_true, dT, dF, w_al, w_la, w_ab, w_sl, w_sb, w_dec, w_ml, w_lm, ol2i_n, aup_ne, aupE, aupJ, setc_self, setc_ne, k256, o1]
    · rw [if_neg (fun q => hk3 q.2)] at is
      have em : mu T 3 s = fl 1 s := by
        unfold mu fl
        rw [if_pos hs, if_pos hs, if_neg hk3]
      rw [em]
      obtain ⟨E', f1, f2, f3⟩ := r_fail xs (d + 2) hκ hpD hT hk h (k := 1) (by decide) (kk := 1) rfl
      have ef : fl 1 s = (s.1, 1) := if_pos hs
      have hf1 : ¬ (fl 1 s).2 = 0 := by rw [ef]; exact (show ¬ 1 = 0 by decide)
      refine ⟨(lo : Int), E', ?_, fun q => absurd q hf1, f2.any hf1 _, f3⟩
      simp (disch := omega) only [cond_true, cond_false, Bool.and_true, Bool.true_and, Bool.and_false, Bool.false_and, Int.toNat_natCast, Int.reduceToNat, bI_s, bJ_s, bV_s, bR_s, decide_true, decide_false, not_true_eq_false, not_false_eq_true, dT, dF, w_al, w_la, w_ab, w_sl, w_sb, w_dec, w_ml, w_lm, ol2i_n, aup_ne, aupE, aupJ, setc_self, setc_ne, k256, h2', is]
      rw [q_209_15]
      simp (disch := omega) only [cond_true, cond_false, Bool.and_true, Bool.true_and, Bool.and_false, Bool.false_and, Int.toNat_natCast, Int.reduceToNat, bI_s, bJ_s, bV_s, bR_s, decide_true, decide_false, not_true_eq_false, not_false_eq_true, dT, dF, w_al, w_la, w_ab, w_sl, w_sb, w_dec, w_ml, w_lm, ol2i_n, aup_ne, aupE, aupJ, setc_self, setc_ne, k256, f1]
  · rw [mu_f hs]
    obtain ⟨E', f1, f2, f3⟩ := r_fail xs (d + 2) hκ hpD hT hk h (k := 1) (by decide) (kk := 1) rfl
    rw [fl_f hs] at f2
    refine ⟨(lo : Int), E', ?_, fun q => absurd q hs, f2.any hs _, f3⟩
    simp (disch := omega) only [cond_true, cond_false, Bool.and_true, Bool.true_and, Bool.and_false, Bool.false_and, Int.toNat_natCast, Int.reduceToNat, bI_s, bJ_s, bV_s, bR_s, decide_true, decide_false, not_true_eq_false, not_false_eq_true, dT, dF, w_al, w_la, w_ab, w_sl, w_sb, w_dec, w_ml, w_lm, ol2i_n, aup_ne, aupE, aupJ, setc_self, setc_ne, k256, h2]
    rw [q_209_15]
    simp (disch := omega) only [cond_true, cond_false, Bool.and_true, Bool.true_and, Bool.and_false, Bool.false_and, Int.toNat_natCast, Int.reduceToNat, bI_s, bJ_s, bV_s, bR_s, decide_true, decide_false, not_true_eq_false, not_false_eq_true, dT, dF, w_al, w_la, w_ab, w_sl, w_sb, w_dec, w_ml, w_lm, ol2i_n, aup_ne, aupE, aupJ, setc_self, setc_ne, k256, f1]
