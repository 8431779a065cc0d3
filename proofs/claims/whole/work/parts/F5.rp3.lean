/-! The reference reads: pairs, seeds, pieces. -/
def LB (E : Nat → Nat → Int) (u a : Nat) : Prop := ∃ b k : Nat, E 256 47 = ((130 * u + b : Nat) : Int) ∧ 4 * b ≤ a ∧ E 256 53 = ((420 * u + k : Nat) : Int) ∧ k ≤ a ∧ E 256 12 = 0
theorem LB.same {E E' : Nat → Nat → Int} {u a a' : Nat} (h : LB E u a) (ha : a ≤ a') (e1 : E' 256 47 = E 256 47) (e2 : E' 256 53 = E 256 53) (e3 : E' 256 12 = E 256 12) : LB E' u a' := by
  obtain ⟨b, k, h1, h2, h3, h4, h5⟩ := h
  exact ⟨b, k, e1.trans h1, by omega, e2.trans h3, by omega, e3.trans h5⟩
/-- what one tell of the reference leaves behind -/
def RTc (D E E' : Nat → Nat → Int) (v u : Nat) (T : Nat → TK) (c : Nat → Nat) (a : Nat) (w : SS) : Prop := ∃ w' : SS, RpS D E' v T (rtG T c a) w' ∧ ((rtG T c a).2 = 0 → wbf T w' (rtG T c a).1 ∧ RvC E' u (cnU c (tkK (T a))) ∧ (LB E u a → LB E' u (rtG T c a).1) ∧ (¬ w.1 = 0 → w' = w) ∧ ∀ Y, w.1 = 0 → YCn c Y → YOk Y → RvY E u Y → w' = (mtG T a Y w).2 ∧ (w'.1 = 0 → RvY E' u (mtG T a Y w).1))
theorem r_first (xs : List Int) (d : Nat) {κ : aK} {D E : Nat → Nat → Int} {v : Nat} (hκ : Shp κ) (hpD : PtrR D) {T : Nat → TK} (hT : TKok T) (hk : TkR D T) {a : Nat} {w : SS} (h : RpS D E v T (a, 0) w) {k : Nat} (hK : tkK (T a) = k) (hk0 : ¬ k = 0) {has most : Nat} (hm : has ≤ most) {hh' mm : Int} (e1 : hh' = (has : Int)) (e2 : mm = (most : Int)) : ∃ E', cl xs (d + 3) 206 [.inr (.inr 256), .inl hh', .inl mm] (κ, E) = some (none, (κ, E')) ∧ RpS D E' v T (fstG T k has most (a, 0)) w ∧ Rq E E' := by
  obtain ⟨E1, a1, a2, a3⟩ := r_room xs d hκ hpD hT hk h (fun _ => by show ¬ tkK (T a) = 0; omega) hm e1 e2
  have ef2 : fstG T k has most (a, 0) = (if ((a, 0) : SS).2 = 0 then (if most ≤ has then (((a, 0) : SS).1, 2) else goG (a, 0)) else (a, 0)) := by
    unfold fstG
    rw [goG_mu (show tkK (T ((a, 0) : SS).1) = k from hK)]
  rw [← ef2] at a2
  exact ⟨E1, a1, a2, a3⟩
/-- a kind's count grows -/
theorem RvC.up {E E' : Nat → Nat → Int} {u : Nat} {c : Nat → Nat} (h : RvC E u c) {k : Nat} (h0 : E' 264 u = ((if k = 128 then c 0 + 1 else c 0 : Nat) : Int)) (h1 : E' 267 u = ((if k = 129 then c 1 + 1 else c 1 : Nat) : Int)) (h6 : ∀ s, s < 3 → E' 274 (3 * u + s) = ((if k = 134 + s then c (6 + s) + 1 else c (6 + s) : Nat) : Int)) (h9 : E' 277 u = ((if k = 137 then c 9 + 1 else c 9 : Nat) : Int)) (h10 : E' 279 u = ((if k = 138 then c 10 + 1 else c 10 : Nat) : Int)) (h11 : E' 283 u = ((if k = 139 then c 11 + 1 else c 11 : Nat) : Int)) (hb : ∀ j, j < 12 → j + 128 = k → c j < 10) : RvC E' u (cnU c k) := by
  have cc : ∀ j, (cnU c k j) = (if k = 128 + j then c j + 1 else c j) := fun j => by
    unfold cnU
    by_cases e : j + 128 = k
    · rw [if_pos e, if_pos (by omega)]
    · rw [if_neg e, if_neg (by omega)]
  refine ⟨?_, ?_, fun s hs => ?_, ?_, ?_, ?_, fun j hj => ?_⟩
  · rw [cc]; exact h0
  · rw [cc]; exact h1
  · rw [cc, show 128 + (6 + s) = 134 + s by omega]; exact h6 s hs
  · rw [cc]; exact h9
  · rw [cc]; exact h10
  · rw [cc]; exact h11
  · rw [cc]
    by_cases e : k = 128 + j
    · rw [if_pos e]; have := hb j hj (by omega); omega
    · rw [if_neg e]; exact h.2.2.2.2.2.2 j hj
theorem rPair (xs : List Int) (d : Nat) {κ : aK} {D E : Nat → Nat → Int} {v u : Nat} (hκ : Shp κ) (hpD : PtrR D) {T : Nat → TK} (hT : TKok T) (hk : TkR D T) {a : Nat} {w : SS} (h : RpS D E v T (a, 0) w) (hs : RsD D v u) {c : Nat → Nat} (hc : RvC E u c) (hb : wbf T w a) (hx8 : c 10 ≤ 8) (hK : tkK (T a) = 138) (u1 : Option aV) : ∃ E', ev xs (d + 4) mm_208 224 [some (.inr (.inr 256)), u1] [] (κ, E) = some (none, (κ, E')) ∧ RTc D E E' v u T c a w := by
  have k256 := k_256 hκ
  have hcc := hc
  obtain ⟨v1, v2, v3, v4, v5⟩ := hs
  obtain ⟨c0, c1, c6, c9, c10, c11, cb⟩ := hc
  have hc9 := cb 10 (by decide)
  have hp := h.1.ptr hpD
  have e19 : E 256 19 = (u : Int) := by rw [h.1.2.1 19 (by decide)]; exact v2
  have er : rtG T c a = mu T 59 (opt2 T (mu T 2 (mu T 2 (fstG T 138 (c 10) 8 (a, 0))))) := by
    unfold rtG
    rw [if_neg (by omega), if_neg (by omega), if_neg (by omega), if_neg (by omega), if_neg (by omega), if_neg (by omega), if_pos hK]
  obtain ⟨E1, a1, a2, a3⟩ := r_first xs (d + 1) hκ hpD hT hk h hK (by decide) (has := c 10) (most := 8) (by omega) (hh' := (c 10 : Int)) (mm := 8) rfl rfl
  have p35 := pr_35 hp
  have h13 := a2.2.1
  rw [q_208_224]
  by_cases hf1 : (fstG T 138 (c 10) 8 (a, 0)).2 = 0
  · obtain ⟨f1, f2, f3, f4⟩ := fst_ok hf1
    rw [f4] at a2 er h13
    have h13' : E1 256 13 = 0 := h13
    obtain ⟨g11, g400, la1, _⟩ := a2.2.2.2.2 rfl
    have g11 : E1 256 11 = ((a + 1 : Nat) : Int) := g11
    have la1 : live T (a + 1) := la1
    obtain ⟨E2, b1, b2, b3⟩ := r_must xs d hκ hpD hT hk a2 (k := 2) (by decide) (by decide) (kk := 1) rfl
    obtain ⟨E3, d1, d2, d3⟩ := r_must xs d hκ hpD hT hk b2 (k := 2) (by decide) (by decide) (kk := 1) rfl
    have is := r_is xs (d + 2) hκ hpD hT hk d2 (k := 2) (by decide) (kk := 1) rfl
    have h13b := d2.2.1
    -- the other tongue
    have ho : ∃ (E4 : Nat → Nat → Int) (o : Int), (bif decide (¬ E3 256 13 = 0) then ev xs (d + 3) mm_217 53 [some (.inr (.inr 256)), some (.inl ((8 * u + c 10 : Nat) : Int)), some (.inl ((a + 1 : Nat) : Int)), none] [.inl 0] (κ, E3) else bif decide ((if (mu T 2 (mu T 2 (a + 1, 0))).2 = 0 ∧ tkK (T (mu T 2 (mu T 2 (a + 1, 0))).1) = 2 then (1 : Int) else 0) = 0) then ev xs (d + 3) mm_217 53 [some (.inr (.inr 256)), some (.inl ((8 * u + c 10 : Nat) : Int)), some (.inl ((a + 1 : Nat) : Int)), none] [.inl 0] (κ, E3) else ev xs (d + 3) mm_217 53 [some (.inr (.inr 256)), some (.inl ((8 * u + c 10 : Nat) : Int)), some (.inl ((a + 1 : Nat) : Int)), none] [.inl 1] (κ, E3)) = ev xs (d + 3) mm_217 62 [some (.inr (.inr 256)), some (.inl ((8 * u + c 10 : Nat) : Int)), some (.inl ((a + 1 : Nat) : Int)), some (.inl o)] [] (κ, E4) ∧ RpS D E4 v T (opt2 T (mu T 2 (mu T 2 (a + 1, 0)))) w ∧ Rq E3 E4 ∧ ((mu T 2 (mu T 2 (a + 1, 0))).2 = 0 → o = (if tkK (T (mu T 2 (mu T 2 (a + 1, 0))).1) = 2 then 1 else 0)) := by
      by_cases q : (mu T 2 (mu T 2 (a + 1, 0))).2 = 0
      · rw [q] at h13b
        have h13c : E3 256 13 = 0 := h13b
        have eo : opt2 T (mu T 2 (mu T 2 (a + 1, 0))) = (if tkK (T (mu T 2 (mu T 2 (a + 1, 0))).1) = 2 then mu T 2 (mu T 2 (mu T 2 (a + 1, 0))) else mu T 2 (mu T 2 (a + 1, 0))) := if_pos q
        rw [eo]
        by_cases z : tkK (T (mu T 2 (mu T 2 (a + 1, 0))).1) = 2
        · obtain ⟨E4, i1, i2, i3⟩ := r_go xs (d + 1) hκ hpD hT hk d2 (fun _ => by rw [z]; decide)
          rw [if_pos z, goG_mu z]
          refine ⟨E4, 1, ?_, i2, i3, fun _ => by rw [if_pos z]⟩
          rw [if_pos ⟨q, z⟩]
          simp (disch := omega) only [cond_true, cond_false, Bool.and_true, Bool.true_and, Bool.and_false, Bool.false_and, Int.toNat_natCast, Int.reduceToNat, bI_s, bJ_s, bV_s, bR_s, decide_true, decide_false, not_true_eq_false, not_false_eq_true, dT, dF, w_al, w_la, w_ab, w_sl, w_sb, w_dec, w_ml, w_lm, ol2i_n, aup_ne, aupE, aupJ, setc_self, setc_ne, h13c]
          rw [q_217_53]
          simp (disch := omega) only [cond_true, cond_false, Bool.and_true, Bool.true_and, Bool.and_false, Bool.false_and, Int.toNat_natCast, Int.reduceToNat, bI_s, bJ_s, bV_s, bR_s, decide_true, decide_false, not_true_eq_false, not_false_eq_true, dT, dF, w_al, w_la, w_ab, w_sl, w_sb, w_dec, w_ml, w_lm, ol2i_n, aup_ne, aupE, aupJ, setc_self, setc_ne, k256, i1]
        · rw [if_neg z]
          refine ⟨E3, 0, ?_, d2, Rq.rfl', fun _ => by rw [if_neg z]⟩
          rw [if_neg (fun y => z y.2)]
          simp (disch := omega) only [cond_true, cond_false, Bool.and_true, Bool.true_and, Bool.and_false, Bool.false_and, Int.toNat_natCast, Int.reduceToNat, bI_s, bJ_s, bV_s, bR_s, decide_true, decide_false, not_true_eq_false, not_false_eq_true, dT, dF, w_al, w_la, w_ab, w_sl, w_sb, w_dec, w_ml, w_lm, ol2i_n, aup_ne, aupE, aupJ, setc_self, setc_ne, h13c]
          rw [q_217_53]
          simp (disch := omega) only [cond_true, cond_false, Bool.and_true, Bool.true_and, Bool.and_false, Bool.false_and, Int.toNat_natCast, Int.reduceToNat, bI_s, bJ_s, bV_s, bR_s, decide_true, decide_false, not_true_eq_false, not_false_eq_true, dT, dF, w_al, w_la, w_ab, w_sl, w_sb, w_dec, w_ml, w_lm, ol2i_n, aup_ne, aupE, aupJ, setc_self, setc_ne]
      · rw [opt2_f q]
        refine ⟨E3, 0, ?_, d2, Rq.rfl', fun y => absurd y q⟩
        simp (disch := omega) only [cond_true, cond_false, Bool.and_true, Bool.true_and, Bool.and_false, Bool.false_and, Int.toNat_natCast, Int.reduceToNat, bI_s, bJ_s, bV_s, bR_s, decide_true, decide_false, not_true_eq_false, not_false_eq_true, dT, dF, w_al, w_la, w_ab, w_sl, w_sb, w_dec, w_ml, w_lm, ol2i_n, aup_ne, aupE, aupJ, setc_self, setc_ne, h13b]
        rw [q_217_53]
        simp (disch := omega) only [cond_true, cond_false, Bool.and_true, Bool.true_and, Bool.and_false, Bool.false_and, Int.toNat_natCast, Int.reduceToNat, bI_s, bJ_s, bV_s, bR_s, decide_true, decide_false, not_true_eq_false, not_false_eq_true, dT, dF, w_al, w_la, w_ab, w_sl, w_sb, w_dec, w_ml, w_lm, ol2i_n, aup_ne, aupE, aupJ, setc_self, setc_ne]
    obtain ⟨E4, o, i1, i2, i3, i4⟩ := ho
    obtain ⟨E5, j1, j2, j3⟩ := r_must xs d hκ hpD hT hk i2 (k := 59) (by decide) (by decide) (kk := 4) rfl
    rw [← er] at j2
    have rq := (((a3.trans b3).trans d3).trans i3).trans j3
    have h13d := j2.2.1
    have hp1 := a2.1.ptr hpD
    have e19a : E1 256 19 = (u : Int) := (a3.f (by decide)).trans e19
    have e79a : E1 279 u = (c 10 : Int) := by rw [a3.cell (by decide)]; exact c10
    have ew : w32 (((8 * u : Nat) : Int) + (c 10 : Int)) = ((8 * u + c 10 : Nat) : Int) := by rw [w32_id (by omega) (by omega)]; omega
    have go : cl xs (d + 4) 217 [.inr (.inr 256)] (κ, E1) = ev xs (d + 3) mm_217 62 [some (.inr (.inr 256)), some (.inl ((8 * u + c 10 : Nat) : Int)), some (.inl ((a + 1 : Nat) : Int)), some (.inl o)] [] (κ, E4) := by
      rw [← i1, c_217]
      simp (disch := omega) only [k256, e19a, pr_35 hp1, n_279 hκ, e79a, ew, g11, b1, d1, is, cond_true, cond_false, Bool.and_true, Bool.true_and, Bool.and_false, Bool.false_and, Int.toNat_natCast, Int.reduceToNat, bI_s, bJ_s, bV_s, bR_s, decide_true, decide_false, not_true_eq_false, not_false_eq_true, dT, dF, w_al, w_la, w_ab, w_sl, w_sb, w_dec, w_ml, w_lm, ol2i_n, aup_ne, aupE, aupJ, setc_self, setc_ne]
    by_cases hf : (rtG T c a).2 = 0
    · obtain ⟨z0, z1, z2, z3⟩ := sh138 hK hf
      have m1 : mu T 2 (a + 1, 0) = (a + 2, 0) := by unfold mu; rw [if_pos rfl, if_pos z1, if_neg (by show ¬ 400 ≤ a + 1; split at z3 <;> omega)]
      have m2 : mu T 2 (a + 2, 0) = (a + 3, 0) := by unfold mu; rw [if_pos rfl, if_pos z2, if_neg (by show ¬ 400 ≤ a + 2; split at z3 <;> omega)]
      rw [m1, m2] at i4
      have i4' : o = (if tkK (T (a + 3)) = 2 then 1 else 0) := i4 rfl
      have la3 : live T (a + 3) := by
        have := d2.2.2.2.2
        rw [m1, m2] at this
        exact (this rfl).2.2.1
      rw [hf] at h13d
      have h13e : E5 256 13 = 0 := h13d
      have hp5 := j2.1.ptr hpD
      have htk := j2.1.tk hk
      have eN1 : E5 262 (a + 1) = (p27 (tkN (T (a + 1))) : Int) := (htk (a + 1) (by split at z3 <;> omega) la1).2.2.2 z1
      have eN2 : E5 262 (a + 2) = (p27 (tkN (T (a + 2))) : Int) := (htk (a + 2) (by split at z3 <;> omega) (live_le la3 (by omega))).2.2.2 z2
      have e19e : E5 256 19 = (u : Int) := (rq.f (by decide)).trans e19
      have e79e : E5 279 u = (c 10 : Int) := by rw [rq.cell (by decide)]; exact c10
      have w1 : w32 (((a + 1 : Nat) : Int) + 1) = ((a + 2 : Nat) : Int) := by rw [w32_id (by omega) (by omega)]; omega
      have w2 : w32 (((a + 1 : Nat) : Int) + 2) = ((a + 3 : Nat) : Int) := by rw [w32_id (by omega) (by omega)]; omega
      have gt := rtG_gt hf
      refine ⟨aup (aup (aup (aup E5 280 (8 * u + c 10) (p27 (tkN (T (a + 1))) : Int)) 281 (8 * u + c 10) (p27 (tkN (T (a + 2))) : Int)) 282 (8 * u + c 10) (p27 (if tkK (T (a + 3)) = 2 then tkN (T (a + 3)) else []) : Int)) 279 u ((c 10 + 1 : Nat) : Int), ?_, w, j2.fr ((((j2.1.wr (by decide) (by decide) (by show ¬ (8 * u + c 10) / 8 = v; omega) _).wr (by decide) (by decide) (by show ¬ (8 * u + c 10) / 8 = v; omega) _).wr (by decide) (by decide) (by show ¬ (8 * u + c 10) / 8 = v; omega) _).wr (by decide) (by decide) (by show ¬ u / 1 = v; omega) _) (fun j _ => by rw [aupN (by decide), aupN (by decide), aupN (by decide), aupN (by decide)]), fun _ => ⟨wbf_le hT hb (rt_live (h.2.2.2.2 rfl).2.2.1 hf) (Nat.le_of_lt gt), ?_, fun lb => lb.same (Nat.le_of_lt gt) (by rw [aupN (by decide), aupN (by decide), aupN (by decide), aupN (by decide), rq.f (by decide)]) (by rw [aupN (by decide), aupN (by decide), aupN (by decide), aupN (by decide), rq.f (by decide)]) (by rw [aupN (by decide), aupN (by decide), aupN (by decide), aupN (by decide), rq.f (by decide)]), fun _ => rfl, fun Y _ hY _ hR => ?_⟩⟩
      · have p20 : aok κ 256 12 = true := k256
        simp (disch := omega) only [cond_true, cond_false, Bool.and_true, Bool.true_and, Bool.and_false, Bool.false_and, Int.toNat_natCast, Int.reduceToNat, bI_s, bJ_s, bV_s, bR_s, decide_true, decide_false, not_true_eq_false, not_false_eq_true, dT, dF, w_al, w_la, w_ab, w_sl, w_sb, w_dec, w_ml, w_lm, ol2i_n, aup_ne, aupE, aupJ, setc_self, setc_ne, k256, p35, e19, n_279 hκ, c10, a1, h13', go]
        rw [q_217_62]
        by_cases z : tkK (T (a + 3)) = 2
        · have eN3 : E5 262 (a + 3) = (p27 (tkN (T (a + 3))) : Int) := (htk (a + 3) (by rw [if_pos z] at z3; omega) la3).2.2.2 z
          rw [if_pos z] at i4'
          subst i4'
          rw [if_pos z]
          simp (disch := omega) only [k256, j1, h13e, pr_36 hp5, pr_37 hp5, pr_38 hp5, pr_8 hp5, n_280 hκ, n_281 hκ, n_282 hκ, n_262 hκ, eN1, eN2, eN3, w1, w2, cond_true, cond_false, Bool.and_true, Bool.true_and, Bool.and_false, Bool.false_and, Int.toNat_natCast, Int.reduceToNat, bI_s, bJ_s, bV_s, bR_s, decide_true, decide_false, not_true_eq_false, not_false_eq_true, dT, dF, w_al, w_la, w_ab, w_sl, w_sb, w_dec, w_ml, w_lm, ol2i_n, aup_ne, aupE, aupJ, setc_self, setc_ne]
          rw [q_217_122]
          simp (disch := omega) only [k256, pr_35 hp5, pr_38 hp5, n_282 hκ, n_279 hκ, e19e, e79e, cond_true, cond_false, Bool.and_true, Bool.true_and, Bool.and_false, Bool.false_and, Int.toNat_natCast, Int.reduceToNat, bI_s, bJ_s, bV_s, bR_s, decide_true, decide_false, not_true_eq_false, not_false_eq_true, dT, dF, w_al, w_la, w_ab, w_sl, w_sb, w_dec, w_ml, w_lm, ol2i_n, aup_ne, aupE, aupJ, setc_self, setc_ne]
        · rw [if_neg z] at i4'
          subst i4'
          rw [if_neg z]
          simp (disch := omega) only [k256, j1, h13e, pr_36 hp5, pr_37 hp5, pr_38 hp5, pr_8 hp5, n_280 hκ, n_281 hκ, n_282 hκ, n_262 hκ, eN1, eN2, w1, w2, cond_true, cond_false, Bool.and_true, Bool.true_and, Bool.and_false, Bool.false_and, Int.toNat_natCast, Int.reduceToNat, bI_s, bJ_s, bV_s, bR_s, decide_true, decide_false, not_true_eq_false, not_false_eq_true, dT, dF, w_al, w_la, w_ab, w_sl, w_sb, w_dec, w_ml, w_lm, ol2i_n, aup_ne, aupE, aupJ, setc_self, setc_ne]
          rw [q_217_122]
          simp (disch := omega) only [k256, pr_35 hp5, pr_38 hp5, n_282 hκ, n_279 hκ, e19e, e79e, cond_true, cond_false, Bool.and_true, Bool.true_and, Bool.and_false, Bool.false_and, Int.toNat_natCast, Int.reduceToNat, bI_s, bJ_s, bV_s, bR_s, decide_true, decide_false, not_true_eq_false, not_false_eq_true, dT, dF, w_al, w_la, w_ab, w_sl, w_sb, w_dec, w_ml, w_lm, ol2i_n, aup_ne, aupE, aupJ, setc_self, setc_ne]
          rfl
      · rw [hK]
        refine RvC.up hcc ?_ ?_ (fun s hs2 => ?_) ?_ ?_ ?_ (fun j hj e => ?_)
        · simp (disch := omega) only [aup_ne]; rw [rq.cell (by decide), c0]; rfl
        · simp (disch := omega) only [aup_ne]; rw [rq.cell (by decide), c1]; rfl
        · simp (disch := omega) only [aup_ne]; rw [rq.cell (by decide), c6 s hs2, if_neg (by omega)]
        · simp (disch := omega) only [aup_ne]; rw [rq.cell (by decide), c9]; rfl
        · rw [aupE]; rfl
        · simp (disch := omega) only [aup_ne]; rw [rq.cell (by decide), c11]; rfl
        · have : j = 10 := by omega
          subst this
          omega
      · rw [mt138 hK]
        refine ⟨rfl, fun _ => ?_⟩
        obtain ⟨y0, y1, y6, y7, y8, y9, y10, y11⟩ := hY
        obtain ⟨r1, r2, r3, r4⟩ := hR
        have fr : ∀ q, q ≠ 256 → q ≠ 279 → q ≠ 282 → q ≠ 281 → q ≠ 280 → (aup (aup (aup (aup E5 280 (8 * u + c 10) (p27 (tkN (T (a + 1))) : Int)) 281 (8 * u + c 10) (p27 (tkN (T (a + 2))) : Int)) 282 (8 * u + c 10) (p27 (if tkK (T (a + 3)) = 2 then tkN (T (a + 3)) else []) : Int)) 279 u ((c 10 + 1 : Nat) : Int)) q = E q := fun q q1 q2 q3 q4 q5 => by rw [aupN q2, aupN q3, aupN q4, aupN q5]; exact rq.cell q1
        have sf : ∀ q, q ≠ 256 → q ≠ 279 → q ≠ 282 → q ≠ 281 → q ≠ 280 → sid ((aup (aup (aup (aup E5 280 (8 * u + c 10) (p27 (tkN (T (a + 1))) : Int)) 281 (8 * u + c 10) (p27 (tkN (T (a + 2))) : Int)) 282 (8 * u + c 10) (p27 (if tkK (T (a + 3)) = 2 then tkN (T (a + 3)) else []) : Int)) 279 u ((c 10 + 1 : Nat) : Int))) u q = sid E u q := fun q q1 q2 q3 q4 q5 => by rw [sid_q q1, sid_q q1]; exact fr q q1 q2 q3 q4 q5
        obtain ⟨t1, t2, t3, t4, t5, t6, t7⟩ := r1
        refine ⟨⟨V1.congr t1 (fun q a b => sf q (by omega) (by omega) (by omega) (by omega) (by omega)) (by rw [sid_18, sid_18]), ?_, ?_, ⟨?_, fun p hp' => ?_⟩, ?_, ?_, ?_⟩, fun k hk2 => ?_, fun s hs2 => ?_, r4.congr (fun q a b => fr q (by omega) (by omega) (by omega) (by omega) (by omega)) rfl⟩
        · rw [sf 277 (by decide) (by decide) (by decide) (by decide) (by decide), sf 278 (by decide) (by decide) (by decide) (by decide) (by decide)]; exact t2
        · rw [sf 274 (by decide) (by decide) (by decide) (by decide) (by decide), sf 275 (by decide) (by decide) (by decide) (by decide) (by decide), sf 276 (by decide) (by decide) (by decide) (by decide) (by decide)]; exact t3
        · rw [sid_q (by decide), aupE, y10]; rfl
        · have hp' : p < xpr Y.1 + 1 := hp'
          rw [sid_q (by decide), sid_q (by decide), sid_q (by decide)]
          show _ = ((p27 (upf (xPI Y.1) (xpr Y.1) _ p) : Nat) : Int) ∧ _ = ((p27 (upf (xPO Y.1) (xpr Y.1) _ p) : Nat) : Int) ∧ _ = ((p27 (upf (xPX Y.1) (xpr Y.1) _ p) : Nat) : Int)
          by_cases e : p = xpr Y.1
          · subst e
            rw [upf_s, upf_s, upf_s, ← y10]
            simp (disch := omega) only [aup_ne, aupE]
            exact ⟨trivial, trivial, trivial⟩
          · rw [upf_n e, upf_n e, upf_n e]
            simp (disch := omega) only [aup_ne, aupJ]
            rw [rq.cell (by decide), rq.cell (by decide), rq.cell (by decide)]
            have := t4.2 p (by omega)
            rw [sid_q (by decide), sid_q (by decide), sid_q (by decide)] at this
            exact this
        · rw [sf 283 (by decide) (by decide) (by decide) (by decide) (by decide), sf 284 (by decide) (by decide) (by decide) (by decide) (by decide), sf 285 (by decide) (by decide) (by decide) (by decide) (by decide), sf 286 (by decide) (by decide) (by decide) (by decide) (by decide), sf 287 (by decide) (by decide) (by decide) (by decide) (by decide)]; exact t5
        · rw [sf 288 (by decide) (by decide) (by decide) (by decide) (by decide)]; exact t6
        · rw [sf 264 (by decide) (by decide) (by decide) (by decide) (by decide)]; exact t7
        · rw [fr 265 (by decide) (by decide) (by decide) (by decide) (by decide), fr 266 (by decide) (by decide) (by decide) (by decide) (by decide)]; exact r2 k hk2
        · rw [fr 270 (by decide) (by decide) (by decide) (by decide) (by decide), fr 271 (by decide) (by decide) (by decide) (by decide) (by decide), fr 272 (by decide) (by decide) (by decide) (by decide) (by decide), fr 273 (by decide) (by decide) (by decide) (by decide) (by decide)]; exact r3 s hs2
    · refine ⟨E5, ?_, w, j2, fun q => absurd q hf⟩
      simp (disch := omega) only [cond_true, cond_false, Bool.and_true, Bool.true_and, Bool.and_false, Bool.false_and, Int.toNat_natCast, Int.reduceToNat, bI_s, bJ_s, bV_s, bR_s, decide_true, decide_false, not_true_eq_false, not_false_eq_true, dT, dF, w_al, w_la, w_ab, w_sl, w_sb, w_dec, w_ml, w_lm, ol2i_n, aup_ne, aupE, aupJ, setc_self, setc_ne, k256, p35, e19, n_279 hκ, c10, a1, h13', go]
      rw [q_217_62]
      simp (disch := omega) only [cond_true, cond_false, Bool.and_true, Bool.true_and, Bool.and_false, Bool.false_and, Int.toNat_natCast, Int.reduceToNat, bI_s, bJ_s, bV_s, bR_s, decide_true, decide_false, not_true_eq_false, not_false_eq_true, dT, dF, w_al, w_la, w_ab, w_sl, w_sb, w_dec, w_ml, w_lm, ol2i_n, aup_ne, aupE, aupJ, setc_self, setc_ne, k256, j1, h13d]
  · have ee : rtG T c a = fstG T 138 (c 10) 8 (a, 0) := by
      rw [er, mu_f hf1, mu_f hf1, opt2_f hf1, mu_f hf1]
    rw [← ee] at a2 hf1 h13
    refine ⟨E1, ?_, w, a2, fun q => absurd q hf1⟩
    simp (disch := omega) only [cond_true, cond_false, Bool.and_true, Bool.true_and, Bool.and_false, Bool.false_and, Int.toNat_natCast, Int.reduceToNat, bI_s, bJ_s, bV_s, bR_s, decide_true, decide_false, not_true_eq_false, not_false_eq_true, dT, dF, w_al, w_la, w_ab, w_sl, w_sb, w_dec, w_ml, w_lm, ol2i_n, aup_ne, aupE, aupJ, setc_self, setc_ne, k256, p35, e19, n_279 hκ, c10, a1, h13]
theorem rSeed (xs : List Int) (d : Nat) {κ : aK} {D E : Nat → Nat → Int} {v u : Nat} (hκ : Shp κ) (hpD : PtrR D) {T : Nat → TK} (hT : TKok T) (hk : TkR D T) {a : Nat} {w : SS} (h : RpS D E v T (a, 0) w) (hs : RsD D v u) {c : Nat → Nat} (hc : RvC E u c) (hb : wbf T w a) (hK : tkK (T a) = 141) (u1 : Option aV) : ∃ E', ev xs (d + 4) mm_208 292 [some (.inr (.inr 256)), u1] [] (κ, E) = some (none, (κ, E')) ∧ RTc D E E' v u T c a w := by
  have k256 := k_256 hκ
  have hcc := hc
  obtain ⟨v1, v2, v3, v4, v5⟩ := hs
  obtain ⟨c0, c1, c6, c9, c10, c11, cb⟩ := hc
  have e19 : E 256 19 = (u : Int) := by rw [h.1.2.1 19 (by decide)]; exact v2
  have er : rtG T c a = mu T 59 (mu T 3 (mu T 141 (a, 0))) := by
    unfold rtG
    rw [if_neg (by omega), if_neg (by omega), if_neg (by omega), if_neg (by omega), if_neg (by omega), if_neg (by omega), if_neg (by omega), if_neg (by omega), if_neg (by omega), if_pos hK]
  obtain ⟨E1, a1, a2, a3⟩ := r_go xs (d + 2) hκ hpD hT hk h (fun _ => by show ¬ tkK (T a) = 0; omega)
  rw [← goG_mu (T := T) (k := 141) (show tkK (T ((a, 0) : SS).1) = 141 from hK)] at a2
  have hb1 : (mu T 141 (a, 0)).2 = 0 → wbf T w (mu T 141 (a, 0)).1 := fun q => by
    rw [(mu_ok q).2.2.2]
    exact wbf_s hT hb (show ¬ tkK (T a) = 0 by omega)
  obtain ⟨x, E2, b1, b2, b3, b4⟩ := r_num xs d hκ hpD hT hk a2 (lo := 0) (hi := 9999) (l' := 0) (h' := 9999) rfl rfl hb1
  have hp1 := a2.1.ptr hpD
  have e19a : E1 256 19 = (u : Int) := (a3.f (by decide)).trans e19
  have s2 := b3.fr (E' := aup E2 288 u x) (b3.1.wr (by decide) (by decide) (by show ¬ u / 1 = v; omega) _) (fun j _ => by rw [aupN (by decide)])
  obtain ⟨E3, d1, d2, d3⟩ := r_must xs (d + 1) hκ hpD hT hk s2 (k := 59) (by decide) (by decide) (kk := 4) rfl
  rw [← er] at d2
  have rq := a3.trans b4
  have fr3 : ∀ q, q ≠ 256 → q ≠ 288 → E3 q = E q := fun q q1 q2 => by rw [d3.cell q1, aupN q2]; exact rq.cell q1
  have ff : ∀ j, ¬ (j = 11 ∨ j = 13 ∨ j = 14 ∨ j = 15 ∨ j = 16) → E3 256 j = E 256 j := fun j hj => by rw [d3.f hj, aupN (by decide)]; exact rq.f hj
  refine ⟨E3, ?_, ?_⟩
  · rw [q_208_292]
    simp (disch := omega) only [cond_true, cond_false, Bool.and_true, Bool.true_and, Bool.and_false, Bool.false_and, Int.toNat_natCast, Int.reduceToNat, bI_s, bJ_s, bV_s, bR_s, decide_true, decide_false, not_true_eq_false, not_false_eq_true, dT, dF, w_al, w_la, w_ab, w_sl, w_sb, w_dec, w_ml, w_lm, ol2i_n, aup_ne, aupE, aupJ, setc_self, setc_ne, k256, a1, b1, pr_44 hp1, e19a, n_288 hκ, d1]
  · by_cases hf : (rtG T c a).2 = 0
    · obtain ⟨z0, z1, z2, z3⟩ := sh141 hK hf
      have gt := rtG_gt hf
      have m1 : mu T 141 (a, 0) = (a + 1, 0) := by unfold mu; rw [if_pos rfl, if_pos hK, if_neg (by show ¬ 400 ≤ a; omega)]
      have hf2 : (mu T 3 (mu T 141 (a, 0))).2 = 0 := by
        have := hf
        rw [er] at this
        exact (mu_ok this).1
      have ex := b2 hf2
      rw [m1] at ex d2
      have ex : x = (tkV (T (a + 1)) : Int) := ex
      have hV := hT.2.2.2.1 _ z0
      have ew : w1N T (a + 1) 0 9999 w = w := if_neg (by omega)
      have d2 : RpS D E3 v T (rtG T c a) (w1N T (a + 1) 0 9999 w) := d2
      rw [ew] at d2
      refine ⟨w, d2, fun _ => ⟨wbf_le hT hb (rt_live (h.2.2.2.2 rfl).2.2.1 hf) (Nat.le_of_lt gt), ?_, fun lb => lb.same (Nat.le_of_lt gt) (ff 47 (by decide)) (ff 53 (by decide)) (ff 12 (by decide)), fun _ => rfl, fun Y _ hY _ hR => ?_⟩⟩
      · rw [hK]
        refine RvC.up hcc ?_ ?_ (fun s hs2 => ?_) ?_ ?_ ?_ (fun j hj e => by omega)
        · rw [fr3 264 (by decide) (by decide), c0]; rfl
        · rw [fr3 267 (by decide) (by decide), c1]; rfl
        · rw [fr3 274 (by decide) (by decide), c6 s hs2, if_neg (by omega)]
        · rw [fr3 277 (by decide) (by decide), c9]; rfl
        · rw [fr3 279 (by decide) (by decide), c10]; rfl
        · rw [fr3 283 (by decide) (by decide), c11]; rfl
      · rw [mt141 hK]
        refine ⟨rfl, fun _ => ?_⟩
        obtain ⟨r1, r2, r3, r4⟩ := hR
        have fr : ∀ q, q ≠ 256 → q ≠ 288 → E3 q = E q := fr3
        have sf : ∀ q, q ≠ 256 → q ≠ 288 → sid E3 u q = sid E u q := fun q q1 q2 => by rw [sid_q q1, sid_q q1]; exact fr q q1 q2
        obtain ⟨t1, t2, t3, t4, t5, t6, t7⟩ := r1
        refine ⟨⟨V1.congr t1 (fun q a b => sf q (by omega) (by omega)) (by rw [sid_18, sid_18]), ?_, ?_, ?_, ?_, ?_, ?_⟩, fun k hk2 => ?_, fun s hs2 => ?_, r4.congr (fun q a b => fr q (by omega) (by omega)) rfl⟩
        · rw [sf 277 (by decide) (by decide), sf 278 (by decide) (by decide)]; exact t2
        · rw [sf 274 (by decide) (by decide), sf 275 (by decide) (by decide), sf 276 (by decide) (by decide)]; exact t3
        · rw [sf 279 (by decide) (by decide), sf 280 (by decide) (by decide), sf 281 (by decide) (by decide), sf 282 (by decide) (by decide)]; exact t4
        · rw [sf 283 (by decide) (by decide), sf 284 (by decide) (by decide), sf 285 (by decide) (by decide), sf 286 (by decide) (by decide), sf 287 (by decide) (by decide)]; exact t5
        · rw [sid_q (by decide), d3.cell (by decide), aupE, ex]; rfl
        · rw [sf 264 (by decide) (by decide)]; exact t7
        · rw [fr 265 (by decide) (by decide), fr 266 (by decide) (by decide)]; exact r2 k hk2
        · rw [fr 270 (by decide) (by decide), fr 271 (by decide) (by decide), fr 272 (by decide) (by decide), fr 273 (by decide) (by decide)]; exact r3 s hs2
    · exact ⟨_, d2, fun q => absurd q hf⟩
theorem pieceAt_gen (xs : List Int) (d : Nat) {κ : aK} {E : Nat → Nat → Int} {u : Nat} (hκ : Shp κ) (hp : PtrR E) (hu : u < 2) (e19 : E 256 19 = (u : Int)) {s : Nat} (hs : s < 3) {n : Nat} (hn : n ≤ 8) (en : E 274 (3 * u + s) = (n : Int)) (y : Int) : ∀ (m k : Nat) (u3 : Option aV), k + m = n → ∃ x : Int, ev xs d mm_215 3 [some (.inr (.inr 256)), some (.inl (s : Int)), some (.inr (.inl y)), u3, some (.inl (k : Int))] [] (κ, E) = some (some (.inl x), (κ, E)) ∧ ((x = -1 ∧ ∀ j, k ≤ j → j < n → ¬ E 275 (24 * u + 8 * s + j) = y) ∨ ∃ j, k ≤ j ∧ j < n ∧ x = (j : Int) ∧ E 275 (24 * u + 8 * s + j) = y ∧ ∀ i, k ≤ i → i < j → ¬ E 275 (24 * u + 8 * s + i) = y)
  | 0, k, u3, hm => by
    have k256 := k_256 hκ
    have ew : w32 (((3 * u : Nat) : Int) + (s : Int)) = ((3 * u + s : Nat) : Int) := by rw [w32_id (by omega) (by omega)]; omega
    refine ⟨-1, ?_, Or.inl ⟨rfl, fun j _ _ => by omega⟩⟩
    rw [q_215_3]
    simp (disch := omega) only [k256, pr_30 hp, e19, ew, n_274 hκ, en, cond_true, cond_false, Bool.and_true, Bool.true_and, Bool.and_false, Bool.false_and, Int.toNat_natCast, Int.reduceToNat, bI_s, bJ_s, bV_s, bR_s, decide_true, decide_false, not_true_eq_false, not_false_eq_true, dT, dF, w_al, w_la, w_ab, w_sl, w_sb, w_dec, w_ml, w_lm, ol2i_n, aup_ne, aupE, aupJ, setc_self, setc_ne]
  | m + 1, k, u3, hm => by
    have k256 := k_256 hκ
    have ew : w32 (((3 * u : Nat) : Int) + (s : Int)) = ((3 * u + s : Nat) : Int) := by rw [w32_id (by omega) (by omega)]; omega
    have ew2 : w32 (((24 * u : Nat) : Int) + ((8 * s : Nat) : Int)) = ((24 * u + 8 * s : Nat) : Int) := by rw [w32_id (by omega) (by omega)]; omega
    have ew3 : w32 (((24 * u + 8 * s : Nat) : Int) + (k : Int)) = ((24 * u + 8 * s + k : Nat) : Int) := by rw [w32_id (by omega) (by omega)]; omega
    by_cases e : E 275 (24 * u + 8 * s + k) = y
    · refine ⟨(k : Int), ?_, Or.inr ⟨k, Nat.le_refl _, by omega, rfl, e, fun i _ _ => by omega⟩⟩
      have hz : olcmp (E 275 (24 * u + 8 * s + k)) y = 0 := olcmp_eq.mpr e
      rw [q_215_3]
      simp (disch := omega) only [k256, pr_30 hp, pr_31 hp, e19, ew, ew2, ew3, n_274 hκ, n_275 hκ, en, hz, cond_true, cond_false, Bool.and_true, Bool.true_and, Bool.and_false, Bool.false_and, Int.toNat_natCast, Int.reduceToNat, bI_s, bJ_s, bV_s, bR_s, decide_true, decide_false, not_true_eq_false, not_false_eq_true, dT, dF, w_al, w_la, w_ab, w_sl, w_sb, w_dec, w_ml, w_lm, ol2i_n, aup_ne, aupE, aupJ, setc_self, setc_ne]
    · obtain ⟨x, i1, i2⟩ := pieceAt_gen xs d hκ hp hu e19 hs hn en y m (k + 1) (acl u3) (by omega)
      refine ⟨x, ?_, ?_⟩
      · have hz : ¬ olcmp (E 275 (24 * u + 8 * s + k)) y = 0 := fun q => e (olcmp_eq.mp q)
        rw [← i1, q_215_3]
        simp (disch := omega) only [k256, pr_30 hp, pr_31 hp, e19, ew, ew2, ew3, n_274 hκ, n_275 hκ, en, hz, cond_true, cond_false, Bool.and_true, Bool.true_and, Bool.and_false, Bool.false_and, Int.toNat_natCast, Int.reduceToNat, bI_s, bJ_s, bV_s, bR_s, decide_true, decide_false, not_true_eq_false, not_false_eq_true, dT, dF, w_al, w_la, w_ab, w_sl, w_sb, w_dec, w_ml, w_lm, ol2i_n, aup_ne, aupE, aupJ, setc_self, setc_ne]
      · rcases i2 with ⟨i2, i3⟩ | ⟨j, i2, i3, i4, i5, i6⟩
        · refine Or.inl ⟨i2, fun j hj1 hj2 => ?_⟩
          by_cases ej : j = k
          · rw [ej]; exact e
          · exact i3 j (by omega) hj2
        · refine Or.inr ⟨j, by omega, i3, i4, i5, fun i hi1 hi2 => ?_⟩
          by_cases ei : i = k
          · rw [ei]; exact e
          · exact i6 i (by omega) hi2
theorem fndN_of {N : Nat → List Nat} {l : List Nat} : ∀ (m k : Nat), ((∀ j, k ≤ j → j < k + m → ¬ N j = l) → fndN N l m k = none) ∧ ∀ j, k ≤ j → j < k + m → N j = l → (∀ i, k ≤ i → i < j → ¬ N i = l) → fndN N l m k = some j
  | 0, k => ⟨fun _ => rfl, fun j h1 h2 => by omega⟩
  | m + 1, k => by
    obtain ⟨i1, i2⟩ := fndN_of (N := N) (l := l) m (k + 1)
    refine ⟨fun h => ?_, fun j h1 h2 h3 h4 => ?_⟩
    · unfold fndN
      rw [if_neg (h k (Nat.le_refl _) (by omega))]
      exact i1 (fun j a b => h j (by omega) (by omega))
    · unfold fndN
      by_cases e : j = k
      · subst e
        rw [if_pos h3]
      · rw [if_neg (h4 k (Nat.le_refl _) (by omega))]
        exact i2 j (by omega) (by omega) h3 (fun i a b => h4 i (by omega) b)
/-- pieceAt: what it finds, and that by the text told -/
theorem pieceAt_eq (xs : List Int) (d : Nat) {κ : aK} {E : Nat → Nat → Int} {u : Nat} (hκ : Shp κ) (hp : PtrR E) (hu : u < 2) (e19 : E 256 19 = (u : Int)) {s : Nat} (hs : s < 3) {n : Nat} (hn : n ≤ 8) (en : E 274 (3 * u + s) = (n : Int)) (y : Int) : ∃ x : Int, cl xs (d + 1) 215 [.inr (.inr 256), .inl (s : Int), .inr (.inl y)] (κ, E) = some (some (.inl x), (κ, E)) ∧ -1 ≤ x ∧ x < 8 ∧ ∀ X l, TXok X → wok l → y = (p27 l : Int) → n = xnp X s → (∀ k, k < n → E 275 (24 * u + 8 * s + k) = (p27 (xPN X (8 * s + k)) : Int)) → x = oI (pfd X s l) := by
  obtain ⟨x, i1, i2⟩ := pieceAt_gen xs d hκ hp hu e19 hs hn en y n 0 none (by omega)
  refine ⟨x, by rw [c_215]; exact i1, ?_, ?_, fun X l hX hl hy hnx hN => ?_⟩
  · rcases i2 with ⟨i2, _⟩ | ⟨j, _, _, i4, _⟩ <;> omega
  · rcases i2 with ⟨i2, _⟩ | ⟨j, _, _, i4, _⟩ <;> omega
  · have eq : ∀ j, j < n → (E 275 (24 * u + 8 * s + j) = y ↔ xPN X (8 * s + j) = l) := fun j hj => by
      rw [hN j hj, hy]
      exact ⟨fun q => p27_inj ((hX.2.2.1 s hs).2 j (by omega)).1.1 hl.1 (by omega), fun q => by rw [q]⟩
    unfold pfd
    rw [← hnx]
    rcases i2 with ⟨i2, i3⟩ | ⟨j, i2, i3, i4, i5, i6⟩
    · rw [(fndN_of n 0).1 (fun j a b q => i3 j a (by omega) ((eq j (by omega)).mpr q))]
      exact i2
    · rw [(fndN_of n 0).2 j i2 (by omega) ((eq j i3).mp i5) (fun i a b q => i6 i a b ((eq i (by omega)).mpr q))]
      exact i4
theorem r_207 (xs : List Int) (d : Nat) (h : aH) {s : Nat} (hs : s < 3) : cl xs (d + 1) 207 [.inl (s : Int)] h = some (some (.inl (mostO s : Int)), h) := by
  have hs3 : s = 0 ∨ s = 1 ∨ s = 2 := by omega
  rcases hs3 with rfl | rfl | rfl
  · rw [c_207]; rfl
  · rw [c_207]; rfl
  · rw [c_207]; rfl
theorem rPiece (xs : List Int) (d : Nat) {κ : aK} {D E : Nat → Nat → Int} {v u : Nat} (hκ : Shp κ) (hpD : PtrR D) {T : Nat → TK} (hT : TKok T) (hk : TkR D T) {a : Nat} {w : SS} (h : RpS D E v T (a, 0) w) (hs : RsD D v u) {c : Nat → Nat} (hc : RvC E u c) (hb : wbf T w a) {s : Nat} (hs3 : s < 3) (hx8 : c (6 + s) ≤ mostO s) (hK : tkK (T a) = 134 + s) (u1 : Option aV) : ∃ E', ev xs (d + 5) mm_208 321 [some (.inr (.inr 256)), u1] [] (κ, E) = some (none, (κ, E')) ∧ RTc D E E' v u T c a w := by
  have k256 := k_256 hκ
  have hcc := hc
  obtain ⟨v1, v2, v3, v4, v5⟩ := hs
  obtain ⟨c0, c1, c6, c9, c10, c11, cb⟩ := hc
  have m8 : mostO s ≤ 8 := by unfold mostO; split; omega; split <;> omega
  have hp := h.1.ptr hpD
  have e19 : E 256 19 = (u : Int) := by rw [h.1.2.1 19 (by decide)]; exact v2
  have er : rtG T c a = mu T 59 (mu T 3 (mu T 2 (fstG T (134 + s) (c (6 + s)) (mostO s) (a, 0)))) := by
    have hs' : s = 0 ∨ s = 1 ∨ s = 2 := by omega
    rcases hs' with rfl | rfl | rfl
    · exact rt134 hK
    · exact rt135 hK
    · exact rt136 hK
  have emt : ∀ Y, mtG T a Y w = mtP T s a Y w := fun Y => by
    have hs' : s = 0 ∨ s = 1 ∨ s = 2 := by omega
    rcases hs' with rfl | rfl | rfl
    · exact mt134 hK
    · exact mt135 hK
    · exact mt136 hK
  obtain ⟨g11, g400, la, _⟩ := h.2.2.2.2 rfl
  have g11 : E 256 11 = (a : Int) := g11
  have g400 : a ≤ 400 := g400
  have eK : E 259 a = ((27 + s : Nat) : Int) := by
    rw [((h.1.tk hk) a g400 la).1, hK]
    have hs' : s = 0 ∨ s = 1 ∨ s = 2 := by omega
    rcases hs' with rfl | rfl | rfl <;> rfl
  have h13 : E 256 13 = 0 := h.2.1
  have ew0 : w32 (((27 + s : Nat) : Int) - 27) = (s : Int) := by rw [w32_id (by omega) (by omega)]; omega
  have ew : w32 (((3 * u : Nat) : Int) + (s : Int)) = ((3 * u + s : Nat) : Int) := by rw [w32_id (by omega) (by omega)]; omega
  obtain ⟨E1, a1, a2, a3⟩ := r_first xs (d + 2) hκ hpD hT hk h hK (by omega) (has := c (6 + s)) (most := mostO s) hx8 (hh' := (c (6 + s) : Int)) (mm := (mostO s : Int)) rfl rfl
  have st : ev xs (d + 5) mm_208 321 [some (.inr (.inr 256)), u1] [] (κ, E) = (bif decide (¬ E1 256 13 = 0) then some (none, (κ, E1)) else bV (cl xs (d + 5) 216 [.inr (.inr 256), .inl (s : Int)] (κ, E1)) (fun h => some (none, h))) := by
    rw [q_208_321]
    simp (disch := omega) only [k256, pr_5 hp, g11, n_259 hκ, eK, ew0, cond_true, cond_false, Bool.and_true, Bool.true_and, Bool.and_false, Bool.false_and, Int.toNat_natCast, Int.reduceToNat, bI_s, bJ_s, bV_s, bR_s, decide_true, decide_false, not_true_eq_false, not_false_eq_true, dT, dF, w_al, w_la, w_ab, w_sl, w_sb, w_dec, w_ml, w_lm, ol2i_n, aup_ne, aupE, aupJ, setc_self, setc_ne]
    rw [q_208_357]
    simp (disch := omega) only [k256, h13, r_207 xs (d + 4) _ hs3, pr_30 hp, e19, ew, n_274 hκ, c6 s hs3, a1, cond_true, cond_false, Bool.and_true, Bool.true_and, Bool.and_false, Bool.false_and, Int.toNat_natCast, Int.reduceToNat, bI_s, bJ_s, bV_s, bR_s, decide_true, decide_false, not_true_eq_false, not_false_eq_true, dT, dF, w_al, w_la, w_ab, w_sl, w_sb, w_dec, w_ml, w_lm, ol2i_n, aup_ne, aupE, aupJ, setc_self, setc_ne]
  rw [st]
  have h13a := a2.2.1
  by_cases hf1 : (fstG T (134 + s) (c (6 + s)) (mostO s) (a, 0)).2 = 0
  · obtain ⟨f1, f2, f3, f4⟩ := fst_ok hf1
    have er0 := er
    rw [f4] at a2 er h13a
    have h13' : E1 256 13 = 0 := h13a
    obtain ⟨g11a, g400a, la1, _⟩ := a2.2.2.2.2 rfl
    have g11a : E1 256 11 = ((a + 1 : Nat) : Int) := g11a
    have la1 : live T (a + 1) := la1
    have hb1 : wbf T w (a + 1) := wbf_s hT hb (by omega)
    obtain ⟨E2, b1, b2, b3⟩ := r_must xs (d + 1) hκ hpD hT hk a2 (k := 2) (by decide) (by decide) (kk := 1) rfl
    have hp1 := a2.1.ptr hpD
    have e19a : E1 256 19 = (u : Int) := (a3.f (by decide)).trans e19
    have en1 : E1 274 (3 * u + s) = (c (6 + s) : Int) := by rw [a3.cell (by decide)]; exact c6 s hs3
    have ew2 : w32 (((24 * u : Nat) : Int) + ((8 * s : Nat) : Int)) = ((24 * u + 8 * s : Nat) : Int) := by rw [w32_id (by omega) (by omega)]; omega
    have ew3 : w32 (((24 * u + 8 * s : Nat) : Int) + (c (6 + s) : Int)) = ((24 * u + 8 * s + c (6 + s) : Nat) : Int) := by rw [w32_id (by omega) (by omega)]; omega
    have rq2 := a3.trans b3
    have hp2 := b2.1.ptr hpD
    have e19b : E2 256 19 = (u : Int) := (rq2.f (by decide)).trans e19
    have en2 : E2 274 (3 * u + s) = (c (6 + s) : Int) := by rw [rq2.cell (by decide)]; exact c6 s hs3
    -- the name, told already or not
    have hnm : ∃ (E3 : Nat → Nat → Int) (w1 : SS), cl xs (d + 5) 216 [.inr (.inr 256), .inl (s : Int)] (κ, E1) = ev xs (d + 4) mm_216 64 [some (.inr (.inr 256)), some (.inl (s : Int)), some (.inl ((24 * u + 8 * s + c (6 + s) : Nat) : Int)), some (.inl ((a + 1 : Nat) : Int))] [] (κ, E3) ∧ RpS D E3 v T (mu T 2 (a + 1, 0)) w1 ∧ Rq E2 E3 ∧ ((mu T 2 (a + 1, 0)).2 = 0 → (¬ w.1 = 0 → w1 = w) ∧ wbf T w1 (a + 2) ∧ ∀ Y, w.1 = 0 → YCn c Y → YOk Y → RvY E u Y → w1 = (if (pfd Y.1 s (tkN (T (a + 1)))).isSome = true then wrg w 3 (tkP (T (a + 1))) else w)) := by
      have h13b := b2.2.1
      by_cases q : (mu T 2 (a + 1, 0)).2 = 0
      · rw [q] at h13b
        have h13c : E2 256 13 = 0 := h13b
        obtain ⟨m1, m2, m3, m4⟩ := mu_ok q
        have m2 : tkK (T (a + 1)) = 2 := m2
        have hN := hT.2.2.1 _ m2
        have eN : E2 262 (a + 1) = (p27 (tkN (T (a + 1))) : Int) := ((b2.1.tk hk) (a + 1) g400a la1).2.2.2 m2
        obtain ⟨x, x1, x2, x3, x4⟩ := pieceAt_eq xs (d + 3) hκ hp2 v4 e19b hs3 (n := c (6 + s)) (by omega) en2 (p27 (tkN (T (a + 1))) : Int)
        have xY : ∀ Y, YCn c Y → YOk Y → RvY E u Y → x = oI (pfd Y.1 s (tkN (T (a + 1)))) := fun Y hY hO hR => by
          have en : c (6 + s) = xnp Y.1 s := by
            obtain ⟨y0, y1, y6, y7, y8, _⟩ := hY
            have hs' : s = 0 ∨ s = 1 ∨ s = 2 := by omega
            rcases hs' with rfl | rfl | rfl
            · exact y6
            · exact y7
            · exact y8
          refine x4 Y.1 _ hO.1 hN.1 rfl en (fun k hk2 => ?_)
          have := ((hR.1.2.2.1 s hs3).2 k (by omega)).1
          rw [sid_q (by decide)] at this
          rw [rq2.cell (by decide)]
          exact this
        by_cases hx : x < 0
        · refine ⟨E2, w, ?_, b2, Rq.rfl', fun _ => ⟨fun _ => rfl, wbf_s hT hb1 (by omega), fun Y _ hY hO hR => ?_⟩⟩
          · rw [c_216]
            simp (disch := omega) only [k256, e19a, pr_30 hp1, ew, ew2, ew3, n_274 hκ, en1, g11a, b1, h13c, pr_8 hp2, n_262 hκ, eN, x1, cond_true, cond_false, Bool.and_true, Bool.true_and, Bool.and_false, Bool.false_and, Int.toNat_natCast, Int.reduceToNat, bI_s, bJ_s, bV_s, bR_s, decide_true, decide_false, not_true_eq_false, not_false_eq_true, dT, dF, w_al, w_la, w_ab, w_sl, w_sb, w_dec, w_ml, w_lm, ol2i_n, aup_ne, aupE, aupJ, setc_self, setc_ne]
          · have := xY Y hY hO hR
            cases e : pfd Y.1 s (tkN (T (a + 1))) with
            | none => rw [if_neg (by decide)]
            | some j =>
              rw [e] at this
              change x = (j : Int) at this
              omega
        · obtain ⟨E3, f1', f2', f3'⟩ := r_wrong xs (d + 3) hκ hpD hT hk b2 (j := a + 1) g400a (fun _ => la1) (k := 3) (by decide) (kk := 3) (jj := ((a + 1 : Nat) : Int)) rfl rfl (fun _ => Or.inl hb1)
          refine ⟨E3, _, ?_, f2', f3', fun _ => ⟨fun z => wrg_k z, wbf_w hT hb1 (by omega), fun Y _ hY hO hR => ?_⟩⟩
          · rw [c_216]
            simp (disch := omega) only [k256, e19a, pr_30 hp1, ew, ew2, ew3, n_274 hκ, en1, g11a, b1, h13c, pr_8 hp2, n_262 hκ, eN, x1, f1', cond_true, cond_false, Bool.and_true, Bool.true_and, Bool.and_false, Bool.false_and, Int.toNat_natCast, Int.reduceToNat, bI_s, bJ_s, bV_s, bR_s, decide_true, decide_false, not_true_eq_false, not_false_eq_true, dT, dF, w_al, w_la, w_ab, w_sl, w_sb, w_dec, w_ml, w_lm, ol2i_n, aup_ne, aupE, aupJ, setc_self, setc_ne]
          · have := xY Y hY hO hR
            cases e : pfd Y.1 s (tkN (T (a + 1))) with
            | none =>
              rw [e] at this
              change x = -1 at this
              omega
            | some j => rw [if_pos (show (some j).isSome = true from rfl)]
      · refine ⟨E2, w, ?_, b2, Rq.rfl', fun z => absurd z q⟩
        rw [c_216]
        simp (disch := omega) only [k256, e19a, pr_30 hp1, ew, ew2, ew3, n_274 hκ, en1, g11a, b1, h13b, cond_true, cond_false, Bool.and_true, Bool.true_and, Bool.and_false, Bool.false_and, Int.toNat_natCast, Int.reduceToNat, bI_s, bJ_s, bV_s, bR_s, decide_true, decide_false, not_true_eq_false, not_false_eq_true, dT, dF, w_al, w_la, w_ab, w_sl, w_sb, w_dec, w_ml, w_lm, ol2i_n, aup_ne, aupE, aupJ, setc_self, setc_ne]
    obtain ⟨E3, w1, i1, i2, i3, i4⟩ := hnm
    obtain ⟨x, E4', j1, j2, j3, j4⟩ := r_num xs d hκ hpD hT hk i2 (lo := 1) (hi := 9) (l' := 1) (h' := 9) rfl rfl (fun q => by
      have := (i4 q).2.1
      rw [(mu_ok q).2.2.2]
      exact this)
    have hp3 := i2.1.ptr hpD
    have s4 := j3.fr (E' := aup E4' 276 (24 * u + 8 * s + c (6 + s)) x) (j3.1.wr (by decide) (by decide) (by show ¬ (24 * u + 8 * s + c (6 + s)) / 24 = v; omega) _) (fun j _ => by rw [aupN (by decide)])
    obtain ⟨E4, o1, o2, o3⟩ := r_must xs (d + 1) hκ hpD hT hk s4 (k := 59) (by decide) (by decide) (kk := 4) rfl
    rw [← er] at o2
    have rq := (rq2.trans i3).trans j4
    have fr4 : ∀ q, q ≠ 256 → q ≠ 276 → E4 q = E q := fun q q1 q2 => by rw [o3.cell q1, aupN q2]; exact rq.cell q1
    have ff : ∀ j, ¬ (j = 11 ∨ j = 13 ∨ j = 14 ∨ j = 15 ∨ j = 16) → E4 256 j = E 256 j := fun j hj => by rw [o3.f hj, aupN (by decide)]; exact rq.f hj
    have h13d := o2.2.1
    have go : (bif decide (¬ E1 256 13 = 0) then some (none, (κ, E1)) else bV (cl xs (d + 5) 216 [.inr (.inr 256), .inl (s : Int)] (κ, E1)) (fun h => some (none, h))) = bV (ev xs (d + 4) mm_216 64 [some (.inr (.inr 256)), some (.inl (s : Int)), some (.inl ((24 * u + 8 * s + c (6 + s) : Nat) : Int)), some (.inl ((a + 1 : Nat) : Int))] [] (κ, E3)) (fun h => some (none, h)) := by
      rw [i1]
      simp (disch := omega) only [cond_true, cond_false, Bool.and_true, Bool.true_and, Bool.and_false, Bool.false_and, Int.toNat_natCast, Int.reduceToNat, bI_s, bJ_s, bV_s, bR_s, decide_true, decide_false, not_true_eq_false, not_false_eq_true, dT, dF, w_al, w_la, w_ab, w_sl, w_sb, w_dec, w_ml, w_lm, ol2i_n, aup_ne, aupE, aupJ, setc_self, setc_ne, h13']
    rw [go]
    by_cases hf : (rtG T c a).2 = 0
    · obtain ⟨z0, z1, z2, z3, z4, z5⟩ := shPc er0 hf
      have gt := rtG_gt hf
      have m1 : mu T 2 (a + 1, 0) = (a + 2, 0) := by unfold mu; rw [if_pos rfl, if_pos z1, if_neg (by show ¬ 400 ≤ a + 1; omega)]
      have hf2 : (mu T 3 (mu T 2 (a + 1, 0))).2 = 0 := by
        have := hf
        rw [er] at this
        exact (mu_ok this).1
      have ex := j2 hf2
      rw [m1] at ex o2
      have ex : x = (tkV (T (a + 2)) : Int) := ex
      have o2 : RpS D E4 v T (rtG T c a) (w1N T (a + 2) 1 9 w1) := o2
      obtain ⟨n1, n2, n3⟩ := i4 (by rw [m1])
      rw [hf] at h13d
      have h13e : E4 256 13 = 0 := h13d
      have hp4 := o2.1.ptr hpD
      have eN4 : E4 262 (a + 1) = (p27 (tkN (T (a + 1))) : Int) := ((o2.1.tk hk) (a + 1) g400a la1).2.2.2 z1
      have e19d : E4 256 19 = (u : Int) := (ff 19 (by decide)).trans e19
      have en4 : E4 274 (3 * u + s) = (c (6 + s) : Int) := by rw [fr4 274 (by decide) (by decide)]; exact c6 s hs3
      have la2 : live T (a + 2) := live_s la1 (by omega)
      have wz : w1N T (a + 2) 1 9 w1 = w1 ∨ w1N T (a + 2) 1 9 w1 = wrg w1 5 (tkP (T (a + 2))) := by
        unfold w1N
        split
        · exact Or.inr rfl
        · exact Or.inl rfl
      have wb3 : wbf T (w1N T (a + 2) 1 9 w1) (a + 3) := by
        rcases wz with e | e
        · rw [e]; exact wbf_s hT n2 (by omega)
        · rw [e]; exact wbf_w hT n2 (by omega)
      refine ⟨aup (aup E4 275 (24 * u + 8 * s + c (6 + s)) (p27 (tkN (T (a + 1))) : Int)) 274 (3 * u + s) ((c (6 + s) + 1 : Nat) : Int), ?_, _, o2.fr ((o2.1.wr (by decide) (by decide) (by show ¬ (24 * u + 8 * s + c (6 + s)) / 24 = v; omega) _).wr (by decide) (by decide) (by show ¬ (3 * u + s) / 3 = v; omega) _) (fun j _ => by rw [aupN (by decide), aupN (by decide)]), fun _ => ⟨wbf_le hT wb3 (rt_live la hf) (by rw [z5]; show a + 3 ≤ a + 4; omega), ?_, fun lb => lb.same (Nat.le_of_lt gt) (by rw [aupN (by decide), aupN (by decide), ff 47 (by decide)]) (by rw [aupN (by decide), aupN (by decide), ff 53 (by decide)]) (by rw [aupN (by decide), aupN (by decide), ff 12 (by decide)]), fun q => by rw [n1 q, w1N_k q], fun Y hw0 hY hO hR => ?_⟩⟩
      · rw [q_216_64]
        simp (disch := omega) only [k256, pr_32 hp3, j1, n_276 hκ, o1, h13e, pr_31 hp4, pr_8 hp4, pr_30 hp4, n_275 hκ, n_262 hκ, eN4, e19d, ew, n_274 hκ, en4, cond_true, cond_false, Bool.and_true, Bool.true_and, Bool.and_false, Bool.false_and, Int.toNat_natCast, Int.reduceToNat, bI_s, bJ_s, bV_s, bR_s, decide_true, decide_false, not_true_eq_false, not_false_eq_true, dT, dF, w_al, w_la, w_ab, w_sl, w_sb, w_dec, w_ml, w_lm, ol2i_n, aup_ne, aupE, aupJ, setc_self, setc_ne]
        rw [q_216_119]
        rfl
      · rw [hK]
        refine RvC.up hcc ?_ ?_ (fun s' hs2 => ?_) ?_ ?_ ?_ (fun j hj e => ?_)
        · simp (disch := omega) only [aup_ne]; rw [fr4 264 (by decide) (by decide), c0, if_neg (by omega)]
        · simp (disch := omega) only [aup_ne]; rw [fr4 267 (by decide) (by decide), c1, if_neg (by omega)]
        · by_cases es : s' = s
          · subst es; rw [aupE, if_pos rfl]
          · rw [aupJ (by omega), aupN (by decide), fr4 274 (by decide) (by decide), c6 s' hs2, if_neg (by omega)]
        · simp (disch := omega) only [aup_ne]; rw [fr4 277 (by decide) (by decide), c9, if_neg (by omega)]
        · simp (disch := omega) only [aup_ne]; rw [fr4 279 (by decide) (by decide), c10, if_neg (by omega)]
        · simp (disch := omega) only [aup_ne]; rw [fr4 283 (by decide) (by decide), c11, if_neg (by omega)]
        · have : j = 6 + s := by omega
          subst this
          omega
      · rw [emt Y]
        have ew1 := n3 Y hw0 hY hO hR
        refine ⟨by rw [ew1]; rfl, fun hz => ?_⟩
        obtain ⟨wz1, wz2, wz3, wz4⟩ := w1N_z hz
        have en : c (6 + s) = xnp Y.1 s := by
          obtain ⟨y0, y1, y6, y7, y8, _⟩ := hY
          have hs' : s = 0 ∨ s = 1 ∨ s = 2 := by omega
          rcases hs' with rfl | rfl | rfl
          · exact y6
          · exact y7
          · exact y8
        obtain ⟨r1, r2, r3, r4⟩ := hR
        have fr : ∀ q, q ≠ 256 → q ≠ 274 → q ≠ 275 → q ≠ 276 → (aup (aup E4 275 (24 * u + 8 * s + c (6 + s)) (p27 (tkN (T (a + 1))) : Int)) 274 (3 * u + s) ((c (6 + s) + 1 : Nat) : Int)) q = E q := fun q q1 q2 q3 q4 => by rw [aupN q2, aupN q3]; exact fr4 q q1 q4
        have sf : ∀ q, q ≠ 256 → q ≠ 274 → q ≠ 275 → q ≠ 276 → sid (aup (aup E4 275 (24 * u + 8 * s + c (6 + s)) (p27 (tkN (T (a + 1))) : Int)) 274 (3 * u + s) ((c (6 + s) + 1 : Nat) : Int)) u q = sid E u q := fun q q1 q2 q3 q4 => by rw [sid_q q1, sid_q q1]; exact fr q q1 q2 q3 q4
        obtain ⟨t1, t2, t3, t4, t5, t6, t7⟩ := r1
        refine ⟨⟨V1.congr t1 (fun q a b => sf q (by omega) (by omega) (by omega) (by omega)) (by rw [sid_18, sid_18]), ?_, fun s' hs' => ?_, ?_, ?_, ?_, ?_⟩, fun k hk2 => ?_, fun s hs2 => ?_, r4.congr (fun q a b => fr q (by omega) (by omega) (by omega) (by omega)) rfl⟩
        · rw [sf 277 (by decide) (by decide) (by decide) (by decide), sf 278 (by decide) (by decide) (by decide) (by decide)]; exact t2
        · rw [sid_q (by decide), sid_q (by decide), sid_q (by decide)]
          show _ = ((upf (xnp Y.1) s (xnp Y.1 s + 1) s' : Nat) : Int) ∧ ∀ k, k < upf (xnp Y.1) s (xnp Y.1 s + 1) s' → _ = ((p27 (upf (xPN Y.1) (8 * s + xnp Y.1 s) (tkN (T (a + 1))) (8 * s' + k)) : Nat) : Int) ∧ _ = ((upf (xPT Y.1) (8 * s + xnp Y.1 s) (tkV (T (a + 2))) (8 * s' + k) : Nat) : Int)
          have n8 := xnp_le hO.1 hs'
          have e276 : ∀ j, j ≠ 24 * u + 8 * s + c (6 + s) → E4 276 j = E 276 j := fun j hj => by rw [o3.cell (by decide), aupJ hj]; exact congrFun (rq.cell (by decide)) j
          have t3s := t3 s' hs'
          rw [sid_q (by decide), sid_q (by decide), sid_q (by decide)] at t3s
          by_cases es : s' = s
          · subst es
            rw [upf_s, ← en]
            refine ⟨by rw [aupE], fun k hk2 => ?_⟩
            by_cases ek : k = c (6 + s')
            · subst ek
              rw [upf_s, upf_s]
              simp (disch := omega) only [aup_ne, aupE]
              rw [o3.cell (by decide), aupE, ex]
              exact ⟨trivial, rfl⟩
            · rw [upf_n (by omega), upf_n (by omega)]
              simp (disch := omega) only [aup_ne, aupJ]
              rw [fr4 275 (by decide) (by decide), e276 _ (by omega)]
              exact t3s.2 k (by omega)
          · rw [upf_n es]
            refine ⟨by rw [aupJ (by omega), aupN (by decide), fr4 274 (by decide) (by decide)]; exact t3s.1, fun k hk2 => ?_⟩
            have hne : 8 * s' + k ≠ 8 * s + xnp Y.1 s := by omega
            rw [upf_n hne, upf_n hne]
            simp (disch := omega) only [aup_ne, aupJ]
            rw [fr4 275 (by decide) (by decide), e276 _ (by omega)]
            exact t3s.2 k hk2
        · rw [sf 279 (by decide) (by decide) (by decide) (by decide), sf 280 (by decide) (by decide) (by decide) (by decide), sf 281 (by decide) (by decide) (by decide) (by decide), sf 282 (by decide) (by decide) (by decide) (by decide)]; exact t4
        · rw [sf 283 (by decide) (by decide) (by decide) (by decide), sf 284 (by decide) (by decide) (by decide) (by decide), sf 285 (by decide) (by decide) (by decide) (by decide), sf 286 (by decide) (by decide) (by decide) (by decide), sf 287 (by decide) (by decide) (by decide) (by decide)]; exact t5
        · rw [sf 288 (by decide) (by decide) (by decide) (by decide)]; exact t6
        · rw [sf 264 (by decide) (by decide) (by decide) (by decide)]; exact t7
        · rw [fr 265 (by decide) (by decide) (by decide) (by decide), fr 266 (by decide) (by decide) (by decide) (by decide)]; exact r2 k hk2
        · rw [fr 270 (by decide) (by decide) (by decide) (by decide), fr 271 (by decide) (by decide) (by decide) (by decide), fr 272 (by decide) (by decide) (by decide) (by decide), fr 273 (by decide) (by decide) (by decide) (by decide)]; exact r3 s hs2
    · refine ⟨E4, ?_, _, o2, fun q => absurd q hf⟩
      rw [q_216_64]
      simp (disch := omega) only [k256, pr_32 hp3, j1, n_276 hκ, o1, h13d, cond_true, cond_false, Bool.and_true, Bool.true_and, Bool.and_false, Bool.false_and, Int.toNat_natCast, Int.reduceToNat, bI_s, bJ_s, bV_s, bR_s, decide_true, decide_false, not_true_eq_false, not_false_eq_true, dT, dF, w_al, w_la, w_ab, w_sl, w_sb, w_dec, w_ml, w_lm, ol2i_n, aup_ne, aupE, aupJ, setc_self, setc_ne]
  · have ee : rtG T c a = fstG T (134 + s) (c (6 + s)) (mostO s) (a, 0) := by
      rw [er, mu_f hf1, mu_f hf1, mu_f hf1]
    rw [← ee] at a2 hf1 h13a
    refine ⟨E1, ?_, w, a2, fun q => absurd q hf1⟩
    simp (disch := omega) only [cond_true, cond_false, Bool.and_true, Bool.true_and, Bool.and_false, Bool.false_and, Int.toNat_natCast, Int.reduceToNat, bI_s, bJ_s, bV_s, bR_s, decide_true, decide_false, not_true_eq_false, not_false_eq_true, dT, dF, w_al, w_la, w_ab, w_sl, w_sb, w_dec, w_ml, w_lm, ol2i_n, aup_ne, aupE, aupJ, setc_self, setc_ne, h13a]
