theorem rStone (xs : List Int) (d : Nat) {κ : aK} {D E : Nat → Nat → Int} {v u : Nat} (hκ : Shp κ) (hpD : PtrR D) {T : Nat → TK} (hT : TKok T) (hk : TkR D T) {a : Nat} {w : SS} (h : RpS D E v T (a, 0) w) (hs : RsD D v u) {c : Nat → Nat} (hc : RvC E u c) (hb : wbf T w a) (hx6 : c 0 ≤ 6) (hx8 : c 1 ≤ 7) (hK : tkK (T a) = 129) (u1 : Option aV) : ∃ E', ev xs (d + 6) mm_208 113 [some (.inr (.inr 256)), u1] [] (κ, E) = some (none, (κ, E')) ∧ RTc D E E' v u T c a w := by
  have k256 := k_256 hκ
  have hcc := hc
  have hsd := hs
  obtain ⟨v1, v2, v3, v4, v5⟩ := hs
  obtain ⟨c0, c1, c6, c9, c10, c11, cb⟩ := hc
  have hp := h.1.ptr hpD
  have e19 : E 256 19 = (u : Int) := by rw [h.1.2.1 19 (by decide)]; exact v2
  have er : rtG T c a = mu T 59 (stnG T (fstG T 129 (c 1) 7 (a, 0))) := (if_neg (by omega)).trans (if_pos hK)
  obtain ⟨g11, g400, la, _⟩ := h.2.2.2.2 rfl
  obtain ⟨E1, a1, a2, a3⟩ := r_first xs (d + 3) hκ hpD hT hk h hK (by decide) (has := c 1) (most := 7) hx8 (hh' := (c 1 : Int)) (mm := 7) rfl rfl
  have h13 := a2.2.1
  have st : ev xs (d + 6) mm_208 113 [some (.inr (.inr 256)), u1] [] (κ, E) = (bif decide (¬ E1 256 13 = 0) then some (none, (κ, E1)) else bV (cl xs (d + 6) 214 [.inr (.inr 256)] (κ, E1)) (fun h => some (none, h))) := by
    rw [q_208_113]
    simp (disch := omega) only [cond_true, cond_false, Bool.and_true, Bool.true_and, Bool.and_false, Bool.false_and, Int.toNat_natCast, Int.reduceToNat, bI_s, bJ_s, bV_s, bR_s, decide_true, decide_false, not_true_eq_false, not_false_eq_true, dT, dF, w_al, w_la, w_ab, w_sl, w_sb, w_dec, w_ml, w_lm, ol2i_n, aup_ne, aupE, aupJ, setc_self, setc_ne, k256, pr_23 hp, e19, n_267 hκ, c1, a1]
  rw [st]
  by_cases hf1 : (fstG T 129 (c 1) 7 (a, 0)).2 = 0
  · obtain ⟨f1, f2, f3, f4⟩ := fst_ok hf1
    rw [f4] at a2 er h13
    have h13' : E1 256 13 = 0 := h13
    have hb1 : wbf T w (a + 1) := wbf_s hT hb (by omega)
    have en1 : E1 267 u = (c 1 : Int) := by rw [a3.cell (by decide)]; exact c1
    obtain ⟨w4, E6, o, i1, i2, i3, i4⟩ := rStone_run xs d hκ hpD hT hk a2 a3 hsd c0 hb1 hx6 f1 en1
    obtain ⟨E7, r1, r2, r3⟩ := r_must xs (d + 2) hκ hpD hT hk i2 (k := 59) (by decide) (by decide) (kk := 4) rfl
    rw [← er] at r2
    have F7 : RsF E1 E7 (7 * u + c 1) := i3.trans (r3.st _)
    have h13z := r2.2.1
    have go : (bif decide (¬ E1 256 13 = 0) then some (none, (κ, E1)) else bV (cl xs (d + 6) 214 [.inr (.inr 256)] (κ, E1)) (fun h => some (none, h))) = bV (ev xs (d + 5) mm_214 178 [some (.inr (.inr 256)), some (.inl ((7 * u + c 1 : Nat) : Int)), some (.inl o)] [] (κ, E6)) (fun h => some (none, h)) := by
      rw [i1]
      simp (disch := omega) only [cond_true, cond_false, Bool.and_true, Bool.true_and, Bool.and_false, Bool.false_and, Int.toNat_natCast, Int.reduceToNat, bI_s, bJ_s, bV_s, bR_s, decide_true, decide_false, not_true_eq_false, not_false_eq_true, dT, dF, w_al, w_la, w_ab, w_sl, w_sb, w_dec, w_ml, w_lm, ol2i_n, aup_ne, aupE, aupJ, setc_self, setc_ne, h13']
    rw [go, q_214_178]
    have hp7 := r2.1.ptr hpD
    by_cases hf : (rtG T c a).2 = 0
    · have hfs : (stnG T (a + 1, 0)).2 = 0 := by
        have := hf
        rw [er] at this
        exact (mu_ok this).1
      obtain ⟨i4a, i4b, i4c⟩ := i4 hfs
      have z8 := (sh129 hK hf).2.2.2.2.2.2.2.2
      have z1 := (sh129 hK hf).2.1
      have z3 := (sh129 hK hf).2.2.2.1
      have gt := rtG_gt hf
      rw [hf] at h13z
      have h13y : E7 256 13 = 0 := h13z
      have e19z : E7 256 19 = (u : Int) := by rw [F7.2.2 19 (by decide), a3.f (by decide)]; exact e19
      have en7 : E7 267 u = (c 1 : Int) := by rw [F7.1 267 (by decide) (by decide)]; exact en1
      have ff : ∀ j, ¬ (j = 11 ∨ j = 13 ∨ j = 14 ∨ j = 15 ∨ j = 16 ∨ j = 56 ∨ j = 57) → E7 256 j = E 256 j := fun j hj => (F7.2.2 j hj).trans (a3.f (fun z => hj (by omega)))
      have fc : ∀ q, q ≠ 256 → q < 267 ∨ 273 < q → E7 q = E q := fun q q1 q2 => (F7.1 q q1 (by omega)).trans (a3.cell q1)
      refine ⟨aup E7 267 u ((c 1 + 1 : Nat) : Int), ?_, w4, r2.fr (r2.1.wr (by decide) (by decide) (by show ¬ u / 1 = v; rw [Nat.div_one]; exact v5) _) (fun j _ => by rw [aupN (by decide)]), fun _ => ⟨wbf_le hT i4b (rt_live la hf) (by rw [z8]; exact Nat.le_succ _), ?_, fun lb => lb.same (Nat.le_of_lt gt) (by rw [aupN (by decide), ff 47 (by decide)]) (by rw [aupN (by decide), ff 53 (by decide)]) (by rw [aupN (by decide), ff 12 (by decide)]), i4a, fun Y hw0 hY hO hR => ?_⟩⟩
      · simp (disch := omega) only [k256, r1, h13y, pr_23 hp7, e19z, n_267 hκ, en7, cond_true, cond_false, Bool.and_true, Bool.true_and, Bool.and_false, Bool.false_and, Int.toNat_natCast, Int.reduceToNat, bI_s, bJ_s, bV_s, bR_s, decide_true, decide_false, not_true_eq_false, not_false_eq_true, dT, dF, w_al, w_la, w_ab, w_sl, w_sb, w_dec, w_ml, w_lm, ol2i_n, aup_ne, aupE, aupJ, setc_self, setc_ne]
      · rw [hK]
        refine RvC.up hcc ?_ ?_ (fun s hs2 => ?_) ?_ ?_ ?_ (fun j hj e => ?_)
        · rw [aupN (by decide), fc 264 (by decide) (by decide), c0]; rfl
        · rw [aupE]; rfl
        · rw [aupN (by decide), fc 274 (by decide) (by decide), c6 s hs2, if_neg (by omega)]
        · rw [aupN (by decide), fc 277 (by decide) (by decide), c9]; rfl
        · rw [aupN (by decide), fc 279 (by decide) (by decide), c10]; rfl
        · rw [aupN (by decide), fc 283 (by decide) (by decide), c11]; rfl
        · have : j = 1 := by omega
          subst this
          omega
      · rw [mt129 hK]
        obtain ⟨k1, k2⟩ := i4c Y hY.1 hO hR.2.1
        refine ⟨k1, fun hz => ?_⟩
        obtain ⟨A, B, m1, m2, m3, m4, m5, m6, m7⟩ := k2 hz
        have hto26 : (if tkK (T (a + 3)) = 131 then 0 else (tkN (T (a + 3))).headD 0) ≤ 26 := by
          by_cases y : tkK (T (a + 3)) = 131
          · rw [if_pos y]; decide
          · rw [if_neg y]
            have h2 : tkK (T (a + 3)) = 2 := z3.resolve_left y
            have hN := hT.2.2.1 _ h2
            exact (headD_ok hN.1 hN.2).2
        have y0 := hY.1
        have y1 := hY.2.1
        have n6 := hO.1.2.2.2.2.2.2
        rw [m1, y1]
        rw [y1] at m2 m3 m4 m5 m6 m7 F7 f1
        rw [y0] at m5 m7
        have c8 : ∀ q, q ≠ 256 → E7 q = E6 q := fun q hq => r3.cell hq
        exact rStone_fin v4 f1 n6 hto26 fc (fun q q1 q2 j hj => by rw [F7.2.1 q q1 q2 j hj, a3.cell (show q ≠ 256 by omega)]) (by rw [c8 _ (by decide)]; exact m2) (by rw [c8 _ (by decide)]; exact m3) (by rw [c8 270 (by decide), c8 271 (by decide)]; exact m4) (by rw [c8 270 (by decide), c8 271 (by decide)]; exact m5) (by rw [c8 272 (by decide), c8 273 (by decide)]; exact m6) (by rw [c8 272 (by decide), c8 273 (by decide)]; exact m7) hR
    · refine ⟨E7, ?_, w4, r2, fun q => absurd q hf⟩
      simp (disch := omega) only [k256, r1, h13z, cond_true, cond_false, Bool.and_true, Bool.true_and, Bool.and_false, Bool.false_and, Int.toNat_natCast, Int.reduceToNat, bI_s, bJ_s, bV_s, bR_s, decide_true, decide_false, not_true_eq_false, not_false_eq_true, dT, dF, w_al, w_la, w_ab, w_sl, w_sb, w_dec, w_ml, w_lm, ol2i_n, aup_ne, aupE, aupJ, setc_self, setc_ne]
  · have ee : rtG T c a = fstG T 129 (c 1) 7 (a, 0) := by
      rw [er, stnG_f hf1, mu_f hf1]
    rw [← ee] at a2 hf1 h13
    refine ⟨E1, ?_, w, a2, fun q => absurd q hf1⟩
    simp (disch := omega) only [cond_true, cond_false, Bool.and_true, Bool.true_and, Bool.and_false, Bool.false_and, Int.toNat_natCast, Int.reduceToNat, bI_s, bJ_s, bV_s, bR_s, decide_true, decide_false, not_true_eq_false, not_false_eq_true, dT, dF, w_al, w_la, w_ab, w_sl, w_sb, w_dec, w_ml, w_lm, ol2i_n, aup_ne, aupE, aupJ, setc_self, setc_ne, h13]
