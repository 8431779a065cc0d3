/-! The reference reads: a stone. -/
set_option maxHeartbeats 4000000 in
theorem rStone_run (xs : List Int) (d : Nat) {κ : aK} {D E E1 : Nat → Nat → Int} {v u : Nat} (hκ : Shp κ) (hpD : PtrR D) {T : Nat → TK} (hT : TKok T) (hk : TkR D T) {a : Nat} {w : SS} (a2 : RpS D E1 v T (a + 1, 0) w) (a3 : Rq E E1) (hsd : RsD D v u) {c : Nat → Nat} (c0 : E 264 u = (c 0 : Int)) (hb1 : wbf T w (a + 1)) (hx6 : c 0 ≤ 6) (hx7 : c 1 < 7) (en1 : E1 267 u = (c 1 : Int)) : ∃ (w4 : SS) (E6 : Nat → Nat → Int) (o : Int), cl xs (d + 6) 214 [.inr (.inr 256)] (κ, E1) = ev xs (d + 5) mm_214 178 [some (.inr (.inr 256)), some (.inl ((7 * u + c 1 : Nat) : Int)), some (.inl o)] [] (κ, E6) ∧ RpS D E6 v T (stnG T (a + 1, 0)) w4 ∧ RsF E1 E6 (7 * u + c 1) ∧ ((stnG T (a + 1, 0)).2 = 0 → (¬ w.1 = 0 → w4 = w) ∧ wbf T w4 (nbE T (nbE T (a + 4) 132) 133) ∧ ∀ Y, c 0 = xnc Y.1 → YOk Y → RlC E u Y → w4 = (mtS T a Y w).2 ∧ (w4.1 = 0 → ∃ A B : Nat → Bool, (mtS T a Y w).1 = mkS Y ((tkN (T (a + 1))).headD 0) (if tkK (T (a + 3)) = 131 then 0 else (tkN (T (a + 3))).headD 0) A B ∧ E6 268 (7 * u + c 1) = ((tkN (T (a + 1))).headD 0 : Int) ∧ E6 269 (7 * u + c 1) = ((if tkK (T (a + 3)) = 131 then 0 else (tkN (T (a + 3))).headD 0 : Nat) : Int) ∧ (∀ x : Nat, x ≤ 26 → isbR (sid E u) (E6 270 (7 * u + c 1)) (E6 271 (7 * u + c 1)) (x : Int) = A x) ∧ (¬ E6 270 (7 * u + c 1) = 0 → ¬ E6 270 (7 * u + c 1) = 3 → ¬ E6 270 (7 * u + c 1) = 1 → 0 ≤ E6 271 (7 * u + c 1) ∧ E6 271 (7 * u + c 1) < (c 0 : Int)) ∧ (∀ x : Nat, x ≤ 26 → isbR (sid E u) (E6 272 (7 * u + c 1)) (E6 273 (7 * u + c 1)) (x : Int) = B x) ∧ (¬ E6 272 (7 * u + c 1) = 0 → ¬ E6 272 (7 * u + c 1) = 3 → ¬ E6 272 (7 * u + c 1) = 1 → 0 ≤ E6 273 (7 * u + c 1) ∧ E6 273 (7 * u + c 1) < (c 0 : Int)))) := by
  have k256 := k_256 hκ
  obtain ⟨v1, v2, v3, v4, v5⟩ := hsd
  have hp1 := a2.1.ptr hpD
  have e19a : E1 256 19 = (u : Int) := by rw [a2.1.2.1 19 (by decide)]; exact v2
  have ew3 : w32 (((7 * u : Nat) : Int) + (c 1 : Int)) = ((7 * u + c 1 : Nat) : Int) := by rw [w32_id (by omega) (by omega)]; omega
  have hsd : RsD D v u := ⟨v1, v2, v3, v4, v5⟩
  generalize hKK : 7 * u + c 1 = K at ew3
  have hK14 : K < 14 := by omega
  have wrK : ∀ (F : Nat → Nat → Int) (q : Nat) (x : Int), 268 ≤ q → q ≤ 273 → RFp D F v → RFp D (aup F q K x) v := fun F q x h1 h2 hF => hF.wr (by omega) (by omega) (by
    have : strd q = 7 := by
      have hq : q = 268 ∨ q = 269 ∨ q = 270 ∨ q = 271 ∨ q = 272 ∨ q = 273 := by omega
      rcases hq with e | e | e | e | e | e <;> (rw [e]; rfl)
    rw [this]
    omega) x
  have spw : ∀ (F : Nat → Nat → Int) (q : Nat) (x : Int) (s' w' : SS), 268 ≤ q → q ≤ 273 → RpS D F v T s' w' → RpS D (aup F q K x) v T s' w' := fun F q x s' w' h1 h2 hF => hF.fr (wrK F q x h1 h2 hF.1) (fun j _ => by rw [aupN (by omega)])
  -- its letter
  obtain ⟨x1, E2, b1, b2, b3, b4⟩ := r_letter xs (d + 1) hκ hpD hT hk a2 (fun _ => hb1)
  have b2 : RpS D E2 v T (mu T 2 (a + 1, 0)) (w1L T (a + 1) w) := b2
  have b4 : (mu T 2 (a + 1, 0)).2 = 0 → wbf T (w1L T (a + 1) w) (a + 2) ∧ ((tkN (T (a + 1))).length < 2 → x1 = ((tkN (T (a + 1))).headD 0 : Int)) := b4
  have s2 := spw E2 268 x1 _ _ (by decide) (by decide) b2
  obtain ⟨E3, d1, d2, d3⟩ := r_must xs (d + 2) hκ hpD hT hk s2 (k := 130) (by decide) (by decide) (kk := 22) rfl
  have F3 : RsF E1 E3 K := (b3.st K).trans ((RsF.up (by decide) (by decide) x1).trans (d3.st K))
  have v3 : E3 268 K = x1 := by rw [d3.cell (by decide), aupE]
  have hp3 := d2.1.ptr hpD
  have h13c := d2.2.1
  have is3 := r_is xs (d + 4) hκ hpD hT hk d2 (k := 131) (by decide) (kk := 23) rfl
  have dw : (mu T 130 (mu T 2 (a + 1, 0))).2 = 0 → mu T 130 (mu T 2 (a + 1, 0)) = (a + 3, 0) ∧ tkK (T (a + 1)) = 2 ∧ tkK (T (a + 2)) = 130 ∧ wbf T (w1L T (a + 1) w) (a + 3) := fun q => by
    obtain ⟨m1, m2, m3, m4⟩ := mu_ok q
    obtain ⟨n1, n2, n3, n4⟩ := mu_ok m1
    rw [n4] at m2 m4
    have m2 : tkK (T (a + 2)) = 130 := m2
    rw [n4]
    exact ⟨m4, n2, m2, wbf_s hT (b4 m1).1 (by omega)⟩
  -- what it comes to
  have hto : ∃ (w2 : SS) (x2 : Int) (E4 : Nat → Nat → Int) (o : Int), cl xs (d + 6) 214 [.inr (.inr 256)] (κ, E1) = ev xs (d + 5) mm_214 84 [some (.inr (.inr 256)), some (.inl (K : Int)), some (.inl o)] [] (κ, E4) ∧ RpS D E4 v T (non T (mu T 130 (mu T 2 (a + 1, 0)))) w2 ∧ RsF E1 E4 K ∧ E4 268 K = x1 ∧ E4 269 K = x2 ∧ ((non T (mu T 130 (mu T 2 (a + 1, 0)))).2 = 0 → w2 = (if tkK (T (a + 3)) = 131 then w1L T (a + 1) w else w1L T (a + 3) (w1L T (a + 1) w)) ∧ wbf T w2 (a + 4) ∧ (w2.1 = 0 → x2 = ((if tkK (T (a + 3)) = 131 then 0 else (tkN (T (a + 3))).headD 0 : Nat) : Int))) := by
    have s3 := spw E3 269 0 _ _ (by decide) (by decide) d2
    have st3 : ∀ o : Int, (o = 0 ∨ o = 1) → (if (mu T 130 (mu T 2 (a + 1, 0))).2 = 0 ∧ tkK (T (mu T 130 (mu T 2 (a + 1, 0))).1) = 131 then (1 : Int) else 0) = o → cl xs (d + 6) 214 [.inr (.inr 256)] (κ, E1) = ev xs (d + 5) mm_214 55 [some (.inr (.inr 256)), some (.inl (K : Int)), none] [.inl o] (κ, E3) := fun o ho eo => by
      rw [c_214]
      by_cases q : (mu T 130 (mu T 2 (a + 1, 0))).2 = 0
      · rw [q] at h13c
        have h13d : E3 256 13 = 0 := h13c
        rw [eo] at is3
        rcases ho with rfl | rfl
        · simp (disch := omega) only [k256, e19a, pr_23 hp1, pr_24 hp1, n_267 hκ, en1, ew3, b1, n_268 hκ, d1, h13d, is3, cond_true, cond_false, Bool.and_true, Bool.true_and, Bool.and_false, Bool.false_and, Int.toNat_natCast, Int.reduceToNat, bI_s, bJ_s, bV_s, bR_s, decide_true, decide_false, not_true_eq_false, not_false_eq_true, dT, dF, w_al, w_la, w_ab, w_sl, w_sb, w_dec, w_ml, w_lm, ol2i_n, aup_ne, aupE, aupJ, setc_self, setc_ne]
        · simp (disch := omega) only [k256, e19a, pr_23 hp1, pr_24 hp1, n_267 hκ, en1, ew3, b1, n_268 hκ, d1, h13d, is3, cond_true, cond_false, Bool.and_true, Bool.true_and, Bool.and_false, Bool.false_and, Int.toNat_natCast, Int.reduceToNat, bI_s, bJ_s, bV_s, bR_s, decide_true, decide_false, not_true_eq_false, not_false_eq_true, dT, dF, w_al, w_la, w_ab, w_sl, w_sb, w_dec, w_ml, w_lm, ol2i_n, aup_ne, aupE, aupJ, setc_self, setc_ne]
      · rw [if_neg (fun z => q z.1)] at eo
        subst eo
        simp (disch := omega) only [k256, e19a, pr_23 hp1, pr_24 hp1, n_267 hκ, en1, ew3, b1, n_268 hκ, d1, h13c, cond_true, cond_false, Bool.and_true, Bool.true_and, Bool.and_false, Bool.false_and, Int.toNat_natCast, Int.reduceToNat, bI_s, bJ_s, bV_s, bR_s, decide_true, decide_false, not_true_eq_false, not_false_eq_true, dT, dF, w_al, w_la, w_ab, w_sl, w_sb, w_dec, w_ml, w_lm, ol2i_n, aup_ne, aupE, aupJ, setc_self, setc_ne]
    by_cases hn : (mu T 130 (mu T 2 (a + 1, 0))).2 = 0 ∧ tkK (T (mu T 130 (mu T 2 (a + 1, 0))).1) = 131
    · obtain ⟨E4, i1, i2, i3⟩ := r_go xs (d + 3) hκ hpD hT hk s3 (fun _ => by rw [hn.2]; decide)
      rw [← goG_mu hn.2] at i2
      have en : non T (mu T 130 (mu T 2 (a + 1, 0))) = mu T 131 (mu T 130 (mu T 2 (a + 1, 0))) := (if_pos hn.1).trans (if_pos hn.2)
      refine ⟨w1L T (a + 1) w, 0, E4, 1, ?_, by rw [en]; exact i2, F3.trans ((RsF.up (by decide) (by decide) 0).trans (i3.st K)), by rw [i3.cell (by decide), aupN (by decide)]; exact v3, by rw [i3.cell (by decide), aupE], fun z => ?_⟩
      · rw [st3 1 (Or.inr rfl) (if_pos hn), q_214_55]
        simp (disch := omega) only [k256, pr_25 hp3, n_269 hκ, i1, cond_true, cond_false, Bool.and_true, Bool.true_and, Bool.and_false, Bool.false_and, Int.toNat_natCast, Int.reduceToNat, bI_s, bJ_s, bV_s, bR_s, decide_true, decide_false, not_true_eq_false, not_false_eq_true, dT, dF, w_al, w_la, w_ab, w_sl, w_sb, w_dec, w_ml, w_lm, ol2i_n, aup_ne, aupE, aupJ, setc_self, setc_ne]
      · obtain ⟨e1, e2, e3, e4⟩ := dw hn.1
        have h131 := hn.2
        rw [e1] at h131
        have h131 : tkK (T (a + 3)) = 131 := h131
        rw [if_pos h131, if_pos h131]
        exact ⟨rfl, wbf_s hT e4 (by omega), fun _ => rfl⟩
    · obtain ⟨x2, E4', i1, i2, i3, i4⟩ := r_letter xs (d + 1) hκ hpD hT hk s3 (fun q => by
        obtain ⟨e1, _, _, e4⟩ := dw q
        rw [e1]
        exact e4)
      have i2' := spw E4' 269 x2 _ _ (by decide) (by decide) i2
      have en : non T (mu T 130 (mu T 2 (a + 1, 0))) = mu T 2 (mu T 130 (mu T 2 (a + 1, 0))) := by
        by_cases q : (mu T 130 (mu T 2 (a + 1, 0))).2 = 0
        · exact (if_pos q).trans (if_neg (fun z => hn ⟨q, z⟩))
        · rw [non_f q, mu_f q]
      refine ⟨_, x2, aup E4' 269 K x2, 0, ?_, by rw [en]; exact i2', F3.trans ((RsF.up (by decide) (by decide) 0).trans ((i3.st K).trans (RsF.up (by decide) (by decide) x2))), by rw [aupN (by decide), i3.cell (by decide), aupN (by decide)]; exact v3, by rw [aupE], fun z => ?_⟩
      · rw [st3 0 (Or.inl rfl) (if_neg hn), q_214_55]
        simp (disch := omega) only [k256, pr_25 hp3, n_269 hκ, i1, cond_true, cond_false, Bool.and_true, Bool.true_and, Bool.and_false, Bool.false_and, Int.toNat_natCast, Int.reduceToNat, bI_s, bJ_s, bV_s, bR_s, decide_true, decide_false, not_true_eq_false, not_false_eq_true, dT, dF, w_al, w_la, w_ab, w_sl, w_sb, w_dec, w_ml, w_lm, ol2i_n, aup_ne, aupE, aupJ, setc_self, setc_ne]
      · rw [en] at z
        have q := (mu_ok z).1
        obtain ⟨e1, e2, e3, e4⟩ := dw q
        have i4' := i4 z
        rw [e1] at i4' hn ⊢
        have h131 : ¬ tkK (T (a + 3)) = 131 := fun y => hn ⟨rfl, y⟩
        rw [if_neg h131, if_neg h131]
        refine ⟨rfl, i4'.1, fun y => ?_⟩
        by_cases hl : (tkN (T (a + 3))).length < 2
        · exact i4'.2 hl
        · have y : (w1L T (a + 3) (w1L T (a + 1) w)).1 = 0 := y
          unfold w1L at y
          rw [if_pos (by omega)] at y
          exact (wrg_z (by decide) y).elim
  obtain ⟨w2, x2, E4, o, i1, i2, i3, i4, i5, i6⟩ := hto
  generalize hs3 : non T (mu T 130 (mu T 2 (a + 1, 0))) = s3 at i2 i6
  have pos3 : s3.2 = 0 → s3 = (a + 4, 0) := fun z => by
    rw [← hs3] at z ⊢
    have q : (mu T 130 (mu T 2 (a + 1, 0))).2 = 0 := by
      by_cases q : (mu T 130 (mu T 2 (a + 1, 0))).2 = 0
      · exact q
      · rw [non_f q] at z; exact absurd z q
    have e1 := (dw q).1
    rw [e1] at z ⊢
    have en : non T (a + 3, 0) = (if tkK (T (a + 3)) = 131 then mu T 131 (a + 3, 0) else mu T 2 (a + 3, 0)) := ifk_0
    rw [en] at z ⊢
    by_cases y : tkK (T (a + 3)) = 131
    · rw [if_pos y] at z ⊢; exact (mu_ok z).2.2.2
    · rw [if_neg y] at z ⊢; exact (mu_ok z).2.2.2
  have e0 : ∀ F : Nat → Nat → Int, RsF E1 F K → F 264 u = (c 0 : Int) := fun F hF => by rw [hF.1 264 (by decide) (by omega), a3.cell (by decide)]; exact c0
  have lc : ∀ (F : Nat → Nat → Int) (Y : PY), RsF E1 F K → RlC E u Y → RlC F u Y := fun F Y hF hR k hk2 => by
    rw [hF.1 265 (by decide) (by omega), hF.1 266 (by decide) (by omega), a3.cell (by decide), a3.cell (by decide)]
    exact hR k hk2
  have isb : ∀ (F : Nat → Nat → Int), RsF E1 F K → ∀ (so of x : Int), isbR (sid F u) so of x = isbR (sid E u) so of x := fun F hF so of x => isbR_congr (by rw [sid_18, sid_18]) (by rw [sid_q (by decide), sid_q (by decide), hF.1 266 (by decide) (by omega), a3.cell (by decide)]) so of x
  have hp4 := i2.1.ptr hpD
  -- what stands ahead
  have hah : ∃ (w3 : SS) (E5 : Nat → Nat → Int), ev xs (d + 5) mm_214 84 [some (.inr (.inr 256)), some (.inl (K : Int)), some (.inl o)] [] (κ, E4) = ev xs (d + 5) mm_214 138 [some (.inr (.inr 256)), some (.inl (K : Int)), some (.inl o)] [] (κ, E5) ∧ RpS D E5 v T (optA T 132 s3) w3 ∧ RsF E1 E5 K ∧ E5 268 K = x1 ∧ E5 269 K = x2 ∧ E5 272 K = 0 ∧ ((optA T 132 s3).2 = 0 → (¬ w2.1 = 0 → w3 = w2) ∧ wbf T w3 (nbE T (a + 4) 132) ∧ ∀ Y, c 0 = xnc Y.1 → YOk Y → RlC E u Y → w3 = (nbM T Y (a + 4) 132 w2).2.2 ∧ (w3.1 = 0 → (∀ x : Nat, x ≤ 26 → isbR (sid E u) (E5 270 K) (E5 271 K) (x : Int) = (nbM T Y (a + 4) 132 w2).1 x) ∧ (¬ E5 270 K = 0 → ¬ E5 270 K = 3 → ¬ E5 270 K = 1 → 0 ≤ E5 271 K ∧ E5 271 K < (c 0 : Int)))) := by
    have t4 := spw _ 272 0 _ _ (by decide) (by decide) (spw E4 270 0 _ _ (by decide) (by decide) i2)
    have F4 : RsF E1 (aup (aup E4 270 K 0) 272 K 0) K := i3.trans ((RsF.up (by decide) (by decide) 0).trans (RsF.up (by decide) (by decide) 0))
    have is4 := r_is xs (d + 4) hκ hpD hT hk t4 (k := 132) (by decide) (kk := 24) rfl
    have h13d := t4.2.1
    by_cases hq : s3.2 = 0 ∧ tkK (T s3.1) = 132
    · have es := pos3 hq.1
      obtain ⟨j1, j2, _⟩ := i6 hq.1
      rw [if_pos hq] at is4
      obtain ⟨w3, E5, o1, o2, o3, o4, o5⟩ := r_beside xs (d + 1) hκ hpD hT hk t4 hsd hq.1 hq.2 (by decide) (by rw [es]; exact j2) (n := c 0) hx6 (e0 _ F4)
      have eo : optA T 132 s3 = nbr T (mu T 132 s3) := (if_pos hq.1).trans (if_pos hq.2)
      have F5 : RsF E1 E5 K := F4.trans ⟨fun q a _ => o3 q a, fun q a b j _ => by rw [o3 q (by omega)], o4⟩
      have t5 := spw _ 271 (E5 256 57) _ _ (by decide) (by decide) (spw E5 270 (E5 256 56) _ _ (by decide) (by decide) o2)
      have hp5 := o2.1.ptr hpD
      rw [hq.1] at h13d
      have h13e : aup (aup E4 270 K 0) 272 K 0 256 13 = 0 := h13d
      have h13f : E4 256 13 = 0 := by rw [aupN (by decide), aupN (by decide)] at h13e; exact h13e
      refine ⟨w3, aup (aup E5 270 K (E5 256 56)) 271 K (E5 256 57), ?_, by rw [eo]; exact t5, F5.trans ((RsF.up (by decide) (by decide) _).trans (RsF.up (by decide) (by decide) _)), ?_, ?_, ?_, fun z => ?_⟩
      · rw [q_214_84]
        simp (disch := omega) only [k256, pr_26 hp4, pr_28 hp4, n_270 hκ, n_272 hκ, h13f, is4, o1, pr_26 hp5, n_270 hκ, cond_true, cond_false, Bool.and_true, Bool.true_and, Bool.and_false, Bool.false_and, Int.toNat_natCast, Int.reduceToNat, bI_s, bJ_s, bV_s, bR_s, decide_true, decide_false, not_true_eq_false, not_false_eq_true, dT, dF, w_al, w_la, w_ab, w_sl, w_sb, w_dec, w_ml, w_lm, ol2i_n, aup_ne, aupE, aupJ, setc_self, setc_ne]
        rw [q_214_128]
        simp (disch := omega) only [k256, pr_27 hp5, n_271 hκ, cond_true, cond_false, Bool.and_true, Bool.true_and, Bool.and_false, Bool.false_and, Int.toNat_natCast, Int.reduceToNat, bI_s, bJ_s, bV_s, bR_s, decide_true, decide_false, not_true_eq_false, not_false_eq_true, dT, dF, w_al, w_la, w_ab, w_sl, w_sb, w_dec, w_ml, w_lm, ol2i_n, aup_ne, aupE, aupJ, setc_self, setc_ne]
      · simp (disch := omega) only [aup_ne]; rw [o3 268 (by decide), aupN (by decide), aupN (by decide)]; exact i4
      · simp (disch := omega) only [aup_ne]; rw [o3 269 (by decide), aupN (by decide), aupN (by decide)]; exact i5
      · simp (disch := omega) only [aup_ne]; rw [o3 272 (by decide), aupE]
      · rw [eo] at z
        obtain ⟨p1, p2, p3⟩ := o5 z
        rw [es] at p2 p3
        have hk132 : tkK (T (a + 4)) = 132 := by have := hq.2; rw [es] at this; exact this
        refine ⟨p1, by rw [show nbE T (a + 4) 132 = a + 4 + 2 from if_pos hk132]; exact p2, fun Y hY hO hR => ?_⟩
        obtain ⟨r1, r2⟩ := p3 Y hY hO (lc _ Y F4 hR)
        refine ⟨r1, fun y => ?_⟩
        obtain ⟨r3, r4⟩ := r2 y
        rw [aupE, aupN (by decide), aupE]
        exact ⟨fun x hx => by rw [← isb _ F4]; exact r3 x hx, r4⟩
    · have eo : optA T 132 s3 = s3 := by
        by_cases q : s3.2 = 0
        · exact (if_pos q).trans (if_neg (fun z => hq ⟨q, z⟩))
        · exact optA_f q
      rw [if_neg hq] at is4
      refine ⟨w2, aup (aup E4 270 K 0) 272 K 0, ?_, by rw [eo]; exact t4, F4, by rw [aupN (by decide), aupN (by decide)]; exact i4, by rw [aupN (by decide), aupN (by decide)]; exact i5, aupE _ _ _ _, fun z => ?_⟩
      · rw [q_214_84]
        by_cases q : s3.2 = 0
        · rw [q] at h13d
          have h13f : E4 256 13 = 0 := by
            have : aup (aup E4 270 K 0) 272 K 0 256 13 = 0 := h13d
            rw [aupN (by decide), aupN (by decide)] at this; exact this
          simp (disch := omega) only [k256, pr_26 hp4, pr_28 hp4, n_270 hκ, n_272 hκ, h13f, is4, cond_true, cond_false, Bool.and_true, Bool.true_and, Bool.and_false, Bool.false_and, Int.toNat_natCast, Int.reduceToNat, bI_s, bJ_s, bV_s, bR_s, decide_true, decide_false, not_true_eq_false, not_false_eq_true, dT, dF, w_al, w_la, w_ab, w_sl, w_sb, w_dec, w_ml, w_lm, ol2i_n, aup_ne, aupE, aupJ, setc_self, setc_ne]
        · have h13f : E4 256 13 = (s3.2 : Int) := by
            have := h13d
            rw [aupN (by decide), aupN (by decide)] at this; exact this
          simp (disch := omega) only [k256, pr_26 hp4, pr_28 hp4, n_270 hκ, n_272 hκ, h13f, cond_true, cond_false, Bool.and_true, Bool.true_and, Bool.and_false, Bool.false_and, Int.toNat_natCast, Int.reduceToNat, bI_s, bJ_s, bV_s, bR_s, decide_true, decide_false, not_true_eq_false, not_false_eq_true, dT, dF, w_al, w_la, w_ab, w_sl, w_sb, w_dec, w_ml, w_lm, ol2i_n, aup_ne, aupE, aupJ, setc_self, setc_ne]
      · rw [eo] at z
        have es := pos3 z
        obtain ⟨j1, j2, _⟩ := i6 z
        have hk132 : ¬ tkK (T (a + 4)) = 132 := fun y => hq ⟨z, by rw [es]; exact y⟩
        refine ⟨fun _ => rfl, by rw [show nbE T (a + 4) 132 = a + 4 from if_neg hk132]; exact j2, fun Y hY hO hR => ?_⟩
        have e : nbM T Y (a + 4) 132 w2 = (fun _ => true, a + 4, w2) := if_neg hk132
        rw [e]
        refine ⟨rfl, fun _ => ⟨fun x hx => ?_, fun y => absurd ?_ y⟩⟩
        · rw [aupN (by decide), aupE]
          unfold isbR
          rw [if_pos rfl]
        · rw [aupN (by decide), aupE]
  obtain ⟨w3, E5, j1, j2, j3, j4, j5, j6, j7⟩ := hah
  have hp5 := j2.1.ptr hpD
  have pos4 : (optA T 132 s3).2 = 0 → optA T 132 s3 = (nbE T (a + 4) 132, 0) ∧ s3 = (a + 4, 0) := fun z => by
    obtain ⟨o1, o2, _⟩ := optA_ok z
    have es := pos3 o1
    rw [es] at o2 ⊢
    exact ⟨o2, rfl⟩
  generalize hs4 : optA T 132 s3 = s4 at j2 j7 pos4
  -- what stands behind
  have hbe : ∃ (w4 : SS) (E6 : Nat → Nat → Int), ev xs (d + 5) mm_214 138 [some (.inr (.inr 256)), some (.inl (K : Int)), some (.inl o)] [] (κ, E5) = ev xs (d + 5) mm_214 178 [some (.inr (.inr 256)), some (.inl (K : Int)), some (.inl o)] [] (κ, E6) ∧ RpS D E6 v T (optA T 133 s4) w4 ∧ RsF E1 E6 K ∧ E6 268 K = x1 ∧ E6 269 K = x2 ∧ E6 270 K = E5 270 K ∧ E6 271 K = E5 271 K ∧ ((optA T 133 s4).2 = 0 → (¬ w3.1 = 0 → w4 = w3) ∧ wbf T w4 (nbE T (nbE T (a + 4) 132) 133) ∧ ∀ Y, c 0 = xnc Y.1 → YOk Y → RlC E u Y → w4 = (nbM T Y (nbE T (a + 4) 132) 133 w3).2.2 ∧ (w4.1 = 0 → (∀ x : Nat, x ≤ 26 → isbR (sid E u) (E6 272 K) (E6 273 K) (x : Int) = (nbM T Y (nbE T (a + 4) 132) 133 w3).1 x) ∧ (¬ E6 272 K = 0 → ¬ E6 272 K = 3 → ¬ E6 272 K = 1 → 0 ≤ E6 273 K ∧ E6 273 K < (c 0 : Int)))) := by
    have is4 := r_is xs (d + 4) hκ hpD hT hk j2 (k := 133) (by decide) (kk := 25) rfl
    have h13d := j2.2.1
    by_cases hq : s4.2 = 0 ∧ tkK (T s4.1) = 133
    · have es := (pos4 hq.1).1
      obtain ⟨q1, q2, _⟩ := j7 hq.1
      rw [if_pos hq] at is4
      obtain ⟨w4, E6, o1, o2, o3, o4, o5⟩ := r_beside xs (d + 1) hκ hpD hT hk j2 hsd hq.1 hq.2 (by decide) (by rw [es]; exact q2) (n := c 0) hx6 (e0 _ j3)
      have eo : optA T 133 s4 = nbr T (mu T 133 s4) := (if_pos hq.1).trans (if_pos hq.2)
      have F6 : RsF E1 E6 K := j3.trans ⟨fun q a _ => o3 q a, fun q a b j _ => by rw [o3 q (by omega)], o4⟩
      have t5 := spw _ 273 (E6 256 57) _ _ (by decide) (by decide) (spw E6 272 (E6 256 56) _ _ (by decide) (by decide) o2)
      have hp6 := o2.1.ptr hpD
      rw [hq.1] at h13d
      have h13e : E5 256 13 = 0 := h13d
      refine ⟨w4, aup (aup E6 272 K (E6 256 56)) 273 K (E6 256 57), ?_, by rw [eo]; exact t5, F6.trans ((RsF.up (by decide) (by decide) _).trans (RsF.up (by decide) (by decide) _)), ?_, ?_, ?_, ?_, fun z => ?_⟩
      · rw [q_214_138]
        simp (disch := omega) only [k256, h13e, is4, o1, pr_28 hp6, pr_29 hp6, n_272 hκ, n_273 hκ, cond_true, cond_false, Bool.and_true, Bool.true_and, Bool.and_false, Bool.false_and, Int.toNat_natCast, Int.reduceToNat, bI_s, bJ_s, bV_s, bR_s, decide_true, decide_false, not_true_eq_false, not_false_eq_true, dT, dF, w_al, w_la, w_ab, w_sl, w_sb, w_dec, w_ml, w_lm, ol2i_n, aup_ne, aupE, aupJ, setc_self, setc_ne]
      · simp (disch := omega) only [aup_ne]; rw [o3 268 (by decide)]; exact j4
      · simp (disch := omega) only [aup_ne]; rw [o3 269 (by decide)]; exact j5
      · simp (disch := omega) only [aup_ne]; rw [o3 270 (by decide)]
      · simp (disch := omega) only [aup_ne]; rw [o3 271 (by decide)]
      · rw [eo] at z
        obtain ⟨p1, p2, p3⟩ := o5 z
        rw [es] at p2 p3
        have hk133 : tkK (T (nbE T (a + 4) 132)) = 133 := by have := hq.2; rw [es] at this; exact this
        refine ⟨p1, by rw [show nbE T (nbE T (a + 4) 132) 133 = nbE T (a + 4) 132 + 2 from if_pos hk133]; exact p2, fun Y hY hO hR => ?_⟩
        obtain ⟨r1, r2⟩ := p3 Y hY hO (lc _ Y j3 hR)
        refine ⟨r1, fun y => ?_⟩
        obtain ⟨r3, r4⟩ := r2 y
        rw [aupE, aupN (by decide), aupE]
        exact ⟨fun x hx => by rw [← isb _ j3]; exact r3 x hx, r4⟩
    · have eo : optA T 133 s4 = s4 := by
        by_cases q : s4.2 = 0
        · exact (if_pos q).trans (if_neg (fun z => hq ⟨q, z⟩))
        · exact optA_f q
      rw [if_neg hq] at is4
      refine ⟨w3, E5, ?_, by rw [eo]; exact j2, j3, j4, j5, rfl, rfl, fun z => ?_⟩
      · rw [q_214_138]
        by_cases q : s4.2 = 0
        · rw [q] at h13d
          have h13f : E5 256 13 = 0 := h13d
          simp (disch := omega) only [k256, h13f, is4, cond_true, cond_false, Bool.and_true, Bool.true_and, Bool.and_false, Bool.false_and, Int.toNat_natCast, Int.reduceToNat, bI_s, bJ_s, bV_s, bR_s, decide_true, decide_false, not_true_eq_false, not_false_eq_true, dT, dF, w_al, w_la, w_ab, w_sl, w_sb, w_dec, w_ml, w_lm, ol2i_n, aup_ne, aupE, aupJ, setc_self, setc_ne]
        · simp (disch := omega) only [k256, h13d, cond_true, cond_false, Bool.and_true, Bool.true_and, Bool.and_false, Bool.false_and, Int.toNat_natCast, Int.reduceToNat, bI_s, bJ_s, bV_s, bR_s, decide_true, decide_false, not_true_eq_false, not_false_eq_true, dT, dF, w_al, w_la, w_ab, w_sl, w_sb, w_dec, w_ml, w_lm, ol2i_n, aup_ne, aupE, aupJ, setc_self, setc_ne]
      · rw [eo] at z
        have es := (pos4 z).1
        obtain ⟨q1, q2, _⟩ := j7 z
        have hk133 : ¬ tkK (T (nbE T (a + 4) 132)) = 133 := fun y => hq ⟨z, by rw [es]; exact y⟩
        refine ⟨fun _ => rfl, by rw [show nbE T (nbE T (a + 4) 132) 133 = nbE T (a + 4) 132 from if_neg hk133]; exact q2, fun Y hY hO hR => ?_⟩
        have e : nbM T Y (nbE T (a + 4) 132) 133 w3 = (fun _ => true, nbE T (a + 4) 132, w3) := if_neg hk133
        rw [e]
        refine ⟨rfl, fun _ => ⟨fun x hx => ?_, fun y => absurd j6 y⟩⟩
        rw [j6]
        unfold isbR
        rw [if_pos rfl]
  obtain ⟨w4, E6, q1, q2, q3, q4, q5, q6, q7, q8⟩ := hbe
  have es : stnG T (a + 1, 0) = optA T 133 s4 := by rw [← hs4, ← hs3]; rfl
  rw [es]
  refine ⟨w4, E6, o, by rw [i1, j1, q1], q2, q3, fun hf5 => ?_⟩
  have hf4 : s4.2 = 0 := (optA_ok hf5).1
  have hf3 : s3.2 = 0 := by rw [← hs4] at hf4; exact (optA_ok hf4).1
  obtain ⟨i6a, i6b, i6c⟩ := i6 hf3
  obtain ⟨j7a, j7b, j7c⟩ := j7 hf4
  obtain ⟨q8a, q8b, q8c⟩ := q8 hf5
  have hq1 : (mu T 2 (a + 1, 0)).2 = 0 := by
    rw [← hs3] at hf3
    by_cases q : (mu T 130 (mu T 2 (a + 1, 0))).2 = 0
    · exact (mu_ok q).1
    · rw [non_f q] at hf3; exact absurd hf3 q
  have b4' := (b4 hq1).2
  clear b4 i6 j7 q8 pos3 pos4 dw
  refine ⟨fun z => ?_, q8b, fun Y hY hO hR => ?_⟩
  · have y1 : w2 = w := by rw [i6a, w1L_k z]; split; rfl; exact w1L_k z
    have y2 : w3 = w := by rw [j7a (by rw [y1]; exact z), y1]
    rw [q8a (by rw [y2]; exact z), y2]
  · obtain ⟨k1, k2⟩ := q8c Y hY hO hR
    obtain ⟨l1, l2⟩ := j7c Y hY hO hR
    refine ⟨?_, fun hz => ?_⟩
    · unfold mtS
      dsimp only
      rw [nbE_eq, ← i6a, ← l1]
      exact k1
    · have hz3 : w3.1 = 0 := by rw [k1] at hz; exact nbM_z hz
      have hz2 : w2.1 = 0 := by rw [l1] at hz3; exact nbM_z hz3
      have hz1 : (w1L T (a + 1) w).1 = 0 := by
        by_cases y : (w1L T (a + 1) w).1 = 0
        · exact y
        · rw [i6a] at hz2
          split at hz2
          · exact hz2
          · rw [w1L_k y] at hz2; exact hz2
      have hl1 : (tkN (T (a + 1))).length < 2 := by
        by_cases y : (tkN (T (a + 1))).length < 2
        · exact y
        · unfold w1L at hz1
          rw [if_pos (show 1 < (tkN (T (a + 1))).length from Nat.lt_of_not_le (fun z => y (Nat.lt_succ_of_le z)))] at hz1
          exact (wrg_z (by decide) hz1).elim
      obtain ⟨k3, k4⟩ := k2 hz
      obtain ⟨l3, l4⟩ := l2 hz3
      refine ⟨(nbM T Y (a + 4) 132 w2).1, (nbM T Y (nbE T (a + 4) 132) 133 w3).1, ?_, q4.trans (b4' hl1), q5.trans (i6c hz2), ?_, ?_, k3, k4⟩
      · unfold mtS
        dsimp only
        rw [nbE_eq, ← i6a, ← l1]
      · rw [q6, q7]; exact l3
      · rw [q6, q7]; exact l4
theorem rStone_fin {E E7 : Nat → Nat → Int} {u : Nat} {Y : PY} {f t : Nat} {A B : Nat → Bool} (hu : u < 2) (hn : xns Y.1 < 7) (hn6 : xnc Y.1 ≤ 6) (ht : t ≤ 26) (fc : ∀ q, q ≠ 256 → q < 267 ∨ 273 < q → E7 q = E q) (so : ∀ q, 268 ≤ q → q ≤ 273 → ∀ j, j ≠ 7 * u + xns Y.1 → E7 q j = E q j) (v268 : E7 268 (7 * u + xns Y.1) = (f : Int)) (v269 : E7 269 (7 * u + xns Y.1) = (t : Int)) (l3 : ∀ x : Nat, x ≤ 26 → isbR (sid E u) (E7 270 (7 * u + xns Y.1)) (E7 271 (7 * u + xns Y.1)) (x : Int) = A x) (l4 : ¬ E7 270 (7 * u + xns Y.1) = 0 → ¬ E7 270 (7 * u + xns Y.1) = 3 → ¬ E7 270 (7 * u + xns Y.1) = 1 → 0 ≤ E7 271 (7 * u + xns Y.1) ∧ E7 271 (7 * u + xns Y.1) < (xnc Y.1 : Int)) (k3 : ∀ x : Nat, x ≤ 26 → isbR (sid E u) (E7 272 (7 * u + xns Y.1)) (E7 273 (7 * u + xns Y.1)) (x : Int) = B x) (k4 : ¬ E7 272 (7 * u + xns Y.1) = 0 → ¬ E7 272 (7 * u + xns Y.1) = 3 → ¬ E7 272 (7 * u + xns Y.1) = 1 → 0 ≤ E7 273 (7 * u + xns Y.1) ∧ E7 273 (7 * u + xns Y.1) < (xnc Y.1 : Int)) (hR : RvY E u Y) : RvY (aup E7 267 u ((xns Y.1 + 1 : Nat) : Int)) u (mkS Y f t A B) := by
  obtain ⟨R1, R2, R3, R4⟩ := hR
  obtain ⟨t1, t2, t3, t4, t5, t6, t7⟩ := R1
  have sf : ∀ q, q ≠ 256 → q < 267 ∨ 273 < q → sid (aup E7 267 u ((xns Y.1 + 1 : Nat) : Int)) u q = sid E u q := fun q q1 q2 => by rw [sid_q q1, sid_q q1, aupN (show q ≠ 267 by omega)]; exact fc q q1 q2
  have so' : ∀ q, 268 ≤ q → q ≤ 273 → ∀ j, j ≠ 7 * u + xns Y.1 → (aup E7 267 u ((xns Y.1 + 1 : Nat) : Int)) q j = E q j := fun q q1 q2 j hj => by rw [aupN (show q ≠ 267 by omega)]; exact so q q1 q2 j hj
  have ib : ∀ so of x : Int, isbR (sid (aup E7 267 u ((xns Y.1 + 1 : Nat) : Int)) u) so of x = isbR (sid E u) so of x := fun so of x => isbR_congr (by rw [sid_18, sid_18]) (sf 266 (by decide) (by decide)) so of x
  refine ⟨⟨⟨⟨?_, hn, fun s hs2 => ?_⟩, fun s hs2 => ?_⟩, ?_, ?_, ?_, ?_, ?_, ?_⟩, fun k hk2 => ?_, fun s hs2 => ?_, R4.congr (fun q a b => by rw [aupN (show q ≠ 267 by omega)]; exact fc q (by omega) (by omega)) rfl⟩
  · rw [sid_q (by decide), aupE]; rfl
  · have hs2 : s < xns Y.1 + 1 := hs2
    unfold stOK
    rw [sid_q (by decide), sid_q (by decide), sid_q (by decide), sid_q (by decide), sid_q (by decide), sid_q (by decide)]
    show 7 * u + s < 14 ∧ _ = ((upf (xF Y.1) (xns Y.1) f s : Nat) : Int) ∧ _ = ((upf (xT Y.1) (xns Y.1) t s : Nat) : Int) ∧ upf (xT Y.1) (xns Y.1) t s ≤ 26 ∧ _
    by_cases e : s = xns Y.1
    · rw [e, upf_s, upf_s, aupN (by decide), aupN (by decide), aupN (by decide), aupN (by decide), aupN (by decide), aupN (by decide)]
      exact ⟨by omega, v268, v269, ht, fun a b c' => ⟨(l4 a b c').1, Int.lt_of_lt_of_le (l4 a b c').2 (by omega)⟩, fun a b c' => ⟨(k4 a b c').1, Int.lt_of_lt_of_le (k4 a b c').2 (by omega)⟩⟩
    · have nK : 7 * u + s ≠ 7 * u + xns Y.1 := by omega
      rw [upf_n e, upf_n e, so' 268 (by decide) (by decide) _ nK, so' 269 (by decide) (by decide) _ nK, so' 270 (by decide) (by decide) _ nK, so' 271 (by decide) (by decide) _ nK, so' 272 (by decide) (by decide) _ nK, so' 273 (by decide) (by decide) _ nK]
      have := t1.1.2.2 s (by omega)
      unfold stOK at this
      rw [sid_q (by decide), sid_q (by decide), sid_q (by decide), sid_q (by decide), sid_q (by decide), sid_q (by decide)] at this
      exact this
  · have hs2 : s < xns Y.1 + 1 := hs2
    show (∀ x : Nat, x ≤ 26 → isbR _ (sid _ u 270 (7 * u + s)) (sid _ u 271 (7 * u + s)) (x : Int) = upf (xA Y.1) (xns Y.1) A s x) ∧ (∀ x : Nat, x ≤ 26 → isbR _ (sid _ u 272 (7 * u + s)) (sid _ u 273 (7 * u + s)) (x : Int) = upf (xB Y.1) (xns Y.1) B s x)
    rw [sid_q (by decide), sid_q (by decide), sid_q (by decide), sid_q (by decide)]
    by_cases e : s = xns Y.1
    · rw [e, upf_s, upf_s, aupN (by decide), aupN (by decide), aupN (by decide), aupN (by decide)]
      exact ⟨fun x hx => by rw [ib]; exact l3 x hx, fun x hx => by rw [ib]; exact k3 x hx⟩
    · have nK : 7 * u + s ≠ 7 * u + xns Y.1 := by omega
      rw [upf_n e, upf_n e, so' 270 (by decide) (by decide) _ nK, so' 271 (by decide) (by decide) _ nK, so' 272 (by decide) (by decide) _ nK, so' 273 (by decide) (by decide) _ nK]
      have := t1.2 s (by omega)
      unfold rA rB at this
      rw [sid_q (by decide), sid_q (by decide), sid_q (by decide), sid_q (by decide)] at this
      exact ⟨fun x hx => by rw [ib]; exact this.1 x hx, fun x hx => by rw [ib]; exact this.2 x hx⟩
  · rw [sf 277 (by decide) (by decide), sf 278 (by decide) (by decide)]; exact t2
  · rw [sf 274 (by decide) (by decide), sf 275 (by decide) (by decide), sf 276 (by decide) (by decide)]; exact t3
  · rw [sf 279 (by decide) (by decide), sf 280 (by decide) (by decide), sf 281 (by decide) (by decide), sf 282 (by decide) (by decide)]; exact t4
  · rw [sf 283 (by decide) (by decide), sf 284 (by decide) (by decide), sf 285 (by decide) (by decide), sf 286 (by decide) (by decide), sf 287 (by decide) (by decide)]; exact t5
  · rw [sf 288 (by decide) (by decide)]; exact t6
  · rw [sf 264 (by decide) (by decide)]; exact t7
  · rw [aupN (by decide), aupN (by decide), fc 265 (by decide) (by decide), fc 266 (by decide) (by decide)]; exact R2 k hk2
  · have hs2 : s < xns Y.1 + 1 := hs2
    show (¬ _ = 0 → ¬ _ = 3 → ¬ _ = 1 → _ < ((xnc Y.1 : Nat) : Int)) ∧ (¬ _ = 0 → ¬ _ = 3 → ¬ _ = 1 → _ < ((xnc Y.1 : Nat) : Int))
    by_cases e : s = xns Y.1
    · rw [e, aupN (by decide), aupN (by decide), aupN (by decide), aupN (by decide)]
      exact ⟨fun a b c' => (l4 a b c').2, fun a b c' => (k4 a b c').2⟩
    · have nK : 7 * u + s ≠ 7 * u + xns Y.1 := by omega
      rw [so' 270 (by decide) (by decide) _ nK, so' 271 (by decide) (by decide) _ nK, so' 272 (by decide) (by decide) _ nK, so' 273 (by decide) (by decide) _ nK]
      exact R3 s (by omega)
