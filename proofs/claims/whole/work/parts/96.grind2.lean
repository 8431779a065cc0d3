/-! grind by the class. -/
theorem pcI_e0 (y : WY) : pcI y 0 = (if y.2.2.2 = 0 then -1 else ((7 + y.2.2.2 : Nat) : Int)) := rfl
theorem pcI_e1 (y : WY) : pcI y 1 = (if y.2.2.1 = 0 then -1 else ((7 + y.2.2.1 : Nat) : Int)) := rfl
theorem pcI_e2 (y : WY) : pcI y 2 = (if y.2.1 = 0 then -1 else ((y.2.1 - 1 : Nat) : Int)) := rfl
theorem pcI_e3 (y : WY) : pcI y 3 = (if y.1 = 0 then -1 else ((15 + y.1 : Nat) : Int)) := rfl
theorem pcT0 (X : TX) (y : WY) : (if pcI y 0 = -1 then 0 else xPT X (pcI y 0).toNat) = tnP X 1 y.2.2.2 := by
  rw [pcI_e0]
  unfold tnP
  by_cases h : y.2.2.2 = 0
  · rw [if_pos h, if_pos rfl, if_pos h]
  · rw [if_neg h, if_neg (by omega), if_neg h, Int.toNat_natCast, show 8 * 1 + (y.2.2.2 - 1) = 7 + y.2.2.2 by omega]
theorem pcT1 (X : TX) (y : WY) : (if pcI y 1 = -1 then 0 else xPT X (pcI y 1).toNat) = tnP X 1 y.2.2.1 := by
  rw [pcI_e1]
  unfold tnP
  by_cases h : y.2.2.1 = 0
  · rw [if_pos h, if_pos rfl, if_pos h]
  · rw [if_neg h, if_neg (by omega), if_neg h, Int.toNat_natCast, show 8 * 1 + (y.2.2.1 - 1) = 7 + y.2.2.1 by omega]
theorem pcT2 (X : TX) (y : WY) : (if pcI y 2 = -1 then 0 else xPT X (pcI y 2).toNat) = tnP X 0 y.2.1 := by
  rw [pcI_e2]
  unfold tnP
  by_cases h : y.2.1 = 0
  · rw [if_pos h, if_pos rfl, if_pos h]
  · rw [if_neg h, if_neg (by omega), if_neg h, Int.toNat_natCast, Nat.mul_zero, Nat.zero_add]
theorem pcT3 (X : TX) (y : WY) : (if pcI y 3 = -1 then 0 else xPT X (pcI y 3).toNat) = tnP X 2 y.1 := by
  rw [pcI_e3]
  unfold tnP
  by_cases h : y.1 = 0
  · rw [if_pos h, if_pos rfl, if_pos h]
  · rw [if_neg h, if_neg (by omega), if_neg h, Int.toNat_natCast, show 8 * 2 + (y.1 - 1) = 15 + y.1 by omega]
theorem ta_eq (xs : List Int) (d : Nat) {κ : aK} {D : Nat → Nat → Int} (hκ : Shp κ) (hc : CPtr D) {t : Nat} (ht : isT t) (h5 : D 0 5 = (t : Int)) {X : TX} (hX : TXok X) (hP : PcC D t X) {y : WY} (hy : wvd X y) {s q : Nat → Int} {U : Nat → Nat} (hs : ∀ j, j < 24 → s j = (U j : Int)) (hU : ∀ j, j < 24 → U j ≤ 90) (h0 : q 0 = 0) (h1 : q 1 = 0) (h2 : q 2 = 0) : ∃ s' q' : Nat → Int, (∀ j, j < 24 → s' j = ((U j + cY y j : Nat) : Int)) ∧ q' 0 = (endsY y : Int) ∧ q' 1 = (headsY y : Int) ∧ q' 2 = (tonsY X y : Int) ∧ (∀ j, 3 ≤ j → q' j = q j) ∧ cl xs (d + 2) 151 [.inr (.inr 0), .inl (cdW y : Int), .inr (.inr ((t + 19 : Nat) : Int))] (κ, setc (setc D 57 s) (t + 19) q) = some (none, (κ, setc (setc D 57 s') (t + 19) q')) := by
  have dl : ∀ k j, dY y k j ≤ 1 := fun k j => by unfold dY; split <;> omega
  have hy' := hy
  obtain ⟨y1, ⟨y2, y2'⟩, y3, y4⟩ := hy
  have t0 := tnP_le hX (s := 1) (by decide) y4
  have t1 := tnP_le hX (s := 1) (by decide) y3
  have t2 := tnP_le hX (s := 0) (by decide) y2'
  have t3 := tnP_le hX (s := 2) (by decide) y1
  obtain ⟨s1, q1, u4, u5, a1, b1, c1, e1, f1, g1⟩ := ta_digit xs d hκ hc ht h5 hX hP hy' (k := 0) (by decide) hs (fun j hj => by have := hU j hj; omega) (a := 0) (b := 0) (c := 0) h0 h1 h2 (by omega) (by omega) (by omega) none none
  rw [pcT0] at e1
  obtain ⟨s2, q2, u4', u5', a2, b2, c2, e2, f2, g2⟩ := ta_digit xs d hκ hc ht h5 hX hP hy' (k := 1) (by decide) a1 (fun j hj => by have := hU j hj; have := dl 0 j; omega) b1 c1 e1 (by split <;> omega) (by split <;> omega) (by omega) u4 u5
  rw [pcT1] at e2
  obtain ⟨s3, q3, v4, v5, a3, b3, c3, e3, f3, g3⟩ := ta_digit xs d hκ hc ht h5 hX hP hy' (k := 2) (by decide) a2 (fun j hj => by have := hU j hj; have := dl 0 j; have := dl 1 j; omega) b2 c2 e2 (by (repeat' split) <;> omega) (by (repeat' split) <;> omega) (by omega) u4' u5'
  rw [pcT2] at e3
  obtain ⟨s4, q4, w4, w5, a4, b4, c4, e4, f4, g4⟩ := ta_digit xs d hκ hc ht h5 hX hP hy' (k := 3) (by decide) a3 (fun j hj => by have := hU j hj; have := dl 0 j; have := dl 1 j; have := dl 2 j; omega) b3 c3 e3 (by (repeat' split) <;> omega) (by (repeat' split) <;> omega) (by omega) v4 v5
  rw [pcT3] at e4
  refine ⟨s4, q4, fun j hj => ?_, ?_, ?_, ?_, fun j hj => (f4 j hj).trans ((f3 j hj).trans ((f2 j hj).trans (f1 j hj))), ?_⟩
  · rw [a4 j hj, ← dY_sum hX hy' hj]
    congr 1
    omega
  · rw [b4]
    unfold endsY
    have p0 := pcI_e0 y
    have p1 := pcI_e1 y
    congr 1
    by_cases h : y.2.2.2 = 0
    · rw [if_pos h] at p0
      rw [if_neg (show ¬ (0 < 2 ∧ ¬ pcI y 0 = -1) from fun z => z.2 p0)]
      by_cases h' : y.2.2.1 = 0
      · rw [if_pos h'] at p1
        rw [if_neg (show ¬ (1 < 2 ∧ ¬ pcI y 1 = -1) from fun z => z.2 p1), if_pos h, if_pos h']
        rfl
      · rw [if_neg h'] at p1
        rw [if_pos (show (1 < 2 ∧ ¬ pcI y 1 = -1) from ⟨by decide, by omega⟩), if_pos h, if_neg h']
        rfl
    · rw [if_neg h] at p0
      rw [if_pos (show (0 < 2 ∧ ¬ pcI y 0 = -1) from ⟨by decide, by omega⟩)]
      by_cases h' : y.2.2.1 = 0
      · rw [if_pos h'] at p1
        rw [if_neg (show ¬ (1 < 2 ∧ ¬ pcI y 1 = -1) from fun z => z.2 p1), if_neg h, if_pos h']
        rfl
      · rw [if_neg h'] at p1
        rw [if_pos (show (1 < 2 ∧ ¬ pcI y 1 = -1) from ⟨by decide, by omega⟩), if_neg h, if_neg h']
        rfl
  · rw [c4]
    unfold headsY
    have p3 := pcI_e3 y
    congr 1
    by_cases h : y.1 = 0
    · rw [if_pos h] at p3
      rw [if_neg (show ¬ (3 = 3 ∧ ¬ pcI y 3 = -1) from fun z => z.2 p3), if_pos h]
      rfl
    · rw [if_neg h] at p3
      rw [if_pos (show (3 = 3 ∧ ¬ pcI y 3 = -1) from ⟨rfl, by omega⟩), if_neg h]
      rfl
  · rw [e4]
    unfold tonsY
    congr 1
    omega
  · rw [c_151]
    refine (show _ = _ from g1).trans (g2.trans (g3.trans (g4.trans ?_)))
    rw [q_151_2]
    simp (disch := omega) only [cond_true, cond_false, Bool.and_true, Bool.true_and, Bool.and_false, Bool.false_and, Int.toNat_natCast, Int.reduceToNat, bI_s, bJ_s, bV_s, bR_s, decide_true, decide_false, not_true_eq_false, not_false_eq_true, dT, dF, w_al, w_la, w_ab, w_sl, w_sb, w_dec, w_ml, w_lm, ol2i_n, aup_ne, aupE, aupJ, setc_self, setc_ne]
/-- what a class call may change, at most, but for the two caches -/
def CFrW (t : Nat) (D D' : Nat → Nat → Int) : Prop := (∀ q, (1 ≤ q ∧ q < 53 ∧ q ≠ t + 18 ∧ q ≠ t + 19) ∨ q = 63 ∨ q = 64 ∨ (68 ≤ q ∧ q ≤ 88) ∨ 256 ≤ q → D' q = D q) ∧ (∀ j, j ≠ 10 → j ≠ 11 → j ≠ 13 → D' 0 j = D 0 j) ∧ (∀ j, j ≠ 4 → j ≠ 5 → D' (t + 18) j = D (t + 18) j)
theorem CFr.w {t : Nat} {D D' : Nat → Nat → Int} (ht : isT t) (h : CFr D D') : CFrW t D D' := by
  have ht' : t = 9 ∨ t = 31 := ht
  exact ⟨fun q hq => h.1 q (by omega), h.2, fun j _ _ => by rw [h.1 (t + 18) (by omega)]⟩
theorem CScr.w {t : Nat} {D D' : Nat → Nat → Int} (ht : isT t) (h : CScr D D') : CFrW t D D' := by
  have ht' : t = 9 ∨ t = 31 := ht
  exact ⟨fun q hq => h.1 q (by omega), fun j _ _ _ => by rw [h.1 0 (by omega)], fun j _ _ => by rw [h.1 (t + 18) (by omega)]⟩
theorem CFrW.trans {t : Nat} {D D1 D2 : Nat → Nat → Int} (h1 : CFrW t D D1) (h2 : CFrW t D1 D2) : CFrW t D D2 := ⟨fun q a => (h2.1 q a).trans (h1.1 q a), fun j a b c => (h2.2.1 j a b c).trans (h1.2.1 j a b c), fun j a b => (h2.2.2 j a b).trans (h1.2.2 j a b)⟩
theorem CCore.gen {κ : aK} {D D' : Nat → Nat → Int} {t : Nat} {X : TX} {S S' : ST} {n : Nat} {H : Nat → ST} {Hd : Nat → Option ST} (h : CCore κ D t X S n H Hd) (hc : CPtr D') (hs : StC D' 53 X S') (h0 : D' 0 = D 0) (hf : ∀ q, (1 ≤ q ∧ q < 53 ∧ q ≠ t + 18 ∧ q ≠ t + 19) ∨ (91 ≤ q ∧ q < 256) → D' q = D q) : CCore κ D' t X S' n H Hd := by
  obtain ⟨hκ, _, ht, h5, hx, _, hh, hl⟩ := h
  have ht' : t = 9 ∨ t = 31 := ht
  exact ⟨hκ, hc, ht, by rw [h0]; exact h5, hx.congr (fun q h1 h2 => hf q (by omega)), hs, hh.congr (fun j _ => by rw [h0]) (fun q h1 h2 => hf q (by omega)), hl.congr (by rw [h0]) (fun q h1 h2 => hf q (by omega))⟩
theorem CCore.scr {κ : aK} {D D' : Nat → Nat → Int} {t : Nat} {X : TX} {S : ST} {n : Nat} {H : Nat → ST} {Hd : Nat → Option ST} (h : CCore κ D t X S n H Hd) (hs : CScr D D') : CCore κ D' t X S n H Hd := h.gen hs.2 (hs.st h.2.2.2.2.2.1) (hs.1 0 (by omega)) (fun q hq => hs.1 q (by omega))
theorem clp_eq (x : Int) : omax 0 (omin 999 x) = clp x := by
  unfold omax omin clp
  (repeat' split) <;> omega
theorem clp_rng (x : Int) : 0 ≤ clp x ∧ clp x ≤ 999 := by
  unfold clp
  (repeat' split) <;> omega
theorem vV_rng {X : TX} {S : ST} (hX : TXok X) {a b c e : Nat} (ha : a ≤ 100) (hb : b ≤ 100) (hc : c ≤ 100) (he : e ≤ 100) {i : Nat} : 0 ≤ vV X S a b c e i ∧ vV X S a b c e i ≤ 1000 := by
  have h1 := cntF_le (sFt S) 1 (xnw X)
  have h2 := cntF_le (sFt S) 0 (xnw X)
  have h3 := hX.2.1.1
  unfold vV
  (repeat' split) <;> omega
/-- the end of a grind: the law, the coins, the fate -/
theorem cg_end (xs : List Int) (d : Nat) {κ : aK} {D : Nat → Nat → Int} {t : Nat} {X : TX} {S : ST} (hκ : Shp κ) (hc : CPtr D) (ht : isT t) (h5 : D 0 5 = (t : Int)) (hX : TXok X) {D0 : Nat → Nat → Int} (hL : LawC κ D0 t X) (l1 : D (t + 20) = D0 (t + 20)) (l2 : D (t + 21) = D0 (t + 21)) (l3 : D (t + 18) 1 = D0 (t + 18) 1) {a b c e : Nat} (ha : a ≤ 100) (hb : b ≤ 100) (hcc : c ≤ 100) (he : e ≤ 100) (hV : ∀ i, i < 6 → D (t + 19) i = vV X S a b c e i) {w : Nat} (hw : w < 10) (v2 v4 : Int) (u3 u5 : Option aV) : ∃ D', ev xs (d + 40) mm_150 166 [some (.inr (.inr 0)), some (.inl (w : Int)), some (.inr (.inl v2)), u3, some (.inr (.inr v4)), u5] [] (κ, D) = some (some (.inl (clp (xlaw X (vV X S a b c e)))), (κ, D')) ∧ CPtr D' ∧ (∀ q, q ≠ t + 18 → q ≠ 53 → q ≠ 56 → D' q = D q) ∧ (∀ j, j ≠ 4 → j ≠ 5 → D' (t + 18) j = D (t + 18) j) ∧ (∀ j, j ≠ 5 → D' 53 j = D 53 j) ∧ D' 53 5 = w32 (D 53 5 + clp (xlaw X (vV X S a b c e))) ∧ (∀ j, D' 56 j = if j = w then 1 else D 56 j) := by
  have hk0 : aok κ 0 11 = true := kc_0 hκ
  have ht' : t = 9 ∨ t = 31 := ht
  obtain ⟨D2, e2, c2, f1, f2⟩ := hL xs d D (vV X S a b c e) hc l1 l2 l3 (fun i hi => ⟨hV i hi, vV_rng hX ha hb hcc he⟩)
  obtain ⟨p1, p2, p3, p4, p5, p6, p7, p8, p9⟩ := isS_c is53
  refine ⟨aup (aup D2 53 5 (w32 (D 53 5 + clp (xlaw X (vV X S a b c e))))) 56 w 1, ?_, ?_, fun q h1 h2 h3 => ?_, fun j h1 h2 => ?_, fun j h1 => ?_, ?_, fun j => ?_⟩
  · have g0 := pc_0_7 c2
    have g3 := sp_3 c2 is53
    have e53 : D2 53 = D 53 := f1 53 (by omega)
    rw [q_150_166]
    simp (disch := omega) only [cond_true, cond_false, Bool.and_true, Bool.true_and, Bool.and_false, Bool.false_and, Int.toNat_natCast, Int.reduceToNat, bI_s, bJ_s, bV_s, bR_s, decide_true, decide_false, not_true_eq_false, not_false_eq_true, dT, dF, w_al, w_la, w_ab, w_sl, w_sb, w_dec, w_ml, w_lm, ol2i_n, aup_ne, aupE, aupJ, setc_self, setc_ne, pc_0_0 hc, pc_0_3 hc, pc_0_4 hc, pc_0_7 hc, pc_0_8 hc, pc_0_9 hc, pc_0_12 hc, pc_0_14 hc, pc_0_15 hc, pc_0_16 hc, pc_0_17 hc, pc_0_18 hc, pc_0_19 hc, pc_2_1 hc, pc_2_2 hc, pc_2_3 hc, pc_2_6 hc, pc_2_8 hc, pc_8_2 hc, pc_65_1 hc, pc_65_2 hc, pc_68_1 hc, pc_72_3 hc, pc_72_4 hc, pc_72_5 hc, pc_72_6 hc, pc_77_1 hc, pc_77_2 hc, pc_77_3 hc, pc_77_4 hc, pc_77_5 hc, pc_77_6 hc, kc_0 hκ, kc_1 hκ, nc_1 hκ, kc_2 hκ, kc_3 hκ, nc_3 hκ, kc_4 hκ, nc_4 hκ, kc_5 hκ, nc_5 hκ, kc_6 hκ, nc_6 hκ, kc_7 hκ, nc_7 hκ, kc_8 hκ, kc_63 hκ, nc_63 hκ, kc_64 hκ, nc_64 hκ, kc_65 hκ, kc_66 hκ, nc_66 hκ, kc_67 hκ, nc_67 hκ, kc_68 hκ, kc_69 hκ, nc_69 hκ, kc_70 hκ, nc_70 hκ, kc_71 hκ, nc_71 hκ, kc_72 hκ, kc_73 hκ, nc_73 hκ, kc_74 hκ, nc_74 hκ, kc_75 hκ, nc_75 hκ, kc_76 hκ, nc_76 hκ, kc_77 hκ, kc_78 hκ, nc_78 hκ, kc_79 hκ, nc_79 hκ, kc_80 hκ, nc_80 hκ, kc_81 hκ, nc_81 hκ, kc_82 hκ, nc_82 hκ, kc_83 hκ, nc_83 hκ, kc_84 hκ, nc_84 hκ, kc_85 hκ, nc_85 hκ, kc_86 hκ, nc_86 hκ, kc_87 hκ, nc_87 hκ, kc_88 hκ, nc_88 hκ, kc_89 hκ, nc_89 hκ, kc_90 hκ, nc_90 hκ, sk_0 hκ is53, sp_1 hc is53, sk_1 hκ is53, sn_1 hκ is53, sp_2 hc is53, sk_2 hκ is53, sn_2 hκ is53, sp_3 hc is53, sk_3 hκ is53, sn_3 hκ is53, sp_4 hc is53, sk_4 hκ is53, sn_4 hκ is53, sk_0 hκ is58, sp_1 hc is58, sk_1 hκ is58, sn_1 hκ is58, sp_2 hc is58, sk_2 hκ is58, sn_2 hκ is58, sp_3 hc is58, sk_3 hκ is58, sn_3 hκ is58, sp_4 hc is58, sk_4 hκ is58, sn_4 hκ is58, tp_0_1 hc ht, tp_0_2 hc ht, tp_0_3 hc ht, tp_0_4 hc ht, tp_0_6 hc ht, tp_0_8 hc ht, tp_0_9 hc ht, tp_0_10 hc ht, tp_0_12 hc ht, tp_0_13 hc ht, tp_0_14 hc ht, tp_3_1 hc ht, tp_3_2 hc ht, tp_3_3 hc ht, tp_3_4 hc ht, tp_8_0 hc ht, tp_8_1 hc ht, tp_8_2 hc ht, tp_18_0 hc ht, tp_18_2 hc ht, tp_18_3 hc ht, tk_0 hκ ht, tk_1 hκ ht, tn_1 hκ ht, tk_2 hκ ht, tn_2 hκ ht, tk_3 hκ ht, tk_4 hκ ht, tn_4 hκ ht, tk_5 hκ ht, tn_5 hκ ht, tk_6 hκ ht, tn_6 hκ ht, tk_7 hκ ht, tn_7 hκ ht, tk_8 hκ ht, tk_9 hκ ht, tn_9 hκ ht, tk_10 hκ ht, tn_10 hκ ht, tk_11 hκ ht, tn_11 hκ ht, tk_12 hκ ht, tn_12 hκ ht, tk_13 hκ ht, tn_13 hκ ht, tk_14 hκ ht, tn_14 hκ ht, tk_15 hκ ht, tn_15 hκ ht, tk_16 hκ ht, tn_16 hκ ht, tk_17 hκ ht, tn_17 hκ ht, tk_18 hκ ht, tk_19 hκ ht, tn_19 hκ ht, tk_20 hκ ht, tn_20 hκ ht, tk_21 hκ ht, tn_21 hκ ht, hk0, h5, e2, g0, g3, e53, clp_eq]
  · rw [aup_as]
    exact (c2.up p6 _).setc p3 _
  · rw [aupN h3, aupN h2, f1 q h1]
  · rw [aupN (by omega), aupN (by omega), f2 j h1 h2]
  · rw [aupN (by decide), aupJ h1, f1 53 (by omega)]
  · rw [aupN (by decide), aupE]
  · by_cases h : j = w
    · rw [if_pos h, h, aupE]
    · rw [if_neg h, aupJ h, aupN (by decide), f1 56 (by omega)]
theorem cgrind (xs : List Int) (d : Nat) {κ : aK} {D : Nat → Nat → Int} {t : Nat} {X : TX} {S : ST} {n : Nat} {H : Nat → ST} {Hd : Nat → Option ST} (ha : AOk X S n H Hd) (h : CCore κ D t X S n H Hd) (hL : LawC κ D t X) {w : Nat} (hw : w < xnw X) (h0 : sFt S w = 0) : ∃ D', cl xs (d + 41) 150 [.inr (.inr 0), .inl (w : Int)] (κ, D) = some (some (.inl (gCoin X S w)), (κ, D')) ∧ CCore κ D' t X (grS X S w) (phN n) (phH n H S) Hd ∧ CFrW t D D' := by
  obtain ⟨hX, hS, _, _⟩ := ha
  have h' := h
  obtain ⟨hκ, hc, ht, h5, hx, hs, hh, hl⟩ := h
  have hk0 : aok κ 0 11 = true := kc_0 hκ
  have ht' : t = 9 ∨ t = 31 := ht
  have x2 := hX.2.1.1
  obtain ⟨D1, e1, c1, f1⟩ := h'.rem xs (d + 38) hX
  have hx1 := c1.2.2.2.2.1
  have hs1 := c1.2.2.2.2.2.1
  have hwk := (hS.2.2.2.1 w hw).1
  have hwr := rbX_wok hX hS.2.1 (son S) 7 hwk
  have ro := runOfC_eq xs (d + 36) hκ c1.2.1 ht c1.2.2.2.1 hX hx1 hS hs1 hwk
  obtain ⟨f, hC, eg⟩ := gather_eq xs (d + 35) hκ c1.2.1 ht hX hx1.pc hwr
  rw [← mkL_cd hX] at hC eg
  rw [List.length_map] at eg
  have hga := CScr.ga c1.2.1 (mkL X (rbX X (sord S) (son S) 7 (sW S w))).length f
  have cG := c1.scr hga
  generalize hE : gaD D1 (mkL X (rbX X (sord S) (son S) 7 (sW S w))).length f = E at *
  have hEp := cG.2.1
  have hE65 : E 65 0 = ((mkL X (rbX X (sord S) (son S) 7 (sW S w))).length : Int) := by rw [← hE]; exact ga_65 ..
  have hE66 : E 66 = f := by rw [← hE]; exact ga_66 ..
  have hsE := cG.2.2.2.2.2.1
  have hxE := cG.2.2.2.2.1
  have h5E := cG.2.2.2.1
  have kt : KT (t + 19) = (100, 6) := by rcases ht' with rfl | rfl <;> rfl
  have fi := fillI_eq xs (d + 39) (D := E) hκ (t + 19) (n := 6) (by omega) kt (by decide) 0
  have pv := pd_var ht
  have cf1 := countFate_eq xs (d + 39) hκ (hEp.setc pv (cpn 6 (fun _ => 0) (E (t + 19)))) is53 x2 (F := sFt S) (fun i hi => by rw [setc_ne (by omega)]; exact hsE.2.2.2.1 i hi) 1
  have cf0 := countFate_eq xs (d + 39) hκ (hEp.setc pv (fun j => if j = 4 then (cntF (sFt S) 1 (xnw X) : Int) else cpn 6 (fun _ => 0) (E (t + 19)) j)) is53 x2 (F := sFt S) (fun i hi => by rw [setc_ne (by omega)]; exact hsE.2.2.2.1 i hi) 0
  have cf1' : cl xs (d + 40) 77 [.inr (.inr ((53 : Nat) : Int)), .inl (xnw X : Int), .inl 1] (κ, setc E (t + 19) (cpn 6 (fun _ => 0) (E (t + 19)))) = _ := cf1
  have cf0' : cl xs (d + 40) 77 [.inr (.inr ((53 : Nat) : Int)), .inl (xnw X : Int), .inl 0] (κ, setc E (t + 19) (fun j => if j = 4 then (cntF (sFt S) 1 (xnw X) : Int) else cpn 6 (fun _ => 0) (E (t + 19)) j)) = _ := cf0
  have hpre : cl xs (d + 41) 150 [.inr (.inr 0), .inl (w : Int)] (κ, D) = bif decide (((mkL X (rbX X (sord S) (son S) 7 (sW S w))).length : Int) ≤ 0) then ev xs (d + 40) mm_150 150 [some (.inr (.inr 0)), some (.inl (w : Int)), some (.inr (.inl (p32 (rbX X (sord S) (son S) 7 (sW S w)) : Int))), none, some (.inr (.inr ((t + 19 : Nat) : Int))), none] [] (κ, setc E (t + 19) (fun j => if j = 3 then ((rbX X (sord S) (son S) 7 (sW S w)).length : Int) else if j = 5 then (cntF (sFt S) 0 (xnw X) : Int) else if j = 4 then (cntF (sFt S) 1 (xnw X) : Int) else cpn 6 (fun _ => 0) (E (t + 19)) j)) else bV (cl xs (d + 40) 151 [.inr (.inr 0), .inl (f 0), .inr (.inr ((t + 19 : Nat) : Int))] (κ, setc E (t + 19) (fun j => if j = 5 then (cntF (sFt S) 0 (xnw X) : Int) else if j = 4 then (cntF (sFt S) 1 (xnw X) : Int) else cpn 6 (fun _ => 0) (E (t + 19)) j))) (fun h14 => ev xs (d + 40) mm_150 166 [some (.inr (.inr 0)), some (.inl (w : Int)), some (.inr (.inl (p32 (rbX X (sord S) (son S) 7 (sW S w)) : Int))), none, some (.inr (.inr ((t + 19 : Nat) : Int))), none] [] h14) := by
    have g7 := pc_0_7 c1.2.1
    have g2 := sp_2 c1.2.1 is53
    have g14 := pc_0_14 c1.2.1
    have g04 := tp_0_4 c1.2.1 ht
    have g5 := c1.2.2.2.1
    have E14 := tp_0_14 hEp ht
    have E18 := tp_18_0 hEp ht
    have E07 := pc_0_7 hEp
    have E0e := pc_0_14 hEp
    have E651 := pc_65_1 hEp
    have si := sizeOf_eq xs (d + 39)
    rw [c_150]
    simp (disch := omega) only [cond_true, cond_false, Bool.and_true, Bool.true_and, Bool.and_false, Bool.false_and, Int.toNat_natCast, Int.reduceToNat, bI_s, bJ_s, bV_s, bR_s, decide_true, decide_false, not_true_eq_false, not_false_eq_true, dT, dF, w_al, w_la, w_ab, w_sl, w_sb, w_dec, w_ml, w_lm, ol2i_n, aup_ne, aupE, aupJ, setc_self, setc_ne, pc_0_0 hc, pc_0_3 hc, pc_0_4 hc, pc_0_7 hc, pc_0_8 hc, pc_0_9 hc, pc_0_12 hc, pc_0_14 hc, pc_0_15 hc, pc_0_16 hc, pc_0_17 hc, pc_0_18 hc, pc_0_19 hc, pc_2_1 hc, pc_2_2 hc, pc_2_3 hc, pc_2_6 hc, pc_2_8 hc, pc_8_2 hc, pc_65_1 hc, pc_65_2 hc, pc_68_1 hc, pc_72_3 hc, pc_72_4 hc, pc_72_5 hc, pc_72_6 hc, pc_77_1 hc, pc_77_2 hc, pc_77_3 hc, pc_77_4 hc, pc_77_5 hc, pc_77_6 hc, kc_0 hκ, kc_1 hκ, nc_1 hκ, kc_2 hκ, kc_3 hκ, nc_3 hκ, kc_4 hκ, nc_4 hκ, kc_5 hκ, nc_5 hκ, kc_6 hκ, nc_6 hκ, kc_7 hκ, nc_7 hκ, kc_8 hκ, kc_63 hκ, nc_63 hκ, kc_64 hκ, nc_64 hκ, kc_65 hκ, kc_66 hκ, nc_66 hκ, kc_67 hκ, nc_67 hκ, kc_68 hκ, kc_69 hκ, nc_69 hκ, kc_70 hκ, nc_70 hκ, kc_71 hκ, nc_71 hκ, kc_72 hκ, kc_73 hκ, nc_73 hκ, kc_74 hκ, nc_74 hκ, kc_75 hκ, nc_75 hκ, kc_76 hκ, nc_76 hκ, kc_77 hκ, kc_78 hκ, nc_78 hκ, kc_79 hκ, nc_79 hκ, kc_80 hκ, nc_80 hκ, kc_81 hκ, nc_81 hκ, kc_82 hκ, nc_82 hκ, kc_83 hκ, nc_83 hκ, kc_84 hκ, nc_84 hκ, kc_85 hκ, nc_85 hκ, kc_86 hκ, nc_86 hκ, kc_87 hκ, nc_87 hκ, kc_88 hκ, nc_88 hκ, kc_89 hκ, nc_89 hκ, kc_90 hκ, nc_90 hκ, tp_0_1 hc ht, tp_0_2 hc ht, tp_0_3 hc ht, tp_0_4 hc ht, tp_0_6 hc ht, tp_0_8 hc ht, tp_0_9 hc ht, tp_0_10 hc ht, tp_0_12 hc ht, tp_0_13 hc ht, tp_0_14 hc ht, tp_3_1 hc ht, tp_3_2 hc ht, tp_3_3 hc ht, tp_3_4 hc ht, tp_8_0 hc ht, tp_8_1 hc ht, tp_8_2 hc ht, tp_18_0 hc ht, tp_18_2 hc ht, tp_18_3 hc ht, tk_0 hκ ht, tk_1 hκ ht, tn_1 hκ ht, tk_2 hκ ht, tn_2 hκ ht, tk_3 hκ ht, tk_4 hκ ht, tn_4 hκ ht, tk_5 hκ ht, tn_5 hκ ht, tk_6 hκ ht, tn_6 hκ ht, tk_7 hκ ht, tn_7 hκ ht, tk_8 hκ ht, tk_9 hκ ht, tn_9 hκ ht, tk_10 hκ ht, tn_10 hκ ht, tk_11 hκ ht, tn_11 hκ ht, tk_12 hκ ht, tn_12 hκ ht, tk_13 hκ ht, tn_13 hκ ht, tk_14 hκ ht, tn_14 hκ ht, tk_15 hκ ht, tn_15 hκ ht, tk_16 hκ ht, tn_16 hκ ht, tk_17 hκ ht, tn_17 hκ ht, tk_18 hκ ht, tk_19 hκ ht, tn_19 hκ ht, tk_20 hκ ht, tn_20 hκ ht, tk_21 hκ ht, tn_21 hκ ht, sk_0 hκ is53, sp_1 hc is53, sk_1 hκ is53, sn_1 hκ is53, sp_2 hc is53, sk_2 hκ is53, sn_2 hκ is53, sp_3 hc is53, sk_3 hκ is53, sn_3 hκ is53, sp_4 hc is53, sk_4 hκ is53, sn_4 hκ is53, sk_0 hκ is58, sp_1 hc is58, sk_1 hκ is58, sn_1 hκ is58, sp_2 hc is58, sk_2 hκ is58, sn_2 hκ is58, sp_3 hc is58, sk_3 hκ is58, sn_3 hκ is58, sp_4 hc is58, sk_4 hκ is58, sn_4 hκ is58, hk0, hasWord_eq xs (d + 39) hκ hc ht h5 hX hx (w : Int), hs.2.2.2.1 w hw, h0, e1, g7, g2, hs1.2.2.1 w hw, ro, g14, g04, g5, eg, h5E, E14, E18, fi, E07, hxE.2.1.1, cf1', aup_setc, cf0', E0e, hE65, hE66, E651, si _ hwr.1 (show (rbX X (sord S) (son S) 7 (sW S w)).length ≤ 12 by have := hwr.2; omega)]
  have hstk : ∀ i, i < 24 → E 57 i = (sStk S i : Int) := hsE.2.2.2.2.1
  have hL3 : E (t + 18) 1 = D (t + 18) 1 := by rw [hga.1 (t + 18) (by omega), f1.1 (t + 18) (by omega)]
  have hL1 : E (t + 20) = D (t + 20) := by rw [hga.1 (t + 20) (by omega), f1.1 (t + 20) (by omega)]
  have hL2 : E (t + 21) = D (t + 21) := by rw [hga.1 (t + 21) (by omega), f1.1 (t + 21) (by omega)]
  have frw : CFrW t D E := (f1.w ht).trans (hga.w ht)
  obtain ⟨z1, z2, z3, z4, z5, z6, z7, z8, z9⟩ := hsE
  have q0 : ∀ j, j < 4 → (if j = 5 then (cntF (sFt S) 0 (xnw X) : Int) else if j = 4 then (cntF (sFt S) 1 (xnw X) : Int) else cpn 6 (fun _ => 0) (E (t + 19)) j) = 0 := fun j hj => by
    rw [if_neg (by omega), if_neg (by omega), cpn_at (by omega)]
  -- whatever has become of the vars, the stocks and the dust, the end is the same
  have fin : ∀ (F : Nat → Nat → Int) (a b c e : Nat), a ≤ 100 → b ≤ 100 → c ≤ 100 → e ≤ 100 → CPtr F → (∀ q, q ≠ 57 → q ≠ 53 → q ≠ t + 19 → F q = E q) → (∀ j, j ≠ 6 → F 53 j = E 53 j) → (∀ i, i < 6 → F (t + 19) i = vV X S a b c e i) → gVar X S w = vV X S a b c e → (∀ i, i < 24 → F 57 i = (gStk X S w i : Int)) → F 53 6 = w32 (sDust S + (gDust X S w : Int)) → ∃ D', ev xs (d + 40) mm_150 166 [some (.inr (.inr 0)), some (.inl (w : Int)), some (.inr (.inl (p32 (rbX X (sord S) (son S) 7 (sW S w)) : Int))), none, some (.inr (.inr ((t + 19 : Nat) : Int))), none] [] (κ, F) = some (some (.inl (gCoin X S w)), (κ, D')) ∧ CCore κ D' t X (grS X S w) (phN n) (phH n H S) Hd ∧ CFrW t D D' := by
    intro F a b c e la lb lc le hF f0 f53 fV hg fs fd
    obtain ⟨D', r1, r2, r3, r4, r5, r6, r7⟩ := cg_end xs d hκ hF ht (by rw [f0 0 (by omega) (by omega) (by omega)]; exact h5E) hX hL (by rw [f0 _ (by omega) (by omega) (by omega)]; exact hL1) (by rw [f0 _ (by omega) (by omega) (by omega)]; exact hL2) (by rw [f0 _ (by omega) (by omega) (by omega)]; exact hL3) la lb lc le fV (show w < 10 by omega) (p32 (rbX X (sord S) (son S) 7 (sW S w)) : Int) ((t + 19 : Nat) : Int) none none
    refine ⟨D', ?_, cG.gen r2 ⟨?_, fun k hk => ?_, fun i hi => ?_, fun i hi => ?_, fun i hi => ?_, ?_, ?_, ?_, ?_⟩ ?_ (fun q hq => ?_), frw.trans ⟨fun q hq => ?_, fun j _ _ _ => ?_, fun j j1 j2 => ?_⟩⟩
    · rw [r1]
      unfold gCoin
      rw [hg]
    · rw [r5 0 (by decide), f53 0 (by decide)]; exact z1
    · rw [r3 _ (by omega) (by omega) (by omega), f0 _ (by omega) (by omega) (by omega)]; exact z2 k hk
    · rw [r3 _ (by omega) (by omega) (by omega), f0 _ (by omega) (by omega) (by omega)]; exact z3 i hi
    · rw [r7 i, f0 56 (by omega) (by omega) (by omega)]
      show _ = ((if i = w then 1 else sFt S i : Nat) : Int)
      rw [z4 i hi]
      split <;> rfl
    · rw [r3 _ (by omega) (by omega) (by omega)]; exact fs i hi
    · rw [r6, f53 5 (by decide), z6]
      unfold grS sCoin gCoin
      rw [hg]
    · rw [r5 6 (by decide)]; exact fd
    · rw [r5 7 (by decide), f53 7 (by decide)]; exact z8
    · rw [r5 8 (by decide), f53 8 (by decide)]; exact z9
    · rw [r3 0 (by omega) (by omega) (by omega), f0 0 (by omega) (by omega) (by omega)]
    · rw [r3 q (by omega) (by omega) (by omega), f0 q (by omega) (by omega) (by omega)]
    · rw [r3 q (by omega) (by omega) (by omega), f0 q (by omega) (by omega) (by omega)]
    · rw [r3 0 (by omega) (by omega) (by omega), f0 0 (by omega) (by omega) (by omega)]
    · rw [r4 j j1 j2, f0 _ (by omega) (by omega) (by omega)]
  rw [hpre]
  have hgy : gY X S w = (mkL X (rbX X (sord S) (son S) 7 (sW S w))).head? := rfl
  have hgn : gN X S w = rbX X (sord S) (son S) 7 (sW S w) := rfl
  cases hL0 : mkL X (rbX X (sord S) (son S) 7 (sW S w)) with
  | nil =>
    rw [hL0] at hgy
    have hgy' : gY X S w = none := hgy
    obtain ⟨D', g1, g2, g3⟩ := fin (aup (setc E (t + 19) (fun j => if j = 3 then ((rbX X (sord S) (son S) 7 (sW S w)).length : Int) else if j = 5 then (cntF (sFt S) 0 (xnw X) : Int) else if j = 4 then (cntF (sFt S) 1 (xnw X) : Int) else cpn 6 (fun _ => 0) (E (t + 19)) j)) 53 6 (w32 (sDust S + ((rbX X (sord S) (son S) 7 (sW S w)).length : Int)))) 0 0 0 (rbX X (sord S) (son S) 7 (sW S w)).length (by omega) (by omega) (by omega) (by have := hwr.2; omega) ((hEp.setc pv _).up (isS_c is53).2.2.2.2.2.2.1 _) (fun q a1 a2 a3 => by rw [aupN a2, setc_ne a3]) (fun j hj => by rw [aupJ hj, setc_ne (by omega)]) (fun i hi => by
        rw [aupN (by omega), setc_self]
        have hi6 : i = 0 ∨ i = 1 ∨ i = 2 ∨ i = 3 ∨ i = 4 ∨ i = 5 := by omega
        rcases hi6 with rfl | rfl | rfl | rfl | rfl | rfl <;> rfl) (by unfold gVar; rw [hgy', hgn]) (fun i hi => by
        rw [aupN (by decide), setc_ne (by omega), hstk i hi]
        unfold gStk
        rw [hgy']) (by
        rw [aupE]
        unfold gDust
        rw [hgy', hgn])
    refine ⟨D', ?_, g2, g3⟩
    simp (disch := omega) only [List.length_nil, cond_true, dT]
    rw [q_150_150]
    have E07 := pc_0_7 hEp
    simp (disch := omega) only [cond_true, cond_false, Bool.and_true, Bool.true_and, Bool.and_false, Bool.false_and, Int.toNat_natCast, Int.reduceToNat, bI_s, bJ_s, bV_s, bR_s, decide_true, decide_false, not_true_eq_false, not_false_eq_true, dT, dF, w_al, w_la, w_ab, w_sl, w_sb, w_dec, w_ml, w_lm, ol2i_n, aup_ne, aupE, aupJ, setc_self, setc_ne, kc_0 hκ, kc_1 hκ, nc_1 hκ, kc_2 hκ, kc_3 hκ, nc_3 hκ, kc_4 hκ, nc_4 hκ, kc_5 hκ, nc_5 hκ, kc_6 hκ, nc_6 hκ, kc_7 hκ, nc_7 hκ, kc_8 hκ, kc_63 hκ, nc_63 hκ, kc_64 hκ, nc_64 hκ, kc_65 hκ, kc_66 hκ, nc_66 hκ, kc_67 hκ, nc_67 hκ, kc_68 hκ, kc_69 hκ, nc_69 hκ, kc_70 hκ, nc_70 hκ, kc_71 hκ, nc_71 hκ, kc_72 hκ, kc_73 hκ, nc_73 hκ, kc_74 hκ, nc_74 hκ, kc_75 hκ, nc_75 hκ, kc_76 hκ, nc_76 hκ, kc_77 hκ, kc_78 hκ, nc_78 hκ, kc_79 hκ, nc_79 hκ, kc_80 hκ, nc_80 hκ, kc_81 hκ, nc_81 hκ, kc_82 hκ, nc_82 hκ, kc_83 hκ, nc_83 hκ, kc_84 hκ, nc_84 hκ, kc_85 hκ, nc_85 hκ, kc_86 hκ, nc_86 hκ, kc_87 hκ, nc_87 hκ, kc_88 hκ, nc_88 hκ, kc_89 hκ, nc_89 hκ, kc_90 hκ, nc_90 hκ, tk_0 hκ ht, tk_1 hκ ht, tn_1 hκ ht, tk_2 hκ ht, tn_2 hκ ht, tk_3 hκ ht, tk_4 hκ ht, tn_4 hκ ht, tk_5 hκ ht, tn_5 hκ ht, tk_6 hκ ht, tn_6 hκ ht, tk_7 hκ ht, tn_7 hκ ht, tk_8 hκ ht, tk_9 hκ ht, tn_9 hκ ht, tk_10 hκ ht, tn_10 hκ ht, tk_11 hκ ht, tn_11 hκ ht, tk_12 hκ ht, tn_12 hκ ht, tk_13 hκ ht, tn_13 hκ ht, tk_14 hκ ht, tn_14 hκ ht, tk_15 hκ ht, tn_15 hκ ht, tk_16 hκ ht, tn_16 hκ ht, tk_17 hκ ht, tn_17 hκ ht, tk_18 hκ ht, tk_19 hκ ht, tn_19 hκ ht, tk_20 hκ ht, tn_20 hκ ht, tk_21 hκ ht, tn_21 hκ ht, sk_0 hκ is53, sp_1 hc is53, sk_1 hκ is53, sn_1 hκ is53, sp_2 hc is53, sk_2 hκ is53, sn_2 hκ is53, sp_3 hc is53, sk_3 hκ is53, sn_3 hκ is53, sp_4 hc is53, sk_4 hκ is53, sn_4 hκ is53, hk0, E07, z7]
    exact g1
  | cons y L =>
    rw [hL0] at hgy hC
    have hgy' : gY X S w = some y := hgy
    have hy := gY_wvd hgy'
    have hf0 : f 0 = (cdW y : Int) := hC 0 (by simp)
    obtain ⟨s', q', b1, b2, b3, b4, b5, b6⟩ := ta_eq xs (d + 38) hκ hEp ht h5E hX hxE.pc hy (s := E 57) (q := fun j => if j = 5 then (cntF (sFt S) 0 (xnw X) : Int) else if j = 4 then (cntF (sFt S) 1 (xnw X) : Int) else cpn 6 (fun _ => 0) (E (t + 19)) j) (U := sStk S) hstk (fun j hj => by have := stk_le hX hS hj; omega) (q0 0 (by omega)) (q0 1 (by omega)) (q0 2 (by omega))
    rw [setc_id] at b6
    obtain ⟨y1, ⟨y2, y2'⟩, y3, y4⟩ := hy
    have m0 := tnP_le hX (s := 1) (by decide) y4
    have m1 := tnP_le hX (s := 1) (by decide) y3
    have m2 := tnP_le hX (s := 0) (by decide) y2'
    have m3 := tnP_le hX (s := 2) (by decide) y1
    have l1 : endsY y ≤ 100 := by unfold endsY; (repeat' split) <;> omega
    have l2 : headsY y ≤ 100 := by unfold headsY; split <;> omega
    have l3 : tonsY X y ≤ 100 := by unfold tonsY; omega
    obtain ⟨D', g1, g2, g3⟩ := fin (setc (setc E 57 s') (t + 19) q') (endsY y) (headsY y) (tonsY X y) 0 l1 l2 l3 (by omega) ((hEp.setc pd_law.2.2.1 _).setc pv _) (fun q a1 a2 a3 => by rw [setc_ne a3, setc_ne a1]) (fun j hj => by rw [setc_ne (by omega), setc_ne (by decide)]) (fun i hi => by
        rw [setc_self]
        have hi6 : i = 0 ∨ i = 1 ∨ i = 2 ∨ i = 3 ∨ i = 4 ∨ i = 5 := by omega
        rcases hi6 with rfl | rfl | rfl | rfl | rfl | rfl
        · exact b2
        · exact b3
        · exact b4
        · rw [b5 3 (by omega)]; exact q0 3 (by omega)
        · rw [b5 4 (by omega)]; rfl
        · rw [b5 5 (by omega)]; rfl) (by unfold gVar; rw [hgy']) (fun i hi => by
        rw [setc_ne (by omega), setc_self, b1 i hi]
        unfold gStk
        rw [hgy']) (by
        rw [setc_ne (by omega), setc_ne (by decide), z7]
        unfold gDust
        rw [hgy']
        rw [show ((0 : Nat) : Int) = 0 from rfl, Int.add_zero]
        exact hS.2.2.2.2.2.2.2.2.1.symm)
    refine ⟨D', ?_, g2, g3⟩
    rw [hf0]
    simp (disch := omega) only [List.length_cons, cond_false, dF, bV_s, (show cl xs (d + 40) 151 [.inr (.inr 0), .inl (cdW y : Int), .inr (.inr ((t + 19 : Nat) : Int))] (κ, setc E (t + 19) (fun j => if j = 5 then (cntF (sFt S) 0 (xnw X) : Int) else if j = 4 then (cntF (sFt S) 1 (xnw X) : Int) else cpn 6 (fun _ => 0) (E (t + 19)) j)) = _ from b6)]
    exact g1
