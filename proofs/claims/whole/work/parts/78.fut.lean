/-! future, lives, left. -/
theorem CFr.rfl' (D : Nat → Nat → Int) : CFr D D := ⟨fun _ _ => rfl, fun _ _ _ _ => rfl⟩
/-- the class's look ahead: its cells 58 to 62 alone change -/
theorem CCore.ah {κ : aK} {D D' : Nat → Nat → Int} {t : Nat} {X : TX} {S : ST} {n : Nat} {H : Nat → ST} {Hd : Nat → Option ST} (h : CCore κ D t X S n H Hd) (hc : CPtr D') (hf : ∀ q, q < 58 ∨ 62 < q → D' q = D q) : CCore κ D' t X S n H Hd ∧ CFr D D' := by
  have hs := h.2.2.2.2.2.1
  exact h.st hc (hs.congr (fun q h1 h2 => hf q (by omega))) (fun q hq => hf q (by omega))
theorem lookAhead_eq (xs : List Int) (d : Nat) {κ : aK} {D : Nat → Nat → Int} {t : Nat} {X : TX} {S : ST} {n : Nat} {H : Nat → ST} {Hd : Nat → Option ST} (ha : AOk X S n H Hd) (h : CCore κ D t X S n H Hd) {k : Nat} (hk2 : k ≤ 1000) : ∃ D', cl xs (d + 5) 179 [.inr (.inr 0), .inl (k : Int)] (κ, D) = some (some (.inr (.inr ((58 : Nat) : Int))), (κ, D')) ∧ StC D' 58 X (cenN X k S) ∧ CCore κ D' t X S n H Hd ∧ CFr D D' := by
  obtain ⟨hX, hS, _, _⟩ := ha
  have h' := h
  obtain ⟨hκ, hc, ht, h5, hx, hs, hh, hl⟩ := h
  have hk0 : aok κ 0 11 = true := kc_0 hκ
  have ht' : t = 9 ∨ t = 31 := ht
  have cp := copy_eq xs (d + 3) hκ hc is58 is53 (by omega)
  have c1 := h'.ah (cpS_ptr (b := 53) hc is58) (fun q hq => cpS_ne (by omega))
  obtain ⟨D2, e2, c2, s2, f2⟩ := passes_eq xs d hκ c1.1.2.1 ht c1.1.2.2.2.1 hX c1.1.2.2.2.2.1 is58 hS (cpS_st hX hs) (n := k) (by omega)
  have c3 := c1.1.ah c2 (fun q hq => f2 q (by omega))
  refine ⟨D2, ?_, s2, c3.1, c1.2.trans c3.2⟩
  have p0 := pc_0_8 c1.1.2.1
  have p1 := pc_0_8 c2
  have h51 := c1.1.2.2.2.1
  rw [c_179]
  simp (disch := omega) only [cond_true, cond_false, Bool.and_true, Bool.true_and, Bool.and_false, Bool.false_and, Int.toNat_natCast, Int.reduceToNat, bI_s, bJ_s, bV_s, bR_s, decide_true, decide_false, not_true_eq_false, not_false_eq_true, dT, dF, w_al, w_la, w_ab, w_sl, w_sb, w_dec, w_ml, w_lm, ol2i_n, aup_ne, aupE, aupJ, setc_self, setc_ne, pc_0_0 hc, pc_0_3 hc, pc_0_4 hc, pc_0_7 hc, pc_0_8 hc, pc_0_9 hc, pc_0_12 hc, pc_0_14 hc, pc_0_15 hc, pc_0_16 hc, pc_0_17 hc, pc_0_18 hc, pc_0_19 hc, pc_2_1 hc, pc_2_2 hc, pc_2_3 hc, pc_2_6 hc, pc_2_8 hc, pc_8_2 hc, pc_65_1 hc, pc_65_2 hc, pc_68_1 hc, pc_72_3 hc, pc_72_4 hc, pc_72_5 hc, pc_72_6 hc, pc_77_1 hc, pc_77_2 hc, pc_77_3 hc, pc_77_4 hc, pc_77_5 hc, pc_77_6 hc, kc_0 hκ, kc_1 hκ, nc_1 hκ, kc_2 hκ, kc_3 hκ, nc_3 hκ, kc_4 hκ, nc_4 hκ, kc_5 hκ, nc_5 hκ, kc_6 hκ, nc_6 hκ, kc_7 hκ, nc_7 hκ, kc_8 hκ, kc_63 hκ, nc_63 hκ, kc_64 hκ, nc_64 hκ, kc_65 hκ, kc_66 hκ, nc_66 hκ, kc_67 hκ, nc_67 hκ, kc_68 hκ, kc_69 hκ, nc_69 hκ, kc_70 hκ, nc_70 hκ, kc_71 hκ, nc_71 hκ, kc_72 hκ, kc_73 hκ, nc_73 hκ, kc_74 hκ, nc_74 hκ, kc_75 hκ, nc_75 hκ, kc_76 hκ, nc_76 hκ, kc_77 hκ, kc_78 hκ, nc_78 hκ, kc_79 hκ, nc_79 hκ, kc_80 hκ, nc_80 hκ, kc_81 hκ, nc_81 hκ, kc_82 hκ, nc_82 hκ, kc_83 hκ, nc_83 hκ, kc_84 hκ, nc_84 hκ, kc_85 hκ, nc_85 hκ, kc_86 hκ, nc_86 hκ, kc_87 hκ, nc_87 hκ, kc_88 hκ, nc_88 hκ, kc_89 hκ, nc_89 hκ, kc_90 hκ, nc_90 hκ, sk_0 hκ is53, sp_1 hc is53, sk_1 hκ is53, sn_1 hκ is53, sp_2 hc is53, sk_2 hκ is53, sn_2 hκ is53, sp_3 hc is53, sk_3 hκ is53, sn_3 hκ is53, sp_4 hc is53, sk_4 hκ is53, sn_4 hκ is53, sk_0 hκ is58, sp_1 hc is58, sk_1 hκ is58, sn_1 hκ is58, sp_2 hc is58, sk_2 hκ is58, sn_2 hκ is58, sp_3 hc is58, sk_3 hκ is58, sn_3 hκ is58, sp_4 hc is58, sk_4 hκ is58, sn_4 hκ is58, tk_0 hκ ht, tk_1 hκ ht, tn_1 hκ ht, tk_2 hκ ht, tn_2 hκ ht, tk_3 hκ ht, tk_4 hκ ht, tn_4 hκ ht, tk_5 hκ ht, tn_5 hκ ht, tk_6 hκ ht, tn_6 hκ ht, tk_7 hκ ht, tn_7 hκ ht, tk_8 hκ ht, tk_9 hκ ht, tn_9 hκ ht, tk_10 hκ ht, tn_10 hκ ht, tk_11 hκ ht, tn_11 hκ ht, tk_12 hκ ht, tn_12 hκ ht, tk_13 hκ ht, tn_13 hκ ht, tk_14 hκ ht, tn_14 hκ ht, tk_15 hκ ht, tn_15 hκ ht, tk_16 hκ ht, tn_16 hκ ht, tk_17 hκ ht, tn_17 hκ ht, tk_18 hκ ht, tk_19 hκ ht, tn_19 hκ ht, tk_20 hκ ht, tn_20 hκ ht, tk_21 hκ ht, tn_21 hκ ht, hk0, cp, p0, p1, h51, e2]
def qFuture (X : TX) (S : ST) (w n what : Int) : Int := if (0 ≤ w ∧ w < (xnw X : Int)) ∧ 0 ≤ n ∧ n ≤ 300 then qWord X (cenN X n.toNat S) w what else -1
theorem isAhead_eq (xs : List Int) (d : Nat) (h : aH) (n : Int) : cl xs (d + 1) 178 [.inl n] h = some (some (.inl (if 0 ≤ n ∧ n ≤ 300 then 1 else 0)), h) := by
  rw [c_178]
  by_cases h1 : n < 0
  · rw [if_neg (by omega)]
    simp (disch := omega) only [cond_true, cond_false, Bool.and_true, Bool.true_and, Bool.and_false, Bool.false_and, Int.toNat_natCast, Int.reduceToNat, bI_s, bJ_s, bV_s, bR_s, decide_true, decide_false, not_true_eq_false, not_false_eq_true, dT, dF, w_al, w_la, w_ab, w_sl, w_sb, w_dec, w_ml, w_lm, ol2i_n, aup_ne, aupE, aupJ, setc_self, setc_ne]
  · by_cases h2 : n ≤ 300
    · rw [if_pos (by omega)]
      simp (disch := omega) only [cond_true, cond_false, Bool.and_true, Bool.true_and, Bool.and_false, Bool.false_and, Int.toNat_natCast, Int.reduceToNat, bI_s, bJ_s, bV_s, bR_s, decide_true, decide_false, not_true_eq_false, not_false_eq_true, dT, dF, w_al, w_la, w_ab, w_sl, w_sb, w_dec, w_ml, w_lm, ol2i_n, aup_ne, aupE, aupJ, setc_self, setc_ne]
    · rw [if_neg (by omega)]
      simp (disch := omega) only [cond_true, cond_false, Bool.and_true, Bool.true_and, Bool.and_false, Bool.false_and, Int.toNat_natCast, Int.reduceToNat, bI_s, bJ_s, bV_s, bR_s, decide_true, decide_false, not_true_eq_false, not_false_eq_true, dT, dF, w_al, w_la, w_ab, w_sl, w_sb, w_dec, w_ml, w_lm, ol2i_n, aup_ne, aupE, aupJ, setc_self, setc_ne]
theorem cfuture (xs : List Int) (d : Nat) {κ : aK} {D : Nat → Nat → Int} {t : Nat} {X : TX} {S : ST} {n : Nat} {H : Nat → ST} {Hd : Nat → Option ST} (ha : AOk X S n H Hd) (h : CCore κ D t X S n H Hd) (w k what : Int) : ∃ D', cl xs (d + 6) 180 [.inr (.inr 0), .inl w, .inl k, .inl what] (κ, D) = some (some (.inl (qFuture X S w k what)), (κ, D')) ∧ CCore κ D' t X S n H Hd ∧ CFr D D' := by
  have h' := h
  have ha' := ha
  obtain ⟨hX, hS, _, _⟩ := ha
  obtain ⟨hκ, hc, ht, h5, hx, hs, hh, hl⟩ := h
  have hk0 : aok κ 0 11 = true := kc_0 hκ
  have hw1 := hasWord_eq xs (d + 4) hκ hc ht h5 hX hx w
  have hw2 := isAhead_eq xs (d + 4) (κ, D) k
  unfold qFuture
  rw [c_180]
  by_cases h1 : 0 ≤ w ∧ w < (xnw X : Int)
  · by_cases h2 : 0 ≤ k ∧ k ≤ 300
    · obtain ⟨w, rfl⟩ := Int.eq_ofNat_of_zero_le h1.1
      obtain ⟨k, rfl⟩ := Int.eq_ofNat_of_zero_le h2.1
      obtain ⟨D', e, s2, c2, f2⟩ := lookAhead_eq xs d ha' h' (k := k) (by omega)
      refine ⟨D', ?_, c2, f2⟩
      rw [if_pos ⟨h1, h2⟩]
      unfold qWord
      rw [if_pos h1]
      simp (disch := omega) only [cond_true, cond_false, Bool.and_true, Bool.true_and, Bool.and_false, Bool.false_and, Int.toNat_natCast, Int.reduceToNat, bI_s, bJ_s, bV_s, bR_s, decide_true, decide_false, not_true_eq_false, not_false_eq_true, dT, dF, w_al, w_la, w_ab, w_sl, w_sb, w_dec, w_ml, w_lm, ol2i_n, aup_ne, aupE, aupJ, setc_self, setc_ne, hk0, hw1, hw2, e, sk_0 hκ is58, sp_1 hc is58, sk_1 hκ is58, sn_1 hκ is58, sp_2 hc is58, sk_2 hκ is58, sn_2 hκ is58, sp_3 hc is58, sk_3 hκ is58, sn_3 hκ is58, sp_4 hc is58, sk_4 hκ is58, sn_4 hκ is58, tellWord_eq xs (d + 2) hκ c2.2.1 is58 (cenN_ok hX k hS) hX s2 (w := w) (by omega) what]
    · refine ⟨D, ?_, h', CFr.rfl' D⟩
      rw [if_neg (fun q => h2 q.2)]
      simp (disch := omega) only [cond_true, cond_false, Bool.and_true, Bool.true_and, Bool.and_false, Bool.false_and, Int.toNat_natCast, Int.reduceToNat, bI_s, bJ_s, bV_s, bR_s, decide_true, decide_false, not_true_eq_false, not_false_eq_true, dT, dF, w_al, w_la, w_ab, w_sl, w_sb, w_dec, w_ml, w_lm, ol2i_n, aup_ne, aupE, aupJ, setc_self, setc_ne, hk0, hw1, hw2]
  · refine ⟨D, ?_, h', CFr.rfl' D⟩
    rw [if_neg (fun q => h1 q.1)]
    simp (disch := omega) only [cond_true, cond_false, Bool.and_true, Bool.true_and, Bool.and_false, Bool.false_and, Int.toNat_natCast, Int.reduceToNat, bI_s, bJ_s, bV_s, bR_s, decide_true, decide_false, not_true_eq_false, not_false_eq_true, dT, dF, w_al, w_la, w_ab, w_sl, w_sb, w_dec, w_ml, w_lm, ol2i_n, aup_ne, aupE, aupJ, setc_self, setc_ne, hk0, hw1]
theorem rfuture (xs : List Int) (d : Nat) {κ : aK} {D : Nat → Nat → Int} (hκ : Shp κ) {v : Nat} {X : TX} (hX : TXok X) (hR : RI D v X) {S : ST} (hS : STok X S) (hn : RowR (D 301) X S) (w k what : Int) : ∃ D', RSame D D' ∧ cl xs (d + 5) 310 [.inr (.inr 256), .inl w, .inl k, .inl what] (κ, D) = some (some (.inl (qFuture X S w k what)), (κ, D')) := by
  have hp := hR.1; have hv := hR.2.1; have hv2 := hR.2.2.1; have hT := hR.2.2.2.2; have x1 := hX.1.1; have x2 := hX.2.1.1; have hk := k_256 hκ
  have eD : RSame D D := RSame.rfl' hR.2.2.2.1
  have iw := isWordX xs (d + 2) hκ hX hR (g := D 303) w
  rw [setc_id] at iw
  unfold qFuture
  rw [c_310]
  by_cases h1 : 0 ≤ w ∧ w < (xnw X : Int)
  · by_cases h2 : 0 ≤ k ∧ k ≤ 300
    · obtain ⟨w, rfl⟩ := Int.eq_ofNat_of_zero_le h1.1
      obtain ⟨k, rfl⟩ := Int.eq_ofNat_of_zero_le h2.1
      rw [if_pos ⟨h1, h2⟩]
      unfold qWord
      rw [if_pos h1]
      by_cases h9 : 0 ≤ what ∧ what ≤ 9
      · obtain ⟨r', g', p1, p2, p3⟩ := goes_eq xs d hκ hX hR hS hn (n := k) (by omega)
        have hw := (cenN_ok hX k hS).2.2.2.1 w (by omega)
        refine ⟨_, RSame.row (f := r') p1, ?_⟩
        by_cases h8 : what = 9
        · simp (disch := omega) only [cond_true, cond_false, Bool.and_true, Bool.true_and, Bool.and_false, Bool.false_and, Int.toNat_natCast, Int.reduceToNat, bI_s, bJ_s, bV_s, bR_s, decide_true, decide_false, not_true_eq_false, not_false_eq_true, dT, dF, w_al, w_la, w_ab, w_sl, w_sb, w_dec, w_ml, w_lm, ol2i_n, aup_ne, aupE, aupJ, setc_self, setc_ne, pr_1 hp, pr_3 hp, pr_5 hp, pr_6 hp, pr_7 hp, pr_8 hp, pr_9 hp, pr_20 hp, pr_21 hp, pr_22 hp, pr_23 hp, pr_24 hp, pr_25 hp, pr_26 hp, pr_27 hp, pr_28 hp, pr_29 hp, pr_30 hp, pr_31 hp, pr_32 hp, pr_33 hp, pr_34 hp, pr_35 hp, pr_36 hp, pr_37 hp, pr_38 hp, pr_39 hp, pr_40 hp, pr_41 hp, pr_42 hp, pr_43 hp, pr_44 hp, pr_45 hp, pr_46 hp, pr_48 hp, pr_49 hp, pr_50 hp, pr_51 hp, pr_52 hp, pr_54 hp, pr_55 hp, pr_58 hp, pr_60 hp, pr_61 hp, pr_63 hp, pr_64 hp, pr_65 hp, pr_71 hp, pr_72 hp, pr_73 hp, pr_75 hp, pr_76 hp, pr_78 hp, pr_80 hp, pr_81 hp, pr_82 hp, pr_83 hp, pr_84 hp, k_256 hκ, n_257 hκ, n_258 hκ, n_259 hκ, n_260 hκ, n_261 hκ, n_262 hκ, n_263 hκ, n_264 hκ, n_265 hκ, n_266 hκ, n_267 hκ, n_268 hκ, n_269 hκ, n_270 hκ, n_271 hκ, n_272 hκ, n_273 hκ, n_274 hκ, n_275 hκ, n_276 hκ, n_277 hκ, n_278 hκ, n_279 hκ, n_280 hκ, n_281 hκ, n_282 hκ, n_283 hκ, n_284 hκ, n_285 hκ, n_286 hκ, n_287 hκ, n_288 hκ, n_289 hκ, n_290 hκ, n_291 hκ, n_292 hκ, n_293 hκ, n_294 hκ, n_295 hκ, n_296 hκ, n_297 hκ, n_298 hκ, n_299 hκ, n_300 hκ, n_301 hκ, n_302 hκ, n_303 hκ, n_304 hκ, n_305 hκ, n_306 hκ, n_307 hκ, n_308 hκ, n_309 hκ, n_310 hκ, n_311 hκ, n_312 hκ, n_313 hκ, n_314 hκ, hv, iw, in_eq, p3, h8, p2.2.1 w (by omega), if_true]
        · simp (disch := omega) only [cond_true, cond_false, Bool.and_true, Bool.true_and, Bool.and_false, Bool.false_and, Int.toNat_natCast, Int.reduceToNat, bI_s, bJ_s, bV_s, bR_s, decide_true, decide_false, not_true_eq_false, not_false_eq_true, dT, dF, w_al, w_la, w_ab, w_sl, w_sb, w_dec, w_ml, w_lm, ol2i_n, aup_ne, aupE, aupJ, setc_self, setc_ne, pr_1 hp, pr_3 hp, pr_5 hp, pr_6 hp, pr_7 hp, pr_8 hp, pr_9 hp, pr_20 hp, pr_21 hp, pr_22 hp, pr_23 hp, pr_24 hp, pr_25 hp, pr_26 hp, pr_27 hp, pr_28 hp, pr_29 hp, pr_30 hp, pr_31 hp, pr_32 hp, pr_33 hp, pr_34 hp, pr_35 hp, pr_36 hp, pr_37 hp, pr_38 hp, pr_39 hp, pr_40 hp, pr_41 hp, pr_42 hp, pr_43 hp, pr_44 hp, pr_45 hp, pr_46 hp, pr_48 hp, pr_49 hp, pr_50 hp, pr_51 hp, pr_52 hp, pr_54 hp, pr_55 hp, pr_58 hp, pr_60 hp, pr_61 hp, pr_63 hp, pr_64 hp, pr_65 hp, pr_71 hp, pr_72 hp, pr_73 hp, pr_75 hp, pr_76 hp, pr_78 hp, pr_80 hp, pr_81 hp, pr_82 hp, pr_83 hp, pr_84 hp, k_256 hκ, n_257 hκ, n_258 hκ, n_259 hκ, n_260 hκ, n_261 hκ, n_262 hκ, n_263 hκ, n_264 hκ, n_265 hκ, n_266 hκ, n_267 hκ, n_268 hκ, n_269 hκ, n_270 hκ, n_271 hκ, n_272 hκ, n_273 hκ, n_274 hκ, n_275 hκ, n_276 hκ, n_277 hκ, n_278 hκ, n_279 hκ, n_280 hκ, n_281 hκ, n_282 hκ, n_283 hκ, n_284 hκ, n_285 hκ, n_286 hκ, n_287 hκ, n_288 hκ, n_289 hκ, n_290 hκ, n_291 hκ, n_292 hκ, n_293 hκ, n_294 hκ, n_295 hκ, n_296 hκ, n_297 hκ, n_298 hκ, n_299 hκ, n_300 hκ, n_301 hκ, n_302 hκ, n_303 hκ, n_304 hκ, n_305 hκ, n_306 hκ, n_307 hκ, n_308 hκ, n_309 hκ, n_310 hκ, n_311 hκ, n_312 hκ, n_313 hκ, n_314 hκ, hv, iw, in_eq, p3, h8, p2.1 w (by omega), showsX xs (d + 1) _ hw.1 (what := what) (by omega) (by omega), if_false]
      · refine ⟨D, eD, ?_⟩
        simp (disch := omega) only [cond_true, cond_false, Bool.and_true, Bool.true_and, Bool.and_false, Bool.false_and, Int.toNat_natCast, Int.reduceToNat, bI_s, bJ_s, bV_s, bR_s, decide_true, decide_false, not_true_eq_false, not_false_eq_true, dT, dF, w_al, w_la, w_ab, w_sl, w_sb, w_dec, w_ml, w_lm, ol2i_n, aup_ne, aupE, aupJ, setc_self, setc_ne, pr_1 hp, pr_3 hp, pr_5 hp, pr_6 hp, pr_7 hp, pr_8 hp, pr_9 hp, pr_20 hp, pr_21 hp, pr_22 hp, pr_23 hp, pr_24 hp, pr_25 hp, pr_26 hp, pr_27 hp, pr_28 hp, pr_29 hp, pr_30 hp, pr_31 hp, pr_32 hp, pr_33 hp, pr_34 hp, pr_35 hp, pr_36 hp, pr_37 hp, pr_38 hp, pr_39 hp, pr_40 hp, pr_41 hp, pr_42 hp, pr_43 hp, pr_44 hp, pr_45 hp, pr_46 hp, pr_48 hp, pr_49 hp, pr_50 hp, pr_51 hp, pr_52 hp, pr_54 hp, pr_55 hp, pr_58 hp, pr_60 hp, pr_61 hp, pr_63 hp, pr_64 hp, pr_65 hp, pr_71 hp, pr_72 hp, pr_73 hp, pr_75 hp, pr_76 hp, pr_78 hp, pr_80 hp, pr_81 hp, pr_82 hp, pr_83 hp, pr_84 hp, k_256 hκ, n_257 hκ, n_258 hκ, n_259 hκ, n_260 hκ, n_261 hκ, n_262 hκ, n_263 hκ, n_264 hκ, n_265 hκ, n_266 hκ, n_267 hκ, n_268 hκ, n_269 hκ, n_270 hκ, n_271 hκ, n_272 hκ, n_273 hκ, n_274 hκ, n_275 hκ, n_276 hκ, n_277 hκ, n_278 hκ, n_279 hκ, n_280 hκ, n_281 hκ, n_282 hκ, n_283 hκ, n_284 hκ, n_285 hκ, n_286 hκ, n_287 hκ, n_288 hκ, n_289 hκ, n_290 hκ, n_291 hκ, n_292 hκ, n_293 hκ, n_294 hκ, n_295 hκ, n_296 hκ, n_297 hκ, n_298 hκ, n_299 hκ, n_300 hκ, n_301 hκ, n_302 hκ, n_303 hκ, n_304 hκ, n_305 hκ, n_306 hκ, n_307 hκ, n_308 hκ, n_309 hκ, n_310 hκ, n_311 hκ, n_312 hκ, n_313 hκ, n_314 hκ, hv, iw, in_eq]
        rw [if_neg (by omega), ansOf_no (by omega)]
    · refine ⟨D, eD, ?_⟩
      rw [if_neg (fun q => h2 q.2)]
      simp (disch := omega) only [cond_true, cond_false, Bool.and_true, Bool.true_and, Bool.and_false, Bool.false_and, Int.toNat_natCast, Int.reduceToNat, bI_s, bJ_s, bV_s, bR_s, decide_true, decide_false, not_true_eq_false, not_false_eq_true, dT, dF, w_al, w_la, w_ab, w_sl, w_sb, w_dec, w_ml, w_lm, ol2i_n, aup_ne, aupE, aupJ, setc_self, setc_ne, pr_1 hp, pr_3 hp, pr_5 hp, pr_6 hp, pr_7 hp, pr_8 hp, pr_9 hp, pr_20 hp, pr_21 hp, pr_22 hp, pr_23 hp, pr_24 hp, pr_25 hp, pr_26 hp, pr_27 hp, pr_28 hp, pr_29 hp, pr_30 hp, pr_31 hp, pr_32 hp, pr_33 hp, pr_34 hp, pr_35 hp, pr_36 hp, pr_37 hp, pr_38 hp, pr_39 hp, pr_40 hp, pr_41 hp, pr_42 hp, pr_43 hp, pr_44 hp, pr_45 hp, pr_46 hp, pr_48 hp, pr_49 hp, pr_50 hp, pr_51 hp, pr_52 hp, pr_54 hp, pr_55 hp, pr_58 hp, pr_60 hp, pr_61 hp, pr_63 hp, pr_64 hp, pr_65 hp, pr_71 hp, pr_72 hp, pr_73 hp, pr_75 hp, pr_76 hp, pr_78 hp, pr_80 hp, pr_81 hp, pr_82 hp, pr_83 hp, pr_84 hp, k_256 hκ, n_257 hκ, n_258 hκ, n_259 hκ, n_260 hκ, n_261 hκ, n_262 hκ, n_263 hκ, n_264 hκ, n_265 hκ, n_266 hκ, n_267 hκ, n_268 hκ, n_269 hκ, n_270 hκ, n_271 hκ, n_272 hκ, n_273 hκ, n_274 hκ, n_275 hκ, n_276 hκ, n_277 hκ, n_278 hκ, n_279 hκ, n_280 hκ, n_281 hκ, n_282 hκ, n_283 hκ, n_284 hκ, n_285 hκ, n_286 hκ, n_287 hκ, n_288 hκ, n_289 hκ, n_290 hκ, n_291 hκ, n_292 hκ, n_293 hκ, n_294 hκ, n_295 hκ, n_296 hκ, n_297 hκ, n_298 hκ, n_299 hκ, n_300 hκ, n_301 hκ, n_302 hκ, n_303 hκ, n_304 hκ, n_305 hκ, n_306 hκ, n_307 hκ, n_308 hκ, n_309 hκ, n_310 hκ, n_311 hκ, n_312 hκ, n_313 hκ, n_314 hκ, hv, iw, in_eq]
  · refine ⟨D, eD, ?_⟩
    rw [if_neg (fun q => h1 q.1)]
    simp (disch := omega) only [cond_true, cond_false, Bool.and_true, Bool.true_and, Bool.and_false, Bool.false_and, Int.toNat_natCast, Int.reduceToNat, bI_s, bJ_s, bV_s, bR_s, decide_true, decide_false, not_true_eq_false, not_false_eq_true, dT, dF, w_al, w_la, w_ab, w_sl, w_sb, w_dec, w_ml, w_lm, ol2i_n, aup_ne, aupE, aupJ, setc_self, setc_ne, pr_1 hp, pr_3 hp, pr_5 hp, pr_6 hp, pr_7 hp, pr_8 hp, pr_9 hp, pr_20 hp, pr_21 hp, pr_22 hp, pr_23 hp, pr_24 hp, pr_25 hp, pr_26 hp, pr_27 hp, pr_28 hp, pr_29 hp, pr_30 hp, pr_31 hp, pr_32 hp, pr_33 hp, pr_34 hp, pr_35 hp, pr_36 hp, pr_37 hp, pr_38 hp, pr_39 hp, pr_40 hp, pr_41 hp, pr_42 hp, pr_43 hp, pr_44 hp, pr_45 hp, pr_46 hp, pr_48 hp, pr_49 hp, pr_50 hp, pr_51 hp, pr_52 hp, pr_54 hp, pr_55 hp, pr_58 hp, pr_60 hp, pr_61 hp, pr_63 hp, pr_64 hp, pr_65 hp, pr_71 hp, pr_72 hp, pr_73 hp, pr_75 hp, pr_76 hp, pr_78 hp, pr_80 hp, pr_81 hp, pr_82 hp, pr_83 hp, pr_84 hp, k_256 hκ, n_257 hκ, n_258 hκ, n_259 hκ, n_260 hκ, n_261 hκ, n_262 hκ, n_263 hκ, n_264 hκ, n_265 hκ, n_266 hκ, n_267 hκ, n_268 hκ, n_269 hκ, n_270 hκ, n_271 hκ, n_272 hκ, n_273 hκ, n_274 hκ, n_275 hκ, n_276 hκ, n_277 hκ, n_278 hκ, n_279 hκ, n_280 hκ, n_281 hκ, n_282 hκ, n_283 hκ, n_284 hκ, n_285 hκ, n_286 hκ, n_287 hκ, n_288 hκ, n_289 hκ, n_290 hκ, n_291 hκ, n_292 hκ, n_293 hκ, n_294 hκ, n_295 hκ, n_296 hκ, n_297 hκ, n_298 hκ, n_299 hκ, n_300 hκ, n_301 hκ, n_302 hκ, n_303 hκ, n_304 hκ, n_305 hκ, n_306 hκ, n_307 hκ, n_308 hκ, n_309 hκ, n_310 hκ, n_311 hκ, n_312 hκ, n_313 hκ, n_314 hκ, hv, iw]
/-- lives: the first of the centuries to come in which the word dies -/
def livX (X : TX) (w : Nat) : Nat → Nat → ST → Int
  | 0, _, _ => -2
  | m + 1, k, S => if sFt (cenS X S) w = 2 then (k : Int) else livX X w m (k + 1) (cenS X S)
def qLives (X : TX) (S : ST) (w : Int) : Int := if 0 ≤ w ∧ w < (xnw X : Int) then (if sFt S w.toNat = 0 then livX X w.toNat 300 1 S else -2) else -1
theorem clives_loop (xs : List Int) (d : Nat) {κ : aK} {t : Nat} {X : TX} {S0 : ST} {n : Nat} {H : Nat → ST} {Hd : Nat → Option ST} (hX : TXok X) {w : Nat} (hw : w < xnw X) : ∀ (m k : Nat) (D : Nat → Nat → Int) (S : ST), k + m = 301 → CCore κ D t X S0 n H Hd → STok X S → StC D 58 X S → ∃ D', ev xs (d + 3) mm_181 38 [some (.inr (.inr 0)), some (.inl (w : Int)), some (.inl (k : Int))] [] (κ, D) = some (some (.inl (livX X w m k S)), (κ, D')) ∧ CCore κ D' t X S0 n H Hd ∧ CFr D D' := by
  intro m
  have x2 := hX.2.1.1
  induction m with
  | zero =>
    intro k D S h hc hS hs
    refine ⟨D, ?_, hc, CFr.rfl' D⟩
    rw [q_181_38]
    simp (disch := omega) only [cond_true, cond_false, Bool.and_true, Bool.true_and, Bool.and_false, Bool.false_and, Int.toNat_natCast, Int.reduceToNat, bI_s, bJ_s, bV_s, bR_s, decide_true, decide_false, not_true_eq_false, not_false_eq_true, dT, dF, w_al, w_la, w_ab, w_sl, w_sb, w_dec, w_ml, w_lm, ol2i_n, aup_ne, aupE, aupJ, setc_self, setc_ne]
    rfl
  | succ m ih =>
    intro k D S h h0 hS hs
    have h0' := h0
    obtain ⟨hκ, hc, ht, h5, hx, _, hh, hl⟩ := h0
    have hk0 : aok κ 0 11 = true := kc_0 hκ
    have ht' : t = 9 ∨ t = 31 := ht
    obtain ⟨D1, e1, c1, s1, f1⟩ := pass_eq xs d hκ hc ht h5 hX hx is58 hS hs
    have c2 := h0'.ah c1 (fun q hq => f1 q (by omega))
    have p1 := pc_0_8 c1
    have fw := s1.2.2.2.1 w hw
    have g3 := sp_3 c1 is58
    rw [q_181_38]
    unfold livX
    by_cases h2 : sFt (cenS X S) w = 2
    · refine ⟨D1, ?_, c2.1, c2.2⟩
      rw [if_pos h2]
      simp (disch := omega) only [cond_true, cond_false, Bool.and_true, Bool.true_and, Bool.and_false, Bool.false_and, Int.toNat_natCast, Int.reduceToNat, bI_s, bJ_s, bV_s, bR_s, decide_true, decide_false, not_true_eq_false, not_false_eq_true, dT, dF, w_al, w_la, w_ab, w_sl, w_sb, w_dec, w_ml, w_lm, ol2i_n, aup_ne, aupE, aupJ, setc_self, setc_ne, pc_0_0 hc, pc_0_3 hc, pc_0_4 hc, pc_0_7 hc, pc_0_8 hc, pc_0_9 hc, pc_0_12 hc, pc_0_14 hc, pc_0_15 hc, pc_0_16 hc, pc_0_17 hc, pc_0_18 hc, pc_0_19 hc, pc_2_1 hc, pc_2_2 hc, pc_2_3 hc, pc_2_6 hc, pc_2_8 hc, pc_8_2 hc, pc_65_1 hc, pc_65_2 hc, pc_68_1 hc, pc_72_3 hc, pc_72_4 hc, pc_72_5 hc, pc_72_6 hc, pc_77_1 hc, pc_77_2 hc, pc_77_3 hc, pc_77_4 hc, pc_77_5 hc, pc_77_6 hc, kc_0 hκ, kc_1 hκ, nc_1 hκ, kc_2 hκ, kc_3 hκ, nc_3 hκ, kc_4 hκ, nc_4 hκ, kc_5 hκ, nc_5 hκ, kc_6 hκ, nc_6 hκ, kc_7 hκ, nc_7 hκ, kc_8 hκ, kc_63 hκ, nc_63 hκ, kc_64 hκ, nc_64 hκ, kc_65 hκ, kc_66 hκ, nc_66 hκ, kc_67 hκ, nc_67 hκ, kc_68 hκ, kc_69 hκ, nc_69 hκ, kc_70 hκ, nc_70 hκ, kc_71 hκ, nc_71 hκ, kc_72 hκ, kc_73 hκ, nc_73 hκ, kc_74 hκ, nc_74 hκ, kc_75 hκ, nc_75 hκ, kc_76 hκ, nc_76 hκ, kc_77 hκ, kc_78 hκ, nc_78 hκ, kc_79 hκ, nc_79 hκ, kc_80 hκ, nc_80 hκ, kc_81 hκ, nc_81 hκ, kc_82 hκ, nc_82 hκ, kc_83 hκ, nc_83 hκ, kc_84 hκ, nc_84 hκ, kc_85 hκ, nc_85 hκ, kc_86 hκ, nc_86 hκ, kc_87 hκ, nc_87 hκ, kc_88 hκ, nc_88 hκ, kc_89 hκ, nc_89 hκ, kc_90 hκ, nc_90 hκ, sk_0 hκ is53, sp_1 hc is53, sk_1 hκ is53, sn_1 hκ is53, sp_2 hc is53, sk_2 hκ is53, sn_2 hκ is53, sp_3 hc is53, sk_3 hκ is53, sn_3 hκ is53, sp_4 hc is53, sk_4 hκ is53, sn_4 hκ is53, sk_0 hκ is58, sp_1 hc is58, sk_1 hκ is58, sn_1 hκ is58, sp_2 hc is58, sk_2 hκ is58, sn_2 hκ is58, sp_3 hc is58, sk_3 hκ is58, sn_3 hκ is58, sp_4 hc is58, sk_4 hκ is58, sn_4 hκ is58, tk_0 hκ ht, tk_1 hκ ht, tn_1 hκ ht, tk_2 hκ ht, tn_2 hκ ht, tk_3 hκ ht, tk_4 hκ ht, tn_4 hκ ht, tk_5 hκ ht, tn_5 hκ ht, tk_6 hκ ht, tn_6 hκ ht, tk_7 hκ ht, tn_7 hκ ht, tk_8 hκ ht, tk_9 hκ ht, tn_9 hκ ht, tk_10 hκ ht, tn_10 hκ ht, tk_11 hκ ht, tn_11 hκ ht, tk_12 hκ ht, tn_12 hκ ht, tk_13 hκ ht, tn_13 hκ ht, tk_14 hκ ht, tn_14 hκ ht, tk_15 hκ ht, tn_15 hκ ht, tk_16 hκ ht, tn_16 hκ ht, tk_17 hκ ht, tn_17 hκ ht, tk_18 hκ ht, tk_19 hκ ht, tn_19 hκ ht, tk_20 hκ ht, tn_20 hκ ht, tk_21 hκ ht, tn_21 hκ ht, hk0, h5, e1, p1, g3, fw, h2]
    · obtain ⟨D2, e2, c3, f3⟩ := ih (k + 1) D1 (cenS X S) (by omega) c2.1 (cen_ok hX hS) s1
      refine ⟨D2, ?_, c3, c2.2.trans f3⟩
      rw [if_neg h2]
      simp (disch := omega) only [cond_true, cond_false, Bool.and_true, Bool.true_and, Bool.and_false, Bool.false_and, Int.toNat_natCast, Int.reduceToNat, bI_s, bJ_s, bV_s, bR_s, decide_true, decide_false, not_true_eq_false, not_false_eq_true, dT, dF, w_al, w_la, w_ab, w_sl, w_sb, w_dec, w_ml, w_lm, ol2i_n, aup_ne, aupE, aupJ, setc_self, setc_ne, pc_0_0 hc, pc_0_3 hc, pc_0_4 hc, pc_0_7 hc, pc_0_8 hc, pc_0_9 hc, pc_0_12 hc, pc_0_14 hc, pc_0_15 hc, pc_0_16 hc, pc_0_17 hc, pc_0_18 hc, pc_0_19 hc, pc_2_1 hc, pc_2_2 hc, pc_2_3 hc, pc_2_6 hc, pc_2_8 hc, pc_8_2 hc, pc_65_1 hc, pc_65_2 hc, pc_68_1 hc, pc_72_3 hc, pc_72_4 hc, pc_72_5 hc, pc_72_6 hc, pc_77_1 hc, pc_77_2 hc, pc_77_3 hc, pc_77_4 hc, pc_77_5 hc, pc_77_6 hc, kc_0 hκ, kc_1 hκ, nc_1 hκ, kc_2 hκ, kc_3 hκ, nc_3 hκ, kc_4 hκ, nc_4 hκ, kc_5 hκ, nc_5 hκ, kc_6 hκ, nc_6 hκ, kc_7 hκ, nc_7 hκ, kc_8 hκ, kc_63 hκ, nc_63 hκ, kc_64 hκ, nc_64 hκ, kc_65 hκ, kc_66 hκ, nc_66 hκ, kc_67 hκ, nc_67 hκ, kc_68 hκ, kc_69 hκ, nc_69 hκ, kc_70 hκ, nc_70 hκ, kc_71 hκ, nc_71 hκ, kc_72 hκ, kc_73 hκ, nc_73 hκ, kc_74 hκ, nc_74 hκ, kc_75 hκ, nc_75 hκ, kc_76 hκ, nc_76 hκ, kc_77 hκ, kc_78 hκ, nc_78 hκ, kc_79 hκ, nc_79 hκ, kc_80 hκ, nc_80 hκ, kc_81 hκ, nc_81 hκ, kc_82 hκ, nc_82 hκ, kc_83 hκ, nc_83 hκ, kc_84 hκ, nc_84 hκ, kc_85 hκ, nc_85 hκ, kc_86 hκ, nc_86 hκ, kc_87 hκ, nc_87 hκ, kc_88 hκ, nc_88 hκ, kc_89 hκ, nc_89 hκ, kc_90 hκ, nc_90 hκ, sk_0 hκ is53, sp_1 hc is53, sk_1 hκ is53, sn_1 hκ is53, sp_2 hc is53, sk_2 hκ is53, sn_2 hκ is53, sp_3 hc is53, sk_3 hκ is53, sn_3 hκ is53, sp_4 hc is53, sk_4 hκ is53, sn_4 hκ is53, sk_0 hκ is58, sp_1 hc is58, sk_1 hκ is58, sn_1 hκ is58, sp_2 hc is58, sk_2 hκ is58, sn_2 hκ is58, sp_3 hc is58, sk_3 hκ is58, sn_3 hκ is58, sp_4 hc is58, sk_4 hκ is58, sn_4 hκ is58, tk_0 hκ ht, tk_1 hκ ht, tn_1 hκ ht, tk_2 hκ ht, tn_2 hκ ht, tk_3 hκ ht, tk_4 hκ ht, tn_4 hκ ht, tk_5 hκ ht, tn_5 hκ ht, tk_6 hκ ht, tn_6 hκ ht, tk_7 hκ ht, tn_7 hκ ht, tk_8 hκ ht, tk_9 hκ ht, tn_9 hκ ht, tk_10 hκ ht, tn_10 hκ ht, tk_11 hκ ht, tn_11 hκ ht, tk_12 hκ ht, tn_12 hκ ht, tk_13 hκ ht, tn_13 hκ ht, tk_14 hκ ht, tn_14 hκ ht, tk_15 hκ ht, tn_15 hκ ht, tk_16 hκ ht, tn_16 hκ ht, tk_17 hκ ht, tn_17 hκ ht, tk_18 hκ ht, tk_19 hκ ht, tn_19 hκ ht, tk_20 hκ ht, tn_20 hκ ht, tk_21 hκ ht, tn_21 hκ ht, hk0, h5, e1, p1, g3, fw, e2]
theorem clives (xs : List Int) (d : Nat) {κ : aK} {D : Nat → Nat → Int} {t : Nat} {X : TX} {S : ST} {n : Nat} {H : Nat → ST} {Hd : Nat → Option ST} (ha : AOk X S n H Hd) (h : CCore κ D t X S n H Hd) (w : Int) : ∃ D', cl xs (d + 4) 181 [.inr (.inr 0), .inl w] (κ, D) = some (some (.inl (qLives X S w)), (κ, D')) ∧ CCore κ D' t X S n H Hd ∧ CFr D D' := by
  have h' := h
  obtain ⟨hX, hS, _, _⟩ := ha
  obtain ⟨hκ, hc, ht, h5, hx, hs, hh, hl⟩ := h
  have hk0 : aok κ 0 11 = true := kc_0 hκ
  have x2 := hX.2.1.1
  have hw1 := hasWord_eq xs (d + 2) hκ hc ht h5 hX hx w
  unfold qLives
  rw [c_181]
  by_cases h1 : 0 ≤ w ∧ w < (xnw X : Int)
  · rw [if_pos h1]
    obtain ⟨w, rfl⟩ := Int.eq_ofNat_of_zero_le h1.1
    have fw := hs.2.2.2.1 w (by omega)
    rw [Int.toNat_natCast]
    by_cases hf : sFt S w = 0
    · rw [if_pos hf]
      have cp := copy_eq xs (d + 2) hκ hc is58 is53 (by omega)
      have c1 := h'.ah (cpS_ptr (b := 53) hc is58) (fun q hq => cpS_ne (by omega))
      obtain ⟨D2, e2, c3, f3⟩ := clives_loop xs d hX (w := w) (by omega) 300 1 _ S rfl c1.1 hS (cpS_st hX hs)
      refine ⟨D2, ?_, c3, c1.2.trans f3⟩
      simp (disch := omega) only [cond_true, cond_false, Bool.and_true, Bool.true_and, Bool.and_false, Bool.false_and, Int.toNat_natCast, Int.reduceToNat, bI_s, bJ_s, bV_s, bR_s, decide_true, decide_false, not_true_eq_false, not_false_eq_true, dT, dF, w_al, w_la, w_ab, w_sl, w_sb, w_dec, w_ml, w_lm, ol2i_n, aup_ne, aupE, aupJ, setc_self, setc_ne, pc_0_0 hc, pc_0_3 hc, pc_0_4 hc, pc_0_7 hc, pc_0_8 hc, pc_0_9 hc, pc_0_12 hc, pc_0_14 hc, pc_0_15 hc, pc_0_16 hc, pc_0_17 hc, pc_0_18 hc, pc_0_19 hc, pc_2_1 hc, pc_2_2 hc, pc_2_3 hc, pc_2_6 hc, pc_2_8 hc, pc_8_2 hc, pc_65_1 hc, pc_65_2 hc, pc_68_1 hc, pc_72_3 hc, pc_72_4 hc, pc_72_5 hc, pc_72_6 hc, pc_77_1 hc, pc_77_2 hc, pc_77_3 hc, pc_77_4 hc, pc_77_5 hc, pc_77_6 hc, kc_0 hκ, kc_1 hκ, nc_1 hκ, kc_2 hκ, kc_3 hκ, nc_3 hκ, kc_4 hκ, nc_4 hκ, kc_5 hκ, nc_5 hκ, kc_6 hκ, nc_6 hκ, kc_7 hκ, nc_7 hκ, kc_8 hκ, kc_63 hκ, nc_63 hκ, kc_64 hκ, nc_64 hκ, kc_65 hκ, kc_66 hκ, nc_66 hκ, kc_67 hκ, nc_67 hκ, kc_68 hκ, kc_69 hκ, nc_69 hκ, kc_70 hκ, nc_70 hκ, kc_71 hκ, nc_71 hκ, kc_72 hκ, kc_73 hκ, nc_73 hκ, kc_74 hκ, nc_74 hκ, kc_75 hκ, nc_75 hκ, kc_76 hκ, nc_76 hκ, kc_77 hκ, kc_78 hκ, nc_78 hκ, kc_79 hκ, nc_79 hκ, kc_80 hκ, nc_80 hκ, kc_81 hκ, nc_81 hκ, kc_82 hκ, nc_82 hκ, kc_83 hκ, nc_83 hκ, kc_84 hκ, nc_84 hκ, kc_85 hκ, nc_85 hκ, kc_86 hκ, nc_86 hκ, kc_87 hκ, nc_87 hκ, kc_88 hκ, nc_88 hκ, kc_89 hκ, nc_89 hκ, kc_90 hκ, nc_90 hκ, sk_0 hκ is53, sp_1 hc is53, sk_1 hκ is53, sn_1 hκ is53, sp_2 hc is53, sk_2 hκ is53, sn_2 hκ is53, sp_3 hc is53, sk_3 hκ is53, sn_3 hκ is53, sp_4 hc is53, sk_4 hκ is53, sn_4 hκ is53, sk_0 hκ is58, sp_1 hc is58, sk_1 hκ is58, sn_1 hκ is58, sp_2 hc is58, sk_2 hκ is58, sn_2 hκ is58, sp_3 hc is58, sk_3 hκ is58, sn_3 hκ is58, sp_4 hc is58, sk_4 hκ is58, sn_4 hκ is58, hk0, hw1, fw, hf, cp]
      exact e2
    · refine ⟨D, ?_, h', CFr.rfl' D⟩
      rw [if_neg hf]
      simp (disch := omega) only [cond_true, cond_false, Bool.and_true, Bool.true_and, Bool.and_false, Bool.false_and, Int.toNat_natCast, Int.reduceToNat, bI_s, bJ_s, bV_s, bR_s, decide_true, decide_false, not_true_eq_false, not_false_eq_true, dT, dF, w_al, w_la, w_ab, w_sl, w_sb, w_dec, w_ml, w_lm, ol2i_n, aup_ne, aupE, aupJ, setc_self, setc_ne, pc_0_0 hc, pc_0_3 hc, pc_0_4 hc, pc_0_7 hc, pc_0_8 hc, pc_0_9 hc, pc_0_12 hc, pc_0_14 hc, pc_0_15 hc, pc_0_16 hc, pc_0_17 hc, pc_0_18 hc, pc_0_19 hc, pc_2_1 hc, pc_2_2 hc, pc_2_3 hc, pc_2_6 hc, pc_2_8 hc, pc_8_2 hc, pc_65_1 hc, pc_65_2 hc, pc_68_1 hc, pc_72_3 hc, pc_72_4 hc, pc_72_5 hc, pc_72_6 hc, pc_77_1 hc, pc_77_2 hc, pc_77_3 hc, pc_77_4 hc, pc_77_5 hc, pc_77_6 hc, kc_0 hκ, kc_1 hκ, nc_1 hκ, kc_2 hκ, kc_3 hκ, nc_3 hκ, kc_4 hκ, nc_4 hκ, kc_5 hκ, nc_5 hκ, kc_6 hκ, nc_6 hκ, kc_7 hκ, nc_7 hκ, kc_8 hκ, kc_63 hκ, nc_63 hκ, kc_64 hκ, nc_64 hκ, kc_65 hκ, kc_66 hκ, nc_66 hκ, kc_67 hκ, nc_67 hκ, kc_68 hκ, kc_69 hκ, nc_69 hκ, kc_70 hκ, nc_70 hκ, kc_71 hκ, nc_71 hκ, kc_72 hκ, kc_73 hκ, nc_73 hκ, kc_74 hκ, nc_74 hκ, kc_75 hκ, nc_75 hκ, kc_76 hκ, nc_76 hκ, kc_77 hκ, kc_78 hκ, nc_78 hκ, kc_79 hκ, nc_79 hκ, kc_80 hκ, nc_80 hκ, kc_81 hκ, nc_81 hκ, kc_82 hκ, nc_82 hκ, kc_83 hκ, nc_83 hκ, kc_84 hκ, nc_84 hκ, kc_85 hκ, nc_85 hκ, kc_86 hκ, nc_86 hκ, kc_87 hκ, nc_87 hκ, kc_88 hκ, nc_88 hκ, kc_89 hκ, nc_89 hκ, kc_90 hκ, nc_90 hκ, sk_0 hκ is53, sp_1 hc is53, sk_1 hκ is53, sn_1 hκ is53, sp_2 hc is53, sk_2 hκ is53, sn_2 hκ is53, sp_3 hc is53, sk_3 hκ is53, sn_3 hκ is53, sp_4 hc is53, sk_4 hκ is53, sn_4 hκ is53, sk_0 hκ is58, sp_1 hc is58, sk_1 hκ is58, sn_1 hκ is58, sp_2 hc is58, sk_2 hκ is58, sn_2 hκ is58, sp_3 hc is58, sk_3 hκ is58, sn_3 hκ is58, sp_4 hc is58, sk_4 hκ is58, sn_4 hκ is58, hk0, hw1, fw]
  · refine ⟨D, ?_, h', CFr.rfl' D⟩
    rw [if_neg h1]
    simp (disch := omega) only [cond_true, cond_false, Bool.and_true, Bool.true_and, Bool.and_false, Bool.false_and, Int.toNat_natCast, Int.reduceToNat, bI_s, bJ_s, bV_s, bR_s, decide_true, decide_false, not_true_eq_false, not_false_eq_true, dT, dF, w_al, w_la, w_ab, w_sl, w_sb, w_dec, w_ml, w_lm, ol2i_n, aup_ne, aupE, aupJ, setc_self, setc_ne, hk0, hw1]
theorem fate_02 (X : TX) (S : ST) (w : Nat) : sFt (cenS X S) w = sFt S w ∨ (sFt S w = 0 ∧ sFt (cenS X S) w = 2) := dieF_cases (cenW X S) (sFt S) (xnw X) w
theorem rlives_loop (xs : List Int) (d : Nat) {κ : aK} {D : Nat → Nat → Int} (hκ : Shp κ) {v : Nat} {X : TX} (hX : TXok X) (hR : RI D v X) {w : Nat} (hw : w < xnw X) : ∀ (m k : Nat) (S : ST) (r g : Nat → Int), k + m = 301 → STok X S → sFt S w = 0 → g 0 = 0 → RowR r X S → ∃ r' g' : Nat → Int, g' 0 = 0 ∧ ev xs (d + 3) mm_312 27 [some (.inr (.inr 256)), some (.inl (w : Int)), some (.inl (k : Int))] [] (κ, setc (setc D 302 r) 303 g) = some (some (.inl (livX X w m k S)), (κ, setc (setc D 302 r') 303 g')) := by
  have hp := hR.1; have hv := hR.2.1; have hv2 := hR.2.2.1; have hT := hR.2.2.2.2; have x1 := hX.1.1; have x2 := hX.2.1.1; have hk := k_256 hκ
  intro m
  induction m with
  | zero =>
    intro k S r g h hS h0 hg hr
    refine ⟨r, g, hg, ?_⟩
    rw [q_312_27]
    simp (disch := omega) only [cond_true, cond_false, Bool.and_true, Bool.true_and, Bool.and_false, Bool.false_and, Int.toNat_natCast, Int.reduceToNat, bI_s, bJ_s, bV_s, bR_s, decide_true, decide_false, not_true_eq_false, not_false_eq_true, dT, dF, w_al, w_la, w_ab, w_sl, w_sb, w_dec, w_ml, w_lm, ol2i_n, aup_ne, aupE, aupJ, setc_self, setc_ne]
    rfl
  | succ m ih =>
    intro k S r g h hS h0 hg hr
    obtain ⟨r1, g1, q1, q2, q3⟩ := cent_eq xs d hκ hX hR hS hg hr
    have iw := isWholeX xs (d + 2) hκ hR (r := r1) (g := g1) (w := w) (by omega) (q2.2.1 w hw)
    have hf := fate_02 X S w
    rw [q_312_27]
    unfold livX
    by_cases h2 : sFt (cenS X S) w = 2
    · refine ⟨r1, g1, q1, ?_⟩
      rw [if_pos h2]
      simp (disch := omega) only [cond_true, cond_false, Bool.and_true, Bool.true_and, Bool.and_false, Bool.false_and, Int.toNat_natCast, Int.reduceToNat, bI_s, bJ_s, bV_s, bR_s, decide_true, decide_false, not_true_eq_false, not_false_eq_true, dT, dF, w_al, w_la, w_ab, w_sl, w_sb, w_dec, w_ml, w_lm, ol2i_n, aup_ne, aupE, aupJ, setc_self, setc_ne, k_256 hκ, n_257 hκ, n_258 hκ, n_259 hκ, n_260 hκ, n_261 hκ, n_262 hκ, n_263 hκ, n_264 hκ, n_265 hκ, n_266 hκ, n_267 hκ, n_268 hκ, n_269 hκ, n_270 hκ, n_271 hκ, n_272 hκ, n_273 hκ, n_274 hκ, n_275 hκ, n_276 hκ, n_277 hκ, n_278 hκ, n_279 hκ, n_280 hκ, n_281 hκ, n_282 hκ, n_283 hκ, n_284 hκ, n_285 hκ, n_286 hκ, n_287 hκ, n_288 hκ, n_289 hκ, n_290 hκ, n_291 hκ, n_292 hκ, n_293 hκ, n_294 hκ, n_295 hκ, n_296 hκ, n_297 hκ, n_298 hκ, n_299 hκ, n_300 hκ, n_301 hκ, n_302 hκ, n_303 hκ, n_304 hκ, n_305 hκ, n_306 hκ, n_307 hκ, n_308 hκ, n_309 hκ, n_310 hκ, n_311 hκ, n_312 hκ, n_313 hκ, n_314 hκ, q3, iw]
    · obtain ⟨r2, g2, p1, p2⟩ := ih (k + 1) (cenS X S) r1 g1 (by omega) (cen_ok hX hS) (by omega) q1 q2
      refine ⟨r2, g2, p1, ?_⟩
      rw [if_neg h2]
      simp (disch := omega) only [cond_true, cond_false, Bool.and_true, Bool.true_and, Bool.and_false, Bool.false_and, Int.toNat_natCast, Int.reduceToNat, bI_s, bJ_s, bV_s, bR_s, decide_true, decide_false, not_true_eq_false, not_false_eq_true, dT, dF, w_al, w_la, w_ab, w_sl, w_sb, w_dec, w_ml, w_lm, ol2i_n, aup_ne, aupE, aupJ, setc_self, setc_ne, k_256 hκ, n_257 hκ, n_258 hκ, n_259 hκ, n_260 hκ, n_261 hκ, n_262 hκ, n_263 hκ, n_264 hκ, n_265 hκ, n_266 hκ, n_267 hκ, n_268 hκ, n_269 hκ, n_270 hκ, n_271 hκ, n_272 hκ, n_273 hκ, n_274 hκ, n_275 hκ, n_276 hκ, n_277 hκ, n_278 hκ, n_279 hκ, n_280 hκ, n_281 hκ, n_282 hκ, n_283 hκ, n_284 hκ, n_285 hκ, n_286 hκ, n_287 hκ, n_288 hκ, n_289 hκ, n_290 hκ, n_291 hκ, n_292 hκ, n_293 hκ, n_294 hκ, n_295 hκ, n_296 hκ, n_297 hκ, n_298 hκ, n_299 hκ, n_300 hκ, n_301 hκ, n_302 hκ, n_303 hκ, n_304 hκ, n_305 hκ, n_306 hκ, n_307 hκ, n_308 hκ, n_309 hκ, n_310 hκ, n_311 hκ, n_312 hκ, n_313 hκ, n_314 hκ, q3, iw, p2]
theorem rlives (xs : List Int) (d : Nat) {κ : aK} {D : Nat → Nat → Int} (hκ : Shp κ) {v : Nat} {X : TX} (hX : TXok X) (hR : RI D v X) {S : ST} (hS : STok X S) (hn : RowR (D 301) X S) (w : Int) : ∃ D', RSame D D' ∧ cl xs (d + 4) 312 [.inr (.inr 256), .inl w] (κ, D) = some (some (.inl (qLives X S w)), (κ, D')) := by
  have hp := hR.1; have hv := hR.2.1; have hv2 := hR.2.2.1; have hT := hR.2.2.2.2; have x1 := hX.1.1; have x2 := hX.2.1.1; have hk := k_256 hκ
  have eD : RSame D D := RSame.rfl' hR.2.2.2.1
  have iw := isWordX xs (d + 1) hκ hX hR (g := D 303) w
  rw [setc_id] at iw
  unfold qLives
  rw [c_312]
  by_cases h1 : 0 ≤ w ∧ w < (xnw X : Int)
  · rw [if_pos h1]
    obtain ⟨w, rfl⟩ := Int.eq_ofNat_of_zero_le h1.1
    have fw := isWholeX xs (d + 2) hκ hR (r := cpn 60 (D 301) (D 302)) (g := D 303) (w := w) (by omega) (by rw [cpn_at (by omega)]; exact hn.2.1 w (by omega))
    rw [Int.toNat_natCast]
    by_cases hf : sFt S w = 0
    · obtain ⟨r2, g2, p1, p2⟩ := rlives_loop xs d hκ hX hR (w := w) (by omega) 300 1 S (cpn 60 (D 301) (D 302)) (D 303) rfl hS hf hR.2.2.2.1 (hn.cpn hX)
      refine ⟨_, RSame.row (f := r2) p1, ?_⟩
      rw [if_pos hf]
      simp (disch := omega) only [cond_true, cond_false, Bool.and_true, Bool.true_and, Bool.and_false, Bool.false_and, Int.toNat_natCast, Int.reduceToNat, bI_s, bJ_s, bV_s, bR_s, decide_true, decide_false, not_true_eq_false, not_false_eq_true, dT, dF, w_al, w_la, w_ab, w_sl, w_sb, w_dec, w_ml, w_lm, ol2i_n, aup_ne, aupE, aupJ, setc_self, setc_ne, pr_1 hp, pr_3 hp, pr_5 hp, pr_6 hp, pr_7 hp, pr_8 hp, pr_9 hp, pr_20 hp, pr_21 hp, pr_22 hp, pr_23 hp, pr_24 hp, pr_25 hp, pr_26 hp, pr_27 hp, pr_28 hp, pr_29 hp, pr_30 hp, pr_31 hp, pr_32 hp, pr_33 hp, pr_34 hp, pr_35 hp, pr_36 hp, pr_37 hp, pr_38 hp, pr_39 hp, pr_40 hp, pr_41 hp, pr_42 hp, pr_43 hp, pr_44 hp, pr_45 hp, pr_46 hp, pr_48 hp, pr_49 hp, pr_50 hp, pr_51 hp, pr_52 hp, pr_54 hp, pr_55 hp, pr_58 hp, pr_60 hp, pr_61 hp, pr_63 hp, pr_64 hp, pr_65 hp, pr_71 hp, pr_72 hp, pr_73 hp, pr_75 hp, pr_76 hp, pr_78 hp, pr_80 hp, pr_81 hp, pr_82 hp, pr_83 hp, pr_84 hp, k_256 hκ, n_257 hκ, n_258 hκ, n_259 hκ, n_260 hκ, n_261 hκ, n_262 hκ, n_263 hκ, n_264 hκ, n_265 hκ, n_266 hκ, n_267 hκ, n_268 hκ, n_269 hκ, n_270 hκ, n_271 hκ, n_272 hκ, n_273 hκ, n_274 hκ, n_275 hκ, n_276 hκ, n_277 hκ, n_278 hκ, n_279 hκ, n_280 hκ, n_281 hκ, n_282 hκ, n_283 hκ, n_284 hκ, n_285 hκ, n_286 hκ, n_287 hκ, n_288 hκ, n_289 hκ, n_290 hκ, n_291 hκ, n_292 hκ, n_293 hκ, n_294 hκ, n_295 hκ, n_296 hκ, n_297 hκ, n_298 hκ, n_299 hκ, n_300 hκ, n_301 hκ, n_302 hκ, n_303 hκ, n_304 hκ, n_305 hκ, n_306 hκ, n_307 hκ, n_308 hκ, n_309 hκ, n_310 hκ, n_311 hκ, n_312 hκ, n_313 hκ, n_314 hκ, hv, iw, copiesX xs (d + 2) hκ hR, RSame.c2, fw]
      exact p2
    · refine ⟨_, RSame.q hR.2.2.2.1, ?_⟩
      rw [if_neg hf]
      simp (disch := omega) only [cond_true, cond_false, Bool.and_true, Bool.true_and, Bool.and_false, Bool.false_and, Int.toNat_natCast, Int.reduceToNat, bI_s, bJ_s, bV_s, bR_s, decide_true, decide_false, not_true_eq_false, not_false_eq_true, dT, dF, w_al, w_la, w_ab, w_sl, w_sb, w_dec, w_ml, w_lm, ol2i_n, aup_ne, aupE, aupJ, setc_self, setc_ne, pr_1 hp, pr_3 hp, pr_5 hp, pr_6 hp, pr_7 hp, pr_8 hp, pr_9 hp, pr_20 hp, pr_21 hp, pr_22 hp, pr_23 hp, pr_24 hp, pr_25 hp, pr_26 hp, pr_27 hp, pr_28 hp, pr_29 hp, pr_30 hp, pr_31 hp, pr_32 hp, pr_33 hp, pr_34 hp, pr_35 hp, pr_36 hp, pr_37 hp, pr_38 hp, pr_39 hp, pr_40 hp, pr_41 hp, pr_42 hp, pr_43 hp, pr_44 hp, pr_45 hp, pr_46 hp, pr_48 hp, pr_49 hp, pr_50 hp, pr_51 hp, pr_52 hp, pr_54 hp, pr_55 hp, pr_58 hp, pr_60 hp, pr_61 hp, pr_63 hp, pr_64 hp, pr_65 hp, pr_71 hp, pr_72 hp, pr_73 hp, pr_75 hp, pr_76 hp, pr_78 hp, pr_80 hp, pr_81 hp, pr_82 hp, pr_83 hp, pr_84 hp, k_256 hκ, n_257 hκ, n_258 hκ, n_259 hκ, n_260 hκ, n_261 hκ, n_262 hκ, n_263 hκ, n_264 hκ, n_265 hκ, n_266 hκ, n_267 hκ, n_268 hκ, n_269 hκ, n_270 hκ, n_271 hκ, n_272 hκ, n_273 hκ, n_274 hκ, n_275 hκ, n_276 hκ, n_277 hκ, n_278 hκ, n_279 hκ, n_280 hκ, n_281 hκ, n_282 hκ, n_283 hκ, n_284 hκ, n_285 hκ, n_286 hκ, n_287 hκ, n_288 hκ, n_289 hκ, n_290 hκ, n_291 hκ, n_292 hκ, n_293 hκ, n_294 hκ, n_295 hκ, n_296 hκ, n_297 hκ, n_298 hκ, n_299 hκ, n_300 hκ, n_301 hκ, n_302 hκ, n_303 hκ, n_304 hκ, n_305 hκ, n_306 hκ, n_307 hκ, n_308 hκ, n_309 hκ, n_310 hκ, n_311 hκ, n_312 hκ, n_313 hκ, n_314 hκ, hv, iw, copiesX xs (d + 2) hκ hR, RSame.c2, fw]
  · refine ⟨D, eD, ?_⟩
    rw [if_neg h1]
    simp (disch := omega) only [cond_true, cond_false, Bool.and_true, Bool.true_and, Bool.and_false, Bool.false_and, Int.toNat_natCast, Int.reduceToNat, bI_s, bJ_s, bV_s, bR_s, decide_true, decide_false, not_true_eq_false, not_false_eq_true, dT, dF, w_al, w_la, w_ab, w_sl, w_sb, w_dec, w_ml, w_lm, ol2i_n, aup_ne, aupE, aupJ, setc_self, setc_ne, pr_1 hp, pr_3 hp, pr_5 hp, pr_6 hp, pr_7 hp, pr_8 hp, pr_9 hp, pr_20 hp, pr_21 hp, pr_22 hp, pr_23 hp, pr_24 hp, pr_25 hp, pr_26 hp, pr_27 hp, pr_28 hp, pr_29 hp, pr_30 hp, pr_31 hp, pr_32 hp, pr_33 hp, pr_34 hp, pr_35 hp, pr_36 hp, pr_37 hp, pr_38 hp, pr_39 hp, pr_40 hp, pr_41 hp, pr_42 hp, pr_43 hp, pr_44 hp, pr_45 hp, pr_46 hp, pr_48 hp, pr_49 hp, pr_50 hp, pr_51 hp, pr_52 hp, pr_54 hp, pr_55 hp, pr_58 hp, pr_60 hp, pr_61 hp, pr_63 hp, pr_64 hp, pr_65 hp, pr_71 hp, pr_72 hp, pr_73 hp, pr_75 hp, pr_76 hp, pr_78 hp, pr_80 hp, pr_81 hp, pr_82 hp, pr_83 hp, pr_84 hp, k_256 hκ, n_257 hκ, n_258 hκ, n_259 hκ, n_260 hκ, n_261 hκ, n_262 hκ, n_263 hκ, n_264 hκ, n_265 hκ, n_266 hκ, n_267 hκ, n_268 hκ, n_269 hκ, n_270 hκ, n_271 hκ, n_272 hκ, n_273 hκ, n_274 hκ, n_275 hκ, n_276 hκ, n_277 hκ, n_278 hκ, n_279 hκ, n_280 hκ, n_281 hκ, n_282 hκ, n_283 hκ, n_284 hκ, n_285 hκ, n_286 hκ, n_287 hκ, n_288 hκ, n_289 hκ, n_290 hκ, n_291 hκ, n_292 hκ, n_293 hκ, n_294 hκ, n_295 hκ, n_296 hκ, n_297 hκ, n_298 hκ, n_299 hκ, n_300 hκ, n_301 hκ, n_302 hκ, n_303 hκ, n_304 hκ, n_305 hκ, n_306 hκ, n_307 hκ, n_308 hκ, n_309 hκ, n_310 hκ, n_311 hκ, n_312 hκ, n_313 hκ, n_314 hκ, hv, iw]
