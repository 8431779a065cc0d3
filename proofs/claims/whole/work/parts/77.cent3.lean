/-! Centuries: the reference's loop; centuries, future, lives, left. -/
theorem cent1_loop (xs : List Int) (d : Nat) {κ : aK} {D : Nat → Nat → Int} (hκ : Shp κ) {v : Nat} {X : TX} (hX : TXok X) (hR : RI D v X) {S : ST} (hS : STok X S) (h0 : 0 < xns X) : ∀ (m k : Nat) (r g : Nat → Int), k + m = xnw X → g 0 = 0 → (∀ i, i < xnw X → r i = (p27 (if i < k then cenW X S i else sW S i) : Int)) → (∀ i, i < xnw X → r (10 + i) = (sFt S i : Int)) → ∃ r' g' : Nat → Int, ∃ u2 : Option aV, g' 0 = 0 ∧ (∀ i, i < xnw X → r' i = (p27 (cenW X S i) : Int)) ∧ (∀ j, 10 ≤ j → r' j = r j) ∧ ev xs (d + 2) mm_273 44 [some (.inr (.inr 256)), some (.inl (lotX X (sCent S) : Int)), some (.inl (k : Int))] [] (κ, setc (setc D 302 r) 303 g) = ev xs (d + 2) mm_273 90 [some (.inr (.inr 256)), some (.inl 0), u2] [] (κ, setc (setc D 302 r') 303 g') := by
  have hp := hR.1; have hv := hR.2.1; have hv2 := hR.2.2.1; have hT := hR.2.2.2.2; have x1 := hX.1.1; have x2 := hX.2.1.1; have hk := k_256 hκ
  have hlot := lot_lt h0 (sCent S)
  intro m
  induction m with
  | zero =>
    intro k r g h hg hr hF
    refine ⟨r, g, some (.inl (k : Int)), hg, fun i hi => by rw [hr i hi, if_pos (by omega)], fun _ _ => rfl, ?_⟩
    rw [q_273_44]
    simp (disch := omega) only [cond_true, cond_false, Bool.and_true, Bool.true_and, Bool.and_false, Bool.false_and, Int.toNat_natCast, Int.reduceToNat, bI_s, bJ_s, bV_s, bR_s, decide_true, decide_false, not_true_eq_false, not_false_eq_true, dT, dF, w_al, w_la, w_ab, w_sl, w_sb, w_dec, w_ml, w_lm, ol2i_n, aup_ne, aupE, aupJ, setc_self, setc_ne, pr_1 hp, pr_3 hp, pr_5 hp, pr_6 hp, pr_7 hp, pr_8 hp, pr_9 hp, pr_20 hp, pr_21 hp, pr_22 hp, pr_23 hp, pr_24 hp, pr_25 hp, pr_26 hp, pr_27 hp, pr_28 hp, pr_29 hp, pr_30 hp, pr_31 hp, pr_32 hp, pr_33 hp, pr_34 hp, pr_35 hp, pr_36 hp, pr_37 hp, pr_38 hp, pr_39 hp, pr_40 hp, pr_41 hp, pr_42 hp, pr_43 hp, pr_44 hp, pr_45 hp, pr_46 hp, pr_48 hp, pr_49 hp, pr_50 hp, pr_51 hp, pr_52 hp, pr_54 hp, pr_55 hp, pr_58 hp, pr_60 hp, pr_61 hp, pr_63 hp, pr_64 hp, pr_65 hp, pr_71 hp, pr_72 hp, pr_73 hp, pr_75 hp, pr_76 hp, pr_78 hp, pr_80 hp, pr_81 hp, pr_82 hp, pr_83 hp, pr_84 hp, k_256 hκ, n_257 hκ, n_258 hκ, n_259 hκ, n_260 hκ, n_261 hκ, n_262 hκ, n_263 hκ, n_264 hκ, n_265 hκ, n_266 hκ, n_267 hκ, n_268 hκ, n_269 hκ, n_270 hκ, n_271 hκ, n_272 hκ, n_273 hκ, n_274 hκ, n_275 hκ, n_276 hκ, n_277 hκ, n_278 hκ, n_279 hκ, n_280 hκ, n_281 hκ, n_282 hκ, n_283 hκ, n_284 hκ, n_285 hκ, n_286 hκ, n_287 hκ, n_288 hκ, n_289 hκ, n_290 hκ, n_291 hκ, n_292 hκ, n_293 hκ, n_294 hκ, n_295 hκ, n_296 hκ, n_297 hκ, n_298 hκ, n_299 hκ, n_300 hκ, n_301 hκ, n_302 hκ, n_303 hκ, n_304 hκ, n_305 hκ, n_306 hκ, n_307 hκ, n_308 hκ, n_309 hκ, n_310 hκ, n_311 hκ, n_312 hκ, n_313 hκ, n_314 hκ, hv, hT.2.1.1]
  | succ m ih =>
    intro k r g h hg hr hF
    have hFk := hF k (by omega)
    have hrk := hr k (by omega)
    rw [if_neg (by omega)] at hrk
    have iw := isWholeX xs (d + 1) hκ hR (r := r) (g := g) (w := k) (by omega) hFk
    rw [q_273_44]
    by_cases hf : sFt S k = 0
    · obtain ⟨g1, hg1, e1⟩ := takenX xs d hκ hX (hR.s302 r) hg hlot (hS.2.2.2.1 k (by omega)).1
      obtain ⟨r', g', u2, a1, a2, a3, a4⟩ := ih (k + 1) (fun j => if j = k then (p27 (tkX X (lotX X (sCent S)) (sW S k)) : Int) else r j) g1 (by omega) hg1 (fun i hi => by
        by_cases hik : i = k
        · subst hik
          rw [if_pos (by omega)]
          unfold cenW lotW
          rw [if_pos hf, if_neg (show ¬ xns X = 0 by omega)]
          rw [if_pos (show i < i + 1 by omega)]
        · refine (if_neg hik).trans ?_
          rw [hr i hi]
          by_cases h2 : i < k
          · rw [if_pos h2, if_pos (by omega)]
          · rw [if_neg h2, if_neg (by omega)]) (fun i hi => (if_neg (show ¬ 10 + i = k by omega)).trans (hF i hi))
      refine ⟨r', g', u2, a1, a2, fun j hj => (a3 j hj).trans (if_neg (show ¬ j = k by omega)), ?_⟩
      simp (disch := omega) only [cond_true, cond_false, Bool.and_true, Bool.true_and, Bool.and_false, Bool.false_and, Int.toNat_natCast, Int.reduceToNat, bI_s, bJ_s, bV_s, bR_s, decide_true, decide_false, not_true_eq_false, not_false_eq_true, dT, dF, w_al, w_la, w_ab, w_sl, w_sb, w_dec, w_ml, w_lm, ol2i_n, aup_ne, aupE, aupJ, setc_self, setc_ne, pr_1 hp, pr_3 hp, pr_5 hp, pr_6 hp, pr_7 hp, pr_8 hp, pr_9 hp, pr_20 hp, pr_21 hp, pr_22 hp, pr_23 hp, pr_24 hp, pr_25 hp, pr_26 hp, pr_27 hp, pr_28 hp, pr_29 hp, pr_30 hp, pr_31 hp, pr_32 hp, pr_33 hp, pr_34 hp, pr_35 hp, pr_36 hp, pr_37 hp, pr_38 hp, pr_39 hp, pr_40 hp, pr_41 hp, pr_42 hp, pr_43 hp, pr_44 hp, pr_45 hp, pr_46 hp, pr_48 hp, pr_49 hp, pr_50 hp, pr_51 hp, pr_52 hp, pr_54 hp, pr_55 hp, pr_58 hp, pr_60 hp, pr_61 hp, pr_63 hp, pr_64 hp, pr_65 hp, pr_71 hp, pr_72 hp, pr_73 hp, pr_75 hp, pr_76 hp, pr_78 hp, pr_80 hp, pr_81 hp, pr_82 hp, pr_83 hp, pr_84 hp, k_256 hκ, n_257 hκ, n_258 hκ, n_259 hκ, n_260 hκ, n_261 hκ, n_262 hκ, n_263 hκ, n_264 hκ, n_265 hκ, n_266 hκ, n_267 hκ, n_268 hκ, n_269 hκ, n_270 hκ, n_271 hκ, n_272 hκ, n_273 hκ, n_274 hκ, n_275 hκ, n_276 hκ, n_277 hκ, n_278 hκ, n_279 hκ, n_280 hκ, n_281 hκ, n_282 hκ, n_283 hκ, n_284 hκ, n_285 hκ, n_286 hκ, n_287 hκ, n_288 hκ, n_289 hκ, n_290 hκ, n_291 hκ, n_292 hκ, n_293 hκ, n_294 hκ, n_295 hκ, n_296 hκ, n_297 hκ, n_298 hκ, n_299 hκ, n_300 hκ, n_301 hκ, n_302 hκ, n_303 hκ, n_304 hκ, n_305 hκ, n_306 hκ, n_307 hκ, n_308 hκ, n_309 hκ, n_310 hκ, n_311 hκ, n_312 hκ, n_313 hκ, n_314 hκ, hv, hT.2.1.1, iw, hf, if_true, hrk, e1, aup_s2, a4]
    · obtain ⟨r', g', u2, a1, a2, a3, a4⟩ := ih (k + 1) r g (by omega) hg (fun i hi => by
        rw [hr i hi]
        by_cases hik : i = k
        · subst hik
          rw [if_neg (by omega), if_pos (by omega)]
          unfold cenW
          rw [if_neg hf]
        · by_cases h2 : i < k
          · rw [if_pos h2, if_pos (by omega)]
          · rw [if_neg h2, if_neg (by omega)]) hF
      refine ⟨r', g', u2, a1, a2, a3, ?_⟩
      simp (disch := omega) only [cond_true, cond_false, Bool.and_true, Bool.true_and, Bool.and_false, Bool.false_and, Int.toNat_natCast, Int.reduceToNat, bI_s, bJ_s, bV_s, bR_s, decide_true, decide_false, not_true_eq_false, not_false_eq_true, dT, dF, w_al, w_la, w_ab, w_sl, w_sb, w_dec, w_ml, w_lm, ol2i_n, aup_ne, aupE, aupJ, setc_self, setc_ne, pr_1 hp, pr_3 hp, pr_5 hp, pr_6 hp, pr_7 hp, pr_8 hp, pr_9 hp, pr_20 hp, pr_21 hp, pr_22 hp, pr_23 hp, pr_24 hp, pr_25 hp, pr_26 hp, pr_27 hp, pr_28 hp, pr_29 hp, pr_30 hp, pr_31 hp, pr_32 hp, pr_33 hp, pr_34 hp, pr_35 hp, pr_36 hp, pr_37 hp, pr_38 hp, pr_39 hp, pr_40 hp, pr_41 hp, pr_42 hp, pr_43 hp, pr_44 hp, pr_45 hp, pr_46 hp, pr_48 hp, pr_49 hp, pr_50 hp, pr_51 hp, pr_52 hp, pr_54 hp, pr_55 hp, pr_58 hp, pr_60 hp, pr_61 hp, pr_63 hp, pr_64 hp, pr_65 hp, pr_71 hp, pr_72 hp, pr_73 hp, pr_75 hp, pr_76 hp, pr_78 hp, pr_80 hp, pr_81 hp, pr_82 hp, pr_83 hp, pr_84 hp, k_256 hκ, n_257 hκ, n_258 hκ, n_259 hκ, n_260 hκ, n_261 hκ, n_262 hκ, n_263 hκ, n_264 hκ, n_265 hκ, n_266 hκ, n_267 hκ, n_268 hκ, n_269 hκ, n_270 hκ, n_271 hκ, n_272 hκ, n_273 hκ, n_274 hκ, n_275 hκ, n_276 hκ, n_277 hκ, n_278 hκ, n_279 hκ, n_280 hκ, n_281 hκ, n_282 hκ, n_283 hκ, n_284 hκ, n_285 hκ, n_286 hκ, n_287 hκ, n_288 hκ, n_289 hκ, n_290 hκ, n_291 hκ, n_292 hκ, n_293 hκ, n_294 hκ, n_295 hκ, n_296 hκ, n_297 hκ, n_298 hκ, n_299 hκ, n_300 hκ, n_301 hκ, n_302 hκ, n_303 hκ, n_304 hκ, n_305 hκ, n_306 hκ, n_307 hκ, n_308 hκ, n_309 hκ, n_310 hκ, n_311 hκ, n_312 hκ, n_313 hκ, n_314 hκ, hv, hT.2.1.1, iw, hf, if_false, a4]
theorem cent_eq (xs : List Int) (d : Nat) {κ : aK} {D : Nat → Nat → Int} (hκ : Shp κ) {v : Nat} {X : TX} (hX : TXok X) (hR : RI D v X) {S : ST} (hS : STok X S) {r g : Nat → Int} (hg : g 0 = 0) (hr : RowR r X S) : ∃ r' g' : Nat → Int, g' 0 = 0 ∧ RowR r' X (cenS X S) ∧ cl xs (d + 3) 273 [.inr (.inr 256)] (κ, setc (setc D 302 r) 303 g) = some (none, (κ, setc (setc D 302 r') 303 g')) := by
  have hp := hR.1; have hv := hR.2.1; have hv2 := hR.2.2.1; have hT := hR.2.2.2.2; have x1 := hX.1.1; have x2 := hX.2.1.1; have hk := k_256 hκ
  have hcen := cen_ok hX hS
  obtain ⟨a1, a2, a3, a4, a5, a6, a7, a8, a9, a10⟩ := hr
  have fin : ∀ (r1 g1 : Nat → Int) (u2 : Option aV), g1 0 = 0 → (∀ i, i < xnw X → r1 i = (p27 (cenW X S i) : Int)) → (∀ j, 10 ≤ j → r1 j = r j) → ∃ r' g' : Nat → Int, g' 0 = 0 ∧ RowR r' X (cenS X S) ∧ ev xs (d + 2) mm_273 90 [some (.inr (.inr 256)), some (.inl 0), u2] [] (κ, setc (setc D 302 r1) 303 g1) = some (none, (κ, setc (setc D 302 r') 303 g')) := by
    intro r1 g1 u2 hg1 h1 h2
    obtain ⟨r', b1, b2, b3, b4, b5⟩ := cent2_loop xs d hκ hX hR (W := cenW X S) (F := sFt S) (g := g1) u2 (xnw X) 0 r1 (by omega) (fun i hi => ⟨h1 i hi, (hcen.2.2.2.1 i hi).1⟩) (fun i hi => by rw [h2 _ (by omega)]; exact a2 i hi)
    refine ⟨r', g1, hg1, ⟨b1, b2, fun i hi => ?_, ?_, fun i hi => ?_, ?_, ?_, ?_, ?_, ?_⟩, b5⟩
    · rw [b3 _ (by omega) (by omega), h2 _ (by omega)]; exact a3 i hi
    · rw [b3 _ (by omega) (by omega), h2 _ (by omega)]; exact a4
    · rw [b3 _ (by omega) (by omega), h2 _ (by omega)]; exact a5 i hi
    · rw [b3 _ (by omega) (by omega), h2 _ (by omega)]; exact a6
    · rw [b4, w32_w64, h2 _ (by omega), ← w32_add_l, a7]; rfl
    · rw [b3 _ (by omega) (by omega), h2 _ (by omega)]; exact a8
    · rw [b3 _ (by omega) (by omega), h2 _ (by omega)]; exact a9
    · rw [b3 _ (by omega) (by omega), h2 _ (by omega), a10]
      show _ = ((cntF (dieF (cenW X S) (sFt S) (xnw X)) 1 (xnw X) : Nat) : Int)
      rw [cntF_congr (F := sFt S) (G := dieF (cenW X S) (sFt S) (xnw X)) _ (fun i _ => by have := dieF_cases (cenW X S) (sFt S) (xnw X) i; omega)]
  rw [c_273]
  by_cases h0 : xns X = 0
  · obtain ⟨r', g', q1, q2, q3⟩ := fin r g none hg (fun i hi => by
      rw [a1 i hi]
      unfold cenW lotW
      rw [if_pos h0]
      simp only [ite_self]) (fun _ _ => rfl)
    refine ⟨r', g', q1, q2, ?_⟩
    simp (disch := omega) only [cond_true, cond_false, Bool.and_true, Bool.true_and, Bool.and_false, Bool.false_and, Int.toNat_natCast, Int.reduceToNat, bI_s, bJ_s, bV_s, bR_s, decide_true, decide_false, not_true_eq_false, not_false_eq_true, dT, dF, w_al, w_la, w_ab, w_sl, w_sb, w_dec, w_ml, w_lm, ol2i_n, aup_ne, aupE, aupJ, setc_self, setc_ne, pr_1 hp, pr_3 hp, pr_5 hp, pr_6 hp, pr_7 hp, pr_8 hp, pr_9 hp, pr_20 hp, pr_21 hp, pr_22 hp, pr_23 hp, pr_24 hp, pr_25 hp, pr_26 hp, pr_27 hp, pr_28 hp, pr_29 hp, pr_30 hp, pr_31 hp, pr_32 hp, pr_33 hp, pr_34 hp, pr_35 hp, pr_36 hp, pr_37 hp, pr_38 hp, pr_39 hp, pr_40 hp, pr_41 hp, pr_42 hp, pr_43 hp, pr_44 hp, pr_45 hp, pr_46 hp, pr_48 hp, pr_49 hp, pr_50 hp, pr_51 hp, pr_52 hp, pr_54 hp, pr_55 hp, pr_58 hp, pr_60 hp, pr_61 hp, pr_63 hp, pr_64 hp, pr_65 hp, pr_71 hp, pr_72 hp, pr_73 hp, pr_75 hp, pr_76 hp, pr_78 hp, pr_80 hp, pr_81 hp, pr_82 hp, pr_83 hp, pr_84 hp, k_256 hκ, n_257 hκ, n_258 hκ, n_259 hκ, n_260 hκ, n_261 hκ, n_262 hκ, n_263 hκ, n_264 hκ, n_265 hκ, n_266 hκ, n_267 hκ, n_268 hκ, n_269 hκ, n_270 hκ, n_271 hκ, n_272 hκ, n_273 hκ, n_274 hκ, n_275 hκ, n_276 hκ, n_277 hκ, n_278 hκ, n_279 hκ, n_280 hκ, n_281 hκ, n_282 hκ, n_283 hκ, n_284 hκ, n_285 hκ, n_286 hκ, n_287 hκ, n_288 hκ, n_289 hκ, n_290 hκ, n_291 hκ, n_292 hκ, n_293 hκ, n_294 hκ, n_295 hκ, n_296 hκ, n_297 hκ, n_298 hκ, n_299 hκ, n_300 hκ, n_301 hκ, n_302 hκ, n_303 hκ, n_304 hκ, n_305 hκ, n_306 hκ, n_307 hκ, n_308 hκ, n_309 hκ, n_310 hκ, n_311 hκ, n_312 hκ, n_313 hκ, n_314 hκ, hv, hT.1.1.1]
    exact q3
  · obtain ⟨r1, g1, u2, b1, b2, b3, b4⟩ := cent1_loop xs d hκ hX hR hS (by omega) (xnw X) 0 r g (by omega) hg (fun i hi => by rw [a1 i hi, if_neg (by omega)]) a2
    obtain ⟨r', g', q1, q2, q3⟩ := fin r1 g1 u2 b1 b2 b3
    refine ⟨r', g', q1, q2, ?_⟩
    simp (disch := omega) only [cond_true, cond_false, Bool.and_true, Bool.true_and, Bool.and_false, Bool.false_and, Int.toNat_natCast, Int.reduceToNat, bI_s, bJ_s, bV_s, bR_s, decide_true, decide_false, not_true_eq_false, not_false_eq_true, dT, dF, w_al, w_la, w_ab, w_sl, w_sb, w_dec, w_ml, w_lm, ol2i_n, aup_ne, aupE, aupJ, setc_self, setc_ne, pr_1 hp, pr_3 hp, pr_5 hp, pr_6 hp, pr_7 hp, pr_8 hp, pr_9 hp, pr_20 hp, pr_21 hp, pr_22 hp, pr_23 hp, pr_24 hp, pr_25 hp, pr_26 hp, pr_27 hp, pr_28 hp, pr_29 hp, pr_30 hp, pr_31 hp, pr_32 hp, pr_33 hp, pr_34 hp, pr_35 hp, pr_36 hp, pr_37 hp, pr_38 hp, pr_39 hp, pr_40 hp, pr_41 hp, pr_42 hp, pr_43 hp, pr_44 hp, pr_45 hp, pr_46 hp, pr_48 hp, pr_49 hp, pr_50 hp, pr_51 hp, pr_52 hp, pr_54 hp, pr_55 hp, pr_58 hp, pr_60 hp, pr_61 hp, pr_63 hp, pr_64 hp, pr_65 hp, pr_71 hp, pr_72 hp, pr_73 hp, pr_75 hp, pr_76 hp, pr_78 hp, pr_80 hp, pr_81 hp, pr_82 hp, pr_83 hp, pr_84 hp, k_256 hκ, n_257 hκ, n_258 hκ, n_259 hκ, n_260 hκ, n_261 hκ, n_262 hκ, n_263 hκ, n_264 hκ, n_265 hκ, n_266 hκ, n_267 hκ, n_268 hκ, n_269 hκ, n_270 hκ, n_271 hκ, n_272 hκ, n_273 hκ, n_274 hκ, n_275 hκ, n_276 hκ, n_277 hκ, n_278 hκ, n_279 hκ, n_280 hκ, n_281 hκ, n_282 hκ, n_283 hκ, n_284 hκ, n_285 hκ, n_286 hκ, n_287 hκ, n_288 hκ, n_289 hκ, n_290 hκ, n_291 hκ, n_292 hκ, n_293 hκ, n_294 hκ, n_295 hκ, n_296 hκ, n_297 hκ, n_298 hκ, n_299 hκ, n_300 hκ, n_301 hκ, n_302 hκ, n_303 hκ, n_304 hκ, n_305 hκ, n_306 hκ, n_307 hκ, n_308 hκ, n_309 hκ, n_310 hκ, n_311 hκ, n_312 hκ, n_313 hκ, n_314 hκ, hv, hT.1.1.1, hT.2.2.2.2.2.1, ol2i_w, a7, rlot_eq xs d _ hX (show 0 < xns X by omega) (sCent S)]
    exact b4.trans q3
theorem goes_loop (xs : List Int) (d : Nat) {κ : aK} {D : Nat → Nat → Int} (hκ : Shp κ) {v : Nat} {X : TX} (hX : TXok X) (hR : RI D v X) {n : Nat} (hn : n ≤ 1000) : ∀ (m k : Nat) (S : ST) (r g : Nat → Int), k + m = n → STok X S → g 0 = 0 → RowR r X S → ∃ r' g' : Nat → Int, g' 0 = 0 ∧ RowR r' X (cenN X m S) ∧ ev xs (d + 3) mm_309 6 [some (.inr (.inr 256)), some (.inl (n : Int)), some (.inl (k : Int))] [] (κ, setc (setc D 302 r) 303 g) = some (none, (κ, setc (setc D 302 r') 303 g')) := by
  have hk := k_256 hκ
  intro m
  induction m with
  | zero =>
    intro k S r g h hS hg hr
    refine ⟨r, g, hg, hr, ?_⟩
    rw [q_309_6]
    simp (disch := omega) only [cond_true, cond_false, Bool.and_true, Bool.true_and, Bool.and_false, Bool.false_and, Int.toNat_natCast, Int.reduceToNat, bI_s, bJ_s, bV_s, bR_s, decide_true, decide_false, not_true_eq_false, not_false_eq_true, dT, dF, w_al, w_la, w_ab, w_sl, w_sb, w_dec, w_ml, w_lm, ol2i_n, aup_ne, aupE, aupJ, setc_self, setc_ne]
  | succ m ih =>
    intro k S r g h hS hg hr
    obtain ⟨r1, g1, q1, q2, q3⟩ := cent_eq xs d hκ hX hR hS hg hr
    obtain ⟨r', g', p1, p2, p3⟩ := ih (k + 1) (cenS X S) r1 g1 (by omega) (cen_ok hX hS) q1 q2
    refine ⟨r', g', p1, p2, ?_⟩
    rw [q_309_6]
    simp (disch := omega) only [cond_true, cond_false, Bool.and_true, Bool.true_and, Bool.and_false, Bool.false_and, Int.toNat_natCast, Int.reduceToNat, bI_s, bJ_s, bV_s, bR_s, decide_true, decide_false, not_true_eq_false, not_false_eq_true, dT, dF, w_al, w_la, w_ab, w_sl, w_sb, w_dec, w_ml, w_lm, ol2i_n, aup_ne, aupE, aupJ, setc_self, setc_ne, k_256 hκ, n_257 hκ, n_258 hκ, n_259 hκ, n_260 hκ, n_261 hκ, n_262 hκ, n_263 hκ, n_264 hκ, n_265 hκ, n_266 hκ, n_267 hκ, n_268 hκ, n_269 hκ, n_270 hκ, n_271 hκ, n_272 hκ, n_273 hκ, n_274 hκ, n_275 hκ, n_276 hκ, n_277 hκ, n_278 hκ, n_279 hκ, n_280 hκ, n_281 hκ, n_282 hκ, n_283 hκ, n_284 hκ, n_285 hκ, n_286 hκ, n_287 hκ, n_288 hκ, n_289 hκ, n_290 hκ, n_291 hκ, n_292 hκ, n_293 hκ, n_294 hκ, n_295 hκ, n_296 hκ, n_297 hκ, n_298 hκ, n_299 hκ, n_300 hκ, n_301 hκ, n_302 hκ, n_303 hκ, n_304 hκ, n_305 hκ, n_306 hκ, n_307 hκ, n_308 hκ, n_309 hκ, n_310 hκ, n_311 hκ, n_312 hκ, n_313 hκ, n_314 hκ, q3, p3]
theorem goes_eq (xs : List Int) (d : Nat) {κ : aK} {D : Nat → Nat → Int} (hκ : Shp κ) {v : Nat} {X : TX} (hX : TXok X) (hR : RI D v X) {S : ST} (hS : STok X S) (hn : RowR (D 301) X S) {n : Nat} (hn1 : n ≤ 1000) : ∃ r' g' : Nat → Int, g' 0 = 0 ∧ RowR r' X (cenN X n S) ∧ cl xs (d + 4) 309 [.inr (.inr 256), .inl (n : Int)] (κ, D) = some (none, (κ, setc (setc D 302 r') 303 g')) := by
  have hk := k_256 hκ
  obtain ⟨r', g', p1, p2, p3⟩ := goes_loop xs d hκ hX hR hn1 n 0 S (cpn 60 (D 301) (D 302)) (D 303) (by omega) hS hR.2.2.2.1 (hn.cpn hX)
  refine ⟨r', g', p1, p2, ?_⟩
  rw [c_309]
  simp (disch := omega) only [cond_true, cond_false, Bool.and_true, Bool.true_and, Bool.and_false, Bool.false_and, Int.toNat_natCast, Int.reduceToNat, bI_s, bJ_s, bV_s, bR_s, decide_true, decide_false, not_true_eq_false, not_false_eq_true, dT, dF, w_al, w_la, w_ab, w_sl, w_sb, w_dec, w_ml, w_lm, ol2i_n, aup_ne, aupE, aupJ, setc_self, setc_ne, k_256 hκ, n_257 hκ, n_258 hκ, n_259 hκ, n_260 hκ, n_261 hκ, n_262 hκ, n_263 hκ, n_264 hκ, n_265 hκ, n_266 hκ, n_267 hκ, n_268 hκ, n_269 hκ, n_270 hκ, n_271 hκ, n_272 hκ, n_273 hκ, n_274 hκ, n_275 hκ, n_276 hκ, n_277 hκ, n_278 hκ, n_279 hκ, n_280 hκ, n_281 hκ, n_282 hκ, n_283 hκ, n_284 hκ, n_285 hκ, n_286 hκ, n_287 hκ, n_288 hκ, n_289 hκ, n_290 hκ, n_291 hκ, n_292 hκ, n_293 hκ, n_294 hκ, n_295 hκ, n_296 hκ, n_297 hκ, n_298 hκ, n_299 hκ, n_300 hκ, n_301 hκ, n_302 hκ, n_303 hκ, n_304 hκ, n_305 hκ, n_306 hκ, n_307 hκ, n_308 hκ, n_309 hκ, n_310 hκ, n_311 hκ, n_312 hκ, n_313 hκ, n_314 hκ, copiesX xs (d + 2) hκ hR, RSame.c2]
  exact p3
/-- centuries -/
theorem ccent (xs : List Int) (d : Nat) {κ : aK} {D : Nat → Nat → Int} {t : Nat} {X : TX} {S : ST} {n : Nat} {H : Nat → ST} {Hd : Nat → Option ST} (ha : AOk X S n H Hd) (h : CCore κ D t X S n H Hd) {k : Nat} (hk1 : 1 ≤ k) (hk2 : k ≤ 100) : ∃ D', cl xs (d + 5) 154 [.inr (.inr 0), .inl (k : Int)] (κ, D) = some (some (.inl (sCent (cenN X k S))), (κ, D')) ∧ CCore κ D' t X (cenN X k S) (phN n) (phH n H S) Hd ∧ CFr D D' := by
  obtain ⟨hX, hS, _, _⟩ := ha
  have h' := h
  obtain ⟨hκ, hc, ht, h5, hx, hs, hh, hl⟩ := h
  have hk0 : aok κ 0 11 = true := kc_0 hκ
  obtain ⟨D1, e1, c1, f1⟩ := h'.rem xs (d + 2) hX
  obtain ⟨D2, e2, c2, s2, f2⟩ := passes_eq xs d hκ c1.2.1 ht c1.2.2.2.1 hX c1.2.2.2.2.1 is53 hS c1.2.2.2.2.2.1 (n := k) (by omega)
  have c3 := c1.st c2 s2 (fun q hq => f2 q (by omega))
  refine ⟨D2, ?_, c3.1, f1.trans c3.2⟩
  have hc := c1.2.1
  have hc2 := pc_0_7 c2
  have h51 := c1.2.2.2.1
  rw [c_154]
  simp (disch := omega) only [cond_true, cond_false, Bool.and_true, Bool.true_and, Bool.and_false, Bool.false_and, Int.toNat_natCast, Int.reduceToNat, bI_s, bJ_s, bV_s, bR_s, decide_true, decide_false, not_true_eq_false, not_false_eq_true, dT, dF, w_al, w_la, w_ab, w_sl, w_sb, w_dec, w_ml, w_lm, ol2i_n, aup_ne, aupE, aupJ, setc_self, setc_ne, pc_0_0 hc, pc_0_3 hc, pc_0_4 hc, pc_0_7 hc, pc_0_8 hc, pc_0_9 hc, pc_0_12 hc, pc_0_14 hc, pc_0_15 hc, pc_0_16 hc, pc_0_17 hc, pc_0_18 hc, pc_0_19 hc, pc_2_1 hc, pc_2_2 hc, pc_2_3 hc, pc_2_6 hc, pc_2_8 hc, pc_8_2 hc, pc_65_1 hc, pc_65_2 hc, pc_68_1 hc, pc_72_3 hc, pc_72_4 hc, pc_72_5 hc, pc_72_6 hc, pc_77_1 hc, pc_77_2 hc, pc_77_3 hc, pc_77_4 hc, pc_77_5 hc, pc_77_6 hc, kc_0 hκ, kc_1 hκ, nc_1 hκ, kc_2 hκ, kc_3 hκ, nc_3 hκ, kc_4 hκ, nc_4 hκ, kc_5 hκ, nc_5 hκ, kc_6 hκ, nc_6 hκ, kc_7 hκ, nc_7 hκ, kc_8 hκ, kc_63 hκ, nc_63 hκ, kc_64 hκ, nc_64 hκ, kc_65 hκ, kc_66 hκ, nc_66 hκ, kc_67 hκ, nc_67 hκ, kc_68 hκ, kc_69 hκ, nc_69 hκ, kc_70 hκ, nc_70 hκ, kc_71 hκ, nc_71 hκ, kc_72 hκ, kc_73 hκ, nc_73 hκ, kc_74 hκ, nc_74 hκ, kc_75 hκ, nc_75 hκ, kc_76 hκ, nc_76 hκ, kc_77 hκ, kc_78 hκ, nc_78 hκ, kc_79 hκ, nc_79 hκ, kc_80 hκ, nc_80 hκ, kc_81 hκ, nc_81 hκ, kc_82 hκ, nc_82 hκ, kc_83 hκ, nc_83 hκ, kc_84 hκ, nc_84 hκ, kc_85 hκ, nc_85 hκ, kc_86 hκ, nc_86 hκ, kc_87 hκ, nc_87 hκ, kc_88 hκ, nc_88 hκ, kc_89 hκ, nc_89 hκ, kc_90 hκ, nc_90 hκ, sk_0 hκ is53, sp_1 hc is53, sk_1 hκ is53, sn_1 hκ is53, sp_2 hc is53, sk_2 hκ is53, sn_2 hκ is53, sp_3 hc is53, sk_3 hκ is53, sn_3 hκ is53, sp_4 hc is53, sk_4 hκ is53, sn_4 hκ is53, sk_0 hκ is58, sp_1 hc is58, sk_1 hκ is58, sn_1 hκ is58, sp_2 hc is58, sk_2 hκ is58, sn_2 hκ is58, sp_3 hc is58, sk_3 hκ is58, sn_3 hκ is58, sp_4 hc is58, sk_4 hκ is58, sn_4 hκ is58, tk_0 hκ ht, tk_1 hκ ht, tn_1 hκ ht, tk_2 hκ ht, tn_2 hκ ht, tk_3 hκ ht, tk_4 hκ ht, tn_4 hκ ht, tk_5 hκ ht, tn_5 hκ ht, tk_6 hκ ht, tn_6 hκ ht, tk_7 hκ ht, tn_7 hκ ht, tk_8 hκ ht, tk_9 hκ ht, tn_9 hκ ht, tk_10 hκ ht, tn_10 hκ ht, tk_11 hκ ht, tn_11 hκ ht, tk_12 hκ ht, tn_12 hκ ht, tk_13 hκ ht, tn_13 hκ ht, tk_14 hκ ht, tn_14 hκ ht, tk_15 hκ ht, tn_15 hκ ht, tk_16 hκ ht, tn_16 hκ ht, tk_17 hκ ht, tn_17 hκ ht, tk_18 hκ ht, tk_19 hκ ht, tn_19 hκ ht, tk_20 hκ ht, tn_20 hκ ht, tk_21 hκ ht, tn_21 hκ ht, hk0, e1, h51, e2, hc2, s2.2.2.2.2.2.2.2.1]
theorem ccent_0 (xs : List Int) (d : Nat) {κ : aK} {D : Nat → Nat → Int} {t : Nat} {X : TX} {S : ST} {n : Nat} {H : Nat → ST} {Hd : Nat → Option ST} (h : CCore κ D t X S n H Hd) : cl xs (d + 5) 154 [.inr (.inr 0), .inl 0] (κ, D) = some (some (.inl (sCent S)), (κ, D)) := by
  obtain ⟨hκ, hc, ht, h5, hx, hs, hh, hl⟩ := h
  have hk0 : aok κ 0 11 = true := kc_0 hκ
  rw [c_154]
  simp (disch := omega) only [cond_true, cond_false, Bool.and_true, Bool.true_and, Bool.and_false, Bool.false_and, Int.toNat_natCast, Int.reduceToNat, bI_s, bJ_s, bV_s, bR_s, decide_true, decide_false, not_true_eq_false, not_false_eq_true, dT, dF, w_al, w_la, w_ab, w_sl, w_sb, w_dec, w_ml, w_lm, ol2i_n, aup_ne, aupE, aupJ, setc_self, setc_ne, pc_0_0 hc, pc_0_3 hc, pc_0_4 hc, pc_0_7 hc, pc_0_8 hc, pc_0_9 hc, pc_0_12 hc, pc_0_14 hc, pc_0_15 hc, pc_0_16 hc, pc_0_17 hc, pc_0_18 hc, pc_0_19 hc, pc_2_1 hc, pc_2_2 hc, pc_2_3 hc, pc_2_6 hc, pc_2_8 hc, pc_8_2 hc, pc_65_1 hc, pc_65_2 hc, pc_68_1 hc, pc_72_3 hc, pc_72_4 hc, pc_72_5 hc, pc_72_6 hc, pc_77_1 hc, pc_77_2 hc, pc_77_3 hc, pc_77_4 hc, pc_77_5 hc, pc_77_6 hc, kc_0 hκ, kc_1 hκ, nc_1 hκ, kc_2 hκ, kc_3 hκ, nc_3 hκ, kc_4 hκ, nc_4 hκ, kc_5 hκ, nc_5 hκ, kc_6 hκ, nc_6 hκ, kc_7 hκ, nc_7 hκ, kc_8 hκ, kc_63 hκ, nc_63 hκ, kc_64 hκ, nc_64 hκ, kc_65 hκ, kc_66 hκ, nc_66 hκ, kc_67 hκ, nc_67 hκ, kc_68 hκ, kc_69 hκ, nc_69 hκ, kc_70 hκ, nc_70 hκ, kc_71 hκ, nc_71 hκ, kc_72 hκ, kc_73 hκ, nc_73 hκ, kc_74 hκ, nc_74 hκ, kc_75 hκ, nc_75 hκ, kc_76 hκ, nc_76 hκ, kc_77 hκ, kc_78 hκ, nc_78 hκ, kc_79 hκ, nc_79 hκ, kc_80 hκ, nc_80 hκ, kc_81 hκ, nc_81 hκ, kc_82 hκ, nc_82 hκ, kc_83 hκ, nc_83 hκ, kc_84 hκ, nc_84 hκ, kc_85 hκ, nc_85 hκ, kc_86 hκ, nc_86 hκ, kc_87 hκ, nc_87 hκ, kc_88 hκ, nc_88 hκ, kc_89 hκ, nc_89 hκ, kc_90 hκ, nc_90 hκ, sk_0 hκ is53, sp_1 hc is53, sk_1 hκ is53, sn_1 hκ is53, sp_2 hc is53, sk_2 hκ is53, sn_2 hκ is53, sp_3 hc is53, sk_3 hκ is53, sn_3 hκ is53, sp_4 hc is53, sk_4 hκ is53, sn_4 hκ is53, sk_0 hκ is58, sp_1 hc is58, sk_1 hκ is58, sn_1 hκ is58, sp_2 hc is58, sk_2 hκ is58, sn_2 hκ is58, sp_3 hc is58, sk_3 hκ is58, sn_3 hκ is58, sp_4 hc is58, sk_4 hκ is58, sn_4 hκ is58, hk0, hs.2.2.2.2.2.2.2.1]
theorem ccent_no (xs : List Int) (d : Nat) (h : aH) {k : Int} (hno : ¬ (0 ≤ k ∧ k ≤ 100)) : cl xs (d + 5) 154 [.inr (.inr 0), .inl k] h = some (some (.inl (-1)), h) := by
  rw [c_154]
  by_cases h1 : k < 0
  · simp (disch := omega) only [cond_true, cond_false, Bool.and_true, Bool.true_and, Bool.and_false, Bool.false_and, Int.toNat_natCast, Int.reduceToNat, bI_s, bJ_s, bV_s, bR_s, decide_true, decide_false, not_true_eq_false, not_false_eq_true, dT, dF, w_al, w_la, w_ab, w_sl, w_sb, w_dec, w_ml, w_lm, ol2i_n, aup_ne, aupE, aupJ, setc_self, setc_ne]
  · simp (disch := omega) only [cond_true, cond_false, Bool.and_true, Bool.true_and, Bool.and_false, Bool.false_and, Int.toNat_natCast, Int.reduceToNat, bI_s, bJ_s, bV_s, bR_s, decide_true, decide_false, not_true_eq_false, not_false_eq_true, dT, dF, w_al, w_la, w_ab, w_sl, w_sb, w_dec, w_ml, w_lm, ol2i_n, aup_ne, aupE, aupJ, setc_self, setc_ne]
theorem rcent_loop (xs : List Int) (d : Nat) {κ : aK} {D : Nat → Nat → Int} {v : Nat} {X : TX} {S0 : ST} {n : Nat} {H : Nat → ST} {Hd : Nat → Option ST} (hκ : Shp κ) (hX : TXok X) (h0 : RCore D v X S0 n H Hd) {c : Nat} (hc : c ≤ 100) : ∀ (m k : Nat) (S : ST) (r g : Nat → Int), k + m = c → STok X S → g 0 = 0 → RowR r X S → ∃ D', ev xs (d + 3) mm_274 31 [some (.inr (.inr 256)), some (.inl (c : Int)), some (.inl (k : Int))] [] (κ, setc (setc D 302 r) 303 g) = some (some (.inl (sCent (cenN X m S))), (κ, D')) ∧ RCore D' v X (cenN X m S) (phN n) (phH n H S0) Hd ∧ RFr D D' := by
  have hR := h0.1
  have hk := k_256 hκ
  intro m
  induction m with
  | zero =>
    intro k S r g h hS hg hr
    obtain ⟨D', e, c', f'⟩ := h0.keep xs (d + 1) hκ hX hg hr
    refine ⟨D', ?_, c', f'⟩
    have hp := c'.1.1
    have hcen := c'.2.1.2.2.2.2.2.2.1
    rw [q_274_31]
    simp (disch := omega) only [cond_true, cond_false, Bool.and_true, Bool.true_and, Bool.and_false, Bool.false_and, Int.toNat_natCast, Int.reduceToNat, bI_s, bJ_s, bV_s, bR_s, decide_true, decide_false, not_true_eq_false, not_false_eq_true, dT, dF, w_al, w_la, w_ab, w_sl, w_sb, w_dec, w_ml, w_lm, ol2i_n, aup_ne, aupE, aupJ, setc_self, setc_ne, pr_1 hp, pr_3 hp, pr_5 hp, pr_6 hp, pr_7 hp, pr_8 hp, pr_9 hp, pr_20 hp, pr_21 hp, pr_22 hp, pr_23 hp, pr_24 hp, pr_25 hp, pr_26 hp, pr_27 hp, pr_28 hp, pr_29 hp, pr_30 hp, pr_31 hp, pr_32 hp, pr_33 hp, pr_34 hp, pr_35 hp, pr_36 hp, pr_37 hp, pr_38 hp, pr_39 hp, pr_40 hp, pr_41 hp, pr_42 hp, pr_43 hp, pr_44 hp, pr_45 hp, pr_46 hp, pr_48 hp, pr_49 hp, pr_50 hp, pr_51 hp, pr_52 hp, pr_54 hp, pr_55 hp, pr_58 hp, pr_60 hp, pr_61 hp, pr_63 hp, pr_64 hp, pr_65 hp, pr_71 hp, pr_72 hp, pr_73 hp, pr_75 hp, pr_76 hp, pr_78 hp, pr_80 hp, pr_81 hp, pr_82 hp, pr_83 hp, pr_84 hp, k_256 hκ, n_257 hκ, n_258 hκ, n_259 hκ, n_260 hκ, n_261 hκ, n_262 hκ, n_263 hκ, n_264 hκ, n_265 hκ, n_266 hκ, n_267 hκ, n_268 hκ, n_269 hκ, n_270 hκ, n_271 hκ, n_272 hκ, n_273 hκ, n_274 hκ, n_275 hκ, n_276 hκ, n_277 hκ, n_278 hκ, n_279 hκ, n_280 hκ, n_281 hκ, n_282 hκ, n_283 hκ, n_284 hκ, n_285 hκ, n_286 hκ, n_287 hκ, n_288 hκ, n_289 hκ, n_290 hκ, n_291 hκ, n_292 hκ, n_293 hκ, n_294 hκ, n_295 hκ, n_296 hκ, n_297 hκ, n_298 hκ, n_299 hκ, n_300 hκ, n_301 hκ, n_302 hκ, n_303 hκ, n_304 hκ, n_305 hκ, n_306 hκ, n_307 hκ, n_308 hκ, n_309 hκ, n_310 hκ, n_311 hκ, n_312 hκ, n_313 hκ, n_314 hκ, e, ol2i_w, hcen]
    rfl
  | succ m ih =>
    intro k S r g h hS hg hr
    obtain ⟨r1, g1, q1, q2, q3⟩ := cent_eq xs d hκ hX hR hS hg hr
    obtain ⟨D', e, c', f'⟩ := ih (k + 1) (cenS X S) r1 g1 (by omega) (cen_ok hX hS) q1 q2
    refine ⟨D', ?_, c', f'⟩
    rw [q_274_31]
    simp (disch := omega) only [cond_true, cond_false, Bool.and_true, Bool.true_and, Bool.and_false, Bool.false_and, Int.toNat_natCast, Int.reduceToNat, bI_s, bJ_s, bV_s, bR_s, decide_true, decide_false, not_true_eq_false, not_false_eq_true, dT, dF, w_al, w_la, w_ab, w_sl, w_sb, w_dec, w_ml, w_lm, ol2i_n, aup_ne, aupE, aupJ, setc_self, setc_ne, k_256 hκ, n_257 hκ, n_258 hκ, n_259 hκ, n_260 hκ, n_261 hκ, n_262 hκ, n_263 hκ, n_264 hκ, n_265 hκ, n_266 hκ, n_267 hκ, n_268 hκ, n_269 hκ, n_270 hκ, n_271 hκ, n_272 hκ, n_273 hκ, n_274 hκ, n_275 hκ, n_276 hκ, n_277 hκ, n_278 hκ, n_279 hκ, n_280 hκ, n_281 hκ, n_282 hκ, n_283 hκ, n_284 hκ, n_285 hκ, n_286 hκ, n_287 hκ, n_288 hκ, n_289 hκ, n_290 hκ, n_291 hκ, n_292 hκ, n_293 hκ, n_294 hκ, n_295 hκ, n_296 hκ, n_297 hκ, n_298 hκ, n_299 hκ, n_300 hκ, n_301 hκ, n_302 hκ, n_303 hκ, n_304 hκ, n_305 hκ, n_306 hκ, n_307 hκ, n_308 hκ, n_309 hκ, n_310 hκ, n_311 hκ, n_312 hκ, n_313 hκ, n_314 hκ, q3, e]
    rfl
theorem rcent (xs : List Int) (d : Nat) {κ : aK} {D : Nat → Nat → Int} {v : Nat} {X : TX} {S : ST} {n : Nat} {H : Nat → ST} {Hd : Nat → Option ST} (hκ : Shp κ) (ha : AOk X S n H Hd) (h : RCore D v X S n H Hd) {k : Nat} (hk1 : 1 ≤ k) (hk2 : k ≤ 100) : ∃ D', cl xs (d + 4) 274 [.inr (.inr 256), .inl (k : Int)] (κ, D) = some (some (.inl (sCent (cenN X k S))), (κ, D')) ∧ RCore D' v X (cenN X k S) (phN n) (phH n H S) Hd ∧ RFr D D' := by
  have hk := k_256 hκ
  obtain ⟨D', e, c', f'⟩ := rcent_loop xs d hκ ha.1 h hk2 k 0 S (cpn 60 (D 301) (D 302)) (D 303) (by omega) ha.2.1 h.1.2.2.2.1 (h.2.1.cpn ha.1)
  refine ⟨D', ?_, c', f'⟩
  rw [c_274]
  simp (disch := omega) only [cond_true, cond_false, Bool.and_true, Bool.true_and, Bool.and_false, Bool.false_and, Int.toNat_natCast, Int.reduceToNat, bI_s, bJ_s, bV_s, bR_s, decide_true, decide_false, not_true_eq_false, not_false_eq_true, dT, dF, w_al, w_la, w_ab, w_sl, w_sb, w_dec, w_ml, w_lm, ol2i_n, aup_ne, aupE, aupJ, setc_self, setc_ne, k_256 hκ, n_257 hκ, n_258 hκ, n_259 hκ, n_260 hκ, n_261 hκ, n_262 hκ, n_263 hκ, n_264 hκ, n_265 hκ, n_266 hκ, n_267 hκ, n_268 hκ, n_269 hκ, n_270 hκ, n_271 hκ, n_272 hκ, n_273 hκ, n_274 hκ, n_275 hκ, n_276 hκ, n_277 hκ, n_278 hκ, n_279 hκ, n_280 hκ, n_281 hκ, n_282 hκ, n_283 hκ, n_284 hκ, n_285 hκ, n_286 hκ, n_287 hκ, n_288 hκ, n_289 hκ, n_290 hκ, n_291 hκ, n_292 hκ, n_293 hκ, n_294 hκ, n_295 hκ, n_296 hκ, n_297 hκ, n_298 hκ, n_299 hκ, n_300 hκ, n_301 hκ, n_302 hκ, n_303 hκ, n_304 hκ, n_305 hκ, n_306 hκ, n_307 hκ, n_308 hκ, n_309 hκ, n_310 hκ, n_311 hκ, n_312 hκ, n_313 hκ, n_314 hκ, in_eq, copiesX xs (d + 2) hκ h.1, RSame.c2]
  exact e
theorem rcent_0 (xs : List Int) (d : Nat) {κ : aK} {D : Nat → Nat → Int} {v : Nat} {X : TX} {S : ST} {n : Nat} {H : Nat → ST} {Hd : Nat → Option ST} (hκ : Shp κ) (h : RCore D v X S n H Hd) : cl xs (d + 4) 274 [.inr (.inr 256), .inl 0] (κ, D) = some (some (.inl (sCent S)), (κ, D)) := by
  have hp := h.1.1
  have hk := k_256 hκ
  rw [c_274]
  simp (disch := omega) only [cond_true, cond_false, Bool.and_true, Bool.true_and, Bool.and_false, Bool.false_and, Int.toNat_natCast, Int.reduceToNat, bI_s, bJ_s, bV_s, bR_s, decide_true, decide_false, not_true_eq_false, not_false_eq_true, dT, dF, w_al, w_la, w_ab, w_sl, w_sb, w_dec, w_ml, w_lm, ol2i_n, aup_ne, aupE, aupJ, setc_self, setc_ne, pr_1 hp, pr_3 hp, pr_5 hp, pr_6 hp, pr_7 hp, pr_8 hp, pr_9 hp, pr_20 hp, pr_21 hp, pr_22 hp, pr_23 hp, pr_24 hp, pr_25 hp, pr_26 hp, pr_27 hp, pr_28 hp, pr_29 hp, pr_30 hp, pr_31 hp, pr_32 hp, pr_33 hp, pr_34 hp, pr_35 hp, pr_36 hp, pr_37 hp, pr_38 hp, pr_39 hp, pr_40 hp, pr_41 hp, pr_42 hp, pr_43 hp, pr_44 hp, pr_45 hp, pr_46 hp, pr_48 hp, pr_49 hp, pr_50 hp, pr_51 hp, pr_52 hp, pr_54 hp, pr_55 hp, pr_58 hp, pr_60 hp, pr_61 hp, pr_63 hp, pr_64 hp, pr_65 hp, pr_71 hp, pr_72 hp, pr_73 hp, pr_75 hp, pr_76 hp, pr_78 hp, pr_80 hp, pr_81 hp, pr_82 hp, pr_83 hp, pr_84 hp, k_256 hκ, n_257 hκ, n_258 hκ, n_259 hκ, n_260 hκ, n_261 hκ, n_262 hκ, n_263 hκ, n_264 hκ, n_265 hκ, n_266 hκ, n_267 hκ, n_268 hκ, n_269 hκ, n_270 hκ, n_271 hκ, n_272 hκ, n_273 hκ, n_274 hκ, n_275 hκ, n_276 hκ, n_277 hκ, n_278 hκ, n_279 hκ, n_280 hκ, n_281 hκ, n_282 hκ, n_283 hκ, n_284 hκ, n_285 hκ, n_286 hκ, n_287 hκ, n_288 hκ, n_289 hκ, n_290 hκ, n_291 hκ, n_292 hκ, n_293 hκ, n_294 hκ, n_295 hκ, n_296 hκ, n_297 hκ, n_298 hκ, n_299 hκ, n_300 hκ, n_301 hκ, n_302 hκ, n_303 hκ, n_304 hκ, n_305 hκ, n_306 hκ, n_307 hκ, n_308 hκ, n_309 hκ, n_310 hκ, n_311 hκ, n_312 hκ, n_313 hκ, n_314 hκ, in_eq, ol2i_w, h.2.1.2.2.2.2.2.2.1]
theorem rcent_no (xs : List Int) (d : Nat) {κ : aK} {D : Nat → Nat → Int} {k : Int} (hno : ¬ (0 ≤ k ∧ k ≤ 100)) : cl xs (d + 4) 274 [.inr (.inr 256), .inl k] (κ, D) = some (some (.inl (-1)), (κ, D)) := by
  rw [c_274]
  simp (disch := omega) only [cond_true, cond_false, Bool.and_true, Bool.true_and, Bool.and_false, Bool.false_and, Int.toNat_natCast, Int.reduceToNat, bI_s, bJ_s, bV_s, bR_s, decide_true, decide_false, not_true_eq_false, not_false_eq_true, dT, dF, w_al, w_la, w_ab, w_sl, w_sb, w_dec, w_ml, w_lm, ol2i_n, aup_ne, aupE, aupJ, setc_self, setc_ne, in_eq]
