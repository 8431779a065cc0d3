/-! Ways: the reference's names and codes; way; findsWay. -/
theorem wayLong_eq (xs : List Int) (d : Nat) {κ : aK} {D : Nat → Nat → Int} (hκ : Shp κ) {v : Nat} {X : TX} (hX : TXok X) (hR : RI D v X) {y : WY} (hy : wvd X y) : cl xs (d + 2) 250 [.inr (.inr 256)] (κ, wyS D y) = some (some (.inl ((nmW X y).length : Int)), (κ, wyS D y)) := by
  have hp := hR.1; have hv := hR.2.1; have hv2 := hR.2.2.1; have hT := hR.2.2.2.2; have x1 := hX.1.1; have x2 := hX.2.1.1; have hk := k_256 hκ
  obtain ⟨y1, ⟨y2, y2'⟩, y3, y4⟩ := hy
  have o1 := nmX_ok hX (s := 2) (by decide) y1
  have o2 := nmX_ok hX (s := 0) (by decide) y2'
  have o3 := nmX_ok hX (s := 1) (by decide) y3
  have o4 := nmX_ok hX (s := 1) (by decide) y4
  have l1 := o1.2
  have l2 := o2.2
  have l3 := o3.2
  have l4 := o4.2
  have n1 := nameOfX xs d hκ hX hR (y := y) (s := 2) (by decide) y1
  have n2 := nameOfX xs d hκ hX hR (y := y) (s := 0) (by decide) y2'
  have n3 := nameOfX xs d hκ hX hR (y := y) (s := 1) (by decide) y3
  have n4 := nameOfX xs d hκ hX hR (y := y) (s := 1) (by decide) y4
  have f1 : wyS D y 256 66 = (y.1 : Int) - 1 := wy_66 ..
  have f2 : wyS D y 256 67 = (y.2.1 : Int) - 1 := wy_67 ..
  have f3 : wyS D y 256 68 = (y.2.2.1 : Int) - 1 := wy_68 ..
  have f4 : wyS D y 256 69 = (y.2.2.2 : Int) - 1 := wy_69 ..
  simp only [Int.cast_ofNat_Int] at n1 n2 n3 n4
  have e0 : ((0 : Nat) : Int) = 0 := rfl
  have e1 : ((1 : Nat) : Int) = 1 := rfl
  rw [c_250]
  simp (disch := omega) only [cond_true, cond_false, Bool.and_true, Bool.true_and, Bool.and_false, Bool.false_and, Int.toNat_natCast, Int.reduceToNat, bI_s, bJ_s, bV_s, bR_s, decide_true, decide_false, not_true_eq_false, not_false_eq_true, dT, dF, w_al, w_la, w_ab, w_sl, w_sb, w_dec, w_ml, w_lm, ol2i_n, aup_ne, aupE, aupJ, setc_self, setc_ne, k_256 hκ, n_257 hκ, n_258 hκ, n_259 hκ, n_260 hκ, n_261 hκ, n_262 hκ, n_263 hκ, n_264 hκ, n_265 hκ, n_266 hκ, n_267 hκ, n_268 hκ, n_269 hκ, n_270 hκ, n_271 hκ, n_272 hκ, n_273 hκ, n_274 hκ, n_275 hκ, n_276 hκ, n_277 hκ, n_278 hκ, n_279 hκ, n_280 hκ, n_281 hκ, n_282 hκ, n_283 hκ, n_284 hκ, n_285 hκ, n_286 hκ, n_287 hκ, n_288 hκ, n_289 hκ, n_290 hκ, n_291 hκ, n_292 hκ, n_293 hκ, n_294 hκ, n_295 hκ, n_296 hκ, n_297 hκ, n_298 hκ, n_299 hκ, n_300 hκ, n_301 hκ, n_302 hκ, n_303 hκ, n_304 hκ, n_305 hκ, n_306 hκ, n_307 hκ, n_308 hκ, n_309 hκ, n_310 hκ, n_311 hκ, n_312 hκ, n_313 hκ, n_314 hκ, f1, f2, f3, f4, n1, n2, n3, n4, longOf_eq xs d _ o1.1 (show (nmX X 2 y.1).length ≤ 12 by omega), longOf_eq xs d _ o2.1 (show (nmX X 0 y.2.1).length ≤ 12 by omega), longOf_eq xs d _ o3.1 (show (nmX X 1 y.2.2.1).length ≤ 12 by omega), longOf_eq xs d _ o4.1 (show (nmX X 1 y.2.2.2).length ≤ 12 by omega)]
  rw [show (nmW X y).length = (nmX X 2 y.1).length + (nmX X 0 y.2.1).length + (nmX X 1 y.2.2.1).length + (nmX X 1 y.2.2.2).length from by unfold nmW; simp only [List.length_append]; omega]
theorem nmW_wv {X : TX} (hX : TXok X) {y : WY} (hy : wvd X y) : wv (nmW X y) := by
  obtain ⟨y1, ⟨y2, y2'⟩, y3, y4⟩ := hy
  have o1 := nmX_ok hX (s := 2) (by decide) y1
  have o2 := nmX_ok hX (s := 0) (by decide) y2'
  have o3 := nmX_ok hX (s := 1) (by decide) y3
  have o4 := nmX_ok hX (s := 1) (by decide) y4
  intro a ha
  unfold nmW at ha
  simp only [List.mem_append] at ha
  rcases ha with h | h | h | h
  · exact o1.1 a h
  · exact o2.1 a h
  · exact o3.1 a h
  · exact o4.1 a h
theorem wv_app {a b : List Nat} (ha : wv a) (hb : wv b) : wv (a ++ b) := by
  intro x hx
  rcases List.mem_append.mp hx with h | h
  · exact ha x h
  · exact hb x h
theorem wayName_eq (xs : List Int) (d : Nat) {κ : aK} {D : Nat → Nat → Int} (hκ : Shp κ) {v : Nat} {X : TX} (hX : TXok X) (hR : RI D v X) {y : WY} (hy : wvd X y) (hlen : (nmW X y).length ≤ 12) : cl xs (d + 3) 252 [.inr (.inr 256)] (κ, wyS D y) = some (some (.inr (.inl (p27 (nmW X y) : Int))), (κ, wyS D y)) := by
  have hp := hR.1; have hv := hR.2.1; have hv2 := hR.2.2.1; have hT := hR.2.2.2.2; have x1 := hX.1.1; have x2 := hX.2.1.1; have hk := k_256 hκ
  obtain ⟨y1, ⟨y2, y2'⟩, y3, y4⟩ := hy
  have o1 := nmX_ok hX (s := 2) (by decide) y1
  have o2 := nmX_ok hX (s := 0) (by decide) y2'
  have o3 := nmX_ok hX (s := 1) (by decide) y3
  have o4 := nmX_ok hX (s := 1) (by decide) y4
  have hl : (nmX X 2 y.1).length + (nmX X 0 y.2.1).length + (nmX X 1 y.2.2.1).length + (nmX X 1 y.2.2.2).length ≤ 12 := by
    have : (nmW X y).length = (nmX X 2 y.1).length + (nmX X 0 y.2.1).length + (nmX X 1 y.2.2.1).length + (nmX X 1 y.2.2.2).length := by unfold nmW; simp only [List.length_append]; omega
    omega
  have n1 := nameOfX xs (d + 1) hκ hX hR (y := y) (s := 2) (by decide) y1
  have n2 := nameOfX xs (d + 1) hκ hX hR (y := y) (s := 0) (by decide) y2'
  have n3 := nameOfX xs (d + 1) hκ hX hR (y := y) (s := 1) (by decide) y3
  have n4 := nameOfX xs (d + 1) hκ hX hR (y := y) (s := 1) (by decide) y4
  have f1 : wyS D y 256 66 = (y.1 : Int) - 1 := wy_66 ..
  have f2 : wyS D y 256 67 = (y.2.1 : Int) - 1 := wy_67 ..
  have f3 : wyS D y 256 68 = (y.2.2.1 : Int) - 1 := wy_68 ..
  have f4 : wyS D y 256 69 = (y.2.2.2 : Int) - 1 := wy_69 ..
  simp only [Int.cast_ofNat_Int] at n1 n2 n3 n4
  have j1 := joined_eq xs d (κ, wyS D y) o1.1 o2.1 (by omega)
  have j2 := joined_eq xs d (κ, wyS D y) (wv_app o1.1 o2.1) o3.1 (by rw [List.length_append]; omega)
  have j3 := joined_eq xs d (κ, wyS D y) (wv_app (wv_app o1.1 o2.1) o3.1) o4.1 (by rw [List.length_append, List.length_append]; omega)
  rw [c_252]
  simp (disch := omega) only [cond_true, cond_false, Bool.and_true, Bool.true_and, Bool.and_false, Bool.false_and, Int.toNat_natCast, Int.reduceToNat, bI_s, bJ_s, bV_s, bR_s, decide_true, decide_false, not_true_eq_false, not_false_eq_true, dT, dF, w_al, w_la, w_ab, w_sl, w_sb, w_dec, w_ml, w_lm, ol2i_n, aup_ne, aupE, aupJ, setc_self, setc_ne, k_256 hκ, n_257 hκ, n_258 hκ, n_259 hκ, n_260 hκ, n_261 hκ, n_262 hκ, n_263 hκ, n_264 hκ, n_265 hκ, n_266 hκ, n_267 hκ, n_268 hκ, n_269 hκ, n_270 hκ, n_271 hκ, n_272 hκ, n_273 hκ, n_274 hκ, n_275 hκ, n_276 hκ, n_277 hκ, n_278 hκ, n_279 hκ, n_280 hκ, n_281 hκ, n_282 hκ, n_283 hκ, n_284 hκ, n_285 hκ, n_286 hκ, n_287 hκ, n_288 hκ, n_289 hκ, n_290 hκ, n_291 hκ, n_292 hκ, n_293 hκ, n_294 hκ, n_295 hκ, n_296 hκ, n_297 hκ, n_298 hκ, n_299 hκ, n_300 hκ, n_301 hκ, n_302 hκ, n_303 hκ, n_304 hκ, n_305 hκ, n_306 hκ, n_307 hκ, n_308 hκ, n_309 hκ, n_310 hκ, n_311 hκ, n_312 hκ, n_313 hκ, n_314 hκ, f1, f2, f3, f4, n1, n2, n3, n4, j1, j2, j3]
  unfold nmW
  rw [List.append_assoc, List.append_assoc]
theorem wayCode_eq (xs : List Int) (d : Nat) {κ : aK} {D : Nat → Nat → Int} (hκ : Shp κ) {v : Nat} {X : TX} (hX : TXok X) (hR : RI D v X) {y : WY} (hy : wvd X y) : cl xs (d + 1) 253 [.inr (.inr 256)] (κ, wyS D y) = some (some (.inl (cdW y : Int)), (κ, wyS D y)) := by
  have hp := hR.1; have hv := hR.2.1; have hv2 := hR.2.2.1; have hT := hR.2.2.2.2; have x1 := hX.1.1; have x2 := hX.2.1.1; have hk := k_256 hκ
  obtain ⟨y1, ⟨y2, y2'⟩, y3, y4⟩ := hy
  have n0 := xnp_le hX (s := 0) (by decide)
  have n1 := xnp_le hX (s := 1) (by decide)
  have n2 := xnp_le hX (s := 2) (by decide)
  have f1 : wyS D y 256 66 = (y.1 : Int) - 1 := wy_66 ..
  have f2 : wyS D y 256 67 = (y.2.1 : Int) - 1 := wy_67 ..
  have f3 : wyS D y 256 68 = (y.2.2.1 : Int) - 1 := wy_68 ..
  have f4 : wyS D y 256 69 = (y.2.2.2 : Int) - 1 := wy_69 ..
  have e : w32 (w32 (((1000 * y.1 + 100 * y.2.1 + 10 * y.2.2.1 : Nat) : Int) + ((y.2.2.2 : Int) - 1)) + 1) = (cdW y : Int) := by
    rw [w32_add_l, w32_id (by omega) (by omega)]
    unfold cdW
    omega
  rw [c_253]
  simp (disch := omega) only [cond_true, cond_false, Bool.and_true, Bool.true_and, Bool.and_false, Bool.false_and, Int.toNat_natCast, Int.reduceToNat, bI_s, bJ_s, bV_s, bR_s, decide_true, decide_false, not_true_eq_false, not_false_eq_true, dT, dF, w_al, w_la, w_ab, w_sl, w_sb, w_dec, w_ml, w_lm, ol2i_n, aup_ne, aupE, aupJ, setc_self, setc_ne, k_256 hκ, n_257 hκ, n_258 hκ, n_259 hκ, n_260 hκ, n_261 hκ, n_262 hκ, n_263 hκ, n_264 hκ, n_265 hκ, n_266 hκ, n_267 hκ, n_268 hκ, n_269 hκ, n_270 hκ, n_271 hκ, n_272 hκ, n_273 hκ, n_274 hκ, n_275 hκ, n_276 hκ, n_277 hκ, n_278 hκ, n_279 hκ, n_280 hκ, n_281 hκ, n_282 hκ, n_283 hκ, n_284 hκ, n_285 hκ, n_286 hκ, n_287 hκ, n_288 hκ, n_289 hκ, n_290 hκ, n_291 hκ, n_292 hκ, n_293 hκ, n_294 hκ, n_295 hκ, n_296 hκ, n_297 hκ, n_298 hκ, n_299 hκ, n_300 hκ, n_301 hκ, n_302 hκ, n_303 hκ, n_304 hκ, n_305 hκ, n_306 hκ, n_307 hκ, n_308 hκ, n_309 hκ, n_310 hκ, n_311 hκ, n_312 hκ, n_313 hκ, n_314 hκ, f1, f2, f3, f4, w_m1, e]
theorem makes_eq (xs : List Int) (d : Nat) {κ : aK} {D : Nat → Nat → Int} (hκ : Shp κ) {v : Nat} {X : TX} (hX : TXok X) (hR : RI D v X) {y : WY} (hy : wvd X y) {w : List Nat} (hw : wok w) : cl xs (d + 4) 254 [.inr (.inr 256), .inr (.inl (p27 w : Int))] (κ, wyS D y) = some (some (.inl (if nmW X y = w then 1 else 0)), (κ, wyS D y)) := by
  have hp := hR.1; have hv := hR.2.1; have hv2 := hR.2.2.1; have hT := hR.2.2.2.2; have x1 := hX.1.1; have x2 := hX.2.1.1; have hk := k_256 hκ
  have h8 := hw.2
  have hwv := nmW_wv hX hy
  rw [c_254]
  simp (disch := omega) only [cond_true, cond_false, Bool.and_true, Bool.true_and, Bool.and_false, Bool.false_and, Int.toNat_natCast, Int.reduceToNat, bI_s, bJ_s, bV_s, bR_s, decide_true, decide_false, not_true_eq_false, not_false_eq_true, dT, dF, w_al, w_la, w_ab, w_sl, w_sb, w_dec, w_ml, w_lm, ol2i_n, aup_ne, aupE, aupJ, setc_self, setc_ne, k_256 hκ, n_257 hκ, n_258 hκ, n_259 hκ, n_260 hκ, n_261 hκ, n_262 hκ, n_263 hκ, n_264 hκ, n_265 hκ, n_266 hκ, n_267 hκ, n_268 hκ, n_269 hκ, n_270 hκ, n_271 hκ, n_272 hκ, n_273 hκ, n_274 hκ, n_275 hκ, n_276 hκ, n_277 hκ, n_278 hκ, n_279 hκ, n_280 hκ, n_281 hκ, n_282 hκ, n_283 hκ, n_284 hκ, n_285 hκ, n_286 hκ, n_287 hκ, n_288 hκ, n_289 hκ, n_290 hκ, n_291 hκ, n_292 hκ, n_293 hκ, n_294 hκ, n_295 hκ, n_296 hκ, n_297 hκ, n_298 hκ, n_299 hκ, n_300 hκ, n_301 hκ, n_302 hκ, n_303 hκ, n_304 hκ, n_305 hκ, n_306 hκ, n_307 hκ, n_308 hκ, n_309 hκ, n_310 hκ, n_311 hκ, n_312 hκ, n_313 hκ, n_314 hκ, wayLong_eq xs (d + 1) hκ hX hR hy, longOf_eq xs (d + 2) _ hw.1 (show w.length ≤ 12 by omega)]
  by_cases hl : (nmW X y).length = w.length
  · simp (disch := omega) only [cond_true, cond_false, Bool.and_true, Bool.true_and, Bool.and_false, Bool.false_and, Int.toNat_natCast, Int.reduceToNat, bI_s, bJ_s, bV_s, bR_s, decide_true, decide_false, not_true_eq_false, not_false_eq_true, dT, dF, w_al, w_la, w_ab, w_sl, w_sb, w_dec, w_ml, w_lm, ol2i_n, aup_ne, aupE, aupJ, setc_self, setc_ne, k_256 hκ, n_257 hκ, n_258 hκ, n_259 hκ, n_260 hκ, n_261 hκ, n_262 hκ, n_263 hκ, n_264 hκ, n_265 hκ, n_266 hκ, n_267 hκ, n_268 hκ, n_269 hκ, n_270 hκ, n_271 hκ, n_272 hκ, n_273 hκ, n_274 hκ, n_275 hκ, n_276 hκ, n_277 hκ, n_278 hκ, n_279 hκ, n_280 hκ, n_281 hκ, n_282 hκ, n_283 hκ, n_284 hκ, n_285 hκ, n_286 hκ, n_287 hκ, n_288 hκ, n_289 hκ, n_290 hκ, n_291 hκ, n_292 hκ, n_293 hκ, n_294 hκ, n_295 hκ, n_296 hκ, n_297 hκ, n_298 hκ, n_299 hκ, n_300 hκ, n_301 hκ, n_302 hκ, n_303 hκ, n_304 hκ, n_305 hκ, n_306 hκ, n_307 hκ, n_308 hκ, n_309 hκ, n_310 hκ, n_311 hκ, n_312 hκ, n_313 hκ, n_314 hκ, wayName_eq xs d hκ hX hR hy (show (nmW X y).length ≤ 12 by omega), olcmp_eq]
    by_cases he : nmW X y = w
    · rw [if_pos he, he]
      simp (disch := omega) only [cond_true, cond_false, Bool.and_true, Bool.true_and, Bool.and_false, Bool.false_and, Int.toNat_natCast, Int.reduceToNat, bI_s, bJ_s, bV_s, bR_s, decide_true, decide_false, not_true_eq_false, not_false_eq_true, dT, dF, w_al, w_la, w_ab, w_sl, w_sb, w_dec, w_ml, w_lm, ol2i_n, aup_ne, aupE, aupJ, setc_self, setc_ne]
    · have := p27_ne hwv hw.1 he
      rw [if_neg he]
      simp (disch := omega) only [cond_true, cond_false, Bool.and_true, Bool.true_and, Bool.and_false, Bool.false_and, Int.toNat_natCast, Int.reduceToNat, bI_s, bJ_s, bV_s, bR_s, decide_true, decide_false, not_true_eq_false, not_false_eq_true, dT, dF, w_al, w_la, w_ab, w_sl, w_sb, w_dec, w_ml, w_lm, ol2i_n, aup_ne, aupE, aupJ, setc_self, setc_ne]
  · rw [if_neg (fun q => hl (by rw [q]))]
    simp (disch := omega) only [cond_true, cond_false, Bool.and_true, Bool.true_and, Bool.and_false, Bool.false_and, Int.toNat_natCast, Int.reduceToNat, bI_s, bJ_s, bV_s, bR_s, decide_true, decide_false, not_true_eq_false, not_false_eq_true, dT, dF, w_al, w_la, w_ab, w_sl, w_sb, w_dec, w_ml, w_lm, ol2i_n, aup_ne, aupE, aupJ, setc_self, setc_ne]
def fwy (X : TX) (w : List Nat) (L : List WY) : List Nat := (L.filter (fun y => decide (nmW X y = w))).map cdW
theorem fwy_pos {X : TX} {w : List Nat} {y : WY} {L : List WY} (h : nmW X y = w) : fwy X w (y :: L) = cdW y :: fwy X w L := by
  unfold fwy
  rw [List.filter_cons_of_pos (by simpa using h), List.map_cons]
theorem fwy_neg {X : TX} {w : List Nat} {y : WY} {L : List WY} (h : ¬ nmW X y = w) : fwy X w (y :: L) = fwy X w L := by
  unfold fwy
  rw [List.filter_cons_of_neg (by simpa using h)]
/-- the i-th of a list from n on; how many for -1 -/
def nthW (C : List Nat) (n : Nat) (i : Int) : Int := if i = -1 then ((n + C.length : Nat) : Int) else if (n : Int) ≤ i ∧ i < ((n + C.length : Nat) : Int) then ((C.getD (i.toNat - n) 0 : Nat) : Int) else -1
theorem nthW_skip {C : List Nat} {n : Nat} {a : Nat} {i : Int} (h : ¬ (n : Int) = i) : nthW (a :: C) n i = nthW C (n + 1) i := by
  unfold nthW
  rw [List.length_cons]
  by_cases h1 : i = -1
  · rw [if_pos h1, if_pos h1]
    congr 1
    omega
  · rw [if_neg h1, if_neg h1]
    by_cases h2 : (n : Int) ≤ i ∧ i < ((n + (C.length + 1) : Nat) : Int)
    · rw [if_pos h2, if_pos (by omega)]
      obtain ⟨k, hk⟩ : ∃ k, i.toNat - n = k + 1 := ⟨i.toNat - n - 1, by omega⟩
      rw [hk, show i.toNat - (n + 1) = k by omega]
      rfl
    · rw [if_neg h2, if_neg (by omega)]
theorem nthW_hit {C : List Nat} {n : Nat} {a : Nat} : nthW (a :: C) n (n : Int) = (a : Int) := by
  unfold nthW
  rw [List.length_cons, if_neg (by omega), if_pos (by omega), Int.toNat_natCast, Nat.sub_self]
  rfl
theorem rway_step (xs : List Int) (d : Nat) {κ : aK} {D : Nat → Nat → Int} (hκ : Shp κ) {v : Nat} {X : TX} (hX : TXok X) (hR : RI D v X) {w : List Nat} (hw : wok w) (v1 i : Int) : ∀ (L : List WY) (y : WY) (n : Nat) (u4 : Option aV), wvd X y → WL X y L → n + L.length ≤ 10000 → (i = -1 ∨ (n : Int) ≤ i) → ∃ a b c z : Int, ev xs (d + 4) mm_255 37 [some (.inr (.inr 256)), some (.inl v1), some (.inl i), some (.inr (.inl (p27 w : Int))), u4, some (.inl (n : Int))] [] (κ, wyS D y) = some (some (.inl (nthW (fwy X w L) n i)), (κ, wyD D a b c z)) := by
  have hk := k_256 hκ
  intro L
  induction L with
  | nil =>
    intro y n u4 hy hL hn hi
    obtain ⟨a, b, c, z, e⟩ := next_none xs (d + 3) hκ hX hR hy hL
    refine ⟨a, b, c, z, ?_⟩
    rw [q_255_37]
    rw [show fwy X w [] = [] from rfl]
    unfold nthW
    by_cases h1 : i = -1
    · rw [if_pos h1]
      simp (disch := omega) only [cond_true, cond_false, Bool.and_true, Bool.true_and, Bool.and_false, Bool.false_and, Int.toNat_natCast, Int.reduceToNat, bI_s, bJ_s, bV_s, bR_s, decide_true, decide_false, not_true_eq_false, not_false_eq_true, dT, dF, w_al, w_la, w_ab, w_sl, w_sb, w_dec, w_ml, w_lm, ol2i_n, aup_ne, aupE, aupJ, setc_self, setc_ne, k_256 hκ, n_257 hκ, n_258 hκ, n_259 hκ, n_260 hκ, n_261 hκ, n_262 hκ, n_263 hκ, n_264 hκ, n_265 hκ, n_266 hκ, n_267 hκ, n_268 hκ, n_269 hκ, n_270 hκ, n_271 hκ, n_272 hκ, n_273 hκ, n_274 hκ, n_275 hκ, n_276 hκ, n_277 hκ, n_278 hκ, n_279 hκ, n_280 hκ, n_281 hκ, n_282 hκ, n_283 hκ, n_284 hκ, n_285 hκ, n_286 hκ, n_287 hκ, n_288 hκ, n_289 hκ, n_290 hκ, n_291 hκ, n_292 hκ, n_293 hκ, n_294 hκ, n_295 hκ, n_296 hκ, n_297 hκ, n_298 hκ, n_299 hκ, n_300 hκ, n_301 hκ, n_302 hκ, n_303 hκ, n_304 hκ, n_305 hκ, n_306 hκ, n_307 hκ, n_308 hκ, n_309 hκ, n_310 hκ, n_311 hκ, n_312 hκ, n_313 hκ, n_314 hκ, e]
      rfl
    · rw [if_neg h1, if_neg (show ¬ ((_ : Int) ≤ i ∧ i < ((_ + ([] : List Nat).length : Nat) : Int)) by rw [List.length_nil]; omega)]
      simp (disch := omega) only [cond_true, cond_false, Bool.and_true, Bool.true_and, Bool.and_false, Bool.false_and, Int.toNat_natCast, Int.reduceToNat, bI_s, bJ_s, bV_s, bR_s, decide_true, decide_false, not_true_eq_false, not_false_eq_true, dT, dF, w_al, w_la, w_ab, w_sl, w_sb, w_dec, w_ml, w_lm, ol2i_n, aup_ne, aupE, aupJ, setc_self, setc_ne, k_256 hκ, n_257 hκ, n_258 hκ, n_259 hκ, n_260 hκ, n_261 hκ, n_262 hκ, n_263 hκ, n_264 hκ, n_265 hκ, n_266 hκ, n_267 hκ, n_268 hκ, n_269 hκ, n_270 hκ, n_271 hκ, n_272 hκ, n_273 hκ, n_274 hκ, n_275 hκ, n_276 hκ, n_277 hκ, n_278 hκ, n_279 hκ, n_280 hκ, n_281 hκ, n_282 hκ, n_283 hκ, n_284 hκ, n_285 hκ, n_286 hκ, n_287 hκ, n_288 hκ, n_289 hκ, n_290 hκ, n_291 hκ, n_292 hκ, n_293 hκ, n_294 hκ, n_295 hκ, n_296 hκ, n_297 hκ, n_298 hκ, n_299 hκ, n_300 hκ, n_301 hκ, n_302 hκ, n_303 hκ, n_304 hκ, n_305 hκ, n_306 hκ, n_307 hκ, n_308 hκ, n_309 hκ, n_310 hκ, n_311 hκ, n_312 hκ, n_313 hκ, n_314 hκ, e]
  | cons y' L ih =>
    intro y n u4 hy hL hn hi
    have e := next_some xs (d + 3) hκ hX hR hy hL.1
    have hy' := nxt_wvd hy hL.1
    have mk := makes_eq xs d hκ hX hR hy' hw
    rw [List.length_cons] at hn
    rw [q_255_37]
    by_cases hm : nmW X y' = w
    · rw [fwy_pos hm]
      rw [if_pos hm] at mk
      by_cases hi2 : (n : Int) = i
      · refine ⟨(y'.1 : Int) - 1, (y'.2.1 : Int) - 1, (y'.2.2.1 : Int) - 1, (y'.2.2.2 : Int) - 1, ?_⟩
        rw [← hi2, nthW_hit]
        simp (disch := omega) only [cond_true, cond_false, Bool.and_true, Bool.true_and, Bool.and_false, Bool.false_and, Int.toNat_natCast, Int.reduceToNat, bI_s, bJ_s, bV_s, bR_s, decide_true, decide_false, not_true_eq_false, not_false_eq_true, dT, dF, w_al, w_la, w_ab, w_sl, w_sb, w_dec, w_ml, w_lm, ol2i_n, aup_ne, aupE, aupJ, setc_self, setc_ne, k_256 hκ, n_257 hκ, n_258 hκ, n_259 hκ, n_260 hκ, n_261 hκ, n_262 hκ, n_263 hκ, n_264 hκ, n_265 hκ, n_266 hκ, n_267 hκ, n_268 hκ, n_269 hκ, n_270 hκ, n_271 hκ, n_272 hκ, n_273 hκ, n_274 hκ, n_275 hκ, n_276 hκ, n_277 hκ, n_278 hκ, n_279 hκ, n_280 hκ, n_281 hκ, n_282 hκ, n_283 hκ, n_284 hκ, n_285 hκ, n_286 hκ, n_287 hκ, n_288 hκ, n_289 hκ, n_290 hκ, n_291 hκ, n_292 hκ, n_293 hκ, n_294 hκ, n_295 hκ, n_296 hκ, n_297 hκ, n_298 hκ, n_299 hκ, n_300 hκ, n_301 hκ, n_302 hκ, n_303 hκ, n_304 hκ, n_305 hκ, n_306 hκ, n_307 hκ, n_308 hκ, n_309 hκ, n_310 hκ, n_311 hκ, n_312 hκ, n_313 hκ, n_314 hκ, e, mk, wayCode_eq xs (d + 3) hκ hX hR hy']
        rfl
      · obtain ⟨a, b, c, z, e2⟩ := ih y' (n + 1) (acl u4) hy' hL.2 (by omega) (by omega)
        refine ⟨a, b, c, z, ?_⟩
        rw [nthW_skip hi2]
        simp (disch := omega) only [cond_true, cond_false, Bool.and_true, Bool.true_and, Bool.and_false, Bool.false_and, Int.toNat_natCast, Int.reduceToNat, bI_s, bJ_s, bV_s, bR_s, decide_true, decide_false, not_true_eq_false, not_false_eq_true, dT, dF, w_al, w_la, w_ab, w_sl, w_sb, w_dec, w_ml, w_lm, ol2i_n, aup_ne, aupE, aupJ, setc_self, setc_ne, k_256 hκ, n_257 hκ, n_258 hκ, n_259 hκ, n_260 hκ, n_261 hκ, n_262 hκ, n_263 hκ, n_264 hκ, n_265 hκ, n_266 hκ, n_267 hκ, n_268 hκ, n_269 hκ, n_270 hκ, n_271 hκ, n_272 hκ, n_273 hκ, n_274 hκ, n_275 hκ, n_276 hκ, n_277 hκ, n_278 hκ, n_279 hκ, n_280 hκ, n_281 hκ, n_282 hκ, n_283 hκ, n_284 hκ, n_285 hκ, n_286 hκ, n_287 hκ, n_288 hκ, n_289 hκ, n_290 hκ, n_291 hκ, n_292 hκ, n_293 hκ, n_294 hκ, n_295 hκ, n_296 hκ, n_297 hκ, n_298 hκ, n_299 hκ, n_300 hκ, n_301 hκ, n_302 hκ, n_303 hκ, n_304 hκ, n_305 hκ, n_306 hκ, n_307 hκ, n_308 hκ, n_309 hκ, n_310 hκ, n_311 hκ, n_312 hκ, n_313 hκ, n_314 hκ, e, mk, e2]
    · obtain ⟨a, b, c, z, e2⟩ := ih y' n u4 hy' hL.2 (by omega) hi
      refine ⟨a, b, c, z, ?_⟩
      rw [fwy_neg hm]
      rw [if_neg hm] at mk
      simp (disch := omega) only [cond_true, cond_false, Bool.and_true, Bool.true_and, Bool.and_false, Bool.false_and, Int.toNat_natCast, Int.reduceToNat, bI_s, bJ_s, bV_s, bR_s, decide_true, decide_false, not_true_eq_false, not_false_eq_true, dT, dF, w_al, w_la, w_ab, w_sl, w_sb, w_dec, w_ml, w_lm, ol2i_n, aup_ne, aupE, aupJ, setc_self, setc_ne, k_256 hκ, n_257 hκ, n_258 hκ, n_259 hκ, n_260 hκ, n_261 hκ, n_262 hκ, n_263 hκ, n_264 hκ, n_265 hκ, n_266 hκ, n_267 hκ, n_268 hκ, n_269 hκ, n_270 hκ, n_271 hκ, n_272 hκ, n_273 hκ, n_274 hκ, n_275 hκ, n_276 hκ, n_277 hκ, n_278 hκ, n_279 hκ, n_280 hκ, n_281 hκ, n_282 hκ, n_283 hκ, n_284 hκ, n_285 hκ, n_286 hκ, n_287 hκ, n_288 hκ, n_289 hκ, n_290 hκ, n_291 hκ, n_292 hκ, n_293 hκ, n_294 hκ, n_295 hκ, n_296 hκ, n_297 hκ, n_298 hκ, n_299 hκ, n_300 hκ, n_301 hκ, n_302 hκ, n_303 hκ, n_304 hκ, n_305 hκ, n_306 hκ, n_307 hκ, n_308 hκ, n_309 hκ, n_310 hκ, n_311 hκ, n_312 hκ, n_313 hκ, n_314 hκ, e, mk, e2]
