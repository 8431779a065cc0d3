/-! way by the reference; findsWay. -/
theorem waF_len (X : TX) (h r e : Nat) : (waF X h r e).length = xnp X 1 := by unfold waF; rw [List.length_map, List.length_range']
theorem waE_len {X : TX} (hX : TXok X) (h r : Nat) : (waE X h r).length ≤ 43 := by
  have h6 : xnp X 1 ≤ 6 := (hX.2.2.1 1 (by decide)).1
  have := flat_len (f := waG X h r) (c := 7) (fun e => by unfold waG; rw [List.length_cons, waF_len]; omega) (List.range' 1 (xnp X 1))
  rw [List.length_range'] at this
  unfold waE
  rw [List.length_cons]
  omega
theorem ways_len {X : TX} (hX : TXok X) : (waysX X).length ≤ 1720 := by
  have h8 := xnp_le hX (s := 0) (by decide)
  have h4 : xnp X 2 ≤ 4 := (hX.2.2.1 2 (by decide)).1
  have := flat_len (f := waR X) (c := 344) (fun h => by
    have := flat_len (f := waE X h) (waE_len hX h) (List.range' 1 (xnp X 0))
    rw [List.length_range'] at this
    unfold waR
    omega) (List.range' 0 (xnp X 2 + 1))
  rw [List.length_range'] at this
  unfold waysX
  omega
/-- from the first way on -/
theorem ways_go {X : TX} (hr : 1 ≤ xnp X 0) : ∃ L, waysX X = (0, 1, 0, 0) :: L ∧ WL X (0, 1, 0, 0) L ∧ wvd X (0, 1, 0, 0) := by
  obtain ⟨L, h1, h2⟩ := ways_WL (X := X) hr
  exact ⟨L, h1, h2, by show 0 ≤ _; omega, ⟨by show 1 ≤ 1; omega, hr⟩, by show 0 ≤ _; omega, by show 0 ≤ _; omega⟩
theorem rway_go (xs : List Int) (d : Nat) {κ : aK} {D : Nat → Nat → Int} (hκ : Shp κ) {v : Nat} {X : TX} (hX : TXok X) (hR : RI D v X) {w : List Nat} (hw : wok w) (v1 i : Int) (hi : -1 ≤ i) (z0 : Int) : ∃ a b c z : Int, ev xs (d + 4) mm_255 37 [some (.inr (.inr 256)), some (.inl v1), some (.inl i), some (.inr (.inl (p27 w : Int))), none, some (.inl 0)] [] (κ, wyD D (-1) (-1) (-9) z0) = some (some (.inl (nthW (cdA X w) 0 i)), (κ, wyD D a b c z)) := by
  have hk := k_256 hκ
  have hln := ways_len hX
  rw [← cdA_eq hX]
  by_cases hr : 1 ≤ xnp X 0
  · obtain ⟨L, h1, h2, h3⟩ := ways_go (X := X) hr
    rw [h1] at hln ⊢
    rw [List.length_cons] at hln
    have e := next_first xs (d + 3) hκ hX hR z0 hr
    have mk := makes_eq xs d hκ hX hR h3 hw
    rw [q_255_37]
    show ∃ a b c z : Int, _ = some (some (Sum.inl (nthW (fwy X w ((0, 1, 0, 0) :: L)) 0 i)), _)
    by_cases hm : nmW X (0, 1, 0, 0) = w
    · rw [fwy_pos hm]
      rw [if_pos hm] at mk
      by_cases hi2 : ((0 : Nat) : Int) = i
      · refine ⟨((0 : Nat) : Int) - 1, ((1 : Nat) : Int) - 1, ((0 : Nat) : Int) - 1, ((0 : Nat) : Int) - 1, ?_⟩
        rw [← hi2, nthW_hit]
        simp (disch := omega) only [cond_true, cond_false, Bool.and_true, Bool.true_and, Bool.and_false, Bool.false_and, Int.toNat_natCast, Int.reduceToNat, bI_s, bJ_s, bV_s, bR_s, decide_true, decide_false, not_true_eq_false, not_false_eq_true, dT, dF, w_al, w_la, w_ab, w_sl, w_sb, w_dec, w_ml, w_lm, ol2i_n, aup_ne, aupE, aupJ, setc_self, setc_ne, k_256 hκ, n_257 hκ, n_258 hκ, n_259 hκ, n_260 hκ, n_261 hκ, n_262 hκ, n_263 hκ, n_264 hκ, n_265 hκ, n_266 hκ, n_267 hκ, n_268 hκ, n_269 hκ, n_270 hκ, n_271 hκ, n_272 hκ, n_273 hκ, n_274 hκ, n_275 hκ, n_276 hκ, n_277 hκ, n_278 hκ, n_279 hκ, n_280 hκ, n_281 hκ, n_282 hκ, n_283 hκ, n_284 hκ, n_285 hκ, n_286 hκ, n_287 hκ, n_288 hκ, n_289 hκ, n_290 hκ, n_291 hκ, n_292 hκ, n_293 hκ, n_294 hκ, n_295 hκ, n_296 hκ, n_297 hκ, n_298 hκ, n_299 hκ, n_300 hκ, n_301 hκ, n_302 hκ, n_303 hκ, n_304 hκ, n_305 hκ, n_306 hκ, n_307 hκ, n_308 hκ, n_309 hκ, n_310 hκ, n_311 hκ, n_312 hκ, n_313 hκ, n_314 hκ, e, mk, wayCode_eq xs (d + 3) hκ hX hR h3]
        rfl
      · obtain ⟨a, b, c, z, e2⟩ := rway_step xs d hκ hX hR hw v1 i L (0, 1, 0, 0) (0 + 1) none h3 h2 (by omega) (by omega)
        refine ⟨a, b, c, z, ?_⟩
        rw [nthW_skip hi2]
        have ew : w32 (0 + 1) = ((0 + 1 : Nat) : Int) := rfl
        simp (disch := omega) only [k_256 hκ, n_257 hκ, n_258 hκ, n_259 hκ, n_260 hκ, n_261 hκ, n_262 hκ, n_263 hκ, n_264 hκ, n_265 hκ, n_266 hκ, n_267 hκ, n_268 hκ, n_269 hκ, n_270 hκ, n_271 hκ, n_272 hκ, n_273 hκ, n_274 hκ, n_275 hκ, n_276 hκ, n_277 hκ, n_278 hκ, n_279 hκ, n_280 hκ, n_281 hκ, n_282 hκ, n_283 hκ, n_284 hκ, n_285 hκ, n_286 hκ, n_287 hκ, n_288 hκ, n_289 hκ, n_290 hκ, n_291 hκ, n_292 hκ, n_293 hκ, n_294 hκ, n_295 hκ, n_296 hκ, n_297 hκ, n_298 hκ, n_299 hκ, n_300 hκ, n_301 hκ, n_302 hκ, n_303 hκ, n_304 hκ, n_305 hκ, n_306 hκ, n_307 hκ, n_308 hκ, n_309 hκ, n_310 hκ, n_311 hκ, n_312 hκ, n_313 hκ, n_314 hκ, cond_true, cond_false, Bool.and_true, bI_s, dT, dF, e, mk, acl, ew, e2]
    · obtain ⟨a, b, c, z, e2⟩ := rway_step xs d hκ hX hR hw v1 i L (0, 1, 0, 0) 0 none h3 h2 (by omega) (by omega)
      refine ⟨a, b, c, z, ?_⟩
      rw [fwy_neg hm]
      rw [if_neg hm] at mk
      simp (disch := omega) only [cond_true, cond_false, Bool.and_true, Bool.true_and, Bool.and_false, Bool.false_and, Int.toNat_natCast, Int.reduceToNat, bI_s, bJ_s, bV_s, bR_s, decide_true, decide_false, not_true_eq_false, not_false_eq_true, dT, dF, w_al, w_la, w_ab, w_sl, w_sb, w_dec, w_ml, w_lm, ol2i_n, aup_ne, aupE, aupJ, setc_self, setc_ne, k_256 hκ, n_257 hκ, n_258 hκ, n_259 hκ, n_260 hκ, n_261 hκ, n_262 hκ, n_263 hκ, n_264 hκ, n_265 hκ, n_266 hκ, n_267 hκ, n_268 hκ, n_269 hκ, n_270 hκ, n_271 hκ, n_272 hκ, n_273 hκ, n_274 hκ, n_275 hκ, n_276 hκ, n_277 hκ, n_278 hκ, n_279 hκ, n_280 hκ, n_281 hκ, n_282 hκ, n_283 hκ, n_284 hκ, n_285 hκ, n_286 hκ, n_287 hκ, n_288 hκ, n_289 hκ, n_290 hκ, n_291 hκ, n_292 hκ, n_293 hκ, n_294 hκ, n_295 hκ, n_296 hκ, n_297 hκ, n_298 hκ, n_299 hκ, n_300 hκ, n_301 hκ, n_302 hκ, n_303 hκ, n_304 hκ, n_305 hκ, n_306 hκ, n_307 hκ, n_308 hκ, n_309 hκ, n_310 hκ, n_311 hκ, n_312 hκ, n_313 hκ, n_314 hκ, e, mk]
      exact e2
  · obtain ⟨a, b, c, z, e⟩ := next_first0 xs (d + 3) hκ hX hR z0 (by omega)
    refine ⟨a, b, c, z, ?_⟩
    rw [q_255_37, ways_nil (by omega)]
    show _ = some (some (Sum.inl (nthW [] 0 i)), _)
    unfold nthW
    by_cases h1 : i = -1
    · rw [if_pos h1]
      simp (disch := omega) only [cond_true, cond_false, Bool.and_true, Bool.true_and, Bool.and_false, Bool.false_and, Int.toNat_natCast, Int.reduceToNat, bI_s, bJ_s, bV_s, bR_s, decide_true, decide_false, not_true_eq_false, not_false_eq_true, dT, dF, w_al, w_la, w_ab, w_sl, w_sb, w_dec, w_ml, w_lm, ol2i_n, aup_ne, aupE, aupJ, setc_self, setc_ne, k_256 hκ, n_257 hκ, n_258 hκ, n_259 hκ, n_260 hκ, n_261 hκ, n_262 hκ, n_263 hκ, n_264 hκ, n_265 hκ, n_266 hκ, n_267 hκ, n_268 hκ, n_269 hκ, n_270 hκ, n_271 hκ, n_272 hκ, n_273 hκ, n_274 hκ, n_275 hκ, n_276 hκ, n_277 hκ, n_278 hκ, n_279 hκ, n_280 hκ, n_281 hκ, n_282 hκ, n_283 hκ, n_284 hκ, n_285 hκ, n_286 hκ, n_287 hκ, n_288 hκ, n_289 hκ, n_290 hκ, n_291 hκ, n_292 hκ, n_293 hκ, n_294 hκ, n_295 hκ, n_296 hκ, n_297 hκ, n_298 hκ, n_299 hκ, n_300 hκ, n_301 hκ, n_302 hκ, n_303 hκ, n_304 hκ, n_305 hκ, n_306 hκ, n_307 hκ, n_308 hκ, n_309 hκ, n_310 hκ, n_311 hκ, n_312 hκ, n_313 hκ, n_314 hκ, e]
      rfl
    · rw [if_neg h1, if_neg (show ¬ ((_ : Int) ≤ i ∧ i < ((_ + ([] : List Nat).length : Nat) : Int)) by rw [List.length_nil]; omega)]
      simp (disch := omega) only [cond_true, cond_false, Bool.and_true, Bool.true_and, Bool.and_false, Bool.false_and, Int.toNat_natCast, Int.reduceToNat, bI_s, bJ_s, bV_s, bR_s, decide_true, decide_false, not_true_eq_false, not_false_eq_true, dT, dF, w_al, w_la, w_ab, w_sl, w_sb, w_dec, w_ml, w_lm, ol2i_n, aup_ne, aupE, aupJ, setc_self, setc_ne, k_256 hκ, n_257 hκ, n_258 hκ, n_259 hκ, n_260 hκ, n_261 hκ, n_262 hκ, n_263 hκ, n_264 hκ, n_265 hκ, n_266 hκ, n_267 hκ, n_268 hκ, n_269 hκ, n_270 hκ, n_271 hκ, n_272 hκ, n_273 hκ, n_274 hκ, n_275 hκ, n_276 hκ, n_277 hκ, n_278 hκ, n_279 hκ, n_280 hκ, n_281 hκ, n_282 hκ, n_283 hκ, n_284 hκ, n_285 hκ, n_286 hκ, n_287 hκ, n_288 hκ, n_289 hκ, n_290 hκ, n_291 hκ, n_292 hκ, n_293 hκ, n_294 hκ, n_295 hκ, n_296 hκ, n_297 hκ, n_298 hκ, n_299 hκ, n_300 hκ, n_301 hκ, n_302 hκ, n_303 hκ, n_304 hκ, n_305 hκ, n_306 hκ, n_307 hκ, n_308 hκ, n_309 hκ, n_310 hκ, n_311 hκ, n_312 hκ, n_313 hκ, n_314 hκ, e]
def qWay (X : TX) (S : ST) (w i : Int) : Int := if (0 ≤ w ∧ w < (xnw X : Int)) ∧ -1 ≤ i then nthW (cdA X (rbX X (sord S) (son S) 7 (sW S w.toNat))) 0 i else -1
theorem rway (xs : List Int) (d : Nat) {κ : aK} {D : Nat → Nat → Int} (hκ : Shp κ) {v : Nat} {X : TX} (hX : TXok X) (hR : RI D v X) {S : ST} (hS : STok X S) (hn : RowR (D 301) X S) (w i : Int) : ∃ D', RSame D D' ∧ cl xs (d + 5) 255 [.inr (.inr 256), .inl w, .inl i] (κ, D) = some (some (.inl (qWay X S w i)), (κ, D')) := by
  have hp := hR.1; have hv := hR.2.1; have hv2 := hR.2.2.1; have hT := hR.2.2.2.2; have x1 := hX.1.1; have x2 := hX.2.1.1; have hk := k_256 hκ
  have iw := isWordX xs (d + 2) hκ hX hR (g := D 303) w
  rw [setc_id] at iw
  rw [c_255]
  unfold qWay
  by_cases h : (0 ≤ w ∧ w < (xnw X : Int)) ∧ -1 ≤ i
  · rw [if_pos h]
    rw [if_pos h.1] at iw
    obtain ⟨n, rfl⟩ := Int.eq_ofNat_of_zero_le h.1.1
    have hw := (hS.2.2.2.1 n (by omega))
    have hwr := rbX_wok hX hS.2.1 (son S) 7 hw.1
    obtain ⟨g', hg', e⟩ := runOfX xs d hκ hX (hR.s302 _) hS (D := cpD D) (cpD_row hX hn) hR.2.2.2.1 hw.1
    have hs2 : RSame D (setc (cpD D) 303 g') := RSame.q hg'
    have hR2 := hR.same hs2
    have fe := first_eq xs (d + 3) hκ (D := setc (cpD D) 303 g') (setc (cpD D) 303 g' 256 66) (setc (cpD D) 303 g' 256 67) (setc (cpD D) 303 g' 256 68) (setc (cpD D) 303 g' 256 69)
    rw [wy_id] at fe
    obtain ⟨a, b, c, z, e2⟩ := rway_go xs d hκ hX hR2 hwr (n : Int) i h.2 (setc (cpD D) 303 g' 256 69)
    refine ⟨_, hs2.trans (wy_same hs2.2.2 a b c z), ?_⟩
    simp (disch := omega) only [cond_true, cond_false, Bool.and_true, Bool.true_and, Bool.and_false, Bool.false_and, Int.toNat_natCast, Int.reduceToNat, bI_s, bJ_s, bV_s, bR_s, decide_true, decide_false, not_true_eq_false, not_false_eq_true, dT, dF, w_al, w_la, w_ab, w_sl, w_sb, w_dec, w_ml, w_lm, ol2i_n, aup_ne, aupE, aupJ, setc_self, setc_ne, pr_1 hp, pr_3 hp, pr_5 hp, pr_6 hp, pr_7 hp, pr_8 hp, pr_9 hp, pr_20 hp, pr_21 hp, pr_22 hp, pr_23 hp, pr_24 hp, pr_25 hp, pr_26 hp, pr_27 hp, pr_28 hp, pr_29 hp, pr_30 hp, pr_31 hp, pr_32 hp, pr_33 hp, pr_34 hp, pr_35 hp, pr_36 hp, pr_37 hp, pr_38 hp, pr_39 hp, pr_40 hp, pr_41 hp, pr_42 hp, pr_43 hp, pr_44 hp, pr_45 hp, pr_46 hp, pr_48 hp, pr_49 hp, pr_50 hp, pr_51 hp, pr_52 hp, pr_54 hp, pr_55 hp, pr_58 hp, pr_60 hp, pr_61 hp, pr_63 hp, pr_64 hp, pr_65 hp, pr_71 hp, pr_72 hp, pr_73 hp, pr_75 hp, pr_76 hp, pr_78 hp, pr_80 hp, pr_81 hp, pr_82 hp, pr_83 hp, pr_84 hp, k_256 hκ, n_257 hκ, n_258 hκ, n_259 hκ, n_260 hκ, n_261 hκ, n_262 hκ, n_263 hκ, n_264 hκ, n_265 hκ, n_266 hκ, n_267 hκ, n_268 hκ, n_269 hκ, n_270 hκ, n_271 hκ, n_272 hκ, n_273 hκ, n_274 hκ, n_275 hκ, n_276 hκ, n_277 hκ, n_278 hκ, n_279 hκ, n_280 hκ, n_281 hκ, n_282 hκ, n_283 hκ, n_284 hκ, n_285 hκ, n_286 hκ, n_287 hκ, n_288 hκ, n_289 hκ, n_290 hκ, n_291 hκ, n_292 hκ, n_293 hκ, n_294 hκ, n_295 hκ, n_296 hκ, n_297 hκ, n_298 hκ, n_299 hκ, n_300 hκ, n_301 hκ, n_302 hκ, n_303 hκ, n_304 hκ, n_305 hκ, n_306 hκ, n_307 hκ, n_308 hκ, n_309 hκ, n_310 hκ, n_311 hκ, n_312 hκ, n_313 hκ, n_314 hκ, hv, iw, copiesX xs (d + 3) hκ hR, cpn_at, hn.1 n (by omega), e]
    simp (disch := omega) only [k_256 hκ, n_257 hκ, n_258 hκ, n_259 hκ, n_260 hκ, n_261 hκ, n_262 hκ, n_263 hκ, n_264 hκ, n_265 hκ, n_266 hκ, n_267 hκ, n_268 hκ, n_269 hκ, n_270 hκ, n_271 hκ, n_272 hκ, n_273 hκ, n_274 hκ, n_275 hκ, n_276 hκ, n_277 hκ, n_278 hκ, n_279 hκ, n_280 hκ, n_281 hκ, n_282 hκ, n_283 hκ, n_284 hκ, n_285 hκ, n_286 hκ, n_287 hκ, n_288 hκ, n_289 hκ, n_290 hκ, n_291 hκ, n_292 hκ, n_293 hκ, n_294 hκ, n_295 hκ, n_296 hκ, n_297 hκ, n_298 hκ, n_299 hκ, n_300 hκ, n_301 hκ, n_302 hκ, n_303 hκ, n_304 hκ, n_305 hκ, n_306 hκ, n_307 hκ, n_308 hκ, n_309 hκ, n_310 hκ, n_311 hκ, n_312 hκ, n_313 hκ, n_314 hκ, cond_true, Bool.and_true, fe, bV_s]
    exact e2
  · rw [if_neg h]
    refine ⟨D, RSame.rfl' hR.2.2.2.1, ?_⟩
    by_cases h1 : 0 ≤ w ∧ w < (xnw X : Int)
    · rw [if_pos h1] at iw
      simp (disch := omega) only [cond_true, cond_false, Bool.and_true, Bool.true_and, Bool.and_false, Bool.false_and, Int.toNat_natCast, Int.reduceToNat, bI_s, bJ_s, bV_s, bR_s, decide_true, decide_false, not_true_eq_false, not_false_eq_true, dT, dF, w_al, w_la, w_ab, w_sl, w_sb, w_dec, w_ml, w_lm, ol2i_n, aup_ne, aupE, aupJ, setc_self, setc_ne, pr_1 hp, pr_3 hp, pr_5 hp, pr_6 hp, pr_7 hp, pr_8 hp, pr_9 hp, pr_20 hp, pr_21 hp, pr_22 hp, pr_23 hp, pr_24 hp, pr_25 hp, pr_26 hp, pr_27 hp, pr_28 hp, pr_29 hp, pr_30 hp, pr_31 hp, pr_32 hp, pr_33 hp, pr_34 hp, pr_35 hp, pr_36 hp, pr_37 hp, pr_38 hp, pr_39 hp, pr_40 hp, pr_41 hp, pr_42 hp, pr_43 hp, pr_44 hp, pr_45 hp, pr_46 hp, pr_48 hp, pr_49 hp, pr_50 hp, pr_51 hp, pr_52 hp, pr_54 hp, pr_55 hp, pr_58 hp, pr_60 hp, pr_61 hp, pr_63 hp, pr_64 hp, pr_65 hp, pr_71 hp, pr_72 hp, pr_73 hp, pr_75 hp, pr_76 hp, pr_78 hp, pr_80 hp, pr_81 hp, pr_82 hp, pr_83 hp, pr_84 hp, k_256 hκ, n_257 hκ, n_258 hκ, n_259 hκ, n_260 hκ, n_261 hκ, n_262 hκ, n_263 hκ, n_264 hκ, n_265 hκ, n_266 hκ, n_267 hκ, n_268 hκ, n_269 hκ, n_270 hκ, n_271 hκ, n_272 hκ, n_273 hκ, n_274 hκ, n_275 hκ, n_276 hκ, n_277 hκ, n_278 hκ, n_279 hκ, n_280 hκ, n_281 hκ, n_282 hκ, n_283 hκ, n_284 hκ, n_285 hκ, n_286 hκ, n_287 hκ, n_288 hκ, n_289 hκ, n_290 hκ, n_291 hκ, n_292 hκ, n_293 hκ, n_294 hκ, n_295 hκ, n_296 hκ, n_297 hκ, n_298 hκ, n_299 hκ, n_300 hκ, n_301 hκ, n_302 hκ, n_303 hκ, n_304 hκ, n_305 hκ, n_306 hκ, n_307 hκ, n_308 hκ, n_309 hκ, n_310 hκ, n_311 hκ, n_312 hκ, n_313 hκ, n_314 hκ, hv, iw]
    · rw [if_neg h1] at iw
      simp (disch := omega) only [cond_true, cond_false, Bool.and_true, Bool.true_and, Bool.and_false, Bool.false_and, Int.toNat_natCast, Int.reduceToNat, bI_s, bJ_s, bV_s, bR_s, decide_true, decide_false, not_true_eq_false, not_false_eq_true, dT, dF, w_al, w_la, w_ab, w_sl, w_sb, w_dec, w_ml, w_lm, ol2i_n, aup_ne, aupE, aupJ, setc_self, setc_ne, pr_1 hp, pr_3 hp, pr_5 hp, pr_6 hp, pr_7 hp, pr_8 hp, pr_9 hp, pr_20 hp, pr_21 hp, pr_22 hp, pr_23 hp, pr_24 hp, pr_25 hp, pr_26 hp, pr_27 hp, pr_28 hp, pr_29 hp, pr_30 hp, pr_31 hp, pr_32 hp, pr_33 hp, pr_34 hp, pr_35 hp, pr_36 hp, pr_37 hp, pr_38 hp, pr_39 hp, pr_40 hp, pr_41 hp, pr_42 hp, pr_43 hp, pr_44 hp, pr_45 hp, pr_46 hp, pr_48 hp, pr_49 hp, pr_50 hp, pr_51 hp, pr_52 hp, pr_54 hp, pr_55 hp, pr_58 hp, pr_60 hp, pr_61 hp, pr_63 hp, pr_64 hp, pr_65 hp, pr_71 hp, pr_72 hp, pr_73 hp, pr_75 hp, pr_76 hp, pr_78 hp, pr_80 hp, pr_81 hp, pr_82 hp, pr_83 hp, pr_84 hp, k_256 hκ, n_257 hκ, n_258 hκ, n_259 hκ, n_260 hκ, n_261 hκ, n_262 hκ, n_263 hκ, n_264 hκ, n_265 hκ, n_266 hκ, n_267 hκ, n_268 hκ, n_269 hκ, n_270 hκ, n_271 hκ, n_272 hκ, n_273 hκ, n_274 hκ, n_275 hκ, n_276 hκ, n_277 hκ, n_278 hκ, n_279 hκ, n_280 hκ, n_281 hκ, n_282 hκ, n_283 hκ, n_284 hκ, n_285 hκ, n_286 hκ, n_287 hκ, n_288 hκ, n_289 hκ, n_290 hκ, n_291 hκ, n_292 hκ, n_293 hκ, n_294 hκ, n_295 hκ, n_296 hκ, n_297 hκ, n_298 hκ, n_299 hκ, n_300 hκ, n_301 hκ, n_302 hκ, n_303 hκ, n_304 hκ, n_305 hκ, n_306 hκ, n_307 hκ, n_308 hκ, n_309 hκ, n_310 hκ, n_311 hκ, n_312 hκ, n_313 hκ, n_314 hκ, hv, iw]
/-- the first way that makes a word -/
def fstW (X : TX) (w : List Nat) : List WY → Option WY
  | [] => none
  | y :: L => if nmW X y = w then some y else fstW X w L
theorem finds_step (xs : List Int) (d : Nat) {κ : aK} {D : Nat → Nat → Int} (hκ : Shp κ) {v : Nat} {X : TX} (hX : TXok X) (hR : RI D v X) {w : List Nat} (hw : wok w) : ∀ (L : List WY) (y : WY) (u2 : Option aV), wvd X y → WL X y L → (∀ y', fstW X w L = some y' → wvd X y' ∧ ev xs (d + 4) mm_263 4 [some (.inr (.inr 256)), some (.inr (.inl (p27 w : Int))), u2] [] (κ, wyS D y) = some (some (.inl 1), (κ, wyS D y'))) ∧ (fstW X w L = none → ∃ a b c z : Int, ev xs (d + 4) mm_263 4 [some (.inr (.inr 256)), some (.inr (.inl (p27 w : Int))), u2] [] (κ, wyS D y) = some (some (.inl 0), (κ, wyD D a b c z))) := by
  have hk := k_256 hκ
  intro L
  induction L with
  | nil =>
    intro y u2 hy hL
    refine ⟨(fun y' h => by cases h), fun _ => ?_⟩
    obtain ⟨a, b, c, z, e⟩ := next_none xs (d + 3) hκ hX hR hy hL
    refine ⟨a, b, c, z, ?_⟩
    rw [q_263_4]
    simp (disch := omega) only [cond_true, cond_false, Bool.and_true, Bool.true_and, Bool.and_false, Bool.false_and, Int.toNat_natCast, Int.reduceToNat, bI_s, bJ_s, bV_s, bR_s, decide_true, decide_false, not_true_eq_false, not_false_eq_true, dT, dF, w_al, w_la, w_ab, w_sl, w_sb, w_dec, w_ml, w_lm, ol2i_n, aup_ne, aupE, aupJ, setc_self, setc_ne, k_256 hκ, n_257 hκ, n_258 hκ, n_259 hκ, n_260 hκ, n_261 hκ, n_262 hκ, n_263 hκ, n_264 hκ, n_265 hκ, n_266 hκ, n_267 hκ, n_268 hκ, n_269 hκ, n_270 hκ, n_271 hκ, n_272 hκ, n_273 hκ, n_274 hκ, n_275 hκ, n_276 hκ, n_277 hκ, n_278 hκ, n_279 hκ, n_280 hκ, n_281 hκ, n_282 hκ, n_283 hκ, n_284 hκ, n_285 hκ, n_286 hκ, n_287 hκ, n_288 hκ, n_289 hκ, n_290 hκ, n_291 hκ, n_292 hκ, n_293 hκ, n_294 hκ, n_295 hκ, n_296 hκ, n_297 hκ, n_298 hκ, n_299 hκ, n_300 hκ, n_301 hκ, n_302 hκ, n_303 hκ, n_304 hκ, n_305 hκ, n_306 hκ, n_307 hκ, n_308 hκ, n_309 hκ, n_310 hκ, n_311 hκ, n_312 hκ, n_313 hκ, n_314 hκ, e]
  | cons y' L ih =>
    intro y u2 hy hL
    have e := next_some xs (d + 3) hκ hX hR hy hL.1
    have hy' := nxt_wvd hy hL.1
    have mk := makes_eq xs d hκ hX hR hy' hw
    obtain ⟨ih1, ih2⟩ := ih y' u2 hy' hL.2
    unfold fstW
    rw [q_263_4]
    by_cases hm : nmW X y' = w
    · rw [if_pos hm] at mk ⊢
      refine ⟨fun y2 h => ?_, fun h => by cases h⟩
      cases h
      refine ⟨hy', ?_⟩
      simp (disch := omega) only [cond_true, cond_false, Bool.and_true, Bool.true_and, Bool.and_false, Bool.false_and, Int.toNat_natCast, Int.reduceToNat, bI_s, bJ_s, bV_s, bR_s, decide_true, decide_false, not_true_eq_false, not_false_eq_true, dT, dF, w_al, w_la, w_ab, w_sl, w_sb, w_dec, w_ml, w_lm, ol2i_n, aup_ne, aupE, aupJ, setc_self, setc_ne, k_256 hκ, n_257 hκ, n_258 hκ, n_259 hκ, n_260 hκ, n_261 hκ, n_262 hκ, n_263 hκ, n_264 hκ, n_265 hκ, n_266 hκ, n_267 hκ, n_268 hκ, n_269 hκ, n_270 hκ, n_271 hκ, n_272 hκ, n_273 hκ, n_274 hκ, n_275 hκ, n_276 hκ, n_277 hκ, n_278 hκ, n_279 hκ, n_280 hκ, n_281 hκ, n_282 hκ, n_283 hκ, n_284 hκ, n_285 hκ, n_286 hκ, n_287 hκ, n_288 hκ, n_289 hκ, n_290 hκ, n_291 hκ, n_292 hκ, n_293 hκ, n_294 hκ, n_295 hκ, n_296 hκ, n_297 hκ, n_298 hκ, n_299 hκ, n_300 hκ, n_301 hκ, n_302 hκ, n_303 hκ, n_304 hκ, n_305 hκ, n_306 hκ, n_307 hκ, n_308 hκ, n_309 hκ, n_310 hκ, n_311 hκ, n_312 hκ, n_313 hκ, n_314 hκ, e, mk]
    · rw [if_neg hm] at mk ⊢
      refine ⟨fun y2 h => ⟨(ih1 y2 h).1, ?_⟩, fun h => ?_⟩
      · simp (disch := omega) only [cond_true, cond_false, Bool.and_true, Bool.true_and, Bool.and_false, Bool.false_and, Int.toNat_natCast, Int.reduceToNat, bI_s, bJ_s, bV_s, bR_s, decide_true, decide_false, not_true_eq_false, not_false_eq_true, dT, dF, w_al, w_la, w_ab, w_sl, w_sb, w_dec, w_ml, w_lm, ol2i_n, aup_ne, aupE, aupJ, setc_self, setc_ne, k_256 hκ, n_257 hκ, n_258 hκ, n_259 hκ, n_260 hκ, n_261 hκ, n_262 hκ, n_263 hκ, n_264 hκ, n_265 hκ, n_266 hκ, n_267 hκ, n_268 hκ, n_269 hκ, n_270 hκ, n_271 hκ, n_272 hκ, n_273 hκ, n_274 hκ, n_275 hκ, n_276 hκ, n_277 hκ, n_278 hκ, n_279 hκ, n_280 hκ, n_281 hκ, n_282 hκ, n_283 hκ, n_284 hκ, n_285 hκ, n_286 hκ, n_287 hκ, n_288 hκ, n_289 hκ, n_290 hκ, n_291 hκ, n_292 hκ, n_293 hκ, n_294 hκ, n_295 hκ, n_296 hκ, n_297 hκ, n_298 hκ, n_299 hκ, n_300 hκ, n_301 hκ, n_302 hκ, n_303 hκ, n_304 hκ, n_305 hκ, n_306 hκ, n_307 hκ, n_308 hκ, n_309 hκ, n_310 hκ, n_311 hκ, n_312 hκ, n_313 hκ, n_314 hκ, e, mk, (ih1 y2 h).2]
      · obtain ⟨a, b, c, z, e2⟩ := ih2 h
        refine ⟨a, b, c, z, ?_⟩
        simp (disch := omega) only [cond_true, cond_false, Bool.and_true, Bool.true_and, Bool.and_false, Bool.false_and, Int.toNat_natCast, Int.reduceToNat, bI_s, bJ_s, bV_s, bR_s, decide_true, decide_false, not_true_eq_false, not_false_eq_true, dT, dF, w_al, w_la, w_ab, w_sl, w_sb, w_dec, w_ml, w_lm, ol2i_n, aup_ne, aupE, aupJ, setc_self, setc_ne, k_256 hκ, n_257 hκ, n_258 hκ, n_259 hκ, n_260 hκ, n_261 hκ, n_262 hκ, n_263 hκ, n_264 hκ, n_265 hκ, n_266 hκ, n_267 hκ, n_268 hκ, n_269 hκ, n_270 hκ, n_271 hκ, n_272 hκ, n_273 hκ, n_274 hκ, n_275 hκ, n_276 hκ, n_277 hκ, n_278 hκ, n_279 hκ, n_280 hκ, n_281 hκ, n_282 hκ, n_283 hκ, n_284 hκ, n_285 hκ, n_286 hκ, n_287 hκ, n_288 hκ, n_289 hκ, n_290 hκ, n_291 hκ, n_292 hκ, n_293 hκ, n_294 hκ, n_295 hκ, n_296 hκ, n_297 hκ, n_298 hκ, n_299 hκ, n_300 hκ, n_301 hκ, n_302 hκ, n_303 hκ, n_304 hκ, n_305 hκ, n_306 hκ, n_307 hκ, n_308 hκ, n_309 hκ, n_310 hκ, n_311 hκ, n_312 hκ, n_313 hκ, n_314 hκ, e, mk, e2]
theorem finds_eq (xs : List Int) (d : Nat) {κ : aK} {D : Nat → Nat → Int} (hκ : Shp κ) {v : Nat} {X : TX} (hX : TXok X) (hR : RI D v X) {w : List Nat} (hw : wok w) : (∀ y', fstW X w (waysX X) = some y' → wvd X y' ∧ cl xs (d + 5) 263 [.inr (.inr 256), .inr (.inl (p27 w : Int))] (κ, D) = some (some (.inl 1), (κ, wyS D y'))) ∧ (fstW X w (waysX X) = none → ∃ a b c z : Int, cl xs (d + 5) 263 [.inr (.inr 256), .inr (.inl (p27 w : Int))] (κ, D) = some (some (.inl 0), (κ, wyD D a b c z))) := by
  have hk := k_256 hκ
  have fe := first_eq xs (d + 3) hκ (D := D) (D 256 66) (D 256 67) (D 256 68) (D 256 69)
  rw [wy_id] at fe
  have hd : cl xs (d + 5) 263 [.inr (.inr 256), .inr (.inl (p27 w : Int))] (κ, D) = ev xs (d + 4) mm_263 4 [some (.inr (.inr 256)), some (.inr (.inl (p27 w : Int))), none] [] (κ, wyD D (-1) (-1) (-9) (D 256 69)) := by
    rw [c_263]
    simp (disch := omega) only [cond_true, cond_false, Bool.and_true, Bool.true_and, Bool.and_false, Bool.false_and, Int.toNat_natCast, Int.reduceToNat, bI_s, bJ_s, bV_s, bR_s, decide_true, decide_false, not_true_eq_false, not_false_eq_true, dT, dF, w_al, w_la, w_ab, w_sl, w_sb, w_dec, w_ml, w_lm, ol2i_n, aup_ne, aupE, aupJ, setc_self, setc_ne, k_256 hκ, n_257 hκ, n_258 hκ, n_259 hκ, n_260 hκ, n_261 hκ, n_262 hκ, n_263 hκ, n_264 hκ, n_265 hκ, n_266 hκ, n_267 hκ, n_268 hκ, n_269 hκ, n_270 hκ, n_271 hκ, n_272 hκ, n_273 hκ, n_274 hκ, n_275 hκ, n_276 hκ, n_277 hκ, n_278 hκ, n_279 hκ, n_280 hκ, n_281 hκ, n_282 hκ, n_283 hκ, n_284 hκ, n_285 hκ, n_286 hκ, n_287 hκ, n_288 hκ, n_289 hκ, n_290 hκ, n_291 hκ, n_292 hκ, n_293 hκ, n_294 hκ, n_295 hκ, n_296 hκ, n_297 hκ, n_298 hκ, n_299 hκ, n_300 hκ, n_301 hκ, n_302 hκ, n_303 hκ, n_304 hκ, n_305 hκ, n_306 hκ, n_307 hκ, n_308 hκ, n_309 hκ, n_310 hκ, n_311 hκ, n_312 hκ, n_313 hκ, n_314 hκ, fe]
  rw [hd]
  by_cases hr : 1 ≤ xnp X 0
  · obtain ⟨L, h1, h2, h3⟩ := ways_go (X := X) hr
    have e := next_first xs (d + 3) hκ hX hR (D 256 69) hr
    have mk := makes_eq xs d hκ hX hR h3 hw
    obtain ⟨ih1, ih2⟩ := finds_step xs d hκ hX hR hw L (0, 1, 0, 0) none h3 h2
    rw [h1, q_263_4]
    unfold fstW
    by_cases hm : nmW X (0, 1, 0, 0) = w
    · rw [if_pos hm] at mk ⊢
      refine ⟨fun y2 h => ?_, fun h => by cases h⟩
      cases h
      refine ⟨h3, ?_⟩
      simp (disch := omega) only [cond_true, cond_false, Bool.and_true, Bool.true_and, Bool.and_false, Bool.false_and, Int.toNat_natCast, Int.reduceToNat, bI_s, bJ_s, bV_s, bR_s, decide_true, decide_false, not_true_eq_false, not_false_eq_true, dT, dF, w_al, w_la, w_ab, w_sl, w_sb, w_dec, w_ml, w_lm, ol2i_n, aup_ne, aupE, aupJ, setc_self, setc_ne, k_256 hκ, n_257 hκ, n_258 hκ, n_259 hκ, n_260 hκ, n_261 hκ, n_262 hκ, n_263 hκ, n_264 hκ, n_265 hκ, n_266 hκ, n_267 hκ, n_268 hκ, n_269 hκ, n_270 hκ, n_271 hκ, n_272 hκ, n_273 hκ, n_274 hκ, n_275 hκ, n_276 hκ, n_277 hκ, n_278 hκ, n_279 hκ, n_280 hκ, n_281 hκ, n_282 hκ, n_283 hκ, n_284 hκ, n_285 hκ, n_286 hκ, n_287 hκ, n_288 hκ, n_289 hκ, n_290 hκ, n_291 hκ, n_292 hκ, n_293 hκ, n_294 hκ, n_295 hκ, n_296 hκ, n_297 hκ, n_298 hκ, n_299 hκ, n_300 hκ, n_301 hκ, n_302 hκ, n_303 hκ, n_304 hκ, n_305 hκ, n_306 hκ, n_307 hκ, n_308 hκ, n_309 hκ, n_310 hκ, n_311 hκ, n_312 hκ, n_313 hκ, n_314 hκ, e, mk]
    · rw [if_neg hm] at mk ⊢
      refine ⟨fun y2 h => ⟨(ih1 y2 h).1, ?_⟩, fun h => ?_⟩
      · simp (disch := omega) only [cond_true, cond_false, Bool.and_true, Bool.true_and, Bool.and_false, Bool.false_and, Int.toNat_natCast, Int.reduceToNat, bI_s, bJ_s, bV_s, bR_s, decide_true, decide_false, not_true_eq_false, not_false_eq_true, dT, dF, w_al, w_la, w_ab, w_sl, w_sb, w_dec, w_ml, w_lm, ol2i_n, aup_ne, aupE, aupJ, setc_self, setc_ne, k_256 hκ, n_257 hκ, n_258 hκ, n_259 hκ, n_260 hκ, n_261 hκ, n_262 hκ, n_263 hκ, n_264 hκ, n_265 hκ, n_266 hκ, n_267 hκ, n_268 hκ, n_269 hκ, n_270 hκ, n_271 hκ, n_272 hκ, n_273 hκ, n_274 hκ, n_275 hκ, n_276 hκ, n_277 hκ, n_278 hκ, n_279 hκ, n_280 hκ, n_281 hκ, n_282 hκ, n_283 hκ, n_284 hκ, n_285 hκ, n_286 hκ, n_287 hκ, n_288 hκ, n_289 hκ, n_290 hκ, n_291 hκ, n_292 hκ, n_293 hκ, n_294 hκ, n_295 hκ, n_296 hκ, n_297 hκ, n_298 hκ, n_299 hκ, n_300 hκ, n_301 hκ, n_302 hκ, n_303 hκ, n_304 hκ, n_305 hκ, n_306 hκ, n_307 hκ, n_308 hκ, n_309 hκ, n_310 hκ, n_311 hκ, n_312 hκ, n_313 hκ, n_314 hκ, e, mk, (ih1 y2 h).2]
      · obtain ⟨a, b, c, z, e2⟩ := ih2 h
        refine ⟨a, b, c, z, ?_⟩
        simp (disch := omega) only [cond_true, cond_false, Bool.and_true, Bool.true_and, Bool.and_false, Bool.false_and, Int.toNat_natCast, Int.reduceToNat, bI_s, bJ_s, bV_s, bR_s, decide_true, decide_false, not_true_eq_false, not_false_eq_true, dT, dF, w_al, w_la, w_ab, w_sl, w_sb, w_dec, w_ml, w_lm, ol2i_n, aup_ne, aupE, aupJ, setc_self, setc_ne, k_256 hκ, n_257 hκ, n_258 hκ, n_259 hκ, n_260 hκ, n_261 hκ, n_262 hκ, n_263 hκ, n_264 hκ, n_265 hκ, n_266 hκ, n_267 hκ, n_268 hκ, n_269 hκ, n_270 hκ, n_271 hκ, n_272 hκ, n_273 hκ, n_274 hκ, n_275 hκ, n_276 hκ, n_277 hκ, n_278 hκ, n_279 hκ, n_280 hκ, n_281 hκ, n_282 hκ, n_283 hκ, n_284 hκ, n_285 hκ, n_286 hκ, n_287 hκ, n_288 hκ, n_289 hκ, n_290 hκ, n_291 hκ, n_292 hκ, n_293 hκ, n_294 hκ, n_295 hκ, n_296 hκ, n_297 hκ, n_298 hκ, n_299 hκ, n_300 hκ, n_301 hκ, n_302 hκ, n_303 hκ, n_304 hκ, n_305 hκ, n_306 hκ, n_307 hκ, n_308 hκ, n_309 hκ, n_310 hκ, n_311 hκ, n_312 hκ, n_313 hκ, n_314 hκ, e, mk, e2]
  · rw [ways_nil (by omega)]
    refine ⟨(fun y' h => by cases h), fun _ => ?_⟩
    obtain ⟨a, b, c, z, e⟩ := next_first0 xs (d + 3) hκ hX hR (D 256 69) (by omega)
    refine ⟨a, b, c, z, ?_⟩
    rw [q_263_4]
    simp (disch := omega) only [cond_true, cond_false, Bool.and_true, Bool.true_and, Bool.and_false, Bool.false_and, Int.toNat_natCast, Int.reduceToNat, bI_s, bJ_s, bV_s, bR_s, decide_true, decide_false, not_true_eq_false, not_false_eq_true, dT, dF, w_al, w_la, w_ab, w_sl, w_sb, w_dec, w_ml, w_lm, ol2i_n, aup_ne, aupE, aupJ, setc_self, setc_ne, k_256 hκ, n_257 hκ, n_258 hκ, n_259 hκ, n_260 hκ, n_261 hκ, n_262 hκ, n_263 hκ, n_264 hκ, n_265 hκ, n_266 hκ, n_267 hκ, n_268 hκ, n_269 hκ, n_270 hκ, n_271 hκ, n_272 hκ, n_273 hκ, n_274 hκ, n_275 hκ, n_276 hκ, n_277 hκ, n_278 hκ, n_279 hκ, n_280 hκ, n_281 hκ, n_282 hκ, n_283 hκ, n_284 hκ, n_285 hκ, n_286 hκ, n_287 hκ, n_288 hκ, n_289 hκ, n_290 hκ, n_291 hκ, n_292 hκ, n_293 hκ, n_294 hκ, n_295 hκ, n_296 hκ, n_297 hκ, n_298 hκ, n_299 hκ, n_300 hκ, n_301 hκ, n_302 hκ, n_303 hκ, n_304 hκ, n_305 hκ, n_306 hκ, n_307 hκ, n_308 hκ, n_309 hκ, n_310 hκ, n_311 hκ, n_312 hκ, n_313 hκ, n_314 hκ, e]
