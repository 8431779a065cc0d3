/-! parted by the reference; next. -/
theorem hasFit_loop (xs : List Int) (d : Nat) {κ : aK} {D : Nat → Nat → Int} (hκ : Shp κ) {v : Nat} {X : TX} (hX : TXok X) (hR : RI D v X) {ord : Nat → Nat} (ho : ordX D X ord) {k : Nat} (hk' : k ≤ xpr X) (o : Int) {must : Nat} (hm : must < 2147483648) : ∀ (m s : Nat) (g : Nat → Int), s + m = 2 ^ xns X → g 0 = 0 → ∃ g' : Nat → Int, g' 0 = 0 ∧ ev xs (d + 5) mm_295 3 [some (.inr (.inr 256)), some (.inl (k : Int)), some (.inl o), some (.inl (must : Int)), some (.inl (s : Int))] [] (κ, setc D 303 g) = some (some (.inl (if hasF X ord (ob o) k must m s = true then 1 else 0)), (κ, setc D 303 g')) := by
  have hp := hR.1; have hv := hR.2.1; have hv2 := hR.2.2.1; have hT := hR.2.2.2.2; have x1 := hX.1.1; have x2 := hX.2.1.1; have hk := k_256 hκ
  have hp2 := p2 hX
  intro m
  induction m with
  | zero =>
    intro s g h hg
    refine ⟨g, hg, ?_⟩
    rw [q_295_3]
    simp (disch := omega) only [cond_true, cond_false, Bool.and_true, Bool.true_and, Bool.and_false, Bool.false_and, Int.toNat_natCast, Int.reduceToNat, bI_s, bJ_s, bV_s, bR_s, decide_true, decide_false, not_true_eq_false, not_false_eq_true, dT, dF, w_al, w_la, w_ab, w_sl, w_sb, w_dec, w_ml, w_lm, ol2i_n, aup_ne, aupE, aupJ, setc_self, setc_ne, pr_1 hp, pr_3 hp, pr_5 hp, pr_6 hp, pr_7 hp, pr_8 hp, pr_9 hp, pr_20 hp, pr_21 hp, pr_22 hp, pr_23 hp, pr_24 hp, pr_25 hp, pr_26 hp, pr_27 hp, pr_28 hp, pr_29 hp, pr_30 hp, pr_31 hp, pr_32 hp, pr_33 hp, pr_34 hp, pr_35 hp, pr_36 hp, pr_37 hp, pr_38 hp, pr_39 hp, pr_40 hp, pr_41 hp, pr_42 hp, pr_43 hp, pr_44 hp, pr_45 hp, pr_46 hp, pr_48 hp, pr_49 hp, pr_50 hp, pr_51 hp, pr_52 hp, pr_54 hp, pr_55 hp, pr_58 hp, pr_60 hp, pr_61 hp, pr_63 hp, pr_64 hp, pr_65 hp, pr_71 hp, pr_72 hp, pr_73 hp, pr_75 hp, pr_76 hp, pr_78 hp, pr_80 hp, pr_81 hp, pr_82 hp, pr_83 hp, pr_84 hp, k_256 hκ, n_257 hκ, n_258 hκ, n_259 hκ, n_260 hκ, n_261 hκ, n_262 hκ, n_263 hκ, n_264 hκ, n_265 hκ, n_266 hκ, n_267 hκ, n_268 hκ, n_269 hκ, n_270 hκ, n_271 hκ, n_272 hκ, n_273 hκ, n_274 hκ, n_275 hκ, n_276 hκ, n_277 hκ, n_278 hκ, n_279 hκ, n_280 hκ, n_281 hκ, n_282 hκ, n_283 hκ, n_284 hκ, n_285 hκ, n_286 hκ, n_287 hκ, n_288 hκ, n_289 hκ, n_290 hκ, n_291 hκ, n_292 hκ, n_293 hκ, n_294 hκ, n_295 hκ, n_296 hκ, n_297 hκ, n_298 hκ, n_299 hκ, n_300 hκ, n_301 hκ, n_302 hκ, n_303 hκ, n_304 hκ, n_305 hκ, n_306 hκ, n_307 hκ, n_308 hκ, n_309 hκ, n_310 hκ, n_311 hκ, n_312 hκ, n_313 hκ, n_314 hκ, hv, hT.1.1.1, oshl1]
    rfl
  | succ m ih =>
    intro s g h hg
    have ea := oandnot (a := must) (b := s) (by omega) (by omega)
    rw [q_295_3]
    unfold hasF
    by_cases hz : anot must s = 0
    · obtain ⟨g1, hg1, e1⟩ := isFitX xs d hκ hX hR ho (set := s) (by omega) hk' o hg
      by_cases hf : fitA X ord s (ob o) k = true
      · rw [if_pos hf] at e1
        refine ⟨g1, hg1, ?_⟩
        rw [if_pos (show anot must s = 0 ∧ fitA X ord s (ob o) k = true from ⟨hz, hf⟩)]
        simp (disch := omega) only [cond_true, cond_false, Bool.and_true, Bool.true_and, Bool.and_false, Bool.false_and, Int.toNat_natCast, Int.reduceToNat, bI_s, bJ_s, bV_s, bR_s, decide_true, decide_false, not_true_eq_false, not_false_eq_true, dT, dF, w_al, w_la, w_ab, w_sl, w_sb, w_dec, w_ml, w_lm, ol2i_n, aup_ne, aupE, aupJ, setc_self, setc_ne, pr_1 hp, pr_3 hp, pr_5 hp, pr_6 hp, pr_7 hp, pr_8 hp, pr_9 hp, pr_20 hp, pr_21 hp, pr_22 hp, pr_23 hp, pr_24 hp, pr_25 hp, pr_26 hp, pr_27 hp, pr_28 hp, pr_29 hp, pr_30 hp, pr_31 hp, pr_32 hp, pr_33 hp, pr_34 hp, pr_35 hp, pr_36 hp, pr_37 hp, pr_38 hp, pr_39 hp, pr_40 hp, pr_41 hp, pr_42 hp, pr_43 hp, pr_44 hp, pr_45 hp, pr_46 hp, pr_48 hp, pr_49 hp, pr_50 hp, pr_51 hp, pr_52 hp, pr_54 hp, pr_55 hp, pr_58 hp, pr_60 hp, pr_61 hp, pr_63 hp, pr_64 hp, pr_65 hp, pr_71 hp, pr_72 hp, pr_73 hp, pr_75 hp, pr_76 hp, pr_78 hp, pr_80 hp, pr_81 hp, pr_82 hp, pr_83 hp, pr_84 hp, k_256 hκ, n_257 hκ, n_258 hκ, n_259 hκ, n_260 hκ, n_261 hκ, n_262 hκ, n_263 hκ, n_264 hκ, n_265 hκ, n_266 hκ, n_267 hκ, n_268 hκ, n_269 hκ, n_270 hκ, n_271 hκ, n_272 hκ, n_273 hκ, n_274 hκ, n_275 hκ, n_276 hκ, n_277 hκ, n_278 hκ, n_279 hκ, n_280 hκ, n_281 hκ, n_282 hκ, n_283 hκ, n_284 hκ, n_285 hκ, n_286 hκ, n_287 hκ, n_288 hκ, n_289 hκ, n_290 hκ, n_291 hκ, n_292 hκ, n_293 hκ, n_294 hκ, n_295 hκ, n_296 hκ, n_297 hκ, n_298 hκ, n_299 hκ, n_300 hκ, n_301 hκ, n_302 hκ, n_303 hκ, n_304 hκ, n_305 hκ, n_306 hκ, n_307 hκ, n_308 hκ, n_309 hκ, n_310 hκ, n_311 hκ, n_312 hκ, n_313 hκ, n_314 hκ, hv, hT.1.1.1, oshl1, ea, hz, e1]
        rfl
      · rw [if_neg hf] at e1
        obtain ⟨g', hg', e2⟩ := ih (s + 1) g1 (by omega) hg1
        refine ⟨g', hg', ?_⟩
        rw [if_neg (show ¬ (anot must s = 0 ∧ fitA X ord s (ob o) k = true) from fun q => hf q.2)]
        simp (disch := omega) only [cond_true, cond_false, Bool.and_true, Bool.true_and, Bool.and_false, Bool.false_and, Int.toNat_natCast, Int.reduceToNat, bI_s, bJ_s, bV_s, bR_s, decide_true, decide_false, not_true_eq_false, not_false_eq_true, dT, dF, w_al, w_la, w_ab, w_sl, w_sb, w_dec, w_ml, w_lm, ol2i_n, aup_ne, aupE, aupJ, setc_self, setc_ne, pr_1 hp, pr_3 hp, pr_5 hp, pr_6 hp, pr_7 hp, pr_8 hp, pr_9 hp, pr_20 hp, pr_21 hp, pr_22 hp, pr_23 hp, pr_24 hp, pr_25 hp, pr_26 hp, pr_27 hp, pr_28 hp, pr_29 hp, pr_30 hp, pr_31 hp, pr_32 hp, pr_33 hp, pr_34 hp, pr_35 hp, pr_36 hp, pr_37 hp, pr_38 hp, pr_39 hp, pr_40 hp, pr_41 hp, pr_42 hp, pr_43 hp, pr_44 hp, pr_45 hp, pr_46 hp, pr_48 hp, pr_49 hp, pr_50 hp, pr_51 hp, pr_52 hp, pr_54 hp, pr_55 hp, pr_58 hp, pr_60 hp, pr_61 hp, pr_63 hp, pr_64 hp, pr_65 hp, pr_71 hp, pr_72 hp, pr_73 hp, pr_75 hp, pr_76 hp, pr_78 hp, pr_80 hp, pr_81 hp, pr_82 hp, pr_83 hp, pr_84 hp, k_256 hκ, n_257 hκ, n_258 hκ, n_259 hκ, n_260 hκ, n_261 hκ, n_262 hκ, n_263 hκ, n_264 hκ, n_265 hκ, n_266 hκ, n_267 hκ, n_268 hκ, n_269 hκ, n_270 hκ, n_271 hκ, n_272 hκ, n_273 hκ, n_274 hκ, n_275 hκ, n_276 hκ, n_277 hκ, n_278 hκ, n_279 hκ, n_280 hκ, n_281 hκ, n_282 hκ, n_283 hκ, n_284 hκ, n_285 hκ, n_286 hκ, n_287 hκ, n_288 hκ, n_289 hκ, n_290 hκ, n_291 hκ, n_292 hκ, n_293 hκ, n_294 hκ, n_295 hκ, n_296 hκ, n_297 hκ, n_298 hκ, n_299 hκ, n_300 hκ, n_301 hκ, n_302 hκ, n_303 hκ, n_304 hκ, n_305 hκ, n_306 hκ, n_307 hκ, n_308 hκ, n_309 hκ, n_310 hκ, n_311 hκ, n_312 hκ, n_313 hκ, n_314 hκ, hv, hT.1.1.1, oshl1, ea, hz, e1, e2]
    · obtain ⟨g', hg', e2⟩ := ih (s + 1) g (by omega) hg
      refine ⟨g', hg', ?_⟩
      rw [if_neg (show ¬ (anot must s = 0 ∧ fitA X ord s (ob o) k = true) from fun q => hz q.1)]
      simp (disch := omega) only [cond_true, cond_false, Bool.and_true, Bool.true_and, Bool.and_false, Bool.false_and, Int.toNat_natCast, Int.reduceToNat, bI_s, bJ_s, bV_s, bR_s, decide_true, decide_false, not_true_eq_false, not_false_eq_true, dT, dF, w_al, w_la, w_ab, w_sl, w_sb, w_dec, w_ml, w_lm, ol2i_n, aup_ne, aupE, aupJ, setc_self, setc_ne, pr_1 hp, pr_3 hp, pr_5 hp, pr_6 hp, pr_7 hp, pr_8 hp, pr_9 hp, pr_20 hp, pr_21 hp, pr_22 hp, pr_23 hp, pr_24 hp, pr_25 hp, pr_26 hp, pr_27 hp, pr_28 hp, pr_29 hp, pr_30 hp, pr_31 hp, pr_32 hp, pr_33 hp, pr_34 hp, pr_35 hp, pr_36 hp, pr_37 hp, pr_38 hp, pr_39 hp, pr_40 hp, pr_41 hp, pr_42 hp, pr_43 hp, pr_44 hp, pr_45 hp, pr_46 hp, pr_48 hp, pr_49 hp, pr_50 hp, pr_51 hp, pr_52 hp, pr_54 hp, pr_55 hp, pr_58 hp, pr_60 hp, pr_61 hp, pr_63 hp, pr_64 hp, pr_65 hp, pr_71 hp, pr_72 hp, pr_73 hp, pr_75 hp, pr_76 hp, pr_78 hp, pr_80 hp, pr_81 hp, pr_82 hp, pr_83 hp, pr_84 hp, k_256 hκ, n_257 hκ, n_258 hκ, n_259 hκ, n_260 hκ, n_261 hκ, n_262 hκ, n_263 hκ, n_264 hκ, n_265 hκ, n_266 hκ, n_267 hκ, n_268 hκ, n_269 hκ, n_270 hκ, n_271 hκ, n_272 hκ, n_273 hκ, n_274 hκ, n_275 hκ, n_276 hκ, n_277 hκ, n_278 hκ, n_279 hκ, n_280 hκ, n_281 hκ, n_282 hκ, n_283 hκ, n_284 hκ, n_285 hκ, n_286 hκ, n_287 hκ, n_288 hκ, n_289 hκ, n_290 hκ, n_291 hκ, n_292 hκ, n_293 hκ, n_294 hκ, n_295 hκ, n_296 hκ, n_297 hκ, n_298 hκ, n_299 hκ, n_300 hκ, n_301 hκ, n_302 hκ, n_303 hκ, n_304 hκ, n_305 hκ, n_306 hκ, n_307 hκ, n_308 hκ, n_309 hκ, n_310 hκ, n_311 hκ, n_312 hκ, n_313 hκ, n_314 hκ, hv, hT.1.1.1, oshl1, ea, e2]
theorem hasFitX (xs : List Int) (d : Nat) {κ : aK} {D : Nat → Nat → Int} (hκ : Shp κ) {v : Nat} {X : TX} (hX : TXok X) (hR : RI D v X) {ord : Nat → Nat} (ho : ordX D X ord) {k : Nat} (hk' : k ≤ xpr X) (o : Int) {must : Nat} (hm : must < 2147483648) {g : Nat → Int} (hg : g 0 = 0) : ∃ g' : Nat → Int, g' 0 = 0 ∧ cl xs (d + 6) 295 [.inr (.inr 256), .inl (k : Int), .inl o, .inl (must : Int)] (κ, setc D 303 g) = some (some (.inl (if hasF X ord (ob o) k must (2 ^ xns X) 0 = true then 1 else 0)), (κ, setc D 303 g')) := by
  rw [c_295]
  exact hasFit_loop xs d hκ hX hR ho hk' o hm (2 ^ xns X) 0 g (by omega) hg
theorem first_loop (xs : List Int) (d : Nat) {κ : aK} {D : Nat → Nat → Int} (hκ : Shp κ) {v : Nat} {X : TX} (hX : TXok X) (hR : RI D v X) {ord : Nat → Nat} (ho : ordX D X ord) {p : Nat} (hp' : p ≤ xns X) (v1 : Int) {g : Nat → Int} : ∀ (m j : Nat), j + m = p → ev xs d mm_296 33 [some (.inr (.inr 256)), some (.inl v1), some (.inl (p : Int)), some (.inl (plc ord j : Int)), some (.inl (j : Int))] [] (κ, setc D 303 g) = ev xs d mm_296 33 [some (.inr (.inr 256)), some (.inl v1), some (.inl (p : Int)), some (.inl (plc ord p : Int)), some (.inl (p : Int))] [] (κ, setc D 303 g) := by
  have hp := hR.1; have hv := hR.2.1; have hv2 := hR.2.2.1; have hT := hR.2.2.2.2; have x1 := hX.1.1; have x2 := hX.2.1.1; have hk := k_256 hκ
  have hp2 := p2 hX
  intro m
  induction m with
  | zero =>
    intro j h
    rw [show j = p by omega]
  | succ m ih =>
    intro j h
    obtain ⟨e1, o1⟩ := ho j (by omega)
    have hpl := plc_lt (fun k hk => (ho k hk).2) j (by omega)
    have hpk : 2 ^ ord j < 2 ^ xns X := Nat.pow_lt_pow_right (by decide) o1
    rw [q_296_33]
    simp (disch := omega) only [cond_true, cond_false, Bool.and_true, Bool.true_and, Bool.and_false, Bool.false_and, Int.toNat_natCast, Int.reduceToNat, bI_s, bJ_s, bV_s, bR_s, decide_true, decide_false, not_true_eq_false, not_false_eq_true, dT, dF, w_al, w_la, w_ab, w_sl, w_sb, w_dec, w_ml, w_lm, ol2i_n, aup_ne, aupE, aupJ, setc_self, setc_ne, pr_1 hp, pr_3 hp, pr_5 hp, pr_6 hp, pr_7 hp, pr_8 hp, pr_9 hp, pr_20 hp, pr_21 hp, pr_22 hp, pr_23 hp, pr_24 hp, pr_25 hp, pr_26 hp, pr_27 hp, pr_28 hp, pr_29 hp, pr_30 hp, pr_31 hp, pr_32 hp, pr_33 hp, pr_34 hp, pr_35 hp, pr_36 hp, pr_37 hp, pr_38 hp, pr_39 hp, pr_40 hp, pr_41 hp, pr_42 hp, pr_43 hp, pr_44 hp, pr_45 hp, pr_46 hp, pr_48 hp, pr_49 hp, pr_50 hp, pr_51 hp, pr_52 hp, pr_54 hp, pr_55 hp, pr_58 hp, pr_60 hp, pr_61 hp, pr_63 hp, pr_64 hp, pr_65 hp, pr_71 hp, pr_72 hp, pr_73 hp, pr_75 hp, pr_76 hp, pr_78 hp, pr_80 hp, pr_81 hp, pr_82 hp, pr_83 hp, pr_84 hp, k_256 hκ, n_257 hκ, n_258 hκ, n_259 hκ, n_260 hκ, n_261 hκ, n_262 hκ, n_263 hκ, n_264 hκ, n_265 hκ, n_266 hκ, n_267 hκ, n_268 hκ, n_269 hκ, n_270 hκ, n_271 hκ, n_272 hκ, n_273 hκ, n_274 hκ, n_275 hκ, n_276 hκ, n_277 hκ, n_278 hκ, n_279 hκ, n_280 hκ, n_281 hκ, n_282 hκ, n_283 hκ, n_284 hκ, n_285 hκ, n_286 hκ, n_287 hκ, n_288 hκ, n_289 hκ, n_290 hκ, n_291 hκ, n_292 hκ, n_293 hκ, n_294 hκ, n_295 hκ, n_296 hκ, n_297 hκ, n_298 hκ, n_299 hκ, n_300 hκ, n_301 hκ, n_302 hκ, n_303 hκ, n_304 hκ, n_305 hκ, n_306 hκ, n_307 hκ, n_308 hκ, n_309 hκ, n_310 hκ, n_311 hκ, n_312 hκ, n_313 hκ, n_314 hκ, hv, e1, oshl1, oor_nat]
    exact ih (j + 1) (by omega)
theorem rpart_loop (xs : List Int) (d : Nat) {κ : aK} {D : Nat → Nat → Int} (hκ : Shp κ) {v : Nat} {X : TX} (hX : TXok X) (hR : RI D v X) {ord : Nat → Nat} (ho : ordX D X ord) {k : Nat} (hk' : k ≤ xpr X) : ∀ (p : Nat) (g : Nat → Int) (u3 u4 : Option aV), p ≤ xns X → g 0 = 0 → ∃ g' : Nat → Int, g' 0 = 0 ∧ ev xs (d + 6) mm_296 24 [some (.inr (.inr 256)), some (.inl (k : Int)), some (.inl (p : Int)), u3, u4] [] (κ, setc D 303 g) = some (some (.inl (ptL X ord k p)), (κ, setc D 303 g')) := by
  have hp := hR.1; have hv := hR.2.1; have hv2 := hR.2.2.1; have hT := hR.2.2.2.2; have x1 := hX.1.1; have x2 := hX.2.1.1; have hk := k_256 hκ
  have hp2 := p2 hX
  have om : ∀ n : Nat, ((n : Nat) : Int) = (n : Int) := fun _ => rfl
  -- what happens at p: an answer, or the next smaller p
  have at_p : ∀ (p : Nat) (g : Nat → Int) (u3 u4 : Option aV), p ≤ xns X → g 0 = 0 → ∃ g' : Nat → Int, g' 0 = 0 ∧ ((hasF X ord false k (plc ord p) (2 ^ xns X) 0 = true ∧ hasF X ord true k (plc ord p) (2 ^ xns X) 0 = true → ev xs (d + 6) mm_296 24 [some (.inr (.inr 256)), some (.inl (k : Int)), some (.inl (p : Int)), u3, u4] [] (κ, setc D 303 g) = some (some (.inl (p : Int)), (κ, setc D 303 g'))) ∧ (¬ (hasF X ord false k (plc ord p) (2 ^ xns X) 0 = true ∧ hasF X ord true k (plc ord p) (2 ^ xns X) 0 = true) → ev xs (d + 6) mm_296 24 [some (.inr (.inr 256)), some (.inl (k : Int)), some (.inl (p : Int)), u3, u4] [] (κ, setc D 303 g) = ev xs (d + 6) mm_296 24 [some (.inr (.inr 256)), some (.inl (k : Int)), some (.inl ((p : Int) - 1)), some (.inl (plc ord p : Int)), some (.inl (p : Int))] [] (κ, setc D 303 g'))) := by
    intro p g u3 u4 hp' hg
    have hpl := plc_lt (fun k hk => (ho k hk).2) p hp'
    obtain ⟨g1, hg1, e1⟩ := hasFitX xs d hκ hX hR ho hk' 0 (must := plc ord p) (by omega) hg
    rw [show ob 0 = false from rfl] at e1
    have fl := first_loop xs (d + 6) hκ hX hR ho hp' (k : Int) (g := g) p 0 (by omega)
    have fl' : ev xs (d + 6) mm_296 33 [some (.inr (.inr 256)), some (.inl (k : Int)), some (.inl (p : Int)), some (.inl 0), some (.inl 0)] [] (κ, setc D 303 g) = _ := fl
    have ed : w32 ((p : Int) + (-1)) = (p : Int) - 1 := by rw [w32_id (by omega) (by omega)]; omega
    by_cases h1 : hasF X ord false k (plc ord p) (2 ^ xns X) 0 = true
    · rw [if_pos h1] at e1
      obtain ⟨g2, hg2, e2⟩ := hasFitX xs d hκ hX hR ho hk' 1 (must := plc ord p) (by omega) hg1
      rw [show ob 1 = true from rfl] at e2
      by_cases h2 : hasF X ord true k (plc ord p) (2 ^ xns X) 0 = true
      · rw [if_pos h2] at e2
        refine ⟨g2, hg2, fun _ => ?_, fun q => absurd ⟨h1, h2⟩ q⟩
        rw [q_296_24]
        simp (disch := omega) only [cond_true, cond_false, Bool.and_true, Bool.true_and, Bool.and_false, Bool.false_and, Int.toNat_natCast, Int.reduceToNat, bI_s, bJ_s, bV_s, bR_s, decide_true, decide_false, not_true_eq_false, not_false_eq_true, dT, dF, w_al, w_la, w_ab, w_sl, w_sb, w_dec, w_ml, w_lm, ol2i_n, aup_ne, aupE, aupJ, setc_self, setc_ne, fl']
        rw [q_296_33]
        simp (disch := omega) only [cond_true, cond_false, Bool.and_true, Bool.true_and, Bool.and_false, Bool.false_and, Int.toNat_natCast, Int.reduceToNat, bI_s, bJ_s, bV_s, bR_s, decide_true, decide_false, not_true_eq_false, not_false_eq_true, dT, dF, w_al, w_la, w_ab, w_sl, w_sb, w_dec, w_ml, w_lm, ol2i_n, aup_ne, aupE, aupJ, setc_self, setc_ne, k_256 hκ, n_257 hκ, n_258 hκ, n_259 hκ, n_260 hκ, n_261 hκ, n_262 hκ, n_263 hκ, n_264 hκ, n_265 hκ, n_266 hκ, n_267 hκ, n_268 hκ, n_269 hκ, n_270 hκ, n_271 hκ, n_272 hκ, n_273 hκ, n_274 hκ, n_275 hκ, n_276 hκ, n_277 hκ, n_278 hκ, n_279 hκ, n_280 hκ, n_281 hκ, n_282 hκ, n_283 hκ, n_284 hκ, n_285 hκ, n_286 hκ, n_287 hκ, n_288 hκ, n_289 hκ, n_290 hκ, n_291 hκ, n_292 hκ, n_293 hκ, n_294 hκ, n_295 hκ, n_296 hκ, n_297 hκ, n_298 hκ, n_299 hκ, n_300 hκ, n_301 hκ, n_302 hκ, n_303 hκ, n_304 hκ, n_305 hκ, n_306 hκ, n_307 hκ, n_308 hκ, n_309 hκ, n_310 hκ, n_311 hκ, n_312 hκ, n_313 hκ, n_314 hκ, e1, e2]
      · rw [if_neg h2] at e2
        refine ⟨g2, hg2, fun q => absurd q.2 h2, fun _ => ?_⟩
        rw [q_296_24]
        simp (disch := omega) only [cond_true, cond_false, Bool.and_true, Bool.true_and, Bool.and_false, Bool.false_and, Int.toNat_natCast, Int.reduceToNat, bI_s, bJ_s, bV_s, bR_s, decide_true, decide_false, not_true_eq_false, not_false_eq_true, dT, dF, w_al, w_la, w_ab, w_sl, w_sb, w_dec, w_ml, w_lm, ol2i_n, aup_ne, aupE, aupJ, setc_self, setc_ne, fl']
        rw [q_296_33]
        simp (disch := omega) only [cond_true, cond_false, decide_true, decide_false, Bool.and_true, bI_s, dT, dF, k_256 hκ, n_257 hκ, n_258 hκ, n_259 hκ, n_260 hκ, n_261 hκ, n_262 hκ, n_263 hκ, n_264 hκ, n_265 hκ, n_266 hκ, n_267 hκ, n_268 hκ, n_269 hκ, n_270 hκ, n_271 hκ, n_272 hκ, n_273 hκ, n_274 hκ, n_275 hκ, n_276 hκ, n_277 hκ, n_278 hκ, n_279 hκ, n_280 hκ, n_281 hκ, n_282 hκ, n_283 hκ, n_284 hκ, n_285 hκ, n_286 hκ, n_287 hκ, n_288 hκ, n_289 hκ, n_290 hκ, n_291 hκ, n_292 hκ, n_293 hκ, n_294 hκ, n_295 hκ, n_296 hκ, n_297 hκ, n_298 hκ, n_299 hκ, n_300 hκ, n_301 hκ, n_302 hκ, n_303 hκ, n_304 hκ, n_305 hκ, n_306 hκ, n_307 hκ, n_308 hκ, n_309 hκ, n_310 hκ, n_311 hκ, n_312 hκ, n_313 hκ, n_314 hκ, e1, e2, ed]
    · rw [if_neg h1] at e1
      refine ⟨g1, hg1, fun q => absurd q.1 h1, fun _ => ?_⟩
      rw [q_296_24]
      simp (disch := omega) only [cond_true, cond_false, Bool.and_true, Bool.true_and, Bool.and_false, Bool.false_and, Int.toNat_natCast, Int.reduceToNat, bI_s, bJ_s, bV_s, bR_s, decide_true, decide_false, not_true_eq_false, not_false_eq_true, dT, dF, w_al, w_la, w_ab, w_sl, w_sb, w_dec, w_ml, w_lm, ol2i_n, aup_ne, aupE, aupJ, setc_self, setc_ne, fl']
      rw [q_296_33]
      simp (disch := omega) only [cond_true, cond_false, decide_true, decide_false, Bool.and_true, bI_s, dT, dF, k_256 hκ, n_257 hκ, n_258 hκ, n_259 hκ, n_260 hκ, n_261 hκ, n_262 hκ, n_263 hκ, n_264 hκ, n_265 hκ, n_266 hκ, n_267 hκ, n_268 hκ, n_269 hκ, n_270 hκ, n_271 hκ, n_272 hκ, n_273 hκ, n_274 hκ, n_275 hκ, n_276 hκ, n_277 hκ, n_278 hκ, n_279 hκ, n_280 hκ, n_281 hκ, n_282 hκ, n_283 hκ, n_284 hκ, n_285 hκ, n_286 hκ, n_287 hκ, n_288 hκ, n_289 hκ, n_290 hκ, n_291 hκ, n_292 hκ, n_293 hκ, n_294 hκ, n_295 hκ, n_296 hκ, n_297 hκ, n_298 hκ, n_299 hκ, n_300 hκ, n_301 hκ, n_302 hκ, n_303 hκ, n_304 hκ, n_305 hκ, n_306 hκ, n_307 hκ, n_308 hκ, n_309 hκ, n_310 hκ, n_311 hκ, n_312 hκ, n_313 hκ, n_314 hκ, e1, ed]
  intro p
  induction p with
  | zero =>
    intro g u3 u4 hp' hg
    obtain ⟨g', hg', a, b⟩ := at_p 0 g u3 u4 hp' hg
    refine ⟨g', hg', ?_⟩
    unfold ptL
    by_cases hc : hasF X ord false k (plc ord 0) (2 ^ xns X) 0 = true ∧ hasF X ord true k (plc ord 0) (2 ^ xns X) 0 = true
    · rw [if_pos hc]; exact a hc
    · rw [if_neg hc, b hc, q_296_24]
      simp (disch := omega) only [cond_true, cond_false, Bool.and_true, Bool.true_and, Bool.and_false, Bool.false_and, Int.toNat_natCast, Int.reduceToNat, bI_s, bJ_s, bV_s, bR_s, decide_true, decide_false, not_true_eq_false, not_false_eq_true, dT, dF, w_al, w_la, w_ab, w_sl, w_sb, w_dec, w_ml, w_lm, ol2i_n, aup_ne, aupE, aupJ, setc_self, setc_ne]
  | succ p ih =>
    intro g u3 u4 hp' hg
    obtain ⟨g1, hg1, a, b⟩ := at_p (p + 1) g u3 u4 hp' hg
    unfold ptL
    by_cases hc : hasF X ord false k (plc ord (p + 1)) (2 ^ xns X) 0 = true ∧ hasF X ord true k (plc ord (p + 1)) (2 ^ xns X) 0 = true
    · refine ⟨g1, hg1, ?_⟩
      rw [if_pos hc]; exact a hc
    · obtain ⟨g', hg', e⟩ := ih g1 (some (.inl (plc ord (p + 1) : Int))) (some (.inl ((p + 1 : Nat) : Int))) (by omega) hg1
      refine ⟨g', hg', ?_⟩
      rw [if_neg hc, b hc, show ((p + 1 : Nat) : Int) - 1 = (p : Int) by omega]
      exact e
theorem rparted (xs : List Int) (d : Nat) {κ : aK} {D : Nat → Nat → Int} (hκ : Shp κ) {v : Nat} {X : TX} (hX : TXok X) (hR : RI D v X) {S : ST} (hS : STok X S) (hn : RowR (D 301) X S) (k : Int) : ∃ D', RSame D D' ∧ cl xs (d + 7) 296 [.inr (.inr 256), .inl k] (κ, D) = some (some (.inl (qPart X S k)), (κ, D')) := by
  have hp := hR.1; have hv := hR.2.1; have hv2 := hR.2.2.1; have hT := hR.2.2.2.2; have x1 := hX.1.1; have x2 := hX.2.1.1; have hk := k_256 hκ
  have ip := isPairsX xs (d + 4) hκ hX hR (g := D 303) k
  rw [setc_id] at ip
  rw [c_296]
  unfold qPart
  by_cases h : 0 ≤ k ∧ k ≤ (xpr X : Int)
  · rw [if_pos h] at ip ⊢
    obtain ⟨k, rfl⟩ := Int.eq_ofNat_of_zero_le h.1
    obtain ⟨g', hg', e⟩ := rpart_loop xs d hκ hX (hR.s302 _) (D := cpD D) (RowR.ord (cpD_row hX hn) hS) (k := k) (by omega) (xns X) (D 303) none none (Nat.le_refl _) hR.2.2.2.1
    refine ⟨_, RSame.q hg', ?_⟩
    simp (disch := omega) only [cond_true, cond_false, Bool.and_true, Bool.true_and, Bool.and_false, Bool.false_and, Int.toNat_natCast, Int.reduceToNat, bI_s, bJ_s, bV_s, bR_s, decide_true, decide_false, not_true_eq_false, not_false_eq_true, dT, dF, w_al, w_la, w_ab, w_sl, w_sb, w_dec, w_ml, w_lm, ol2i_n, aup_ne, aupE, aupJ, setc_self, setc_ne, pr_1 hp, pr_3 hp, pr_5 hp, pr_6 hp, pr_7 hp, pr_8 hp, pr_9 hp, pr_20 hp, pr_21 hp, pr_22 hp, pr_23 hp, pr_24 hp, pr_25 hp, pr_26 hp, pr_27 hp, pr_28 hp, pr_29 hp, pr_30 hp, pr_31 hp, pr_32 hp, pr_33 hp, pr_34 hp, pr_35 hp, pr_36 hp, pr_37 hp, pr_38 hp, pr_39 hp, pr_40 hp, pr_41 hp, pr_42 hp, pr_43 hp, pr_44 hp, pr_45 hp, pr_46 hp, pr_48 hp, pr_49 hp, pr_50 hp, pr_51 hp, pr_52 hp, pr_54 hp, pr_55 hp, pr_58 hp, pr_60 hp, pr_61 hp, pr_63 hp, pr_64 hp, pr_65 hp, pr_71 hp, pr_72 hp, pr_73 hp, pr_75 hp, pr_76 hp, pr_78 hp, pr_80 hp, pr_81 hp, pr_82 hp, pr_83 hp, pr_84 hp, k_256 hκ, n_257 hκ, n_258 hκ, n_259 hκ, n_260 hκ, n_261 hκ, n_262 hκ, n_263 hκ, n_264 hκ, n_265 hκ, n_266 hκ, n_267 hκ, n_268 hκ, n_269 hκ, n_270 hκ, n_271 hκ, n_272 hκ, n_273 hκ, n_274 hκ, n_275 hκ, n_276 hκ, n_277 hκ, n_278 hκ, n_279 hκ, n_280 hκ, n_281 hκ, n_282 hκ, n_283 hκ, n_284 hκ, n_285 hκ, n_286 hκ, n_287 hκ, n_288 hκ, n_289 hκ, n_290 hκ, n_291 hκ, n_292 hκ, n_293 hκ, n_294 hκ, n_295 hκ, n_296 hκ, n_297 hκ, n_298 hκ, n_299 hκ, n_300 hκ, n_301 hκ, n_302 hκ, n_303 hκ, n_304 hκ, n_305 hκ, n_306 hκ, n_307 hκ, n_308 hκ, n_309 hκ, n_310 hκ, n_311 hκ, n_312 hκ, n_313 hκ, n_314 hκ, hv, ip, copiesX xs (d + 5) hκ hR, hT.1.1.1]
    exact e
  · rw [if_neg h] at ip ⊢
    refine ⟨D, RSame.rfl' hR.2.2.2.1, ?_⟩
    simp (disch := omega) only [cond_true, cond_false, Bool.and_true, Bool.true_and, Bool.and_false, Bool.false_and, Int.toNat_natCast, Int.reduceToNat, bI_s, bJ_s, bV_s, bR_s, decide_true, decide_false, not_true_eq_false, not_false_eq_true, dT, dF, w_al, w_la, w_ab, w_sl, w_sb, w_dec, w_ml, w_lm, ol2i_n, aup_ne, aupE, aupJ, setc_self, setc_ne, pr_1 hp, pr_3 hp, pr_5 hp, pr_6 hp, pr_7 hp, pr_8 hp, pr_9 hp, pr_20 hp, pr_21 hp, pr_22 hp, pr_23 hp, pr_24 hp, pr_25 hp, pr_26 hp, pr_27 hp, pr_28 hp, pr_29 hp, pr_30 hp, pr_31 hp, pr_32 hp, pr_33 hp, pr_34 hp, pr_35 hp, pr_36 hp, pr_37 hp, pr_38 hp, pr_39 hp, pr_40 hp, pr_41 hp, pr_42 hp, pr_43 hp, pr_44 hp, pr_45 hp, pr_46 hp, pr_48 hp, pr_49 hp, pr_50 hp, pr_51 hp, pr_52 hp, pr_54 hp, pr_55 hp, pr_58 hp, pr_60 hp, pr_61 hp, pr_63 hp, pr_64 hp, pr_65 hp, pr_71 hp, pr_72 hp, pr_73 hp, pr_75 hp, pr_76 hp, pr_78 hp, pr_80 hp, pr_81 hp, pr_82 hp, pr_83 hp, pr_84 hp, k_256 hκ, n_257 hκ, n_258 hκ, n_259 hκ, n_260 hκ, n_261 hκ, n_262 hκ, n_263 hκ, n_264 hκ, n_265 hκ, n_266 hκ, n_267 hκ, n_268 hκ, n_269 hκ, n_270 hκ, n_271 hκ, n_272 hκ, n_273 hκ, n_274 hκ, n_275 hκ, n_276 hκ, n_277 hκ, n_278 hκ, n_279 hκ, n_280 hκ, n_281 hκ, n_282 hκ, n_283 hκ, n_284 hκ, n_285 hκ, n_286 hκ, n_287 hκ, n_288 hκ, n_289 hκ, n_290 hκ, n_291 hκ, n_292 hκ, n_293 hκ, n_294 hκ, n_295 hκ, n_296 hκ, n_297 hκ, n_298 hκ, n_299 hκ, n_300 hκ, n_301 hκ, n_302 hκ, n_303 hκ, n_304 hκ, n_305 hκ, n_306 hκ, n_307 hκ, n_308 hκ, n_309 hκ, n_310 hκ, n_311 hκ, n_312 hκ, n_313 hκ, n_314 hκ, hv, ip]
/-- the unlike outcomes of a pair by the sets that fit -/
def dsL (X : TX) (ord : Nat → Nat) (k p : Nat) : Nat → Nat → List (List Nat) → List (List Nat)
  | 0, _, L => L
  | m + 1, s, L => if fitA X ord s false k = true ∧ rk X ord s (xns X) (xPI X p) ∉ L then dsL X ord k p m (s + 1) (L ++ [rk X ord s (xns X) (xPI X p)]) else dsL X ord k p m (s + 1) L
theorem sort_in (xs : List Int) (d : Nat) {κ : aK} {D : Nat → Nat → Int} (hκ : Shp κ) (hc : CPtr D) {L : List (List Nat)} {w : List Nat} (hw : wok w) (hL : ∀ l ∈ L, wok l) (hl : L.length < 128) {f : Nat → Int} (hf : ∀ j, j < L.length → f j = (p32 (L.getD j []) : Int)) (hfn : f L.length = (p32 w : Int)) (v1 v2 v4 : Int) : ∀ (m j : Nat), j + m = L.length → (∀ i, i < j → L.getD i [] ≠ w) → ev xs d mm_70 46 [some (.inr (.inr ((72 : Nat) : Int))), some (.inl v1), some (.inl v2), some (.inl (L.length : Int)), some (.inl v4), some (.inl (j : Int))] [] (κ, setc D 76 f) = ev xs d mm_70 75 [some (.inr (.inr ((72 : Nat) : Int))), some (.inl v1), some (.inl v2), some (.inl (L.length : Int)), some (.inl v4), some (.inl ((L.findIdx (fun l => decide (l = w)) : Nat) : Int))] [] (κ, setc D 76 f) := by
  intro m
  induction m with
  | zero =>
    intro j h hn
    have e : L.findIdx (fun l => decide (l = w)) = L.length := by
      rw [List.findIdx_eq_length]
      intro l hl'
      obtain ⟨i, hi, rfl⟩ := List.getElem_of_mem hl'
      have := hn i (by omega)
      rw [List.getD_eq_getElem?_getD, List.getElem?_eq_getElem hi] at this
      exact decide_eq_false this
    rw [q_70_46, e]
    simp (disch := omega) only [cond_true, cond_false, Bool.and_true, Bool.true_and, Bool.and_false, Bool.false_and, Int.toNat_natCast, Int.reduceToNat, bI_s, bJ_s, bV_s, bR_s, decide_true, decide_false, not_true_eq_false, not_false_eq_true, dT, dF, w_al, w_la, w_ab, w_sl, w_sb, w_dec, w_ml, w_lm, ol2i_n, aup_ne, aupE, aupJ, setc_self, setc_ne]
    rw [show j = L.length by omega]
  | succ m ih =>
    intro j h hn
    have hfj := hf j (by omega)
    have hmem : L.getD j [] ∈ L := by
      rw [List.getD_eq_getElem?_getD, List.getElem?_eq_getElem (by omega)]
      exact List.getElem_mem _
    rw [q_70_46]
    by_cases he : L.getD j [] = w
    · have e : L.findIdx (fun l => decide (l = w)) = j := by
        rw [List.findIdx_eq (by omega)]
        refine ⟨?_, fun i hi => ?_⟩
        · have := he
          rw [List.getD_eq_getElem?_getD, List.getElem?_eq_getElem (by omega)] at this
          exact decide_eq_true this
        · have := hn i hi
          rw [List.getD_eq_getElem?_getD, List.getElem?_eq_getElem (by omega)] at this
          exact decide_eq_false this
      rw [he] at hfj
      rw [e]
      simp (disch := omega) only [cond_true, cond_false, Bool.and_true, Bool.true_and, Bool.and_false, Bool.false_and, Int.toNat_natCast, Int.reduceToNat, bI_s, bJ_s, bV_s, bR_s, decide_true, decide_false, not_true_eq_false, not_false_eq_true, dT, dF, w_al, w_la, w_ab, w_sl, w_sb, w_dec, w_ml, w_lm, ol2i_n, aup_ne, aupE, aupJ, setc_self, setc_ne, pc_0_0 hc, pc_0_3 hc, pc_0_4 hc, pc_0_7 hc, pc_0_8 hc, pc_0_9 hc, pc_0_12 hc, pc_0_14 hc, pc_0_15 hc, pc_0_16 hc, pc_0_17 hc, pc_0_18 hc, pc_0_19 hc, pc_2_1 hc, pc_2_2 hc, pc_2_3 hc, pc_2_6 hc, pc_2_8 hc, pc_8_2 hc, pc_65_1 hc, pc_65_2 hc, pc_68_1 hc, pc_72_3 hc, pc_72_4 hc, pc_72_5 hc, pc_72_6 hc, pc_77_1 hc, pc_77_2 hc, pc_77_3 hc, pc_77_4 hc, pc_77_5 hc, pc_77_6 hc, kc_0 hκ, kc_1 hκ, nc_1 hκ, kc_2 hκ, kc_3 hκ, nc_3 hκ, kc_4 hκ, nc_4 hκ, kc_5 hκ, nc_5 hκ, kc_6 hκ, nc_6 hκ, kc_7 hκ, nc_7 hκ, kc_8 hκ, kc_63 hκ, nc_63 hκ, kc_64 hκ, nc_64 hκ, kc_65 hκ, kc_66 hκ, nc_66 hκ, kc_67 hκ, nc_67 hκ, kc_68 hκ, kc_69 hκ, nc_69 hκ, kc_70 hκ, nc_70 hκ, kc_71 hκ, nc_71 hκ, kc_72 hκ, kc_73 hκ, nc_73 hκ, kc_74 hκ, nc_74 hκ, kc_75 hκ, nc_75 hκ, kc_76 hκ, nc_76 hκ, kc_77 hκ, kc_78 hκ, nc_78 hκ, kc_79 hκ, nc_79 hκ, kc_80 hκ, nc_80 hκ, kc_81 hκ, nc_81 hκ, kc_82 hκ, nc_82 hκ, kc_83 hκ, nc_83 hκ, kc_84 hκ, nc_84 hκ, kc_85 hκ, nc_85 hκ, kc_86 hκ, nc_86 hκ, kc_87 hκ, nc_87 hκ, kc_88 hκ, nc_88 hκ, kc_89 hκ, nc_89 hκ, kc_90 hκ, nc_90 hκ, sk_0 hκ is53, sp_1 hc is53, sk_1 hκ is53, sn_1 hκ is53, sp_2 hc is53, sk_2 hκ is53, sn_2 hκ is53, sp_3 hc is53, sk_3 hκ is53, sn_3 hκ is53, sp_4 hc is53, sk_4 hκ is53, sn_4 hκ is53, sk_0 hκ is58, sp_1 hc is58, sk_1 hκ is58, sn_1 hκ is58, sp_2 hc is58, sk_2 hκ is58, sn_2 hκ is58, sp_3 hc is58, sk_3 hκ is58, sn_3 hκ is58, sp_4 hc is58, sk_4 hκ is58, sn_4 hκ is58, hfj, hfn, olcmp_eq]
    · have hne := p32_ne (hL _ hmem).1 hw.1 he
      simp (disch := omega) only [cond_true, cond_false, Bool.and_true, Bool.true_and, Bool.and_false, Bool.false_and, Int.toNat_natCast, Int.reduceToNat, bI_s, bJ_s, bV_s, bR_s, decide_true, decide_false, not_true_eq_false, not_false_eq_true, dT, dF, w_al, w_la, w_ab, w_sl, w_sb, w_dec, w_ml, w_lm, ol2i_n, aup_ne, aupE, aupJ, setc_self, setc_ne, pc_0_0 hc, pc_0_3 hc, pc_0_4 hc, pc_0_7 hc, pc_0_8 hc, pc_0_9 hc, pc_0_12 hc, pc_0_14 hc, pc_0_15 hc, pc_0_16 hc, pc_0_17 hc, pc_0_18 hc, pc_0_19 hc, pc_2_1 hc, pc_2_2 hc, pc_2_3 hc, pc_2_6 hc, pc_2_8 hc, pc_8_2 hc, pc_65_1 hc, pc_65_2 hc, pc_68_1 hc, pc_72_3 hc, pc_72_4 hc, pc_72_5 hc, pc_72_6 hc, pc_77_1 hc, pc_77_2 hc, pc_77_3 hc, pc_77_4 hc, pc_77_5 hc, pc_77_6 hc, kc_0 hκ, kc_1 hκ, nc_1 hκ, kc_2 hκ, kc_3 hκ, nc_3 hκ, kc_4 hκ, nc_4 hκ, kc_5 hκ, nc_5 hκ, kc_6 hκ, nc_6 hκ, kc_7 hκ, nc_7 hκ, kc_8 hκ, kc_63 hκ, nc_63 hκ, kc_64 hκ, nc_64 hκ, kc_65 hκ, kc_66 hκ, nc_66 hκ, kc_67 hκ, nc_67 hκ, kc_68 hκ, kc_69 hκ, nc_69 hκ, kc_70 hκ, nc_70 hκ, kc_71 hκ, nc_71 hκ, kc_72 hκ, kc_73 hκ, nc_73 hκ, kc_74 hκ, nc_74 hκ, kc_75 hκ, nc_75 hκ, kc_76 hκ, nc_76 hκ, kc_77 hκ, kc_78 hκ, nc_78 hκ, kc_79 hκ, nc_79 hκ, kc_80 hκ, nc_80 hκ, kc_81 hκ, nc_81 hκ, kc_82 hκ, nc_82 hκ, kc_83 hκ, nc_83 hκ, kc_84 hκ, nc_84 hκ, kc_85 hκ, nc_85 hκ, kc_86 hκ, nc_86 hκ, kc_87 hκ, nc_87 hκ, kc_88 hκ, nc_88 hκ, kc_89 hκ, nc_89 hκ, kc_90 hκ, nc_90 hκ, sk_0 hκ is53, sp_1 hc is53, sk_1 hκ is53, sn_1 hκ is53, sp_2 hc is53, sk_2 hκ is53, sn_2 hκ is53, sp_3 hc is53, sk_3 hκ is53, sn_3 hκ is53, sp_4 hc is53, sk_4 hκ is53, sn_4 hκ is53, sk_0 hκ is58, sp_1 hc is58, sk_1 hκ is58, sn_1 hκ is58, sp_2 hc is58, sk_2 hκ is58, sn_2 hκ is58, sp_3 hc is58, sk_3 hκ is58, sn_3 hκ is58, sp_4 hc is58, sk_4 hκ is58, sn_4 hκ is58, hfj, hfn, olcmp_eq]
      exact ih (j + 1) (by omega) (fun i hi => by
        by_cases hij : i = j
        · rw [hij]; exact he
        · exact hn i (by omega))
