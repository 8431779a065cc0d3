/-! mostUsed, forged by the reference. -/
theorem wy_aup {D : Nat → Nat → Int} {a b c e : Int} {q k : Nat} {x : Int} (h : q ≠ 256) : aup (wyD D a b c e) q k x = wyD (aup D q k x) a b c e := by
  funext r j
  unfold wyD aup setc
  by_cases h1 : r = 256
  · subst h1
    simp [Ne.symm h]
  · simp [h1]
/-- U by one more at p -/
def upU (U : Nat → Nat) (p : Nat) : Nat → Nat := fun j => if j = p then U j + 1 else U j
theorem upU_at {U : Nat → Nat} {u : Nat → Int} {p : Nat} (hu : ∀ j, j < 24 → u j = (U j : Int)) (hp : p < 24) : ∀ j, j < 24 → (fun j => if j = p then ((U p + 1 : Nat) : Int) else u j) j = (upU U p j : Int) := fun j hj => by
  show (if j = p then _ else u j) = _
  unfold upU
  by_cases h : j = p
  · rw [if_pos h, if_pos h, h]
  · rw [if_neg h, if_neg h]; exact hu j hj
theorem used_A (xs : List Int) (d : Nat) {κ : aK} {D : Nat → Nat → Int} (hκ : Shp κ) {v : Nat} {X : TX} (hX : TXok X) (hR : RI D v X) {y : WY} (hy : wvd X y) {u : Nat → Int} {U : Nat → Nat} (hu : ∀ j, j < 24 → u j = (U j : Int)) (hU : ∀ j, U j ≤ 1000000) (v1 : Int) {w : List Nat} (hm : cl xs d 254 [.inr (.inr 256), .inr (.inl (p27 w : Int))] (κ, wyS (setc D 312 u) y) = some (some (.inl 1), (κ, wyS (setc D 312 u) y))) (u3 : Option aV) {E0 : Nat → Nat → Int} (hn : cl xs d 249 [.inr (.inr 256)] (κ, E0) = some (some (.inl 1), (κ, wyS (setc D 312 u) y))) : ∃ u' : Nat → Int, (∀ j, j < 24 → u' j = ((U j + (if 1 ≤ y.1 ∧ j = 15 + y.1 then 1 else 0) : Nat) : Int)) ∧ ev xs d mm_303 62 [some (.inr (.inr 256)), some (.inl v1), some (.inr (.inl (p27 w : Int))), u3] [] (κ, E0) = ev xs d mm_303 103 [some (.inr (.inr 256)), some (.inl v1), some (.inr (.inl (p27 w : Int))), u3] [] (κ, wyS (setc D 312 u') y) := by
  have hp := hR.1; have hv := hR.2.1; have hv2 := hR.2.2.1; have hT := hR.2.2.2.2; have x1 := hX.1.1; have x2 := hX.2.1.1; have hk := k_256 hκ
  obtain ⟨y1, ⟨y2, y2'⟩, y3, y4⟩ := hy
  have n2 : xnp X 2 ≤ 4 := (hX.2.2.1 2 (by decide)).1
  have f1 : wyS (setc D 312 u) y 256 66 = (y.1 : Int) - 1 := wy_66 ..
  rw [q_303_62]
  by_cases h0 : y.1 = 0
  · refine ⟨u, fun j hj => by rw [hu j hj, if_neg (by omega), Nat.add_zero], ?_⟩
    simp (disch := omega) only [cond_true, cond_false, Bool.and_true, Bool.true_and, Bool.and_false, Bool.false_and, Int.toNat_natCast, Int.reduceToNat, bI_s, bJ_s, bV_s, bR_s, decide_true, decide_false, not_true_eq_false, not_false_eq_true, dT, dF, w_al, w_la, w_ab, w_sl, w_sb, w_dec, w_ml, w_lm, ol2i_n, aup_ne, aupE, aupJ, setc_self, setc_ne, k_256 hκ, n_257 hκ, n_258 hκ, n_259 hκ, n_260 hκ, n_261 hκ, n_262 hκ, n_263 hκ, n_264 hκ, n_265 hκ, n_266 hκ, n_267 hκ, n_268 hκ, n_269 hκ, n_270 hκ, n_271 hκ, n_272 hκ, n_273 hκ, n_274 hκ, n_275 hκ, n_276 hκ, n_277 hκ, n_278 hκ, n_279 hκ, n_280 hκ, n_281 hκ, n_282 hκ, n_283 hκ, n_284 hκ, n_285 hκ, n_286 hκ, n_287 hκ, n_288 hκ, n_289 hκ, n_290 hκ, n_291 hκ, n_292 hκ, n_293 hκ, n_294 hκ, n_295 hκ, n_296 hκ, n_297 hκ, n_298 hκ, n_299 hκ, n_300 hκ, n_301 hκ, n_302 hκ, n_303 hκ, n_304 hκ, n_305 hκ, n_306 hκ, n_307 hκ, n_308 hκ, n_309 hκ, n_310 hκ, n_311 hκ, n_312 hκ, n_313 hκ, n_314 hκ, hn, hm, f1]
  · refine ⟨fun j => if j = 15 + y.1 then ((U (15 + y.1) + 1 : Nat) : Int) else u j, fun j hj => ?_, ?_⟩
    · rw [upU_at hu (show 15 + y.1 < 24 by omega) j hj]
      unfold upU
      by_cases h : j = 15 + y.1
      · rw [if_pos h, if_pos (by omega)]
      · rw [if_neg h, if_neg (by omega), Nat.add_zero]
    · have eu := hu (15 + y.1) (by omega)
      have hUb := hU (15 + y.1)
      have ei : w32 (16 + ((y.1 : Int) - 1)) = ((15 + y.1 : Nat) : Int) := by rw [w32_id (by omega) (by omega)]; omega
      have p82 : wyS (setc D 312 u) y 256 82 = 312 := by
        have := pr_82 hp
        unfold wyS
        rw [wy_o (by omega), setc_ne (by decide)]
        exact this
      have a312 : wyS (setc D 312 u) y 312 = u := by unfold wyS; rw [wy_q (by decide), setc_self]
      have au : ∀ k x, aup (wyS (setc D 312 u) y) 312 k x = wyS (setc D 312 (fun j => if j = k then x else u j)) y := fun k x => by
        unfold wyS
        rw [wy_aup (by decide), aup_setc]
      simp (disch := omega) only [cond_true, cond_false, Bool.and_true, Bool.true_and, Bool.and_false, Bool.false_and, Int.toNat_natCast, Int.reduceToNat, bI_s, bJ_s, bV_s, bR_s, decide_true, decide_false, not_true_eq_false, not_false_eq_true, dT, dF, w_al, w_la, w_ab, w_sl, w_sb, w_dec, w_ml, w_lm, ol2i_n, aup_ne, aupE, aupJ, setc_self, setc_ne, k_256 hκ, n_257 hκ, n_258 hκ, n_259 hκ, n_260 hκ, n_261 hκ, n_262 hκ, n_263 hκ, n_264 hκ, n_265 hκ, n_266 hκ, n_267 hκ, n_268 hκ, n_269 hκ, n_270 hκ, n_271 hκ, n_272 hκ, n_273 hκ, n_274 hκ, n_275 hκ, n_276 hκ, n_277 hκ, n_278 hκ, n_279 hκ, n_280 hκ, n_281 hκ, n_282 hκ, n_283 hκ, n_284 hκ, n_285 hκ, n_286 hκ, n_287 hκ, n_288 hκ, n_289 hκ, n_290 hκ, n_291 hκ, n_292 hκ, n_293 hκ, n_294 hκ, n_295 hκ, n_296 hκ, n_297 hκ, n_298 hκ, n_299 hκ, n_300 hκ, n_301 hκ, n_302 hκ, n_303 hκ, n_304 hκ, n_305 hκ, n_306 hκ, n_307 hκ, n_308 hκ, n_309 hκ, n_310 hκ, n_311 hκ, n_312 hκ, n_313 hκ, n_314 hκ, hn, hm, f1, p82, ei, a312, eu, au]
theorem used_B (xs : List Int) (d : Nat) {κ : aK} {D : Nat → Nat → Int} (hκ : Shp κ) {v : Nat} {X : TX} (hX : TXok X) (hR : RI D v X) {y : WY} (hy : wvd X y) {u : Nat → Int} {U : Nat → Nat} (hu : ∀ j, j < 24 → u j = (U j : Int)) (hU : ∀ j, U j ≤ 1000000) (v1 v2 : Int) (u3 : Option aV) : ∃ u' : Nat → Int, (∀ j, j < 24 → u' j = ((U j + (if j + 1 = y.2.1 then 1 else 0) + (if 1 ≤ y.2.2.1 ∧ j = 7 + y.2.2.1 then 1 else 0) : Nat) : Int)) ∧ ev xs d mm_303 103 [some (.inr (.inr 256)), some (.inl v1), some (.inr (.inl v2)), u3] [] (κ, wyS (setc D 312 u) y) = ev xs d mm_303 139 [some (.inr (.inr 256)), some (.inl v1), some (.inr (.inl v2)), u3] [] (κ, wyS (setc D 312 u') y) := by
  have hp := hR.1; have hv := hR.2.1; have hv2 := hR.2.2.1; have hT := hR.2.2.2.2; have x1 := hX.1.1; have x2 := hX.2.1.1; have hk := k_256 hκ
  obtain ⟨y1, ⟨y2, y2'⟩, y3, y4⟩ := hy
  have n0 := xnp_le hX (s := 0) (by decide)
  have n1 : xnp X 1 ≤ 6 := (hX.2.2.1 1 (by decide)).1
  have f2 : ∀ u, wyS (setc D 312 u) y 256 67 = (y.2.1 : Int) - 1 := fun u => wy_67 ..
  have f3 : ∀ u, wyS (setc D 312 u) y 256 68 = (y.2.2.1 : Int) - 1 := fun u => wy_68 ..
  have p82 : ∀ u, wyS (setc D 312 u) y 256 82 = 312 := fun u => by
    have := pr_82 hp
    unfold wyS
    rw [wy_o (by omega), setc_ne (by decide)]
    exact this
  have a312 : ∀ u, wyS (setc D 312 u) y 312 = u := fun u => by unfold wyS; rw [wy_q (by decide), setc_self]
  have au : ∀ u k x, aup (wyS (setc D 312 u) y) 312 k x = wyS (setc D 312 (fun j => if j = k then x else u j)) y := fun u k x => by
    unfold wyS
    rw [wy_aup (by decide), aup_setc]
  have er : (y.2.1 : Int) - 1 = ((y.2.1 - 1 : Nat) : Int) := by omega
  have eu := hu (y.2.1 - 1) (by omega)
  have hUb := hU (y.2.1 - 1)
  have hu1 := upU_at hu (show y.2.1 - 1 < 24 by omega)
  rw [q_303_103]
  by_cases h0 : y.2.2.1 = 0
  · refine ⟨_, fun j hj => (hu1 j hj).trans ?_, ?_⟩
    · congr 1
      unfold upU
      (repeat' split) <;> omega
    · simp (disch := omega) only [cond_true, cond_false, Bool.and_true, Bool.true_and, Bool.and_false, Bool.false_and, Int.toNat_natCast, Int.reduceToNat, bI_s, bJ_s, bV_s, bR_s, decide_true, decide_false, not_true_eq_false, not_false_eq_true, dT, dF, w_al, w_la, w_ab, w_sl, w_sb, w_dec, w_ml, w_lm, ol2i_n, aup_ne, aupE, aupJ, setc_self, setc_ne, k_256 hκ, n_257 hκ, n_258 hκ, n_259 hκ, n_260 hκ, n_261 hκ, n_262 hκ, n_263 hκ, n_264 hκ, n_265 hκ, n_266 hκ, n_267 hκ, n_268 hκ, n_269 hκ, n_270 hκ, n_271 hκ, n_272 hκ, n_273 hκ, n_274 hκ, n_275 hκ, n_276 hκ, n_277 hκ, n_278 hκ, n_279 hκ, n_280 hκ, n_281 hκ, n_282 hκ, n_283 hκ, n_284 hκ, n_285 hκ, n_286 hκ, n_287 hκ, n_288 hκ, n_289 hκ, n_290 hκ, n_291 hκ, n_292 hκ, n_293 hκ, n_294 hκ, n_295 hκ, n_296 hκ, n_297 hκ, n_298 hκ, n_299 hκ, n_300 hκ, n_301 hκ, n_302 hκ, n_303 hκ, n_304 hκ, n_305 hκ, n_306 hκ, n_307 hκ, n_308 hκ, n_309 hκ, n_310 hκ, n_311 hκ, n_312 hκ, n_313 hκ, n_314 hκ, f2, p82, er, a312, eu, au, f3]
  · have hu2 := upU_at (U := upU U (y.2.1 - 1)) hu1 (show 7 + y.2.2.1 < 24 by omega)
    refine ⟨_, fun j hj => (hu2 j hj).trans ?_, ?_⟩
    · congr 1
      unfold upU
      (repeat' split) <;> omega
    · have eu2 := hu (7 + y.2.2.1) (by omega)
      have ei : w32 (8 + ((y.2.2.1 : Int) - 1)) = ((7 + y.2.2.1 : Nat) : Int) := by rw [w32_id (by omega) (by omega)]; omega
      have hb2 := hU (7 + y.2.2.1)
      have en : upU U (y.2.1 - 1) (7 + y.2.2.1) = U (7 + y.2.2.1) := if_neg (by omega)
      rw [en]
      simp (disch := omega) only [cond_true, cond_false, Bool.and_true, Bool.true_and, Bool.and_false, Bool.false_and, Int.toNat_natCast, Int.reduceToNat, bI_s, bJ_s, bV_s, bR_s, decide_true, decide_false, not_true_eq_false, not_false_eq_true, dT, dF, w_al, w_la, w_ab, w_sl, w_sb, w_dec, w_ml, w_lm, ol2i_n, aup_ne, aupE, aupJ, setc_self, setc_ne, k_256 hκ, n_257 hκ, n_258 hκ, n_259 hκ, n_260 hκ, n_261 hκ, n_262 hκ, n_263 hκ, n_264 hκ, n_265 hκ, n_266 hκ, n_267 hκ, n_268 hκ, n_269 hκ, n_270 hκ, n_271 hκ, n_272 hκ, n_273 hκ, n_274 hκ, n_275 hκ, n_276 hκ, n_277 hκ, n_278 hκ, n_279 hκ, n_280 hκ, n_281 hκ, n_282 hκ, n_283 hκ, n_284 hκ, n_285 hκ, n_286 hκ, n_287 hκ, n_288 hκ, n_289 hκ, n_290 hκ, n_291 hκ, n_292 hκ, n_293 hκ, n_294 hκ, n_295 hκ, n_296 hκ, n_297 hκ, n_298 hκ, n_299 hκ, n_300 hκ, n_301 hκ, n_302 hκ, n_303 hκ, n_304 hκ, n_305 hκ, n_306 hκ, n_307 hκ, n_308 hκ, n_309 hκ, n_310 hκ, n_311 hκ, n_312 hκ, n_313 hκ, n_314 hκ, f2, p82, er, a312, eu, au, f3, ei, eu2]
theorem used_C (xs : List Int) (d : Nat) {κ : aK} {D : Nat → Nat → Int} (hκ : Shp κ) {v : Nat} {X : TX} (hX : TXok X) (hR : RI D v X) {y : WY} (hy : wvd X y) {u : Nat → Int} {U : Nat → Nat} (hu : ∀ j, j < 24 → u j = (U j : Int)) (hU : ∀ j, U j ≤ 1000010) (v1 v2 : Int) (u3 : Option aV) : ∃ u' : Nat → Int, (∀ j, j < 24 → u' j = ((U j + (if 1 ≤ y.2.2.2 ∧ j = 7 + y.2.2.2 then 1 else 0) : Nat) : Int)) ∧ ev xs d mm_303 139 [some (.inr (.inr 256)), some (.inl v1), some (.inr (.inl v2)), u3] [] (κ, wyS (setc D 312 u) y) = ev xs d mm_303 62 [some (.inr (.inr 256)), some (.inl v1), some (.inr (.inl v2)), u3] [] (κ, wyS (setc D 312 u') y) := by
  have hp := hR.1; have hv := hR.2.1; have hv2 := hR.2.2.1; have hT := hR.2.2.2.2; have x1 := hX.1.1; have x2 := hX.2.1.1; have hk := k_256 hκ
  obtain ⟨y1, ⟨y2, y2'⟩, y3, y4⟩ := hy
  have n1 : xnp X 1 ≤ 6 := (hX.2.2.1 1 (by decide)).1
  have f4 : wyS (setc D 312 u) y 256 69 = (y.2.2.2 : Int) - 1 := wy_69 ..
  rw [q_303_139]
  by_cases h0 : y.2.2.2 = 0
  · refine ⟨u, fun j hj => by rw [hu j hj, if_neg (by omega), Nat.add_zero], ?_⟩
    simp (disch := omega) only [cond_true, cond_false, Bool.and_true, Bool.true_and, Bool.and_false, Bool.false_and, Int.toNat_natCast, Int.reduceToNat, bI_s, bJ_s, bV_s, bR_s, decide_true, decide_false, not_true_eq_false, not_false_eq_true, dT, dF, w_al, w_la, w_ab, w_sl, w_sb, w_dec, w_ml, w_lm, ol2i_n, aup_ne, aupE, aupJ, setc_self, setc_ne, k_256 hκ, n_257 hκ, n_258 hκ, n_259 hκ, n_260 hκ, n_261 hκ, n_262 hκ, n_263 hκ, n_264 hκ, n_265 hκ, n_266 hκ, n_267 hκ, n_268 hκ, n_269 hκ, n_270 hκ, n_271 hκ, n_272 hκ, n_273 hκ, n_274 hκ, n_275 hκ, n_276 hκ, n_277 hκ, n_278 hκ, n_279 hκ, n_280 hκ, n_281 hκ, n_282 hκ, n_283 hκ, n_284 hκ, n_285 hκ, n_286 hκ, n_287 hκ, n_288 hκ, n_289 hκ, n_290 hκ, n_291 hκ, n_292 hκ, n_293 hκ, n_294 hκ, n_295 hκ, n_296 hκ, n_297 hκ, n_298 hκ, n_299 hκ, n_300 hκ, n_301 hκ, n_302 hκ, n_303 hκ, n_304 hκ, n_305 hκ, n_306 hκ, n_307 hκ, n_308 hκ, n_309 hκ, n_310 hκ, n_311 hκ, n_312 hκ, n_313 hκ, n_314 hκ, f4]
  · refine ⟨fun j => if j = 7 + y.2.2.2 then ((U (7 + y.2.2.2) + 1 : Nat) : Int) else u j, fun j hj => ?_, ?_⟩
    · rw [upU_at hu (show 7 + y.2.2.2 < 24 by omega) j hj]
      unfold upU
      by_cases h : j = 7 + y.2.2.2
      · rw [if_pos h, if_pos (by omega)]
      · rw [if_neg h, if_neg (by omega), Nat.add_zero]
    · have eu := hu (7 + y.2.2.2) (by omega)
      have hUb := hU (7 + y.2.2.2)
      have ei : w32 (8 + ((y.2.2.2 : Int) - 1)) = ((7 + y.2.2.2 : Nat) : Int) := by rw [w32_id (by omega) (by omega)]; omega
      have p82 : wyS (setc D 312 u) y 256 82 = 312 := by
        have := pr_82 hp
        unfold wyS
        rw [wy_o (by omega), setc_ne (by decide)]
        exact this
      have a312 : wyS (setc D 312 u) y 312 = u := by unfold wyS; rw [wy_q (by decide), setc_self]
      have au : ∀ k x, aup (wyS (setc D 312 u) y) 312 k x = wyS (setc D 312 (fun j => if j = k then x else u j)) y := fun k x => by
        unfold wyS
        rw [wy_aup (by decide), aup_setc]
      simp (disch := omega) only [cond_true, cond_false, Bool.and_true, Bool.true_and, Bool.and_false, Bool.false_and, Int.toNat_natCast, Int.reduceToNat, bI_s, bJ_s, bV_s, bR_s, decide_true, decide_false, not_true_eq_false, not_false_eq_true, dT, dF, w_al, w_la, w_ab, w_sl, w_sb, w_dec, w_ml, w_lm, ol2i_n, aup_ne, aupE, aupJ, setc_self, setc_ne, k_256 hκ, n_257 hκ, n_258 hκ, n_259 hκ, n_260 hκ, n_261 hκ, n_262 hκ, n_263 hκ, n_264 hκ, n_265 hκ, n_266 hκ, n_267 hκ, n_268 hκ, n_269 hκ, n_270 hκ, n_271 hκ, n_272 hκ, n_273 hκ, n_274 hκ, n_275 hκ, n_276 hκ, n_277 hκ, n_278 hκ, n_279 hκ, n_280 hκ, n_281 hκ, n_282 hκ, n_283 hκ, n_284 hκ, n_285 hκ, n_286 hκ, n_287 hκ, n_288 hκ, n_289 hκ, n_290 hκ, n_291 hκ, n_292 hκ, n_293 hκ, n_294 hκ, n_295 hκ, n_296 hκ, n_297 hκ, n_298 hκ, n_299 hκ, n_300 hκ, n_301 hκ, n_302 hκ, n_303 hκ, n_304 hκ, n_305 hκ, n_306 hκ, n_307 hκ, n_308 hκ, n_309 hκ, n_310 hκ, n_311 hκ, n_312 hκ, n_313 hκ, n_314 hκ, f4, p82, ei, a312, eu, au]
theorem used_hit (xs : List Int) (d : Nat) {κ : aK} {D : Nat → Nat → Int} (hκ : Shp κ) {v : Nat} {X : TX} (hX : TXok X) (hR : RI D v X) {y : WY} {E0 : Nat → Nat → Int} (hy : wvd X y) {u : Nat → Int} {U : Nat → Nat} (hu : ∀ j, j < 24 → u j = (U j : Int)) (hU : ∀ j, U j ≤ 900000) (v1 : Int) {w : List Nat} (hm : cl xs d 254 [.inr (.inr 256), .inr (.inl (p27 w : Int))] (κ, wyS (setc D 312 u) y) = some (some (.inl 1), (κ, wyS (setc D 312 u) y))) (u3 : Option aV) (hn : cl xs d 249 [.inr (.inr 256)] (κ, E0) = some (some (.inl 1), (κ, wyS (setc D 312 u) y))) : ∃ u' : Nat → Int, (∀ j, j < 24 → u' j = ((U j + cY y j : Nat) : Int)) ∧ ev xs d mm_303 62 [some (.inr (.inr 256)), some (.inl v1), some (.inr (.inl (p27 w : Int))), u3] [] (κ, E0) = ev xs d mm_303 62 [some (.inr (.inr 256)), some (.inl v1), some (.inr (.inl (p27 w : Int))), u3] [] (κ, wyS (setc D 312 u') y) := by
  obtain ⟨u1, a1, b1⟩ := used_A xs d hκ hX hR hy hu (fun j => by have := hU j; omega) v1 hm u3 hn
  obtain ⟨u2, a2, b2⟩ := used_B xs d hκ hX hR hy a1 (fun j => by have := hU j; split <;> omega) v1 (p27 w : Int) u3
  obtain ⟨u4, a3, b3⟩ := used_C xs d hκ hX hR hy a2 (fun j => by have := hU j; (repeat' split) <;> omega) v1 (p27 w : Int) u3
  refine ⟨u4, fun j hj => (a3 j hj).trans ?_, b1.trans (b2.trans b3)⟩
  unfold cY
  congr 1
  omega
