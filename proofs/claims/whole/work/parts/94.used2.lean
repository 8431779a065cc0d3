/-! mostUsed, forged by the reference. -/
theorem usL_cons (y : WY) (L : List WY) (j : Nat) : usL (y :: L) j = cY y j + usL L j := rfl
theorem uways_loop (xs : List Int) (d : Nat) {κ : aK} {D : Nat → Nat → Int} (hκ : Shp κ) {v : Nat} {X : TX} (hX : TXok X) (hR : RI D v X) {w : List Nat} (hw : wok w) {k : Nat} (hk' : k < 100) (u3 : Option aV) : ∀ (L : List WY) (y : WY) (u : Nat → Int) (U : Nat → Nat), wvd X y → WL X y L → (∀ j, j < 24 → u j = (U j : Int)) → (∀ j, U j + 4 * L.length ≤ 900000) → ∃ (u' : Nat → Int) (a b c z : Int), (∀ j, j < 24 → u' j = ((U j + usL (L.filter (fun y => decide (nmW X y = w))) j : Nat) : Int)) ∧ ev xs (d + 4) mm_303 62 [some (.inr (.inr 256)), some (.inl (k : Int)), some (.inr (.inl (p27 w : Int))), u3] [] (κ, wyS (setc D 312 u) y) = ev xs (d + 4) mm_303 23 [some (.inr (.inr 256)), some (.inl ((k + 1 : Nat) : Int)), some (.inr (.inl (p27 w : Int))), u3] [] (κ, wyD (setc D 312 u') a b c z) := by
  have hk := k_256 hκ
  have hR3 : ∀ u : Nat → Int, RI (setc D 312 u) v X := fun u => hR.same (RSame.cell hR.2.2.2.1 (r := 312) (by decide) (by decide) u)
  intro L
  induction L with
  | nil =>
    intro y u U hy hL hu hU
    obtain ⟨a, b, c, z, e⟩ := next_none xs (d + 3) hκ hX (hR3 u) hy hL
    refine ⟨u, a, b, c, z, hu, ?_⟩
    rw [q_303_62]
    simp (disch := omega) only [cond_true, cond_false, Bool.and_true, Bool.true_and, Bool.and_false, Bool.false_and, Int.toNat_natCast, Int.reduceToNat, bI_s, bJ_s, bV_s, bR_s, decide_true, decide_false, not_true_eq_false, not_false_eq_true, dT, dF, w_al, w_la, w_ab, w_sl, w_sb, w_dec, w_ml, w_lm, ol2i_n, aup_ne, aupE, aupJ, setc_self, setc_ne, k_256 hκ, n_257 hκ, n_258 hκ, n_259 hκ, n_260 hκ, n_261 hκ, n_262 hκ, n_263 hκ, n_264 hκ, n_265 hκ, n_266 hκ, n_267 hκ, n_268 hκ, n_269 hκ, n_270 hκ, n_271 hκ, n_272 hκ, n_273 hκ, n_274 hκ, n_275 hκ, n_276 hκ, n_277 hκ, n_278 hκ, n_279 hκ, n_280 hκ, n_281 hκ, n_282 hκ, n_283 hκ, n_284 hκ, n_285 hκ, n_286 hκ, n_287 hκ, n_288 hκ, n_289 hκ, n_290 hκ, n_291 hκ, n_292 hκ, n_293 hκ, n_294 hκ, n_295 hκ, n_296 hκ, n_297 hκ, n_298 hκ, n_299 hκ, n_300 hκ, n_301 hκ, n_302 hκ, n_303 hκ, n_304 hκ, n_305 hκ, n_306 hκ, n_307 hκ, n_308 hκ, n_309 hκ, n_310 hκ, n_311 hκ, n_312 hκ, n_313 hκ, n_314 hκ, e]
  | cons y' L ih =>
    intro y u U hy hL hu hU
    have e := next_some xs (d + 3) hκ hX (hR3 u) hy hL.1
    have hy' := nxt_wvd hy hL.1
    have mk := makes_eq xs d hκ hX (hR3 u) hy' hw
    rw [List.length_cons] at hU
    have c4 := cY_le y'
    by_cases hm : nmW X y' = w
    · rw [if_pos hm] at mk
      obtain ⟨u1, a1, b1⟩ := used_hit xs (d + 4) hκ hX hR hy' hu (fun j => by have := hU j; omega) (k : Int) mk u3 e
      obtain ⟨u', a, b, c, z, a2, b2⟩ := ih y' u1 (fun j => U j + cY y' j) hy' hL.2 a1 (fun j => by have := hU j; have := c4 j; omega)
      refine ⟨u', a, b, c, z, fun j hj => ?_, b1.trans b2⟩
      rw [a2 j hj, List.filter_cons_of_pos (by simpa using hm), usL_cons]
      congr 1
      omega
    · rw [if_neg hm] at mk
      obtain ⟨u', a, b, c, z, a2, b2⟩ := ih y' u U hy' hL.2 hu (fun j => by have := hU j; omega)
      refine ⟨u', a, b, c, z, fun j hj => ?_, ?_⟩
      · rw [a2 j hj, List.filter_cons_of_neg (by simpa using hm)]
      · rw [q_303_62]
        simp (disch := omega) only [cond_true, cond_false, Bool.and_true, Bool.true_and, Bool.and_false, Bool.false_and, Int.toNat_natCast, Int.reduceToNat, bI_s, bJ_s, bV_s, bR_s, decide_true, decide_false, not_true_eq_false, not_false_eq_true, dT, dF, w_al, w_la, w_ab, w_sl, w_sb, w_dec, w_ml, w_lm, ol2i_n, aup_ne, aupE, aupJ, setc_self, setc_ne, k_256 hκ, n_257 hκ, n_258 hκ, n_259 hκ, n_260 hκ, n_261 hκ, n_262 hκ, n_263 hκ, n_264 hκ, n_265 hκ, n_266 hκ, n_267 hκ, n_268 hκ, n_269 hκ, n_270 hκ, n_271 hκ, n_272 hκ, n_273 hκ, n_274 hκ, n_275 hκ, n_276 hκ, n_277 hκ, n_278 hκ, n_279 hκ, n_280 hκ, n_281 hκ, n_282 hκ, n_283 hκ, n_284 hκ, n_285 hκ, n_286 hκ, n_287 hκ, n_288 hκ, n_289 hκ, n_290 hκ, n_291 hκ, n_292 hκ, n_293 hκ, n_294 hκ, n_295 hκ, n_296 hκ, n_297 hκ, n_298 hκ, n_299 hκ, n_300 hκ, n_301 hκ, n_302 hκ, n_303 hκ, n_304 hκ, n_305 hκ, n_306 hκ, n_307 hκ, n_308 hκ, n_309 hκ, n_310 hκ, n_311 hκ, n_312 hκ, n_313 hκ, n_314 hκ, e, mk, b2]
theorem uways_go (xs : List Int) (d : Nat) {κ : aK} {D : Nat → Nat → Int} (hκ : Shp κ) {v : Nat} {X : TX} (hX : TXok X) (hR : RI D v X) {w : List Nat} (hw : wok w) {k : Nat} (hk' : k < 100) (u3 : Option aV) {U : Nat → Nat} (hu : ∀ j, j < 24 → D 312 j = (U j : Int)) (hU : ∀ j, U j ≤ 100000) (z0 : Int) : ∃ (u' : Nat → Int) (a b c z : Int), (∀ j, j < 24 → u' j = ((U j + usL (mkL X w) j : Nat) : Int)) ∧ ev xs (d + 4) mm_303 62 [some (.inr (.inr 256)), some (.inl (k : Int)), some (.inr (.inl (p27 w : Int))), u3] [] (κ, wyD D (-1) (-1) (-9) z0) = ev xs (d + 4) mm_303 23 [some (.inr (.inr 256)), some (.inl ((k + 1 : Nat) : Int)), some (.inr (.inl (p27 w : Int))), u3] [] (κ, wyD (setc D 312 u') a b c z) := by
  have hk := k_256 hκ
  have hln := ways_len hX
  unfold mkL
  by_cases hr : 1 ≤ xnp X 0
  · obtain ⟨L, h1, h2, h3⟩ := ways_go (X := X) hr
    rw [h1] at hln ⊢
    rw [List.length_cons] at hln
    have e := next_first xs (d + 3) hκ hX hR z0 hr
    have mk := makes_eq xs d hκ hX hR h3 hw
    have eD : setc D 312 (D 312) = D := setc_id D 312
    have c4 := cY_le (0, 1, 0, 0)
    by_cases hm : nmW X (0, 1, 0, 0) = w
    · rw [if_pos hm] at mk
      rw [← eD] at mk
      have e' := e
      rw [← eD] at e'
      obtain ⟨u1, a1, b1⟩ := used_hit xs (d + 4) hκ hX hR h3 hu (fun j => by have := hU j; omega) (k : Int) mk u3 e'
      obtain ⟨u', a, b, c, z, a2, b2⟩ := uways_loop xs d hκ hX hR hw hk' u3 L (0, 1, 0, 0) u1 (fun j => U j + cY (0, 1, 0, 0) j) h3 h2 a1 (fun j => by have := hU j; have := c4 j; omega)
      refine ⟨u', a, b, c, z, fun j hj => ?_, ?_⟩
      · rw [a2 j hj, List.filter_cons_of_pos (by simpa using hm), usL_cons]
        congr 1
        omega
      · rw [eD] at b1
        exact b1.trans b2
    · rw [if_neg hm] at mk
      obtain ⟨u', a, b, c, z, a2, b2⟩ := uways_loop xs d hκ hX hR hw hk' u3 L (0, 1, 0, 0) (D 312) U h3 h2 hu (fun j => by have := hU j; omega)
      rw [eD] at b2
      refine ⟨u', a, b, c, z, fun j hj => ?_, ?_⟩
      · rw [a2 j hj, List.filter_cons_of_neg (by simpa using hm)]
      · rw [q_303_62]
        simp (disch := omega) only [cond_true, cond_false, Bool.and_true, Bool.true_and, Bool.and_false, Bool.false_and, Int.toNat_natCast, Int.reduceToNat, bI_s, bJ_s, bV_s, bR_s, decide_true, decide_false, not_true_eq_false, not_false_eq_true, dT, dF, w_al, w_la, w_ab, w_sl, w_sb, w_dec, w_ml, w_lm, ol2i_n, aup_ne, aupE, aupJ, setc_self, setc_ne, k_256 hκ, n_257 hκ, n_258 hκ, n_259 hκ, n_260 hκ, n_261 hκ, n_262 hκ, n_263 hκ, n_264 hκ, n_265 hκ, n_266 hκ, n_267 hκ, n_268 hκ, n_269 hκ, n_270 hκ, n_271 hκ, n_272 hκ, n_273 hκ, n_274 hκ, n_275 hκ, n_276 hκ, n_277 hκ, n_278 hκ, n_279 hκ, n_280 hκ, n_281 hκ, n_282 hκ, n_283 hκ, n_284 hκ, n_285 hκ, n_286 hκ, n_287 hκ, n_288 hκ, n_289 hκ, n_290 hκ, n_291 hκ, n_292 hκ, n_293 hκ, n_294 hκ, n_295 hκ, n_296 hκ, n_297 hκ, n_298 hκ, n_299 hκ, n_300 hκ, n_301 hκ, n_302 hκ, n_303 hκ, n_304 hκ, n_305 hκ, n_306 hκ, n_307 hκ, n_308 hκ, n_309 hκ, n_310 hκ, n_311 hκ, n_312 hκ, n_313 hκ, n_314 hκ, e, mk, b2]
  · obtain ⟨a, b, c, z, e⟩ := next_first0 xs (d + 3) hκ hX hR z0 (by omega)
    refine ⟨D 312, a, b, c, z, fun j hj => ?_, ?_⟩
    · rw [ways_nil (by omega)]
      exact hu j hj
    · rw [q_303_62, setc_id]
      simp (disch := omega) only [cond_true, cond_false, Bool.and_true, Bool.true_and, Bool.and_false, Bool.false_and, Int.toNat_natCast, Int.reduceToNat, bI_s, bJ_s, bV_s, bR_s, decide_true, decide_false, not_true_eq_false, not_false_eq_true, dT, dF, w_al, w_la, w_ab, w_sl, w_sb, w_dec, w_ml, w_lm, ol2i_n, aup_ne, aupE, aupJ, setc_self, setc_ne, k_256 hκ, n_257 hκ, n_258 hκ, n_259 hκ, n_260 hκ, n_261 hκ, n_262 hκ, n_263 hκ, n_264 hκ, n_265 hκ, n_266 hκ, n_267 hκ, n_268 hκ, n_269 hκ, n_270 hκ, n_271 hκ, n_272 hκ, n_273 hκ, n_274 hκ, n_275 hκ, n_276 hκ, n_277 hκ, n_278 hκ, n_279 hκ, n_280 hκ, n_281 hκ, n_282 hκ, n_283 hκ, n_284 hκ, n_285 hκ, n_286 hκ, n_287 hκ, n_288 hκ, n_289 hκ, n_290 hκ, n_291 hκ, n_292 hκ, n_293 hκ, n_294 hκ, n_295 hκ, n_296 hκ, n_297 hκ, n_298 hκ, n_299 hκ, n_300 hκ, n_301 hκ, n_302 hκ, n_303 hκ, n_304 hκ, n_305 hκ, n_306 hκ, n_307 hκ, n_308 hκ, n_309 hκ, n_310 hκ, n_311 hκ, n_312 hκ, n_313 hκ, n_314 hκ, e]
def FU (D E : Nat → Nat → Int) : Prop := (∀ q, q ≠ 256 → q ≠ 303 → q ≠ 312 → E q = D q) ∧ (∀ j, j < 66 ∨ 69 < j → E 256 j = D 256 j) ∧ E 303 0 = 0
theorem FU.same {D E : Nat → Nat → Int} (h : FU D E) : RSame D E := by
  refine ⟨fun q h1 h2 => h.1 q h1 (fun e => h2 (by rw [e]; decide)) (fun e => h2 (by rw [e]; decide)), fun j hj => h.2.1 j ?_, h.2.2⟩
  by_cases hc : j < 66 ∨ 69 < j
  · exact hc
  · exfalso
    apply hj
    have : j = 66 ∨ j = 67 ∨ j = 68 ∨ j = 69 := by omega
    rcases this with rfl | rfl | rfl | rfl <;> decide
theorem fills_loop (xs : List Int) (d : Nat) {κ : aK} {D : Nat → Nat → Int} (hκ : Shp κ) {v : Nat} {X : TX} (hX : TXok X) (hR : RI D v X) {S : ST} (hS : STok X S) (hs : RowR (D 302) X S) : ∀ (m k : Nat) (E : Nat → Nat → Int) (u2 u3 : Option aV), k + m = xnw X → FU D E → (∀ j, j < 24 → E 312 j = (usT X S k j : Int)) → ∃ E2, FU D E2 ∧ (∀ j, j < 24 → E2 312 j = (usT X S (xnw X) j : Int)) ∧ ev xs (d + 4) mm_303 23 [some (.inr (.inr 256)), some (.inl (k : Int)), u2, u3] [] (κ, E) = some (none, (κ, E2)) := by
  have x2 := hX.2.1.1
  have hk := k_256 hκ
  intro m
  induction m with
  | zero =>
    intro k E u2 u3 h hf hu
    have hR' := hR.same hf.same
    have hp := hR'.1
    have hv := hR'.2.1
    have hv2 := hR'.2.2.1
    have hT := hR'.2.2.2.2
    refine ⟨E, hf, fun j hj => by rw [hu j hj, show k = xnw X by omega], ?_⟩
    rw [q_303_23]
    simp (disch := omega) only [cond_true, cond_false, Bool.and_true, Bool.true_and, Bool.and_false, Bool.false_and, Int.toNat_natCast, Int.reduceToNat, bI_s, bJ_s, bV_s, bR_s, decide_true, decide_false, not_true_eq_false, not_false_eq_true, dT, dF, w_al, w_la, w_ab, w_sl, w_sb, w_dec, w_ml, w_lm, ol2i_n, aup_ne, aupE, aupJ, setc_self, setc_ne, pr_1 hp, pr_3 hp, pr_5 hp, pr_6 hp, pr_7 hp, pr_8 hp, pr_9 hp, pr_20 hp, pr_21 hp, pr_22 hp, pr_23 hp, pr_24 hp, pr_25 hp, pr_26 hp, pr_27 hp, pr_28 hp, pr_29 hp, pr_30 hp, pr_31 hp, pr_32 hp, pr_33 hp, pr_34 hp, pr_35 hp, pr_36 hp, pr_37 hp, pr_38 hp, pr_39 hp, pr_40 hp, pr_41 hp, pr_42 hp, pr_43 hp, pr_44 hp, pr_45 hp, pr_46 hp, pr_48 hp, pr_49 hp, pr_50 hp, pr_51 hp, pr_52 hp, pr_54 hp, pr_55 hp, pr_58 hp, pr_60 hp, pr_61 hp, pr_63 hp, pr_64 hp, pr_65 hp, pr_71 hp, pr_72 hp, pr_73 hp, pr_75 hp, pr_76 hp, pr_78 hp, pr_80 hp, pr_81 hp, pr_82 hp, pr_83 hp, pr_84 hp, k_256 hκ, n_257 hκ, n_258 hκ, n_259 hκ, n_260 hκ, n_261 hκ, n_262 hκ, n_263 hκ, n_264 hκ, n_265 hκ, n_266 hκ, n_267 hκ, n_268 hκ, n_269 hκ, n_270 hκ, n_271 hκ, n_272 hκ, n_273 hκ, n_274 hκ, n_275 hκ, n_276 hκ, n_277 hκ, n_278 hκ, n_279 hκ, n_280 hκ, n_281 hκ, n_282 hκ, n_283 hκ, n_284 hκ, n_285 hκ, n_286 hκ, n_287 hκ, n_288 hκ, n_289 hκ, n_290 hκ, n_291 hκ, n_292 hκ, n_293 hκ, n_294 hκ, n_295 hκ, n_296 hκ, n_297 hκ, n_298 hκ, n_299 hκ, n_300 hκ, n_301 hκ, n_302 hκ, n_303 hκ, n_304 hκ, n_305 hκ, n_306 hκ, n_307 hκ, n_308 hκ, n_309 hκ, n_310 hκ, n_311 hκ, n_312 hκ, n_313 hκ, n_314 hκ, hv, hT.2.1.1]
  | succ m ih =>
    intro k E u2 u3 h hf hu
    have hR' := hR.same hf.same
    have hp := hR'.1
    have hv := hR'.2.1
    have hv2 := hR'.2.2.1
    have hT := hR'.2.2.2.2
    have e302 : E 302 = D 302 := hf.1 302 (by decide) (by decide) (by decide)
    have hs' : RowR (E 302) X S := by rw [e302]; exact hs
    have iw := isWholeX xs (d + 3) hκ hR' (r := E 302) (g := E 303) (w := k) (by omega) (hs'.2.1 k (by omega))
    rw [setc_id, setc_id] at iw
    have eu : ∀ j, usT X S (k + 1) j = usT X S k j + (if sFt S k = 0 then usL (mkL X (rbX X (sord S) (son S) 7 (sW S k))) j else 0) := fun j => rfl
    rw [q_303_23]
    by_cases h0 : sFt S k = 0
    · have hw := (hS.2.2.2.1 k (by omega)).1
      have hwr := rbX_wok hX hS.2.1 (son S) 7 hw
      rw [if_pos h0] at iw
      obtain ⟨g', hg', er⟩ := runOfX xs d hκ hX hR' hS hs' (g := E 303) hf.2.2 hw
      rw [setc_id] at er
      have hR1 := hR'.s303 hg'
      have fe := first_eq xs (d + 3) hκ (D := setc E 303 g') (setc E 303 g' 256 66) (setc E 303 g' 256 67) (setc E 303 g' 256 68) (setc E 303 g' 256 69)
      rw [wy_id] at fe
      obtain ⟨u', a, b, c, z, a2, b2⟩ := uways_go xs d hκ hX hR1 hwr (k := k) (by omega) none (U := usT X S k) (fun j hj => by rw [setc_ne (by decide)]; exact hu j hj) (fun j => by have := usT_le hX S j k; omega) (setc E 303 g' 256 69)
      have hf2 : FU D (wyD (setc (setc E 303 g') 312 u') a b c z) := by
        refine ⟨fun q h1 h2 h3 => ?_, fun j hj => ?_, ?_⟩
        · rw [wy_q h1, setc_ne h3, setc_ne h2]; exact hf.1 q h1 h2 h3
        · rw [wy_o hj, setc_ne (by decide), setc_ne (by decide)]; exact hf.2.1 j hj
        · rw [wy_q (by decide), setc_ne (by decide), setc_self]; exact hg'
      obtain ⟨E2, c1, c2, c3⟩ := ih (k + 1) _ (some (.inr (.inl (p27 (rbX X (sord S) (son S) 7 (sW S k)) : Int)))) none (by omega) hf2 (fun j hj => by
        rw [wy_q (by decide), setc_self, a2 j hj, eu, if_pos h0])
      refine ⟨E2, c1, c2, ?_⟩
      simp (disch := omega) only [cond_true, cond_false, Bool.and_true, Bool.true_and, Bool.and_false, Bool.false_and, Int.toNat_natCast, Int.reduceToNat, bI_s, bJ_s, bV_s, bR_s, decide_true, decide_false, not_true_eq_false, not_false_eq_true, dT, dF, w_al, w_la, w_ab, w_sl, w_sb, w_dec, w_ml, w_lm, ol2i_n, aup_ne, aupE, aupJ, setc_self, setc_ne, pr_1 hp, pr_3 hp, pr_5 hp, pr_6 hp, pr_7 hp, pr_8 hp, pr_9 hp, pr_20 hp, pr_21 hp, pr_22 hp, pr_23 hp, pr_24 hp, pr_25 hp, pr_26 hp, pr_27 hp, pr_28 hp, pr_29 hp, pr_30 hp, pr_31 hp, pr_32 hp, pr_33 hp, pr_34 hp, pr_35 hp, pr_36 hp, pr_37 hp, pr_38 hp, pr_39 hp, pr_40 hp, pr_41 hp, pr_42 hp, pr_43 hp, pr_44 hp, pr_45 hp, pr_46 hp, pr_48 hp, pr_49 hp, pr_50 hp, pr_51 hp, pr_52 hp, pr_54 hp, pr_55 hp, pr_58 hp, pr_60 hp, pr_61 hp, pr_63 hp, pr_64 hp, pr_65 hp, pr_71 hp, pr_72 hp, pr_73 hp, pr_75 hp, pr_76 hp, pr_78 hp, pr_80 hp, pr_81 hp, pr_82 hp, pr_83 hp, pr_84 hp, k_256 hκ, n_257 hκ, n_258 hκ, n_259 hκ, n_260 hκ, n_261 hκ, n_262 hκ, n_263 hκ, n_264 hκ, n_265 hκ, n_266 hκ, n_267 hκ, n_268 hκ, n_269 hκ, n_270 hκ, n_271 hκ, n_272 hκ, n_273 hκ, n_274 hκ, n_275 hκ, n_276 hκ, n_277 hκ, n_278 hκ, n_279 hκ, n_280 hκ, n_281 hκ, n_282 hκ, n_283 hκ, n_284 hκ, n_285 hκ, n_286 hκ, n_287 hκ, n_288 hκ, n_289 hκ, n_290 hκ, n_291 hκ, n_292 hκ, n_293 hκ, n_294 hκ, n_295 hκ, n_296 hκ, n_297 hκ, n_298 hκ, n_299 hκ, n_300 hκ, n_301 hκ, n_302 hκ, n_303 hκ, n_304 hκ, n_305 hκ, n_306 hκ, n_307 hκ, n_308 hκ, n_309 hκ, n_310 hκ, n_311 hκ, n_312 hκ, n_313 hκ, n_314 hκ, hv, hT.2.1.1, iw, hs'.1 k (by omega), er]
      simp (disch := omega) only [k_256 hκ, n_257 hκ, n_258 hκ, n_259 hκ, n_260 hκ, n_261 hκ, n_262 hκ, n_263 hκ, n_264 hκ, n_265 hκ, n_266 hκ, n_267 hκ, n_268 hκ, n_269 hκ, n_270 hκ, n_271 hκ, n_272 hκ, n_273 hκ, n_274 hκ, n_275 hκ, n_276 hκ, n_277 hκ, n_278 hκ, n_279 hκ, n_280 hκ, n_281 hκ, n_282 hκ, n_283 hκ, n_284 hκ, n_285 hκ, n_286 hκ, n_287 hκ, n_288 hκ, n_289 hκ, n_290 hκ, n_291 hκ, n_292 hκ, n_293 hκ, n_294 hκ, n_295 hκ, n_296 hκ, n_297 hκ, n_298 hκ, n_299 hκ, n_300 hκ, n_301 hκ, n_302 hκ, n_303 hκ, n_304 hκ, n_305 hκ, n_306 hκ, n_307 hκ, n_308 hκ, n_309 hκ, n_310 hκ, n_311 hκ, n_312 hκ, n_313 hκ, n_314 hκ, cond_true, Bool.and_true, fe, bV_s]
      exact b2.trans c3
    · rw [if_neg h0] at iw
      obtain ⟨E2, c1, c2, c3⟩ := ih (k + 1) E u2 u3 (by omega) hf (fun j hj => by rw [hu j hj, eu, if_neg h0, Nat.add_zero])
      refine ⟨E2, c1, c2, ?_⟩
      simp (disch := omega) only [cond_true, cond_false, Bool.and_true, Bool.true_and, Bool.and_false, Bool.false_and, Int.toNat_natCast, Int.reduceToNat, bI_s, bJ_s, bV_s, bR_s, decide_true, decide_false, not_true_eq_false, not_false_eq_true, dT, dF, w_al, w_la, w_ab, w_sl, w_sb, w_dec, w_ml, w_lm, ol2i_n, aup_ne, aupE, aupJ, setc_self, setc_ne, pr_1 hp, pr_3 hp, pr_5 hp, pr_6 hp, pr_7 hp, pr_8 hp, pr_9 hp, pr_20 hp, pr_21 hp, pr_22 hp, pr_23 hp, pr_24 hp, pr_25 hp, pr_26 hp, pr_27 hp, pr_28 hp, pr_29 hp, pr_30 hp, pr_31 hp, pr_32 hp, pr_33 hp, pr_34 hp, pr_35 hp, pr_36 hp, pr_37 hp, pr_38 hp, pr_39 hp, pr_40 hp, pr_41 hp, pr_42 hp, pr_43 hp, pr_44 hp, pr_45 hp, pr_46 hp, pr_48 hp, pr_49 hp, pr_50 hp, pr_51 hp, pr_52 hp, pr_54 hp, pr_55 hp, pr_58 hp, pr_60 hp, pr_61 hp, pr_63 hp, pr_64 hp, pr_65 hp, pr_71 hp, pr_72 hp, pr_73 hp, pr_75 hp, pr_76 hp, pr_78 hp, pr_80 hp, pr_81 hp, pr_82 hp, pr_83 hp, pr_84 hp, k_256 hκ, n_257 hκ, n_258 hκ, n_259 hκ, n_260 hκ, n_261 hκ, n_262 hκ, n_263 hκ, n_264 hκ, n_265 hκ, n_266 hκ, n_267 hκ, n_268 hκ, n_269 hκ, n_270 hκ, n_271 hκ, n_272 hκ, n_273 hκ, n_274 hκ, n_275 hκ, n_276 hκ, n_277 hκ, n_278 hκ, n_279 hκ, n_280 hκ, n_281 hκ, n_282 hκ, n_283 hκ, n_284 hκ, n_285 hκ, n_286 hκ, n_287 hκ, n_288 hκ, n_289 hκ, n_290 hκ, n_291 hκ, n_292 hκ, n_293 hκ, n_294 hκ, n_295 hκ, n_296 hκ, n_297 hκ, n_298 hκ, n_299 hκ, n_300 hκ, n_301 hκ, n_302 hκ, n_303 hκ, n_304 hκ, n_305 hκ, n_306 hκ, n_307 hκ, n_308 hκ, n_309 hκ, n_310 hκ, n_311 hκ, n_312 hκ, n_313 hκ, n_314 hκ, hv, hT.2.1.1, iw, c3]
theorem fills_zero (xs : List Int) (d : Nat) {κ : aK} {D : Nat → Nat → Int} (hκ : Shp κ) (hp : PtrR D) (u2 u3 : Option aV) : ∀ (m k : Nat), k + m = 24 → ev xs d mm_303 2 [some (.inr (.inr 256)), some (.inl (k : Int)), u2, u3] [] (κ, setc D 312 (cpn k (fun _ => 0) (D 312))) = ev xs d mm_303 23 [some (.inr (.inr 256)), some (.inl 0), u2, u3] [] (κ, setc D 312 (cpn 24 (fun _ => 0) (D 312))) := by
  have hk := k_256 hκ
  intro m
  induction m with
  | zero =>
    intro k h
    rw [q_303_2, show k = 24 by omega]
    simp (disch := omega) only [cond_true, cond_false, Bool.and_true, Bool.true_and, Bool.and_false, Bool.false_and, Int.toNat_natCast, Int.reduceToNat, bI_s, bJ_s, bV_s, bR_s, decide_true, decide_false, not_true_eq_false, not_false_eq_true, dT, dF, w_al, w_la, w_ab, w_sl, w_sb, w_dec, w_ml, w_lm, ol2i_n, aup_ne, aupE, aupJ, setc_self, setc_ne]
  | succ m ih =>
    intro k h
    have e := cpn_step k (fun _ => (0 : Int)) (D 312)
    rw [q_303_2]
    simp (disch := omega) only [cond_true, cond_false, Bool.and_true, Bool.true_and, Bool.and_false, Bool.false_and, Int.toNat_natCast, Int.reduceToNat, bI_s, bJ_s, bV_s, bR_s, decide_true, decide_false, not_true_eq_false, not_false_eq_true, dT, dF, w_al, w_la, w_ab, w_sl, w_sb, w_dec, w_ml, w_lm, ol2i_n, aup_ne, aupE, aupJ, setc_self, setc_ne, pr_1 hp, pr_3 hp, pr_5 hp, pr_6 hp, pr_7 hp, pr_8 hp, pr_9 hp, pr_20 hp, pr_21 hp, pr_22 hp, pr_23 hp, pr_24 hp, pr_25 hp, pr_26 hp, pr_27 hp, pr_28 hp, pr_29 hp, pr_30 hp, pr_31 hp, pr_32 hp, pr_33 hp, pr_34 hp, pr_35 hp, pr_36 hp, pr_37 hp, pr_38 hp, pr_39 hp, pr_40 hp, pr_41 hp, pr_42 hp, pr_43 hp, pr_44 hp, pr_45 hp, pr_46 hp, pr_48 hp, pr_49 hp, pr_50 hp, pr_51 hp, pr_52 hp, pr_54 hp, pr_55 hp, pr_58 hp, pr_60 hp, pr_61 hp, pr_63 hp, pr_64 hp, pr_65 hp, pr_71 hp, pr_72 hp, pr_73 hp, pr_75 hp, pr_76 hp, pr_78 hp, pr_80 hp, pr_81 hp, pr_82 hp, pr_83 hp, pr_84 hp, k_256 hκ, n_257 hκ, n_258 hκ, n_259 hκ, n_260 hκ, n_261 hκ, n_262 hκ, n_263 hκ, n_264 hκ, n_265 hκ, n_266 hκ, n_267 hκ, n_268 hκ, n_269 hκ, n_270 hκ, n_271 hκ, n_272 hκ, n_273 hκ, n_274 hκ, n_275 hκ, n_276 hκ, n_277 hκ, n_278 hκ, n_279 hκ, n_280 hκ, n_281 hκ, n_282 hκ, n_283 hκ, n_284 hκ, n_285 hκ, n_286 hκ, n_287 hκ, n_288 hκ, n_289 hκ, n_290 hκ, n_291 hκ, n_292 hκ, n_293 hκ, n_294 hκ, n_295 hκ, n_296 hκ, n_297 hκ, n_298 hκ, n_299 hκ, n_300 hκ, n_301 hκ, n_302 hκ, n_303 hκ, n_304 hκ, n_305 hκ, n_306 hκ, n_307 hκ, n_308 hκ, n_309 hκ, n_310 hκ, n_311 hκ, n_312 hκ, n_313 hκ, n_314 hκ, aup_setc, e, ih (k + 1) (by omega)]
theorem fills_eq (xs : List Int) (d : Nat) {κ : aK} {D : Nat → Nat → Int} (hκ : Shp κ) {v : Nat} {X : TX} (hX : TXok X) (hR : RI D v X) {S : ST} (hS : STok X S) (hs : RowR (D 302) X S) : ∃ E2, FU D E2 ∧ (∀ j, j < 24 → E2 312 j = (usT X S (xnw X) j : Int)) ∧ cl xs (d + 5) 303 [.inr (.inr 256)] (κ, D) = some (none, (κ, E2)) := by
  have z := fills_zero xs (d + 4) hκ hR.1 none none 24 0 rfl
  rw [cpn_zero, setc_id] at z
  obtain ⟨E2, c1, c2, c3⟩ := fills_loop xs d hκ hX hR hS hs (xnw X) 0 (setc D 312 (cpn 24 (fun _ => 0) (D 312))) none none (by omega) ⟨fun q h1 h2 h3 => setc_ne h3, fun j _ => by rw [setc_ne (by decide)], by rw [setc_ne (by decide)]; exact hR.2.2.2.1⟩ (fun j hj => by rw [setc_self, cpn_at hj]; rfl)
  refine ⟨E2, c1, c2, ?_⟩
  rw [c_303]
  exact z.trans c3
theorem rmost_loop (xs : List Int) (d : Nat) {κ : aK} {D : Nat → Nat → Int} (hκ : Shp κ) {v : Nat} {X : TX} (hX : TXok X) (hR : RI D v X) {s : Nat} (hs3 : s < 3) {U : Nat → Nat} (hU : ∀ j, j < 24 → D 312 j = (U j : Int)) (what : Int) : ∀ (m k best : Nat), k + m = xnp X s → best < xnp X s → ev xs d mm_304 52 [some (.inr (.inr 256)), some (.inl (s : Int)), some (.inl what), some (.inl (best : Int)), some (.inl (k : Int))] [] (κ, D) = some (some (.inl (if what = 0 then (bstX (fun k => U (8 * s + k)) m k best : Int) else (U (8 * s + bstX (fun k => U (8 * s + k)) m k best) : Int))), (κ, D)) := by
  have hp := hR.1; have hv := hR.2.1; have hv2 := hR.2.2.1; have hT := hR.2.2.2.2; have x1 := hX.1.1; have x2 := hX.2.1.1; have hk := k_256 hκ
  have n8 := xnp_le hX hs3
  have hpn := (hT.2.2.1 s hs3).1
  intro m
  induction m with
  | zero =>
    intro k best h hb
    have ub := hU (8 * s + best) (by omega)
    rw [q_304_52]
    by_cases hw : what = 0
    · rw [if_pos hw]
      simp (disch := omega) only [cond_true, cond_false, Bool.and_true, Bool.true_and, Bool.and_false, Bool.false_and, Int.toNat_natCast, Int.reduceToNat, bI_s, bJ_s, bV_s, bR_s, decide_true, decide_false, not_true_eq_false, not_false_eq_true, dT, dF, w_al, w_la, w_ab, w_sl, w_sb, w_dec, w_ml, w_lm, ol2i_n, aup_ne, aupE, aupJ, setc_self, setc_ne, pr_1 hp, pr_3 hp, pr_5 hp, pr_6 hp, pr_7 hp, pr_8 hp, pr_9 hp, pr_20 hp, pr_21 hp, pr_22 hp, pr_23 hp, pr_24 hp, pr_25 hp, pr_26 hp, pr_27 hp, pr_28 hp, pr_29 hp, pr_30 hp, pr_31 hp, pr_32 hp, pr_33 hp, pr_34 hp, pr_35 hp, pr_36 hp, pr_37 hp, pr_38 hp, pr_39 hp, pr_40 hp, pr_41 hp, pr_42 hp, pr_43 hp, pr_44 hp, pr_45 hp, pr_46 hp, pr_48 hp, pr_49 hp, pr_50 hp, pr_51 hp, pr_52 hp, pr_54 hp, pr_55 hp, pr_58 hp, pr_60 hp, pr_61 hp, pr_63 hp, pr_64 hp, pr_65 hp, pr_71 hp, pr_72 hp, pr_73 hp, pr_75 hp, pr_76 hp, pr_78 hp, pr_80 hp, pr_81 hp, pr_82 hp, pr_83 hp, pr_84 hp, k_256 hκ, n_257 hκ, n_258 hκ, n_259 hκ, n_260 hκ, n_261 hκ, n_262 hκ, n_263 hκ, n_264 hκ, n_265 hκ, n_266 hκ, n_267 hκ, n_268 hκ, n_269 hκ, n_270 hκ, n_271 hκ, n_272 hκ, n_273 hκ, n_274 hκ, n_275 hκ, n_276 hκ, n_277 hκ, n_278 hκ, n_279 hκ, n_280 hκ, n_281 hκ, n_282 hκ, n_283 hκ, n_284 hκ, n_285 hκ, n_286 hκ, n_287 hκ, n_288 hκ, n_289 hκ, n_290 hκ, n_291 hκ, n_292 hκ, n_293 hκ, n_294 hκ, n_295 hκ, n_296 hκ, n_297 hκ, n_298 hκ, n_299 hκ, n_300 hκ, n_301 hκ, n_302 hκ, n_303 hκ, n_304 hκ, n_305 hκ, n_306 hκ, n_307 hκ, n_308 hκ, n_309 hκ, n_310 hκ, n_311 hκ, n_312 hκ, n_313 hκ, n_314 hκ, hv, hpn]
      rfl
    · rw [if_neg hw]
      simp (disch := omega) only [cond_true, cond_false, Bool.and_true, Bool.true_and, Bool.and_false, Bool.false_and, Int.toNat_natCast, Int.reduceToNat, bI_s, bJ_s, bV_s, bR_s, decide_true, decide_false, not_true_eq_false, not_false_eq_true, dT, dF, w_al, w_la, w_ab, w_sl, w_sb, w_dec, w_ml, w_lm, ol2i_n, aup_ne, aupE, aupJ, setc_self, setc_ne, pr_1 hp, pr_3 hp, pr_5 hp, pr_6 hp, pr_7 hp, pr_8 hp, pr_9 hp, pr_20 hp, pr_21 hp, pr_22 hp, pr_23 hp, pr_24 hp, pr_25 hp, pr_26 hp, pr_27 hp, pr_28 hp, pr_29 hp, pr_30 hp, pr_31 hp, pr_32 hp, pr_33 hp, pr_34 hp, pr_35 hp, pr_36 hp, pr_37 hp, pr_38 hp, pr_39 hp, pr_40 hp, pr_41 hp, pr_42 hp, pr_43 hp, pr_44 hp, pr_45 hp, pr_46 hp, pr_48 hp, pr_49 hp, pr_50 hp, pr_51 hp, pr_52 hp, pr_54 hp, pr_55 hp, pr_58 hp, pr_60 hp, pr_61 hp, pr_63 hp, pr_64 hp, pr_65 hp, pr_71 hp, pr_72 hp, pr_73 hp, pr_75 hp, pr_76 hp, pr_78 hp, pr_80 hp, pr_81 hp, pr_82 hp, pr_83 hp, pr_84 hp, k_256 hκ, n_257 hκ, n_258 hκ, n_259 hκ, n_260 hκ, n_261 hκ, n_262 hκ, n_263 hκ, n_264 hκ, n_265 hκ, n_266 hκ, n_267 hκ, n_268 hκ, n_269 hκ, n_270 hκ, n_271 hκ, n_272 hκ, n_273 hκ, n_274 hκ, n_275 hκ, n_276 hκ, n_277 hκ, n_278 hκ, n_279 hκ, n_280 hκ, n_281 hκ, n_282 hκ, n_283 hκ, n_284 hκ, n_285 hκ, n_286 hκ, n_287 hκ, n_288 hκ, n_289 hκ, n_290 hκ, n_291 hκ, n_292 hκ, n_293 hκ, n_294 hκ, n_295 hκ, n_296 hκ, n_297 hκ, n_298 hκ, n_299 hκ, n_300 hκ, n_301 hκ, n_302 hκ, n_303 hκ, n_304 hκ, n_305 hκ, n_306 hκ, n_307 hκ, n_308 hκ, n_309 hκ, n_310 hκ, n_311 hκ, n_312 hκ, n_313 hκ, n_314 hκ, hv, hpn, ub]
      rfl
  | succ m ih =>
    intro k best h hb
    have ub := hU (8 * s + best) (by omega)
    have uk := hU (8 * s + k) (by omega)
    rw [q_304_52]
    unfold bstX
    by_cases hc2 : U (8 * s + best) < U (8 * s + k)
    · rw [if_pos hc2]
      simp (disch := omega) only [cond_true, cond_false, Bool.and_true, Bool.true_and, Bool.and_false, Bool.false_and, Int.toNat_natCast, Int.reduceToNat, bI_s, bJ_s, bV_s, bR_s, decide_true, decide_false, not_true_eq_false, not_false_eq_true, dT, dF, w_al, w_la, w_ab, w_sl, w_sb, w_dec, w_ml, w_lm, ol2i_n, aup_ne, aupE, aupJ, setc_self, setc_ne, pr_1 hp, pr_3 hp, pr_5 hp, pr_6 hp, pr_7 hp, pr_8 hp, pr_9 hp, pr_20 hp, pr_21 hp, pr_22 hp, pr_23 hp, pr_24 hp, pr_25 hp, pr_26 hp, pr_27 hp, pr_28 hp, pr_29 hp, pr_30 hp, pr_31 hp, pr_32 hp, pr_33 hp, pr_34 hp, pr_35 hp, pr_36 hp, pr_37 hp, pr_38 hp, pr_39 hp, pr_40 hp, pr_41 hp, pr_42 hp, pr_43 hp, pr_44 hp, pr_45 hp, pr_46 hp, pr_48 hp, pr_49 hp, pr_50 hp, pr_51 hp, pr_52 hp, pr_54 hp, pr_55 hp, pr_58 hp, pr_60 hp, pr_61 hp, pr_63 hp, pr_64 hp, pr_65 hp, pr_71 hp, pr_72 hp, pr_73 hp, pr_75 hp, pr_76 hp, pr_78 hp, pr_80 hp, pr_81 hp, pr_82 hp, pr_83 hp, pr_84 hp, k_256 hκ, n_257 hκ, n_258 hκ, n_259 hκ, n_260 hκ, n_261 hκ, n_262 hκ, n_263 hκ, n_264 hκ, n_265 hκ, n_266 hκ, n_267 hκ, n_268 hκ, n_269 hκ, n_270 hκ, n_271 hκ, n_272 hκ, n_273 hκ, n_274 hκ, n_275 hκ, n_276 hκ, n_277 hκ, n_278 hκ, n_279 hκ, n_280 hκ, n_281 hκ, n_282 hκ, n_283 hκ, n_284 hκ, n_285 hκ, n_286 hκ, n_287 hκ, n_288 hκ, n_289 hκ, n_290 hκ, n_291 hκ, n_292 hκ, n_293 hκ, n_294 hκ, n_295 hκ, n_296 hκ, n_297 hκ, n_298 hκ, n_299 hκ, n_300 hκ, n_301 hκ, n_302 hκ, n_303 hκ, n_304 hκ, n_305 hκ, n_306 hκ, n_307 hκ, n_308 hκ, n_309 hκ, n_310 hκ, n_311 hκ, n_312 hκ, n_313 hκ, n_314 hκ, hv, hpn, ub, uk, ih (k + 1) k (by omega) (by omega)]
    · rw [if_neg hc2]
      simp (disch := omega) only [cond_true, cond_false, Bool.and_true, Bool.true_and, Bool.and_false, Bool.false_and, Int.toNat_natCast, Int.reduceToNat, bI_s, bJ_s, bV_s, bR_s, decide_true, decide_false, not_true_eq_false, not_false_eq_true, dT, dF, w_al, w_la, w_ab, w_sl, w_sb, w_dec, w_ml, w_lm, ol2i_n, aup_ne, aupE, aupJ, setc_self, setc_ne, pr_1 hp, pr_3 hp, pr_5 hp, pr_6 hp, pr_7 hp, pr_8 hp, pr_9 hp, pr_20 hp, pr_21 hp, pr_22 hp, pr_23 hp, pr_24 hp, pr_25 hp, pr_26 hp, pr_27 hp, pr_28 hp, pr_29 hp, pr_30 hp, pr_31 hp, pr_32 hp, pr_33 hp, pr_34 hp, pr_35 hp, pr_36 hp, pr_37 hp, pr_38 hp, pr_39 hp, pr_40 hp, pr_41 hp, pr_42 hp, pr_43 hp, pr_44 hp, pr_45 hp, pr_46 hp, pr_48 hp, pr_49 hp, pr_50 hp, pr_51 hp, pr_52 hp, pr_54 hp, pr_55 hp, pr_58 hp, pr_60 hp, pr_61 hp, pr_63 hp, pr_64 hp, pr_65 hp, pr_71 hp, pr_72 hp, pr_73 hp, pr_75 hp, pr_76 hp, pr_78 hp, pr_80 hp, pr_81 hp, pr_82 hp, pr_83 hp, pr_84 hp, k_256 hκ, n_257 hκ, n_258 hκ, n_259 hκ, n_260 hκ, n_261 hκ, n_262 hκ, n_263 hκ, n_264 hκ, n_265 hκ, n_266 hκ, n_267 hκ, n_268 hκ, n_269 hκ, n_270 hκ, n_271 hκ, n_272 hκ, n_273 hκ, n_274 hκ, n_275 hκ, n_276 hκ, n_277 hκ, n_278 hκ, n_279 hκ, n_280 hκ, n_281 hκ, n_282 hκ, n_283 hκ, n_284 hκ, n_285 hκ, n_286 hκ, n_287 hκ, n_288 hκ, n_289 hκ, n_290 hκ, n_291 hκ, n_292 hκ, n_293 hκ, n_294 hκ, n_295 hκ, n_296 hκ, n_297 hκ, n_298 hκ, n_299 hκ, n_300 hκ, n_301 hκ, n_302 hκ, n_303 hκ, n_304 hκ, n_305 hκ, n_306 hκ, n_307 hκ, n_308 hκ, n_309 hκ, n_310 hκ, n_311 hκ, n_312 hκ, n_313 hκ, n_314 hκ, hv, hpn, ub, uk, ih (k + 1) best (by omega) hb]
theorem rmost (xs : List Int) (d : Nat) {κ : aK} {D : Nat → Nat → Int} (hκ : Shp κ) {v : Nat} {X : TX} (hX : TXok X) (hR : RI D v X) {S : ST} (hS : STok X S) (hn : RowR (D 301) X S) (s what : Int) : ∃ D', RSame D D' ∧ cl xs (d + 6) 304 [.inr (.inr 256), .inl s, .inl what] (κ, D) = some (some (.inl (qMost X S s what)), (κ, D')) := by
  have hp := hR.1; have hv := hR.2.1; have hv2 := hR.2.2.1; have hT := hR.2.2.2.2; have x1 := hX.1.1; have x2 := hX.2.1.1; have hk := k_256 hκ
  rw [c_304]
  unfold qMost
  by_cases h : (0 ≤ s ∧ s ≤ 2) ∧ 0 ≤ what ∧ what ≤ 1
  · rw [if_pos h]
    obtain ⟨s, rfl⟩ := Int.eq_ofNat_of_zero_le h.1.1
    have hpn := (hT.2.2.1 s (by omega)).1
    have n8 := xnp_le hX (s := s) (by omega)
    rw [Int.toNat_natCast]
    by_cases h0 : xnp X s = 0
    · refine ⟨D, RSame.rfl' hR.2.2.2.1, ?_⟩
      rw [if_pos h0]
      simp (disch := omega) only [cond_true, cond_false, Bool.and_true, Bool.true_and, Bool.and_false, Bool.false_and, Int.toNat_natCast, Int.reduceToNat, bI_s, bJ_s, bV_s, bR_s, decide_true, decide_false, not_true_eq_false, not_false_eq_true, dT, dF, w_al, w_la, w_ab, w_sl, w_sb, w_dec, w_ml, w_lm, ol2i_n, aup_ne, aupE, aupJ, setc_self, setc_ne, pr_1 hp, pr_3 hp, pr_5 hp, pr_6 hp, pr_7 hp, pr_8 hp, pr_9 hp, pr_20 hp, pr_21 hp, pr_22 hp, pr_23 hp, pr_24 hp, pr_25 hp, pr_26 hp, pr_27 hp, pr_28 hp, pr_29 hp, pr_30 hp, pr_31 hp, pr_32 hp, pr_33 hp, pr_34 hp, pr_35 hp, pr_36 hp, pr_37 hp, pr_38 hp, pr_39 hp, pr_40 hp, pr_41 hp, pr_42 hp, pr_43 hp, pr_44 hp, pr_45 hp, pr_46 hp, pr_48 hp, pr_49 hp, pr_50 hp, pr_51 hp, pr_52 hp, pr_54 hp, pr_55 hp, pr_58 hp, pr_60 hp, pr_61 hp, pr_63 hp, pr_64 hp, pr_65 hp, pr_71 hp, pr_72 hp, pr_73 hp, pr_75 hp, pr_76 hp, pr_78 hp, pr_80 hp, pr_81 hp, pr_82 hp, pr_83 hp, pr_84 hp, k_256 hκ, n_257 hκ, n_258 hκ, n_259 hκ, n_260 hκ, n_261 hκ, n_262 hκ, n_263 hκ, n_264 hκ, n_265 hκ, n_266 hκ, n_267 hκ, n_268 hκ, n_269 hκ, n_270 hκ, n_271 hκ, n_272 hκ, n_273 hκ, n_274 hκ, n_275 hκ, n_276 hκ, n_277 hκ, n_278 hκ, n_279 hκ, n_280 hκ, n_281 hκ, n_282 hκ, n_283 hκ, n_284 hκ, n_285 hκ, n_286 hκ, n_287 hκ, n_288 hκ, n_289 hκ, n_290 hκ, n_291 hκ, n_292 hκ, n_293 hκ, n_294 hκ, n_295 hκ, n_296 hκ, n_297 hκ, n_298 hκ, n_299 hκ, n_300 hκ, n_301 hκ, n_302 hκ, n_303 hκ, n_304 hκ, n_305 hκ, n_306 hκ, n_307 hκ, n_308 hκ, n_309 hκ, n_310 hκ, n_311 hκ, n_312 hκ, n_313 hκ, n_314 hκ, hv, in_eq, hpn]
    · rw [if_neg h0]
      have hs1 : RSame D (setc (cpD D) 303 (D 303)) := RSame.q hR.2.2.2.1
      have hR1 := hR.same hs1
      obtain ⟨E2, c1, c2, c3⟩ := fills_eq xs d hκ hX hR1 hS (by rw [setc_ne (by decide)]; exact cpD_row hX hn)
      have hs2 := hs1.trans c1.same
      refine ⟨E2, hs2, ?_⟩
      have lp := rmost_loop xs (d + 5) hκ hX (hR.same hs2) (s := s) (by omega) c2 what (xnp X s - 1) 1 0 (by omega) (by omega)
      simp (disch := omega) only [cond_true, cond_false, Bool.and_true, Bool.true_and, Bool.and_false, Bool.false_and, Int.toNat_natCast, Int.reduceToNat, bI_s, bJ_s, bV_s, bR_s, decide_true, decide_false, not_true_eq_false, not_false_eq_true, dT, dF, w_al, w_la, w_ab, w_sl, w_sb, w_dec, w_ml, w_lm, ol2i_n, aup_ne, aupE, aupJ, setc_self, setc_ne, pr_1 hp, pr_3 hp, pr_5 hp, pr_6 hp, pr_7 hp, pr_8 hp, pr_9 hp, pr_20 hp, pr_21 hp, pr_22 hp, pr_23 hp, pr_24 hp, pr_25 hp, pr_26 hp, pr_27 hp, pr_28 hp, pr_29 hp, pr_30 hp, pr_31 hp, pr_32 hp, pr_33 hp, pr_34 hp, pr_35 hp, pr_36 hp, pr_37 hp, pr_38 hp, pr_39 hp, pr_40 hp, pr_41 hp, pr_42 hp, pr_43 hp, pr_44 hp, pr_45 hp, pr_46 hp, pr_48 hp, pr_49 hp, pr_50 hp, pr_51 hp, pr_52 hp, pr_54 hp, pr_55 hp, pr_58 hp, pr_60 hp, pr_61 hp, pr_63 hp, pr_64 hp, pr_65 hp, pr_71 hp, pr_72 hp, pr_73 hp, pr_75 hp, pr_76 hp, pr_78 hp, pr_80 hp, pr_81 hp, pr_82 hp, pr_83 hp, pr_84 hp, k_256 hκ, n_257 hκ, n_258 hκ, n_259 hκ, n_260 hκ, n_261 hκ, n_262 hκ, n_263 hκ, n_264 hκ, n_265 hκ, n_266 hκ, n_267 hκ, n_268 hκ, n_269 hκ, n_270 hκ, n_271 hκ, n_272 hκ, n_273 hκ, n_274 hκ, n_275 hκ, n_276 hκ, n_277 hκ, n_278 hκ, n_279 hκ, n_280 hκ, n_281 hκ, n_282 hκ, n_283 hκ, n_284 hκ, n_285 hκ, n_286 hκ, n_287 hκ, n_288 hκ, n_289 hκ, n_290 hκ, n_291 hκ, n_292 hκ, n_293 hκ, n_294 hκ, n_295 hκ, n_296 hκ, n_297 hκ, n_298 hκ, n_299 hκ, n_300 hκ, n_301 hκ, n_302 hκ, n_303 hκ, n_304 hκ, n_305 hκ, n_306 hκ, n_307 hκ, n_308 hκ, n_309 hκ, n_310 hκ, n_311 hκ, n_312 hκ, n_313 hκ, n_314 hκ, hv, in_eq, hpn, copiesX xs (d + 4) hκ hR, c3]
      exact lp
  · refine ⟨D, RSame.rfl' hR.2.2.2.1, ?_⟩
    rw [if_neg h]
    by_cases h1 : 0 ≤ s ∧ s ≤ 2
    · simp (disch := omega) only [cond_true, cond_false, Bool.and_true, Bool.true_and, Bool.and_false, Bool.false_and, Int.toNat_natCast, Int.reduceToNat, bI_s, bJ_s, bV_s, bR_s, decide_true, decide_false, not_true_eq_false, not_false_eq_true, dT, dF, w_al, w_la, w_ab, w_sl, w_sb, w_dec, w_ml, w_lm, ol2i_n, aup_ne, aupE, aupJ, setc_self, setc_ne, in_eq]
    · simp (disch := omega) only [cond_true, cond_false, Bool.and_true, Bool.true_and, Bool.and_false, Bool.false_and, Int.toNat_natCast, Int.reduceToNat, bI_s, bJ_s, bV_s, bR_s, decide_true, decide_false, not_true_eq_false, not_false_eq_true, dT, dF, w_al, w_la, w_ab, w_sl, w_sb, w_dec, w_ml, w_lm, ol2i_n, aup_ne, aupE, aupJ, setc_self, setc_ne, in_eq]
theorem rforged_loop (xs : List Int) (d : Nat) {κ : aK} {D : Nat → Nat → Int} (hκ : Shp κ) {v : Nat} {X : TX} (hX : TXok X) (hR : RI D v X) {U : Nat → Nat} (hU : ∀ j, j < 24 → D 312 j = (U j : Int)) : ∀ (m k : Nat), k + m = xnp X 0 → ev xs d mm_305 12 [some (.inr (.inr 256)), some (.inl (wbits U k : Int)), some (.inl (k : Int))] [] (κ, D) = some (some (.inl (wbits U (xnp X 0) : Int)), (κ, D)) := by
  have hp := hR.1; have hv := hR.2.1; have hv2 := hR.2.2.1; have hT := hR.2.2.2.2; have x1 := hX.1.1; have x2 := hX.2.1.1; have hk := k_256 hκ
  have n8 := xnp_le hX (s := 0) (by decide)
  have hpn := (hT.2.2.1 0 (by decide)).1
  rw [Nat.add_zero] at hpn
  intro m
  induction m with
  | zero =>
    intro k h
    rw [q_305_12, show k = xnp X 0 by omega]
    simp (disch := omega) only [cond_true, cond_false, Bool.and_true, Bool.true_and, Bool.and_false, Bool.false_and, Int.toNat_natCast, Int.reduceToNat, bI_s, bJ_s, bV_s, bR_s, decide_true, decide_false, not_true_eq_false, not_false_eq_true, dT, dF, w_al, w_la, w_ab, w_sl, w_sb, w_dec, w_ml, w_lm, ol2i_n, aup_ne, aupE, aupJ, setc_self, setc_ne, pr_1 hp, pr_3 hp, pr_5 hp, pr_6 hp, pr_7 hp, pr_8 hp, pr_9 hp, pr_20 hp, pr_21 hp, pr_22 hp, pr_23 hp, pr_24 hp, pr_25 hp, pr_26 hp, pr_27 hp, pr_28 hp, pr_29 hp, pr_30 hp, pr_31 hp, pr_32 hp, pr_33 hp, pr_34 hp, pr_35 hp, pr_36 hp, pr_37 hp, pr_38 hp, pr_39 hp, pr_40 hp, pr_41 hp, pr_42 hp, pr_43 hp, pr_44 hp, pr_45 hp, pr_46 hp, pr_48 hp, pr_49 hp, pr_50 hp, pr_51 hp, pr_52 hp, pr_54 hp, pr_55 hp, pr_58 hp, pr_60 hp, pr_61 hp, pr_63 hp, pr_64 hp, pr_65 hp, pr_71 hp, pr_72 hp, pr_73 hp, pr_75 hp, pr_76 hp, pr_78 hp, pr_80 hp, pr_81 hp, pr_82 hp, pr_83 hp, pr_84 hp, k_256 hκ, n_257 hκ, n_258 hκ, n_259 hκ, n_260 hκ, n_261 hκ, n_262 hκ, n_263 hκ, n_264 hκ, n_265 hκ, n_266 hκ, n_267 hκ, n_268 hκ, n_269 hκ, n_270 hκ, n_271 hκ, n_272 hκ, n_273 hκ, n_274 hκ, n_275 hκ, n_276 hκ, n_277 hκ, n_278 hκ, n_279 hκ, n_280 hκ, n_281 hκ, n_282 hκ, n_283 hκ, n_284 hκ, n_285 hκ, n_286 hκ, n_287 hκ, n_288 hκ, n_289 hκ, n_290 hκ, n_291 hκ, n_292 hκ, n_293 hκ, n_294 hκ, n_295 hκ, n_296 hκ, n_297 hκ, n_298 hκ, n_299 hκ, n_300 hκ, n_301 hκ, n_302 hκ, n_303 hκ, n_304 hκ, n_305 hκ, n_306 hκ, n_307 hκ, n_308 hκ, n_309 hκ, n_310 hκ, n_311 hκ, n_312 hκ, n_313 hκ, n_314 hκ, hv, hpn]
  | succ m ih =>
    intro k h
    have uk := hU k (by omega)
    have hb := wbits_lt U k
    have ihk := ih (k + 1) (by omega)
    have ep := oor_pow hb (show k < 30 by omega)
    rw [q_305_12]
    by_cases h0 : U k = 0
    · rw [show wbits U (k + 1) = wbits U k + 2 ^ k from by show wbits U k + (if U k = 0 then 2 ^ k else 0) = _; rw [if_pos h0]] at ihk
      simp (disch := omega) only [cond_true, cond_false, Bool.and_true, Bool.true_and, Bool.and_false, Bool.false_and, Int.toNat_natCast, Int.reduceToNat, bI_s, bJ_s, bV_s, bR_s, decide_true, decide_false, not_true_eq_false, not_false_eq_true, dT, dF, w_al, w_la, w_ab, w_sl, w_sb, w_dec, w_ml, w_lm, ol2i_n, aup_ne, aupE, aupJ, setc_self, setc_ne, pr_1 hp, pr_3 hp, pr_5 hp, pr_6 hp, pr_7 hp, pr_8 hp, pr_9 hp, pr_20 hp, pr_21 hp, pr_22 hp, pr_23 hp, pr_24 hp, pr_25 hp, pr_26 hp, pr_27 hp, pr_28 hp, pr_29 hp, pr_30 hp, pr_31 hp, pr_32 hp, pr_33 hp, pr_34 hp, pr_35 hp, pr_36 hp, pr_37 hp, pr_38 hp, pr_39 hp, pr_40 hp, pr_41 hp, pr_42 hp, pr_43 hp, pr_44 hp, pr_45 hp, pr_46 hp, pr_48 hp, pr_49 hp, pr_50 hp, pr_51 hp, pr_52 hp, pr_54 hp, pr_55 hp, pr_58 hp, pr_60 hp, pr_61 hp, pr_63 hp, pr_64 hp, pr_65 hp, pr_71 hp, pr_72 hp, pr_73 hp, pr_75 hp, pr_76 hp, pr_78 hp, pr_80 hp, pr_81 hp, pr_82 hp, pr_83 hp, pr_84 hp, k_256 hκ, n_257 hκ, n_258 hκ, n_259 hκ, n_260 hκ, n_261 hκ, n_262 hκ, n_263 hκ, n_264 hκ, n_265 hκ, n_266 hκ, n_267 hκ, n_268 hκ, n_269 hκ, n_270 hκ, n_271 hκ, n_272 hκ, n_273 hκ, n_274 hκ, n_275 hκ, n_276 hκ, n_277 hκ, n_278 hκ, n_279 hκ, n_280 hκ, n_281 hκ, n_282 hκ, n_283 hκ, n_284 hκ, n_285 hκ, n_286 hκ, n_287 hκ, n_288 hκ, n_289 hκ, n_290 hκ, n_291 hκ, n_292 hκ, n_293 hκ, n_294 hκ, n_295 hκ, n_296 hκ, n_297 hκ, n_298 hκ, n_299 hκ, n_300 hκ, n_301 hκ, n_302 hκ, n_303 hκ, n_304 hκ, n_305 hκ, n_306 hκ, n_307 hκ, n_308 hκ, n_309 hκ, n_310 hκ, n_311 hκ, n_312 hκ, n_313 hκ, n_314 hκ, hv, hpn, uk, h0, ep, ihk]
    · rw [show wbits U (k + 1) = wbits U k from by show wbits U k + (if U k = 0 then 2 ^ k else 0) = _; rw [if_neg h0, Nat.add_zero]] at ihk
      simp (disch := omega) only [cond_true, cond_false, Bool.and_true, Bool.true_and, Bool.and_false, Bool.false_and, Int.toNat_natCast, Int.reduceToNat, bI_s, bJ_s, bV_s, bR_s, decide_true, decide_false, not_true_eq_false, not_false_eq_true, dT, dF, w_al, w_la, w_ab, w_sl, w_sb, w_dec, w_ml, w_lm, ol2i_n, aup_ne, aupE, aupJ, setc_self, setc_ne, pr_1 hp, pr_3 hp, pr_5 hp, pr_6 hp, pr_7 hp, pr_8 hp, pr_9 hp, pr_20 hp, pr_21 hp, pr_22 hp, pr_23 hp, pr_24 hp, pr_25 hp, pr_26 hp, pr_27 hp, pr_28 hp, pr_29 hp, pr_30 hp, pr_31 hp, pr_32 hp, pr_33 hp, pr_34 hp, pr_35 hp, pr_36 hp, pr_37 hp, pr_38 hp, pr_39 hp, pr_40 hp, pr_41 hp, pr_42 hp, pr_43 hp, pr_44 hp, pr_45 hp, pr_46 hp, pr_48 hp, pr_49 hp, pr_50 hp, pr_51 hp, pr_52 hp, pr_54 hp, pr_55 hp, pr_58 hp, pr_60 hp, pr_61 hp, pr_63 hp, pr_64 hp, pr_65 hp, pr_71 hp, pr_72 hp, pr_73 hp, pr_75 hp, pr_76 hp, pr_78 hp, pr_80 hp, pr_81 hp, pr_82 hp, pr_83 hp, pr_84 hp, k_256 hκ, n_257 hκ, n_258 hκ, n_259 hκ, n_260 hκ, n_261 hκ, n_262 hκ, n_263 hκ, n_264 hκ, n_265 hκ, n_266 hκ, n_267 hκ, n_268 hκ, n_269 hκ, n_270 hκ, n_271 hκ, n_272 hκ, n_273 hκ, n_274 hκ, n_275 hκ, n_276 hκ, n_277 hκ, n_278 hκ, n_279 hκ, n_280 hκ, n_281 hκ, n_282 hκ, n_283 hκ, n_284 hκ, n_285 hκ, n_286 hκ, n_287 hκ, n_288 hκ, n_289 hκ, n_290 hκ, n_291 hκ, n_292 hκ, n_293 hκ, n_294 hκ, n_295 hκ, n_296 hκ, n_297 hκ, n_298 hκ, n_299 hκ, n_300 hκ, n_301 hκ, n_302 hκ, n_303 hκ, n_304 hκ, n_305 hκ, n_306 hκ, n_307 hκ, n_308 hκ, n_309 hκ, n_310 hκ, n_311 hκ, n_312 hκ, n_313 hκ, n_314 hκ, hv, hpn, uk, ihk]
theorem rforged (xs : List Int) (d : Nat) {κ : aK} {D : Nat → Nat → Int} (hκ : Shp κ) {v : Nat} {X : TX} (hX : TXok X) (hR : RI D v X) {S : ST} (hS : STok X S) (hn : RowR (D 301) X S) : ∃ D', RSame D D' ∧ cl xs (d + 6) 305 [.inr (.inr 256)] (κ, D) = some (some (.inl (qForged X S)), (κ, D')) := by
  have hp := hR.1; have hv := hR.2.1; have hv2 := hR.2.2.1; have hT := hR.2.2.2.2; have x1 := hX.1.1; have x2 := hX.2.1.1; have hk := k_256 hκ
  have hs1 : RSame D (setc (cpD D) 303 (D 303)) := RSame.q hR.2.2.2.1
  have hR1 := hR.same hs1
  obtain ⟨E2, c1, c2, c3⟩ := fills_eq xs d hκ hX hR1 hS (by rw [setc_ne (by decide)]; exact cpD_row hX hn)
  have hs2 := hs1.trans c1.same
  refine ⟨E2, hs2, ?_⟩
  have lp := rforged_loop xs (d + 5) hκ hX (hR.same hs2) c2 (xnp X 0) 0 (by omega)
  rw [c_305]
  simp (disch := omega) only [cond_true, cond_false, Bool.and_true, Bool.true_and, Bool.and_false, Bool.false_and, Int.toNat_natCast, Int.reduceToNat, bI_s, bJ_s, bV_s, bR_s, decide_true, decide_false, not_true_eq_false, not_false_eq_true, dT, dF, w_al, w_la, w_ab, w_sl, w_sb, w_dec, w_ml, w_lm, ol2i_n, aup_ne, aupE, aupJ, setc_self, setc_ne, pr_1 hp, pr_3 hp, pr_5 hp, pr_6 hp, pr_7 hp, pr_8 hp, pr_9 hp, pr_20 hp, pr_21 hp, pr_22 hp, pr_23 hp, pr_24 hp, pr_25 hp, pr_26 hp, pr_27 hp, pr_28 hp, pr_29 hp, pr_30 hp, pr_31 hp, pr_32 hp, pr_33 hp, pr_34 hp, pr_35 hp, pr_36 hp, pr_37 hp, pr_38 hp, pr_39 hp, pr_40 hp, pr_41 hp, pr_42 hp, pr_43 hp, pr_44 hp, pr_45 hp, pr_46 hp, pr_48 hp, pr_49 hp, pr_50 hp, pr_51 hp, pr_52 hp, pr_54 hp, pr_55 hp, pr_58 hp, pr_60 hp, pr_61 hp, pr_63 hp, pr_64 hp, pr_65 hp, pr_71 hp, pr_72 hp, pr_73 hp, pr_75 hp, pr_76 hp, pr_78 hp, pr_80 hp, pr_81 hp, pr_82 hp, pr_83 hp, pr_84 hp, k_256 hκ, n_257 hκ, n_258 hκ, n_259 hκ, n_260 hκ, n_261 hκ, n_262 hκ, n_263 hκ, n_264 hκ, n_265 hκ, n_266 hκ, n_267 hκ, n_268 hκ, n_269 hκ, n_270 hκ, n_271 hκ, n_272 hκ, n_273 hκ, n_274 hκ, n_275 hκ, n_276 hκ, n_277 hκ, n_278 hκ, n_279 hκ, n_280 hκ, n_281 hκ, n_282 hκ, n_283 hκ, n_284 hκ, n_285 hκ, n_286 hκ, n_287 hκ, n_288 hκ, n_289 hκ, n_290 hκ, n_291 hκ, n_292 hκ, n_293 hκ, n_294 hκ, n_295 hκ, n_296 hκ, n_297 hκ, n_298 hκ, n_299 hκ, n_300 hκ, n_301 hκ, n_302 hκ, n_303 hκ, n_304 hκ, n_305 hκ, n_306 hκ, n_307 hκ, n_308 hκ, n_309 hκ, n_310 hκ, n_311 hκ, n_312 hκ, n_313 hκ, n_314 hκ, hv, copiesX xs (d + 4) hκ hR, c3]
  exact lp
