/-! Orders: firstOrder (282), isOrderFit (284) of the reference. -/
theorem RSame.upc {D : Nat → Nat → Int} (h0 : D 303 0 = 0) {r : Nat} (hr : r ∈ scr) (h3 : r ≠ 303) (k : Nat) (x : Int) : RSame D (aup D r k x) := by
  rw [aup_as]
  exact RSame.cell h0 hr h3 _
def fsF (on s : Nat) : List Nat := (List.range s).filter (fun x => on.testBit x)
theorem fsF_s (on s : Nat) : fsF on (s + 1) = fsF on s ++ (if on.testBit s = true then [s] else []) := by
  unfold fsF
  rw [List.range_succ, List.filter_append]
  congr 1
  rw [List.filter_cons]
  by_cases h : on.testBit s = true
  · rw [if_pos h, if_pos h]; rfl
  · rw [if_neg h, if_neg h]; rfl
theorem fsF_len (on s : Nat) : (fsF on s).length ≤ s := Nat.le_trans (List.length_filter_le _ _) (Nat.le_of_eq List.length_range)
theorem fsF_els {on n : Nat} (hn : n ≤ 7) (h : on < 2 ^ n) : fsF on n = els on := by
  have key : ∀ m, fsF on (n + m) = fsF on n := by
    intro m
    induction m with
    | zero => rfl
    | succ m ih =>
      rw [← Nat.add_assoc, fsF_s, ih, if_neg, List.append_nil]
      rw [Nat.testBit_lt_two_pow (Nat.lt_of_lt_of_le h (Nat.pow_le_pow_right (by decide) (by omega)))]
      exact Bool.noConfusion
  have := key (7 - n)
  rw [show n + (7 - n) = 7 by omega] at this
  exact this.symm
theorem fo_loop (xs : List Int) (d : Nat) {κ : aK} (hκ : Shp κ) {v : Nat} {X : TX} (hX : TXok X) {on : Nat} (hon : on < 128) {ord : Nat → Nat} (ho : ∀ k, k < xns X → ord k < xns X) (hinj : ∀ j k, j < xns X → k < xns X → ord j = ord k → j = k) : ∀ (m s : Nat) (D : Nat → Nat → Int), s + m = xns X → RI D v X → D 302 52 = (on : Int) → (∀ k, k < xns X → D 301 (45 + k) = (ord k : Int)) → D 256 74 = ((fsF on s).length : Int) → PmA (D 307) 0 (fsF on s) → (∀ k, k < s → D 308 (ord k) = (k : Int)) → ∃ D', RSame D D' ∧ D' 256 74 = ((fsF on (xns X)).length : Int) ∧ PmA (D' 307) 0 (fsF on (xns X)) ∧ (∀ k, k < xns X → D' 308 (ord k) = (k : Int)) ∧ ev xs d mm_282 7 [some (.inr (.inr 256)), some (.inl (s : Int))] [] (κ, D) = some (none, (κ, D')) := by
  intro m
  induction m with
  | zero =>
    intro s D hs hR h52 hor h74 hpm h308
    have hp := hR.1; have hv := hR.2.1; have hv2 := hR.2.2.1; have hT := hR.2.2.2.2; have x1 := hX.1.1; have x2 := hX.2.1.1; have hk := k_256 hκ
    have es : s = xns X := by omega
    subst es
    refine ⟨D, RSame.rfl' hR.2.2.2.1, h74, hpm, h308, ?_⟩
    rw [q_282_7]
    simp (disch := omega) only [cond_true, cond_false, Bool.and_true, Bool.true_and, Bool.and_false, Bool.false_and, Int.toNat_natCast, Int.reduceToNat, bI_s, bJ_s, bV_s, bR_s, decide_true, decide_false, not_true_eq_false, not_false_eq_true, dT, dF, w_al, w_la, w_ab, w_sl, w_sb, w_dec, w_ml, w_lm, ol2i_n, aup_ne, aupE, aupJ, setc_self, setc_ne, pr_1 hp, pr_3 hp, pr_5 hp, pr_6 hp, pr_7 hp, pr_8 hp, pr_9 hp, pr_20 hp, pr_21 hp, pr_22 hp, pr_23 hp, pr_24 hp, pr_25 hp, pr_26 hp, pr_27 hp, pr_28 hp, pr_29 hp, pr_30 hp, pr_31 hp, pr_32 hp, pr_33 hp, pr_34 hp, pr_35 hp, pr_36 hp, pr_37 hp, pr_38 hp, pr_39 hp, pr_40 hp, pr_41 hp, pr_42 hp, pr_43 hp, pr_44 hp, pr_45 hp, pr_46 hp, pr_48 hp, pr_49 hp, pr_50 hp, pr_51 hp, pr_52 hp, pr_54 hp, pr_55 hp, pr_58 hp, pr_60 hp, pr_61 hp, pr_63 hp, pr_64 hp, pr_65 hp, pr_71 hp, pr_72 hp, pr_73 hp, pr_75 hp, pr_76 hp, pr_78 hp, pr_80 hp, pr_81 hp, pr_82 hp, pr_83 hp, pr_84 hp, k_256 hκ, n_257 hκ, n_258 hκ, n_259 hκ, n_260 hκ, n_261 hκ, n_262 hκ, n_263 hκ, n_264 hκ, n_265 hκ, n_266 hκ, n_267 hκ, n_268 hκ, n_269 hκ, n_270 hκ, n_271 hκ, n_272 hκ, n_273 hκ, n_274 hκ, n_275 hκ, n_276 hκ, n_277 hκ, n_278 hκ, n_279 hκ, n_280 hκ, n_281 hκ, n_282 hκ, n_283 hκ, n_284 hκ, n_285 hκ, n_286 hκ, n_287 hκ, n_288 hκ, n_289 hκ, n_290 hκ, n_291 hκ, n_292 hκ, n_293 hκ, n_294 hκ, n_295 hκ, n_296 hκ, n_297 hκ, n_298 hκ, n_299 hκ, n_300 hκ, n_301 hκ, n_302 hκ, n_303 hκ, n_304 hκ, n_305 hκ, n_306 hκ, n_307 hκ, n_308 hκ, n_309 hκ, n_310 hκ, n_311 hκ, n_312 hκ, n_313 hκ, n_314 hκ, hv, hT.1.1.1]
  | succ m ih =>
    intro s D hs hR h52 hor h74 hpm h308
    have hp := hR.1; have hv := hR.2.1; have hv2 := hR.2.2.1; have hT := hR.2.2.2.2; have x1 := hX.1.1; have x2 := hX.2.1.1; have hk := k_256 hκ
    have h0 := hR.2.2.2.1
    have hlen := fsF_len on s
    have e45 := hor s (by omega)
    have hos := ho s (by omega)
    have esh : olshr (on : Int) (s : Int) = ((on / 2 ^ s : Nat) : Int) := olshr_nat (by omega) (by omega)
    have ebt : oland ((on / 2 ^ s : Nat) : Int) 1 = ((on / 2 ^ s % 2 : Nat) : Int) := by
      have h1 : on / 2 ^ s < 9223372036854775808 := Nat.lt_of_le_of_lt (Nat.div_le_self _ _) (by omega)
      rw [show (1 : Int) = ((1 : Nat) : Int) from rfl, oland_nat h1 (by decide), Nat.and_one_is_mod]
    have ew : w32 (45 + (s : Int)) = ((45 + s : Nat) : Int) := w_la (by omega)
    have e56 : ∀ (E : Nat → Nat → Int), PtrR E → E 301 = D 301 → ev xs d mm_282 56 [some (.inr (.inr 256)), some (.inl (s : Int))] [] (κ, E) = ev xs d mm_282 7 [some (.inr (.inr 256)), some (.inl ((s + 1 : Nat) : Int))] [] (κ, aup E 308 (ord s) (s : Int)) := by
      intro E hp h301
      have e45' : E 301 (45 + s) = (ord s : Int) := by rw [h301]; exact e45
      rw [q_282_56]
      simp (disch := omega) only [cond_true, cond_false, Bool.and_true, Bool.true_and, Bool.and_false, Bool.false_and, Int.toNat_natCast, Int.reduceToNat, bI_s, bJ_s, bV_s, bR_s, decide_true, decide_false, not_true_eq_false, not_false_eq_true, dT, dF, w_al, w_la, w_ab, w_sl, w_sb, w_dec, w_ml, w_lm, ol2i_n, aup_ne, aupE, aupJ, setc_self, setc_ne, pr_1 hp, pr_3 hp, pr_5 hp, pr_6 hp, pr_7 hp, pr_8 hp, pr_9 hp, pr_20 hp, pr_21 hp, pr_22 hp, pr_23 hp, pr_24 hp, pr_25 hp, pr_26 hp, pr_27 hp, pr_28 hp, pr_29 hp, pr_30 hp, pr_31 hp, pr_32 hp, pr_33 hp, pr_34 hp, pr_35 hp, pr_36 hp, pr_37 hp, pr_38 hp, pr_39 hp, pr_40 hp, pr_41 hp, pr_42 hp, pr_43 hp, pr_44 hp, pr_45 hp, pr_46 hp, pr_48 hp, pr_49 hp, pr_50 hp, pr_51 hp, pr_52 hp, pr_54 hp, pr_55 hp, pr_58 hp, pr_60 hp, pr_61 hp, pr_63 hp, pr_64 hp, pr_65 hp, pr_71 hp, pr_72 hp, pr_73 hp, pr_75 hp, pr_76 hp, pr_78 hp, pr_80 hp, pr_81 hp, pr_82 hp, pr_83 hp, pr_84 hp, k_256 hκ, n_257 hκ, n_258 hκ, n_259 hκ, n_260 hκ, n_261 hκ, n_262 hκ, n_263 hκ, n_264 hκ, n_265 hκ, n_266 hκ, n_267 hκ, n_268 hκ, n_269 hκ, n_270 hκ, n_271 hκ, n_272 hκ, n_273 hκ, n_274 hκ, n_275 hκ, n_276 hκ, n_277 hκ, n_278 hκ, n_279 hκ, n_280 hκ, n_281 hκ, n_282 hκ, n_283 hκ, n_284 hκ, n_285 hκ, n_286 hκ, n_287 hκ, n_288 hκ, n_289 hκ, n_290 hκ, n_291 hκ, n_292 hκ, n_293 hκ, n_294 hκ, n_295 hκ, n_296 hκ, n_297 hκ, n_298 hκ, n_299 hκ, n_300 hκ, n_301 hκ, n_302 hκ, n_303 hκ, n_304 hκ, n_305 hκ, n_306 hκ, n_307 hκ, n_308 hκ, n_309 hκ, n_310 hκ, n_311 hκ, n_312 hκ, n_313 hκ, n_314 hκ, ew, e45']
    by_cases hb : on.testBit s = true
    · have hb1 : on / 2 ^ s % 2 = 1 := by rw [bitT, hb]; rfl
      have hc1 : ¬ ¬ olcmp ((1 : Nat) : Int) 1 = 0 := fun q => q (olcmp_eq.mpr rfl)
      generalize hE : aup (aup D 307 (fsF on s).length (s : Int)) 256 74 (((fsF on s).length + 1 : Nat) : Int) = E
      have rE : RSame D E := by
        rw [← hE]
        have r1 := RSame.upc h0 (r := 307) (by decide) (by decide) (fsF on s).length (s : Int)
        exact r1.trans (RSame.upf r1.2.2 (by decide) _)
      have hRE := hR.same rE
      have E301 : E 301 = D 301 := rE.1 301 (by decide) (by decide)
      have E302 : E 302 = D 302 := by rw [← hE, aupN (by decide), aupN (by decide)]
      have E308 : E 308 = D 308 := by rw [← hE, aupN (by decide), aupN (by decide)]
      have E307 : E 307 = fun j => if j = (fsF on s).length then (s : Int) else D 307 j := by rw [← hE, aupN (by decide)]; funext j; rw [aup_r]
      have E74 : E 256 74 = (((fsF on s).length + 1 : Nat) : Int) := by rw [← hE, aupE]
      generalize hG : aup E 308 (ord s) (s : Int) = G
      have rG : RSame E G := by rw [← hG]; exact RSame.upc rE.2.2 (by decide) (by decide) _ _
      have Gq : ∀ q, q ≠ 308 → G q = E q := fun q hq => by rw [← hG, aupN hq]
      have hs1 : fsF on (s + 1) = fsF on s ++ [s] := by rw [fsF_s, if_pos hb]
      obtain ⟨D', q1, q2, q3, q4, q5⟩ := ih (s + 1) G (by omega) (hRE.same rG) (by rw [Gq 302 (by decide), E302]; exact h52) (fun k hk => by rw [Gq 301 (by decide), E301]; exact hor k hk) (by rw [Gq 256 (by decide), E74, hs1, List.length_append]; rfl) (by
        rw [Gq 307 (by decide), E307, hs1, PmA_app]
        refine ⟨PmA_congr (fun k _ hk => if_neg (by omega)) hpm, ?_, True.intro⟩
        rw [Nat.zero_add]
        exact if_pos rfl) (fun k hk => by
        rw [← hG, aup_r]
        by_cases h : k = s
        · rw [h, if_pos rfl]
        · rw [if_neg (fun q => h (hinj k s (by omega) (by omega) q)), E308]
          exact h308 k (by omega))
      refine ⟨D', (rE.trans rG).trans q1, q2, q3, q4, ?_⟩
      rw [← q5, ← hG, ← e56 E hRE.1 E301, q_282_7]
      have ec : w32 (((fsF on s).length : Int) + 1) = (((fsF on s).length + 1 : Nat) : Int) := w_al (by omega)
      have eo : olcmp ((1 : Nat) : Int) 1 = 0 := olcmp_eq.mpr rfl
      simp (disch := omega) only [cond_true, cond_false, Bool.and_true, Bool.true_and, Bool.and_false, Bool.false_and, Int.toNat_natCast, Int.reduceToNat, bI_s, bJ_s, bV_s, bR_s, decide_true, decide_false, not_true_eq_false, not_false_eq_true, dT, dF, w_al, w_la, w_ab, w_sl, w_sb, w_dec, w_ml, w_lm, ol2i_n, aup_ne, aupE, aupJ, setc_self, setc_ne, pr_1 hp, pr_3 hp, pr_5 hp, pr_6 hp, pr_7 hp, pr_8 hp, pr_9 hp, pr_20 hp, pr_21 hp, pr_22 hp, pr_23 hp, pr_24 hp, pr_25 hp, pr_26 hp, pr_27 hp, pr_28 hp, pr_29 hp, pr_30 hp, pr_31 hp, pr_32 hp, pr_33 hp, pr_34 hp, pr_35 hp, pr_36 hp, pr_37 hp, pr_38 hp, pr_39 hp, pr_40 hp, pr_41 hp, pr_42 hp, pr_43 hp, pr_44 hp, pr_45 hp, pr_46 hp, pr_48 hp, pr_49 hp, pr_50 hp, pr_51 hp, pr_52 hp, pr_54 hp, pr_55 hp, pr_58 hp, pr_60 hp, pr_61 hp, pr_63 hp, pr_64 hp, pr_65 hp, pr_71 hp, pr_72 hp, pr_73 hp, pr_75 hp, pr_76 hp, pr_78 hp, pr_80 hp, pr_81 hp, pr_82 hp, pr_83 hp, pr_84 hp, k_256 hκ, n_257 hκ, n_258 hκ, n_259 hκ, n_260 hκ, n_261 hκ, n_262 hκ, n_263 hκ, n_264 hκ, n_265 hκ, n_266 hκ, n_267 hκ, n_268 hκ, n_269 hκ, n_270 hκ, n_271 hκ, n_272 hκ, n_273 hκ, n_274 hκ, n_275 hκ, n_276 hκ, n_277 hκ, n_278 hκ, n_279 hκ, n_280 hκ, n_281 hκ, n_282 hκ, n_283 hκ, n_284 hκ, n_285 hκ, n_286 hκ, n_287 hκ, n_288 hκ, n_289 hκ, n_290 hκ, n_291 hκ, n_292 hκ, n_293 hκ, n_294 hκ, n_295 hκ, n_296 hκ, n_297 hκ, n_298 hκ, n_299 hκ, n_300 hκ, n_301 hκ, n_302 hκ, n_303 hκ, n_304 hκ, n_305 hκ, n_306 hκ, n_307 hκ, n_308 hκ, n_309 hκ, n_310 hκ, n_311 hκ, n_312 hκ, n_313 hκ, n_314 hκ, hv, hT.1.1.1, h52, esh, ebt, hb1, eo, h74, ec, hE]
    · have hb0 : on / 2 ^ s % 2 = 0 := by
        have hbf : on.testBit s = false := by simpa using hb
        rw [bitT, hbf]; rfl
      generalize hG : aup D 308 (ord s) (s : Int) = G
      have rG : RSame D G := by rw [← hG]; exact RSame.upc h0 (by decide) (by decide) _ _
      have Gq : ∀ q, q ≠ 308 → G q = D q := fun q hq => by rw [← hG, aupN hq]
      have hs1 : fsF on (s + 1) = fsF on s := by rw [fsF_s, if_neg hb, List.append_nil]
      obtain ⟨D', q1, q2, q3, q4, q5⟩ := ih (s + 1) G (by omega) (hR.same rG) (by rw [Gq 302 (by decide)]; exact h52) (fun k hk => by rw [Gq 301 (by decide)]; exact hor k hk) (by rw [Gq 256 (by decide), hs1]; exact h74) (by rw [Gq 307 (by decide), hs1]; exact hpm) (fun k hk => by
        rw [← hG, aup_r]
        by_cases h : k = s
        · rw [h, if_pos rfl]
        · rw [if_neg (fun q => h (hinj k s (by omega) (by omega) q))]
          exact h308 k (by omega))
      refine ⟨D', rG.trans q1, q2, q3, q4, ?_⟩
      rw [← q5, ← hG, ← e56 D hR.1 rfl, q_282_7]
      have eo : ¬ olcmp ((0 : Nat) : Int) 1 = 0 := fun q => absurd (olcmp_eq.mp q) (by decide)
      simp (disch := omega) only [cond_true, cond_false, Bool.and_true, Bool.true_and, Bool.and_false, Bool.false_and, Int.toNat_natCast, Int.reduceToNat, bI_s, bJ_s, bV_s, bR_s, decide_true, decide_false, not_true_eq_false, not_false_eq_true, dT, dF, w_al, w_la, w_ab, w_sl, w_sb, w_dec, w_ml, w_lm, ol2i_n, aup_ne, aupE, aupJ, setc_self, setc_ne, pr_1 hp, pr_3 hp, pr_5 hp, pr_6 hp, pr_7 hp, pr_8 hp, pr_9 hp, pr_20 hp, pr_21 hp, pr_22 hp, pr_23 hp, pr_24 hp, pr_25 hp, pr_26 hp, pr_27 hp, pr_28 hp, pr_29 hp, pr_30 hp, pr_31 hp, pr_32 hp, pr_33 hp, pr_34 hp, pr_35 hp, pr_36 hp, pr_37 hp, pr_38 hp, pr_39 hp, pr_40 hp, pr_41 hp, pr_42 hp, pr_43 hp, pr_44 hp, pr_45 hp, pr_46 hp, pr_48 hp, pr_49 hp, pr_50 hp, pr_51 hp, pr_52 hp, pr_54 hp, pr_55 hp, pr_58 hp, pr_60 hp, pr_61 hp, pr_63 hp, pr_64 hp, pr_65 hp, pr_71 hp, pr_72 hp, pr_73 hp, pr_75 hp, pr_76 hp, pr_78 hp, pr_80 hp, pr_81 hp, pr_82 hp, pr_83 hp, pr_84 hp, k_256 hκ, n_257 hκ, n_258 hκ, n_259 hκ, n_260 hκ, n_261 hκ, n_262 hκ, n_263 hκ, n_264 hκ, n_265 hκ, n_266 hκ, n_267 hκ, n_268 hκ, n_269 hκ, n_270 hκ, n_271 hκ, n_272 hκ, n_273 hκ, n_274 hκ, n_275 hκ, n_276 hκ, n_277 hκ, n_278 hκ, n_279 hκ, n_280 hκ, n_281 hκ, n_282 hκ, n_283 hκ, n_284 hκ, n_285 hκ, n_286 hκ, n_287 hκ, n_288 hκ, n_289 hκ, n_290 hκ, n_291 hκ, n_292 hκ, n_293 hκ, n_294 hκ, n_295 hκ, n_296 hκ, n_297 hκ, n_298 hκ, n_299 hκ, n_300 hκ, n_301 hκ, n_302 hκ, n_303 hκ, n_304 hκ, n_305 hκ, n_306 hκ, n_307 hκ, n_308 hκ, n_309 hκ, n_310 hκ, n_311 hκ, n_312 hκ, n_313 hκ, n_314 hκ, hv, hT.1.1.1, h52, esh, ebt, hb0, eo]
theorem fo_eq (xs : List Int) (d : Nat) {κ : aK} {D : Nat → Nat → Int} (hκ : Shp κ) {v : Nat} {X : TX} (hX : TXok X) (hR : RI D v X) {on : Nat} (hon : on < 2 ^ xns X) {ord : Nat → Nat} (ho : ∀ k, k < xns X → ord k < xns X) (hinj : ∀ j k, j < xns X → k < xns X → ord j = ord k → j = k) (h52 : D 302 52 = (on : Int)) (hor : ∀ k, k < xns X → D 301 (45 + k) = (ord k : Int)) : ∃ D', RSame D D' ∧ D' 256 74 = ((els on).length : Int) ∧ PmA (D' 307) 0 (els on) ∧ (∀ st, st < xns X → D' 308 st = (psO ord (xns X) st : Int)) ∧ cl xs (d + 1) 282 [.inr (.inr 256)] (κ, D) = some (none, (κ, D')) := by
  have x7 := hX.1.1
  have hall7 : on < 128 := Nat.lt_of_lt_of_le hon (Nat.pow_le_pow_right (n := 2) (j := 7) (by decide) x7)
  have h0 := hR.2.2.2.1
  have r1 := RSame.upf h0 (j := 74) (by decide) 0
  obtain ⟨D', q1, q2, q3, q4, q5⟩ := fo_loop xs d hκ hX hall7 ho hinj (xns X) 0 (aup D 256 74 0) (by omega) (hR.same r1) (by rw [aupN (by decide)]; exact h52) (fun k hk => by rw [aupN (by decide)]; exact hor k hk) (by rw [aupE]; rfl) True.intro (fun k hk => absurd hk (by omega))
  rw [fsF_els x7 hon] at q2 q3
  refine ⟨D', r1.trans q1, q2, q3, fun st hst => ?_, ?_⟩
  · obtain ⟨p, hp, rfl⟩ := ord_onto ho hinj st hst
    rw [q4 p hp, psO_eq hp hinj]
  · have k256 := k_256 hκ
    rw [c_282, ← q5]
    simp (disch := omega) only [cond_true, cond_false, Bool.and_true, Bool.true_and, Bool.and_false, Bool.false_and, Int.toNat_natCast, Int.reduceToNat, bI_s, bJ_s, bV_s, bR_s, decide_true, decide_false, not_true_eq_false, not_false_eq_true, dT, dF, w_al, w_la, w_ab, w_sl, w_sb, w_dec, w_ml, w_lm, ol2i_n, aup_ne, aupE, aupJ, setc_self, setc_ne, k256]
    rfl
theorem of_in (xs : List Int) (d : Nat) {κ : aK} {D : Nat → Nat → Int} (hκ : Shp κ) {v : Nat} {X : TX} (hX : TXok X) (hR : RI D v X) {n k p : Nat} (hn : n ≤ 7) (h74 : D 256 74 = (n : Int)) : ∀ (r : List Nat) (i : Nat) (w : List Nat) (g : Nat → Int) (u4 : Option aV), i + r.length = n → PmA (D 307) i r → (∀ x ∈ r, x < xns X) → wok w → g 0 = 0 → ∃ (g' : Nat → Int) (u4' : Option aV), g' 0 = 0 ∧ ev xs (d + 2) mm_284 25 [some (.inr (.inr 256)), some (.inl (k : Int)), some (.inl (p : Int)), some (.inr (.inl (p27 w : Int))), u4, some (.inl (i : Int))] [] (κ, setc D 303 g) = ev xs (d + 2) mm_284 25 [some (.inr (.inr 256)), some (.inl (k : Int)), some (.inl (p : Int)), some (.inr (.inl (p27 (oP (tkX X) r w) : Int))), u4', some (.inl (n : Int))] [] (κ, setc D 303 g') := by
  have hp := hR.1; have hv := hR.2.1; have hv2 := hR.2.2.1; have hT := hR.2.2.2.2; have x1 := hX.1.1; have x2 := hX.2.1.1; have hk := k_256 hκ
  intro r
  induction r with
  | nil =>
    intro i w g u4 hi _ _ _ hg
    exact ⟨g, u4, hg, by rw [show i = n from hi]; rfl⟩
  | cons x r ih =>
    intro i w g u4 hi hpm hx hw hg
    rw [List.length_cons] at hi
    have hx0 := hx x List.mem_cons_self
    obtain ⟨g1, hg1, e1⟩ := takenX xs d hκ hX hR hg hx0 hw
    obtain ⟨g', u4', hg', e2⟩ := ih (i + 1) (tkX X x w) g1 none (by omega) hpm.2 (fun y hy => hx y (List.mem_cons_of_mem _ hy)) (tkX_wok hX hx0 hw) hg1
    refine ⟨g', u4', hg', ?_⟩
    have ep := hpm.1
    rw [show oP (tkX X) (x :: r) w = oP (tkX X) r (tkX X x w) from rfl, ← e2, q_284_25]
    simp (disch := omega) only [cond_true, cond_false, Bool.and_true, Bool.true_and, Bool.and_false, Bool.false_and, Int.toNat_natCast, Int.reduceToNat, bI_s, bJ_s, bV_s, bR_s, decide_true, decide_false, not_true_eq_false, not_false_eq_true, dT, dF, w_al, w_la, w_ab, w_sl, w_sb, w_dec, w_ml, w_lm, ol2i_n, aup_ne, aupE, aupJ, setc_self, setc_ne, pr_1 hp, pr_3 hp, pr_5 hp, pr_6 hp, pr_7 hp, pr_8 hp, pr_9 hp, pr_20 hp, pr_21 hp, pr_22 hp, pr_23 hp, pr_24 hp, pr_25 hp, pr_26 hp, pr_27 hp, pr_28 hp, pr_29 hp, pr_30 hp, pr_31 hp, pr_32 hp, pr_33 hp, pr_34 hp, pr_35 hp, pr_36 hp, pr_37 hp, pr_38 hp, pr_39 hp, pr_40 hp, pr_41 hp, pr_42 hp, pr_43 hp, pr_44 hp, pr_45 hp, pr_46 hp, pr_48 hp, pr_49 hp, pr_50 hp, pr_51 hp, pr_52 hp, pr_54 hp, pr_55 hp, pr_58 hp, pr_60 hp, pr_61 hp, pr_63 hp, pr_64 hp, pr_65 hp, pr_71 hp, pr_72 hp, pr_73 hp, pr_75 hp, pr_76 hp, pr_78 hp, pr_80 hp, pr_81 hp, pr_82 hp, pr_83 hp, pr_84 hp, k_256 hκ, n_257 hκ, n_258 hκ, n_259 hκ, n_260 hκ, n_261 hκ, n_262 hκ, n_263 hκ, n_264 hκ, n_265 hκ, n_266 hκ, n_267 hκ, n_268 hκ, n_269 hκ, n_270 hκ, n_271 hκ, n_272 hκ, n_273 hκ, n_274 hκ, n_275 hκ, n_276 hκ, n_277 hκ, n_278 hκ, n_279 hκ, n_280 hκ, n_281 hκ, n_282 hκ, n_283 hκ, n_284 hκ, n_285 hκ, n_286 hκ, n_287 hκ, n_288 hκ, n_289 hκ, n_290 hκ, n_291 hκ, n_292 hκ, n_293 hκ, n_294 hκ, n_295 hκ, n_296 hκ, n_297 hκ, n_298 hκ, n_299 hκ, n_300 hκ, n_301 hκ, n_302 hκ, n_303 hκ, n_304 hκ, n_305 hκ, n_306 hκ, n_307 hκ, n_308 hκ, n_309 hκ, n_310 hκ, n_311 hκ, n_312 hκ, n_313 hκ, n_314 hκ, hv, h74, ep, e1]
theorem of_loop2 (xs : List Int) (d : Nat) {κ : aK} {D : Nat → Nat → Int} (hκ : Shp κ) {v : Nat} {X : TX} (hX : TXok X) (hR : RI D v X) {l : List Nat} (hn : l.length ≤ 7) (h74 : D 256 74 = (l.length : Int)) (hpm : PmA (D 307) 0 l) (hl : ∀ x ∈ l, x < xns X) {k : Nat} (hk' : k ≤ xpr X) : ∀ (m p : Nat) (g : Nat → Int) (u3 u4 u5 : Option aV), p + m = k → g 0 = 0 → ∃ g' : Nat → Int, g' 0 = 0 ∧ ev xs (d + 2) mm_284 2 [some (.inr (.inr 256)), some (.inl (k : Int)), some (.inl (p : Int)), u3, u4, u5] [] (κ, setc D 303 g) = some (some (.inl (if (List.range' p m).all (fun p => decide (oP (tkX X) l (xPI X p) = xPO X p)) = true then 1 else 0)), (κ, setc D 303 g')) := by
  have hp := hR.1; have hv := hR.2.1; have hv2 := hR.2.2.1; have hT := hR.2.2.2.2; have x1 := hX.1.1; have x2 := hX.2.1.1; have hk := k_256 hκ
  have x8 := hX.2.2.2.1.1
  intro m
  induction m with
  | zero =>
    intro p g u3 u4 u5 hp' hg
    refine ⟨g, hg, ?_⟩
    rw [q_284_2]
    simp (disch := omega) only [cond_true, cond_false, Bool.and_true, Bool.true_and, Bool.and_false, Bool.false_and, Int.toNat_natCast, Int.reduceToNat, bI_s, bJ_s, bV_s, bR_s, decide_true, decide_false, not_true_eq_false, not_false_eq_true, dT, dF, w_al, w_la, w_ab, w_sl, w_sb, w_dec, w_ml, w_lm, ol2i_n, aup_ne, aupE, aupJ, setc_self, setc_ne]
    rfl
  | succ m ih =>
    intro p g u3 u4 u5 hp' hg
    have hpi := hT.2.2.2.1.2 p (by omega)
    have hok := hX.2.2.2.1.2 p (by omega)
    have ew : w32 (w32 (8 * (v : Int)) + (p : Int)) = ((8 * v + p : Nat) : Int) := by rw [w32_id (x := 8 * (v : Int)) (by omega) (by omega), w32_id (by omega) (by omega)]; omega
    obtain ⟨g1, u4', hg1, e1⟩ := of_in xs d hκ hX hR (k := k) (p := p) hn h74 l 0 (xPI X p) g none (by omega) hpm hl hok.1 hg
    have hwo : wv (oP (tkX X) l (xPI X p)) := by
      have key : ∀ (r : List Nat) (w : List Nat), (∀ x ∈ r, x < xns X) → wok w → wok (oP (tkX X) r w) := by
        intro r
        induction r with
        | nil => intro w _ h; exact h
        | cons x r ihr => intro w hx hw; exact ihr _ (fun y hy => hx y (List.mem_cons_of_mem _ hy)) (tkX_wok hX (hx x List.mem_cons_self) hw)
      exact (key l _ hl hok.1).1
    have s1 : ev xs (d + 2) mm_284 2 [some (.inr (.inr 256)), some (.inl (k : Int)), some (.inl (p : Int)), u3, u4, u5] [] (κ, setc D 303 g) = ev xs (d + 2) mm_284 25 [some (.inr (.inr 256)), some (.inl (k : Int)), some (.inl (p : Int)), some (.inr (.inl (p27 (oP (tkX X) l (xPI X p)) : Int))), u4', some (.inl (l.length : Int))] [] (κ, setc D 303 g1) := by
      rw [← e1, q_284_2]
      simp (disch := omega) only [cond_true, cond_false, Bool.and_true, Bool.true_and, Bool.and_false, Bool.false_and, Int.toNat_natCast, Int.reduceToNat, bI_s, bJ_s, bV_s, bR_s, decide_true, decide_false, not_true_eq_false, not_false_eq_true, dT, dF, w_al, w_la, w_ab, w_sl, w_sb, w_dec, w_ml, w_lm, ol2i_n, aup_ne, aupE, aupJ, setc_self, setc_ne, pr_1 hp, pr_3 hp, pr_5 hp, pr_6 hp, pr_7 hp, pr_8 hp, pr_9 hp, pr_20 hp, pr_21 hp, pr_22 hp, pr_23 hp, pr_24 hp, pr_25 hp, pr_26 hp, pr_27 hp, pr_28 hp, pr_29 hp, pr_30 hp, pr_31 hp, pr_32 hp, pr_33 hp, pr_34 hp, pr_35 hp, pr_36 hp, pr_37 hp, pr_38 hp, pr_39 hp, pr_40 hp, pr_41 hp, pr_42 hp, pr_43 hp, pr_44 hp, pr_45 hp, pr_46 hp, pr_48 hp, pr_49 hp, pr_50 hp, pr_51 hp, pr_52 hp, pr_54 hp, pr_55 hp, pr_58 hp, pr_60 hp, pr_61 hp, pr_63 hp, pr_64 hp, pr_65 hp, pr_71 hp, pr_72 hp, pr_73 hp, pr_75 hp, pr_76 hp, pr_78 hp, pr_80 hp, pr_81 hp, pr_82 hp, pr_83 hp, pr_84 hp, k_256 hκ, n_257 hκ, n_258 hκ, n_259 hκ, n_260 hκ, n_261 hκ, n_262 hκ, n_263 hκ, n_264 hκ, n_265 hκ, n_266 hκ, n_267 hκ, n_268 hκ, n_269 hκ, n_270 hκ, n_271 hκ, n_272 hκ, n_273 hκ, n_274 hκ, n_275 hκ, n_276 hκ, n_277 hκ, n_278 hκ, n_279 hκ, n_280 hκ, n_281 hκ, n_282 hκ, n_283 hκ, n_284 hκ, n_285 hκ, n_286 hκ, n_287 hκ, n_288 hκ, n_289 hκ, n_290 hκ, n_291 hκ, n_292 hκ, n_293 hκ, n_294 hκ, n_295 hκ, n_296 hκ, n_297 hκ, n_298 hκ, n_299 hκ, n_300 hκ, n_301 hκ, n_302 hκ, n_303 hκ, n_304 hκ, n_305 hκ, n_306 hκ, n_307 hκ, n_308 hκ, n_309 hκ, n_310 hκ, n_311 hκ, n_312 hκ, n_313 hκ, n_314 hκ, hv, ew, hpi.1]
      rfl
    rw [s1, List.range'_succ, List.all_cons]
    by_cases hq : oP (tkX X) l (xPI X p) = xPO X p
    · obtain ⟨g', hg', e2⟩ := ih (p + 1) g1 (some (.inr (.inl (p27 (xPO X p) : Int)))) u4' (some (.inl (l.length : Int))) (by omega) hg1
      refine ⟨g', hg', ?_⟩
      rw [decide_eq_true hq, Bool.true_and, ← e2, hq, q_284_25]
      have eo : olcmp (p27 (xPO X p) : Int) (p27 (xPO X p) : Int) = 0 := olcmp_eq.mpr rfl
      simp (disch := omega) only [cond_true, cond_false, Bool.and_true, Bool.true_and, Bool.and_false, Bool.false_and, Int.toNat_natCast, Int.reduceToNat, bI_s, bJ_s, bV_s, bR_s, decide_true, decide_false, not_true_eq_false, not_false_eq_true, dT, dF, w_al, w_la, w_ab, w_sl, w_sb, w_dec, w_ml, w_lm, ol2i_n, aup_ne, aupE, aupJ, setc_self, setc_ne, pr_1 hp, pr_3 hp, pr_5 hp, pr_6 hp, pr_7 hp, pr_8 hp, pr_9 hp, pr_20 hp, pr_21 hp, pr_22 hp, pr_23 hp, pr_24 hp, pr_25 hp, pr_26 hp, pr_27 hp, pr_28 hp, pr_29 hp, pr_30 hp, pr_31 hp, pr_32 hp, pr_33 hp, pr_34 hp, pr_35 hp, pr_36 hp, pr_37 hp, pr_38 hp, pr_39 hp, pr_40 hp, pr_41 hp, pr_42 hp, pr_43 hp, pr_44 hp, pr_45 hp, pr_46 hp, pr_48 hp, pr_49 hp, pr_50 hp, pr_51 hp, pr_52 hp, pr_54 hp, pr_55 hp, pr_58 hp, pr_60 hp, pr_61 hp, pr_63 hp, pr_64 hp, pr_65 hp, pr_71 hp, pr_72 hp, pr_73 hp, pr_75 hp, pr_76 hp, pr_78 hp, pr_80 hp, pr_81 hp, pr_82 hp, pr_83 hp, pr_84 hp, k_256 hκ, n_257 hκ, n_258 hκ, n_259 hκ, n_260 hκ, n_261 hκ, n_262 hκ, n_263 hκ, n_264 hκ, n_265 hκ, n_266 hκ, n_267 hκ, n_268 hκ, n_269 hκ, n_270 hκ, n_271 hκ, n_272 hκ, n_273 hκ, n_274 hκ, n_275 hκ, n_276 hκ, n_277 hκ, n_278 hκ, n_279 hκ, n_280 hκ, n_281 hκ, n_282 hκ, n_283 hκ, n_284 hκ, n_285 hκ, n_286 hκ, n_287 hκ, n_288 hκ, n_289 hκ, n_290 hκ, n_291 hκ, n_292 hκ, n_293 hκ, n_294 hκ, n_295 hκ, n_296 hκ, n_297 hκ, n_298 hκ, n_299 hκ, n_300 hκ, n_301 hκ, n_302 hκ, n_303 hκ, n_304 hκ, n_305 hκ, n_306 hκ, n_307 hκ, n_308 hκ, n_309 hκ, n_310 hκ, n_311 hκ, n_312 hκ, n_313 hκ, n_314 hκ, hv, h74, ew, hpi.2.1, eo]
    · refine ⟨g1, hg1, ?_⟩
      rw [decide_eq_false hq, Bool.false_and, q_284_25]
      have eo : ¬ olcmp (p27 (oP (tkX X) l (xPI X p)) : Int) (p27 (xPO X p) : Int) = 0 := fun q => hq (p27_inj hwo hok.2.1.1 (by have := olcmp_eq.mp q; omega))
      simp (disch := omega) only [cond_true, cond_false, Bool.and_true, Bool.true_and, Bool.and_false, Bool.false_and, Int.toNat_natCast, Int.reduceToNat, bI_s, bJ_s, bV_s, bR_s, decide_true, decide_false, not_true_eq_false, not_false_eq_true, dT, dF, w_al, w_la, w_ab, w_sl, w_sb, w_dec, w_ml, w_lm, ol2i_n, aup_ne, aupE, aupJ, setc_self, setc_ne, pr_1 hp, pr_3 hp, pr_5 hp, pr_6 hp, pr_7 hp, pr_8 hp, pr_9 hp, pr_20 hp, pr_21 hp, pr_22 hp, pr_23 hp, pr_24 hp, pr_25 hp, pr_26 hp, pr_27 hp, pr_28 hp, pr_29 hp, pr_30 hp, pr_31 hp, pr_32 hp, pr_33 hp, pr_34 hp, pr_35 hp, pr_36 hp, pr_37 hp, pr_38 hp, pr_39 hp, pr_40 hp, pr_41 hp, pr_42 hp, pr_43 hp, pr_44 hp, pr_45 hp, pr_46 hp, pr_48 hp, pr_49 hp, pr_50 hp, pr_51 hp, pr_52 hp, pr_54 hp, pr_55 hp, pr_58 hp, pr_60 hp, pr_61 hp, pr_63 hp, pr_64 hp, pr_65 hp, pr_71 hp, pr_72 hp, pr_73 hp, pr_75 hp, pr_76 hp, pr_78 hp, pr_80 hp, pr_81 hp, pr_82 hp, pr_83 hp, pr_84 hp, k_256 hκ, n_257 hκ, n_258 hκ, n_259 hκ, n_260 hκ, n_261 hκ, n_262 hκ, n_263 hκ, n_264 hκ, n_265 hκ, n_266 hκ, n_267 hκ, n_268 hκ, n_269 hκ, n_270 hκ, n_271 hκ, n_272 hκ, n_273 hκ, n_274 hκ, n_275 hκ, n_276 hκ, n_277 hκ, n_278 hκ, n_279 hκ, n_280 hκ, n_281 hκ, n_282 hκ, n_283 hκ, n_284 hκ, n_285 hκ, n_286 hκ, n_287 hκ, n_288 hκ, n_289 hκ, n_290 hκ, n_291 hκ, n_292 hκ, n_293 hκ, n_294 hκ, n_295 hκ, n_296 hκ, n_297 hκ, n_298 hκ, n_299 hκ, n_300 hκ, n_301 hκ, n_302 hκ, n_303 hκ, n_304 hκ, n_305 hκ, n_306 hκ, n_307 hκ, n_308 hκ, n_309 hκ, n_310 hκ, n_311 hκ, n_312 hκ, n_313 hκ, n_314 hκ, hv, h74, ew, hpi.2.1, eo]
      rfl
theorem of_eq (xs : List Int) (d : Nat) {κ : aK} {D : Nat → Nat → Int} (hκ : Shp κ) {v : Nat} {X : TX} (hX : TXok X) (hR : RI D v X) {l : List Nat} (hn : l.length ≤ 7) (h74 : D 256 74 = (l.length : Int)) (hpm : PmA (D 307) 0 l) (hl : ∀ x ∈ l, x < xns X) {k : Nat} (hk' : k ≤ xpr X) : ∃ g' : Nat → Int, g' 0 = 0 ∧ cl xs (d + 3) 284 [.inr (.inr 256), .inl (k : Int)] (κ, D) = some (some (.inl (if fitL (tkX X) (xPI X) (xPO X) k l = true then 1 else 0)), (κ, setc D 303 g')) := by
  obtain ⟨g', hg', e⟩ := of_loop2 xs d hκ hX hR hn h74 hpm hl hk' k 0 (D 303) none none none (by omega) hR.2.2.2.1
  refine ⟨g', hg', ?_⟩
  rw [setc_id, ← List.range_eq_range'] at e
  rw [c_284]
  exact e
