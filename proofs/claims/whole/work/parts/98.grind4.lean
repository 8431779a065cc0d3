/-! grind by the reference: the end. -/
theorem fst_head (X : TX) (w : List Nat) : ∀ L : List WY, fstW X w L = (L.filter (fun y => decide (nmW X y = w))).head?
  | [] => rfl
  | y :: L => by
    unfold fstW
    by_cases h : nmW X y = w
    · rw [if_pos h, List.filter_cons_of_pos (by simpa using h)]; rfl
    · rw [if_neg h, List.filter_cons_of_neg (by simpa using h)]; exact fst_head X w L
theorem RCore.keepE (xs : List Int) (d : Nat) {κ : aK} {D : Nat → Nat → Int} {E : Nat → Nat → Int} {v : Nat} {X : TX} {S S' : ST} {n : Nat} {H : Nat → ST} {Hd : Nat → Option ST} (hκ : Shp κ) (hX : TXok X) (h : RCore D v X S n H Hd) (hs : RSame D E) (hr : RowR (E 302) X S') : ∃ D', cl xs (d + 2) 258 [.inr (.inr 256)] (κ, E) = some (none, (κ, D')) ∧ RCore D' v X S' (phN n) (phH n H S) Hd ∧ RFr D D' := by
  obtain ⟨hR, hn, hh, hl⟩ := h
  have hR2 := hR.same hs
  obtain ⟨D', e, h', r', f1, f2⟩ := keeps_eq xs d hκ hX hR2.1 (S := S) (S' := S') (by rw [hs.1 301 (by decide) (by decide)]; exact hn) hr (hh.congr (hs.2.1 70 (by decide)) (hs.1 304 (by decide) (by decide)))
  have hf : RFr E D' := by
    refine ⟨fun q h1 h2 h3 => f1 q h1 (fun e => h3 (by rw [e]; decide)) (fun e => h3 (by rw [e]; decide)), fun j _ h2 => f2 j h2, ?_⟩
    rw [f1 303 (by decide) (by decide) (by decide)]
    exact hs.2.2
  refine ⟨D', e, ⟨hR2.fr hf, r', h', hl.congr ?_ ?_⟩, hs.fr.trans hf⟩
  · rw [f1 313 (by decide) (by decide) (by decide)]; exact hs.1 313 (by decide) (by decide)
  · rw [f1 314 (by decide) (by decide) (by decide)]; exact hs.1 314 (by decide) (by decide)
theorem rg_end (xs : List Int) (d : Nat) {κ : aK} {D : Nat → Nat → Int} {v : Nat} {X : TX} {S : ST} {n : Nat} {H : Nat → ST} {Hd : Nat → Option ST} (hκ : Shp κ) (hX : TXok X) (hS : STok X S) (h : RCore D v X S n H Hd) (hL : LawR κ D v X) {w : Nat} (hw : w < xnw X) (h0 : sFt S w = 0) {r0 r g q : Nat → Int} (hg : g 0 = 0) (hr0 : RowR r0 X S) (hr : RWi r0 (fun j => if j = 55 then r0 55 else r j) (gStk X S w)) (h55 : w32 (r 55) = w32 (sDust S + (gDust X S w : Int))) {a b c e : Nat} (la : a ≤ 100) (lb : b ≤ 100) (lc : c ≤ 100) (le : e ≤ 100) (hq : q 0 = (a : Int) ∧ q 1 = (b : Int) ∧ q 2 = (c : Int) ∧ q 3 = (e : Int)) (hV : gVar X S w = vV X S a b c e) (wa wb wc wd : Int) (v2 v4 v5 : Int) (u3 : Option aV) : ∃ D', ev xs (d + 40) mm_264 279 [some (.inr (.inr 256)), some (.inl (w : Int)), some (.inr (.inl v2)), u3, some (.inl v4), some (.inl v5)] [] (κ, gH D r g q wa wb wc wd) = some (some (.inl (gCoin X S w)), (κ, D')) ∧ RCore D' v X (grS X S w) (phN n) (phH n H S) Hd ∧ RFr D D' := by
  have hR := h.1
  have hp := hR.1; have hv := hR.2.1; have hv2 := hR.2.2.1; have hT := hR.2.2.2.2; have x1 := hX.1.1; have x2 := hX.2.1.1; have hk := k_256 hκ
  have hrj : ∀ j, j < 20 ∨ 44 ≤ j → j ≠ 55 → r j = r0 j := fun j h1 h2 => by
    have this : (if j = 55 then r0 55 else r j) = r0 j := hr.2 j h1
    rw [if_neg h2] at this
    exact this
  have hcn := cntF_le (sFt S) 1 (xnw X)
  have hcn0 := cntF_le (sFt S) 0 (xnw X)
  obtain ⟨a1, a2, a3, a4, a5, a6, a7, a8, a9, a10⟩ := hr0
  have r56 : r 56 = (cntF (sFt S) 1 (xnw X) : Int) := (hrj 56 (by omega) (by omega)).trans a10
  have hs4 : RSame D (gH D r g (fun j => if j = 4 then (cntF (sFt S) 1 (xnw X) : Int) else q j) wa wb wc wd) := gH_same hg wa wb wc wd
  have hs5 : RSame D (gH D r g (fun j => if j = 5 then (cntF (sFt S) 0 (xnw X) : Int) else if j = 4 then (cntF (sFt S) 1 (xnw X) : Int) else q j) wa wb wc wd) := gH_same hg wa wb wc wd
  have aw := allWhole_eq xs (d + 38) hκ hX (hR.same hs4) (F := sFt S) (r := gH D r g (fun j => if j = 4 then (cntF (sFt S) 1 (xnw X) : Int) else q j) wa wb wc wd 302) (g := gH D r g (fun j => if j = 4 then (cntF (sFt S) 1 (xnw X) : Int) else q j) wa wb wc wd 303) (fun i hi => by
    rw [gH_302, hrj (10 + i) (by omega) (by omega)]
    exact a2 i hi)
  rw [setc_id, setc_id] at aw
  have wl := wbits_lt (sFt S) (xnw X)
  have wp := pow7 (s := xnw X) (by omega)
  have hR5 := hR.same hs5
  obtain ⟨D2, e2, f1, f2⟩ := hL xs d _ (vV X S a b c e) hR5.1 hR5.2.1 (fun p h1 h2 => hs5.1 p (by omega) (by
    intro hm
    unfold scr at hm
    simp only [List.mem_cons, List.not_mem_nil, or_false] at hm
    omega)) (fun i hi => by
    rw [gH_299]
    refine ⟨?_, vV_rng hX la lb lc le⟩
    have hi6 : i = 0 ∨ i = 1 ∨ i = 2 ∨ i = 3 ∨ i = 4 ∨ i = 5 := by omega
    rcases hi6 with rfl | rfl | rfl | rfl | rfl | rfl
    · exact hq.1
    · exact hq.2.1
    · exact hq.2.2.1
    · exact hq.2.2.2
    · rfl
    · rfl)
  have hgc : gCoin X S w = clp (xlaw X (vV X S a b c e)) := by unfold gCoin; rw [hV]
  have hcr := clp_rng (xlaw X (vV X S a b c e))
  have hs2 : RSame D D2 := by
    refine hs5.trans ⟨fun p h1 h2 => f1 p h1 (fun e => h2 (by rw [e]; decide)), fun j hj => f2 j (fun e => hj (by rw [e]; decide)), ?_⟩
    rw [f1 303 (by decide) (by decide), gH_303]
    exact hg
  have r302 : D2 302 = r := by rw [f1 302 (by decide) (by decide), gH_302]
  have p64 : D2 256 64 = 302 := by rw [hs2.2.1 64 (by decide)]; exact pr_64 hp
  -- the row at the end
  have hrow : RowR (fun j => if j = 10 + w then 1 else if j = 56 then ((cntF (sFt S) 1 (xnw X) + 1 : Nat) : Int) else if j = 54 then w64 (r 54 + gCoin X S w) else r j) X (grS X S w) := by
    refine ⟨fun i hi => ?_, fun i hi => ?_, fun i hi => ?_, ?_, fun k hk => ?_, ?_, ?_, ?_, ?_, ?_⟩
    · show (if i = 10 + w then (1 : Int) else if i = 56 then _ else if i = 54 then _ else r i) = _
      rw [if_neg (by omega), if_neg (by omega), if_neg (by omega), hrj i (by omega) (by omega)]; exact a1 i hi
    · show (if 10 + i = 10 + w then (1 : Int) else if 10 + i = 56 then _ else if 10 + i = 54 then _ else r (10 + i)) = ((if i = w then 1 else sFt S i : Nat) : Int)
      by_cases hiw : i = w
      · rw [if_pos (by omega), if_pos hiw]; rfl
      · rw [if_neg (by omega), if_neg hiw, if_neg (by omega), if_neg (by omega), hrj _ (by omega) (by omega)]; exact a2 i hi
    · show (if 20 + i = 10 + w then (1 : Int) else if 20 + i = 56 then _ else if 20 + i = 54 then _ else r (20 + i)) = (gStk X S w i : Int)
      have this : (if 20 + i = 55 then r0 55 else r (20 + i)) = (gStk X S w i : Int) := hr.1 i hi
      rw [if_neg (by omega)] at this
      rw [if_neg (by omega), if_neg (by omega), if_neg (by omega)]; exact this
    · show (if 44 = 10 + w then (1 : Int) else if 44 = 56 then _ else if 44 = 54 then _ else r 44) = _
      rw [if_neg (by omega), if_neg (by omega), if_neg (by omega), hrj _ (by omega) (by omega)]; exact a4
    · show (if 45 + k = 10 + w then (1 : Int) else if 45 + k = 56 then _ else if 45 + k = 54 then _ else r (45 + k)) = _
      rw [if_neg (by omega), if_neg (by omega), if_neg (by omega), hrj _ (by omega) (by omega)]; exact a5 k hk
    · show (if 52 = 10 + w then (1 : Int) else if 52 = 56 then _ else if 52 = 54 then _ else r 52) = _
      rw [if_neg (by omega), if_neg (by omega), if_neg (by omega), hrj _ (by omega) (by omega)]; exact a6
    · show w32 (if 53 = 10 + w then (1 : Int) else if 53 = 56 then _ else if 53 = 54 then _ else r 53) = _
      rw [if_neg (by omega), if_neg (by omega), if_neg (by omega), hrj _ (by omega) (by omega)]; exact a7
    · show w32 (if 54 = 10 + w then (1 : Int) else if 54 = 56 then _ else if 54 = 54 then w64 (r 54 + gCoin X S w) else r 54) = _
      rw [if_neg (by omega), if_neg (by omega), if_pos rfl, w32_w64, hrj _ (by omega) (by omega), ← w32_add_l, a8]; rfl
    · show w32 (if 55 = 10 + w then (1 : Int) else if 55 = 56 then _ else if 55 = 54 then _ else r 55) = _
      rw [if_neg (by omega), if_neg (by omega), if_neg (by omega)]; exact h55
    · show (if 56 = 10 + w then (1 : Int) else if 56 = 56 then ((cntF (sFt S) 1 (xnw X) + 1 : Nat) : Int) else _) = ((cntF (fun i => if i = w then 1 else sFt S i) 1 (xnw X) : Nat) : Int)
      rw [if_neg (by omega), if_pos rfl, cntF_set h0, if_pos hw]
  obtain ⟨D', e3, c3, f3⟩ := h.keepE xs (d + 38) hκ hX (hs2.trans (RSame.cell hs2.2.2 (r := 302) (by decide) (by decide) (fun j => if j = 10 + w then 1 else if j = 56 then ((cntF (sFt S) 1 (xnw X) + 1 : Nat) : Int) else if j = 54 then w64 (r 54 + gCoin X S w) else r j))) (S' := grS X S w) (by rw [setc_self]; exact hrow)
  refine ⟨D', ?_, c3, f3⟩
  have tail : ∀ (v5' s0 : Int), s0 = gCoin X S w → ev xs (d + 40) mm_264 337 [some (.inr (.inr 256)), some (.inl (w : Int)), some (.inr (.inl v2)), u3, some (.inl v4), some (.inl v5')] [.inl s0] (κ, D2) = some (some (.inl (gCoin X S w)), (κ, D')) := by
    intro v5' s0 hs0
    subst hs0
    have e64 : w64 ((cntF (sFt S) 1 (xnw X) : Int) + 1) = ((cntF (sFt S) 1 (xnw X) + 1 : Nat) : Int) := w64_1 (by omega)
    rw [q_264_337]
    simp (disch := omega) only [cond_true, cond_false, Bool.and_true, Int.toNat_natCast, Int.reduceToNat, dT, dF, k_256 hκ, n_302 hκ, p64, aup_ne, aup_as, setc_setc, setc_self, setc_ne, r302, w_la, iF, r56, e64]
    rw [q_264_373]
    simp (disch := omega) only [cond_true, cond_false, Bool.and_true, Bool.true_and, Bool.and_false, Bool.false_and, Int.toNat_natCast, Int.reduceToNat, bI_s, bJ_s, bV_s, bR_s, decide_true, decide_false, not_true_eq_false, not_false_eq_true, dT, dF, w_al, w_la, w_ab, w_sl, w_sb, w_dec, w_ml, w_lm, ol2i_n, aup_ne, aupE, aupJ, setc_self, setc_ne, k_256 hκ, n_257 hκ, n_258 hκ, n_259 hκ, n_260 hκ, n_261 hκ, n_262 hκ, n_263 hκ, n_264 hκ, n_265 hκ, n_266 hκ, n_267 hκ, n_268 hκ, n_269 hκ, n_270 hκ, n_271 hκ, n_272 hκ, n_273 hκ, n_274 hκ, n_275 hκ, n_276 hκ, n_277 hκ, n_278 hκ, n_279 hκ, n_280 hκ, n_281 hκ, n_282 hκ, n_283 hκ, n_284 hκ, n_285 hκ, n_286 hκ, n_287 hκ, n_288 hκ, n_289 hκ, n_290 hκ, n_291 hκ, n_292 hκ, n_293 hκ, n_294 hκ, n_295 hκ, n_296 hκ, n_297 hκ, n_298 hκ, n_299 hκ, n_300 hκ, n_301 hκ, n_302 hκ, n_303 hκ, n_304 hκ, n_305 hκ, n_306 hκ, n_307 hκ, n_308 hκ, n_309 hκ, n_310 hκ, n_311 hκ, n_312 hκ, n_313 hκ, n_314 hκ, e3]
  rw [q_264_279]
  have p60 := pr_60 hp
  simp (disch := omega) only [cond_true, cond_false, Bool.and_true, Int.toNat_natCast, Int.reduceToNat, bI_s, dT, dF, k_256 hκ, n_299 hκ, n_302 hκ, gH_o, gH_302, p60, pr_64 hp, r56, ol2i_n, gH_u299, aw, bits_eq xs (d + 39) _ (n := wbits (sFt S) (xnw X)), bcn_wbits, Nat.min_eq_left, e2]
  rw [hgc] at tail
  rw [hgc]
  by_cases c1 : 0 ≤ xlaw X (vV X S a b c e)
  · by_cases c2 : xlaw X (vV X S a b c e) ≤ 999
    · simp (disch := omega) only [cond_true, cond_false, dT, dF]
      exact tail _ _ (by unfold clp; rw [if_neg (by omega), if_neg (by omega)])
    · simp (disch := omega) only [cond_true, cond_false, dT, dF]
      exact tail _ _ (by unfold clp; rw [if_neg (by omega), if_pos (by omega)])
  · simp (disch := omega) only [cond_true, cond_false, dT, dF]
    exact tail _ _ (by unfold clp; rw [if_pos (by omega)])
theorem rg_zero (xs : List Int) (d : Nat) {κ : aK} {D : Nat → Nat → Int} (hκ : Shp κ) (hp : PtrR D) {r g q0 : Nat → Int} (wa wb wc wd : Int) (v1 v2 v4 : Int) (u3 : Option aV) : ∀ (m k : Nat), k + m = 6 → ev xs d mm_264 46 [some (.inr (.inr 256)), some (.inl v1), some (.inr (.inl v2)), u3, some (.inl v4), some (.inl (k : Int))] [] (κ, gH D r g (cpn k (fun _ => 0) q0) wa wb wc wd) = ev xs d mm_264 46 [some (.inr (.inr 256)), some (.inl v1), some (.inr (.inl v2)), u3, some (.inl v4), some (.inl 6)] [] (κ, gH D r g (cpn 6 (fun _ => 0) q0) wa wb wc wd) := by
  have hk := k_256 hκ
  intro m
  induction m with
  | zero =>
    intro k h
    rw [show k = 6 by omega]
    rfl
  | succ m ih =>
    intro k h
    have e := cpn_step k (fun _ => (0 : Int)) q0
    rw [q_264_46]
    simp (disch := omega) only [cond_true, cond_false, Bool.and_true, Int.toNat_natCast, Int.reduceToNat, dT, dF, k_256 hκ, n_299 hκ, gH_o, pr_60 hp, gH_u299, w_al, e, ih (k + 1) (by omega)]
theorem gH_of (D : Nat → Nat → Int) (r g : Nat → Int) (a b c z : Int) : wyD (setc (setc D 302 r) 303 g) a b c z = gH D r g (D 299) a b c z := by
  unfold gH
  congr 1
  rw [show D 299 = setc (setc D 302 r) 303 g 299 from by rw [setc_ne (by decide), setc_ne (by decide)], setc_id]
theorem rgrind (xs : List Int) (d : Nat) {κ : aK} {D : Nat → Nat → Int} {v : Nat} {X : TX} {S : ST} {n : Nat} {H : Nat → ST} {Hd : Nat → Option ST} (hκ : Shp κ) (ha : AOk X S n H Hd) (h : RCore D v X S n H Hd) (hL : LawR κ D v X) {w : Nat} (hw : w < xnw X) (h0 : sFt S w = 0) : ∃ D', cl xs (d + 41) 264 [.inr (.inr 256), .inl (w : Int)] (κ, D) = some (some (.inl (gCoin X S w)), (κ, D')) ∧ RCore D' v X (grS X S w) (phN n) (phH n H S) Hd ∧ RFr D D' := by
  obtain ⟨hX, hS, _, _⟩ := ha
  have hR := h.1
  have hn := h.2.1
  have hp := hR.1; have hv := hR.2.1; have hv2 := hR.2.2.1; have hT := hR.2.2.2.2; have x1 := hX.1.1; have x2 := hX.2.1.1; have hk := k_256 hκ
  have iw := isWordX xs (d + 38) hκ hX hR (g := D 303) (w : Int)
  rw [setc_id] at iw
  have hrow := hn.cpn (g := D 302) hX
  have iwh := isWholeX xs (d + 39) hκ hR (r := cpn 60 (D 301) (D 302)) (g := D 303) (w := w) (by omega) (hrow.2.1 w hw)
  rw [if_pos h0] at iwh
  have hwk := (hS.2.2.2.1 w hw).1
  have hwr := rbX_wok hX hS.2.1 (son S) 7 hwk
  obtain ⟨g', hg', er⟩ := runOfX xs (d + 36) hκ hX (hR.s302 _) hS (D := cpD D) (cpD_row hX hn) hR.2.2.2.1 hwk
  have hsE : RSame D (setc (cpD D) 303 g') := RSame.q hg'
  obtain ⟨fs, fn⟩ := finds_eq xs (d + 35) hκ hX (hR.same hsE) hwr
  rw [fst_head] at fs fn
  have hgy : gY X S w = (mkL X (rbX X (sord S) (son S) 7 (sW S w))).head? := rfl
  have hgn : gN X S w = rbX X (sord S) (son S) 7 (sW S w) := rfl
  have pre : ∀ (x : Int) (E : Nat → Nat → Int), cl xs (d + 40) 263 [.inr (.inr 256), .inr (.inl (p27 (rbX X (sord S) (son S) 7 (sW S w)) : Int))] (κ, setc (cpD D) 303 g') = some (some (.inl x), (κ, E)) → cl xs (d + 41) 264 [.inr (.inr 256), .inl (w : Int)] (κ, D) = ev xs (d + 40) mm_264 46 [some (.inr (.inr 256)), some (.inl (w : Int)), some (.inr (.inl (p27 (rbX X (sord S) (son S) 7 (sW S w)) : Int))), none, some (.inl x), some (.inl 0)] [] (κ, E) := by
    intro x E he
    rw [c_264]
    simp (disch := omega) only [cond_true, cond_false, Bool.and_true, Bool.true_and, Bool.and_false, Bool.false_and, Int.toNat_natCast, Int.reduceToNat, bI_s, bJ_s, bV_s, bR_s, decide_true, decide_false, not_true_eq_false, not_false_eq_true, dT, dF, w_al, w_la, w_ab, w_sl, w_sb, w_dec, w_ml, w_lm, ol2i_n, aup_ne, aupE, aupJ, setc_self, setc_ne, pr_1 hp, pr_3 hp, pr_5 hp, pr_6 hp, pr_7 hp, pr_8 hp, pr_9 hp, pr_20 hp, pr_21 hp, pr_22 hp, pr_23 hp, pr_24 hp, pr_25 hp, pr_26 hp, pr_27 hp, pr_28 hp, pr_29 hp, pr_30 hp, pr_31 hp, pr_32 hp, pr_33 hp, pr_34 hp, pr_35 hp, pr_36 hp, pr_37 hp, pr_38 hp, pr_39 hp, pr_40 hp, pr_41 hp, pr_42 hp, pr_43 hp, pr_44 hp, pr_45 hp, pr_46 hp, pr_48 hp, pr_49 hp, pr_50 hp, pr_51 hp, pr_52 hp, pr_54 hp, pr_55 hp, pr_58 hp, pr_60 hp, pr_61 hp, pr_63 hp, pr_64 hp, pr_65 hp, pr_71 hp, pr_72 hp, pr_73 hp, pr_75 hp, pr_76 hp, pr_78 hp, pr_80 hp, pr_81 hp, pr_82 hp, pr_83 hp, pr_84 hp, k_256 hκ, n_257 hκ, n_258 hκ, n_259 hκ, n_260 hκ, n_261 hκ, n_262 hκ, n_263 hκ, n_264 hκ, n_265 hκ, n_266 hκ, n_267 hκ, n_268 hκ, n_269 hκ, n_270 hκ, n_271 hκ, n_272 hκ, n_273 hκ, n_274 hκ, n_275 hκ, n_276 hκ, n_277 hκ, n_278 hκ, n_279 hκ, n_280 hκ, n_281 hκ, n_282 hκ, n_283 hκ, n_284 hκ, n_285 hκ, n_286 hκ, n_287 hκ, n_288 hκ, n_289 hκ, n_290 hκ, n_291 hκ, n_292 hκ, n_293 hκ, n_294 hκ, n_295 hκ, n_296 hκ, n_297 hκ, n_298 hκ, n_299 hκ, n_300 hκ, n_301 hκ, n_302 hκ, n_303 hκ, n_304 hκ, n_305 hκ, n_306 hκ, n_307 hκ, n_308 hκ, n_309 hκ, n_310 hκ, n_311 hκ, n_312 hκ, n_313 hκ, n_314 hκ, hv, iw, copiesX xs (d + 39) hκ hR]
    rw [show cl xs (d + 40) 233 [.inr (.inr 256), .inl (w : Int)] (κ, setc (cpD D) 303 (D 303)) = _ from iwh]
    simp (disch := omega) only [cond_true, cond_false, Bool.and_true, Bool.true_and, Bool.and_false, Bool.false_and, Int.toNat_natCast, Int.reduceToNat, bI_s, bJ_s, bV_s, bR_s, decide_true, decide_false, not_true_eq_false, not_false_eq_true, dT, dF, w_al, w_la, w_ab, w_sl, w_sb, w_dec, w_ml, w_lm, ol2i_n, aup_ne, aupE, aupJ, setc_self, setc_ne, pr_1 hp, pr_3 hp, pr_5 hp, pr_6 hp, pr_7 hp, pr_8 hp, pr_9 hp, pr_20 hp, pr_21 hp, pr_22 hp, pr_23 hp, pr_24 hp, pr_25 hp, pr_26 hp, pr_27 hp, pr_28 hp, pr_29 hp, pr_30 hp, pr_31 hp, pr_32 hp, pr_33 hp, pr_34 hp, pr_35 hp, pr_36 hp, pr_37 hp, pr_38 hp, pr_39 hp, pr_40 hp, pr_41 hp, pr_42 hp, pr_43 hp, pr_44 hp, pr_45 hp, pr_46 hp, pr_48 hp, pr_49 hp, pr_50 hp, pr_51 hp, pr_52 hp, pr_54 hp, pr_55 hp, pr_58 hp, pr_60 hp, pr_61 hp, pr_63 hp, pr_64 hp, pr_65 hp, pr_71 hp, pr_72 hp, pr_73 hp, pr_75 hp, pr_76 hp, pr_78 hp, pr_80 hp, pr_81 hp, pr_82 hp, pr_83 hp, pr_84 hp, k_256 hκ, n_257 hκ, n_258 hκ, n_259 hκ, n_260 hκ, n_261 hκ, n_262 hκ, n_263 hκ, n_264 hκ, n_265 hκ, n_266 hκ, n_267 hκ, n_268 hκ, n_269 hκ, n_270 hκ, n_271 hκ, n_272 hκ, n_273 hκ, n_274 hκ, n_275 hκ, n_276 hκ, n_277 hκ, n_278 hκ, n_279 hκ, n_280 hκ, n_281 hκ, n_282 hκ, n_283 hκ, n_284 hκ, n_285 hκ, n_286 hκ, n_287 hκ, n_288 hκ, n_289 hκ, n_290 hκ, n_291 hκ, n_292 hκ, n_293 hκ, n_294 hκ, n_295 hκ, n_296 hκ, n_297 hκ, n_298 hκ, n_299 hκ, n_300 hκ, n_301 hκ, n_302 hκ, n_303 hκ, n_304 hκ, n_305 hκ, n_306 hκ, n_307 hκ, n_308 hκ, n_309 hκ, n_310 hκ, n_311 hκ, n_312 hκ, n_313 hκ, n_314 hκ, hv, cpn_at, hn.1 w hw]
    rw [show cl xs (d + 40) 241 [.inr (.inr 256), .inr (.inl (p27 (sW S w) : Int))] (κ, setc (setc D 302 (cpn 60 (D 301) (D 302))) 303 (D 303)) = _ from er]
    simp (disch := omega) only [cond_true, Bool.and_true, bI_s, bJ_s, k_256 hκ, n_257 hκ, n_258 hκ, n_259 hκ, n_260 hκ, n_261 hκ, n_262 hκ, n_263 hκ, n_264 hκ, n_265 hκ, n_266 hκ, n_267 hκ, n_268 hκ, n_269 hκ, n_270 hκ, n_271 hκ, n_272 hκ, n_273 hκ, n_274 hκ, n_275 hκ, n_276 hκ, n_277 hκ, n_278 hκ, n_279 hκ, n_280 hκ, n_281 hκ, n_282 hκ, n_283 hκ, n_284 hκ, n_285 hκ, n_286 hκ, n_287 hκ, n_288 hκ, n_289 hκ, n_290 hκ, n_291 hκ, n_292 hκ, n_293 hκ, n_294 hκ, n_295 hκ, n_296 hκ, n_297 hκ, n_298 hκ, n_299 hκ, n_300 hκ, n_301 hκ, n_302 hκ, n_303 hκ, n_304 hκ, n_305 hκ, n_306 hκ, n_307 hκ, n_308 hκ, n_309 hκ, n_310 hκ, n_311 hκ, n_312 hκ, n_313 hκ, n_314 hκ, he]
  cases hc : gY X S w with
  | some y =>
    have hy := gY_wvd hc
    obtain ⟨_, ef⟩ := fs y (by rw [hgy] at hc; exact hc)
    have eh : wyS (setc (cpD D) 303 g') y = gH D (cpn 60 (D 301) (D 302)) g' (D 299) ((y.1 : Int) - 1) ((y.2.1 : Int) - 1) ((y.2.2.1 : Int) - 1) ((y.2.2.2 : Int) - 1) := gH_of ..
    rw [eh] at ef
    rw [pre 1 _ ef]
    have z := rg_zero xs (d + 40) hκ hp (r := cpn 60 (D 301) (D 302)) (g := g') (q0 := D 299) ((y.1 : Int) - 1) ((y.2.1 : Int) - 1) ((y.2.2.1 : Int) - 1) ((y.2.2.2 : Int) - 1) (w : Int) (p27 (rbX X (sord S) (son S) 7 (sW S w)) : Int) 1 none 6 0 rfl
    rw [cpn_zero] at z
    have hU : ∀ j, j < 24 → sStk S j ≤ 20 := fun j hj => stk_le hX hS hj
    obtain ⟨r1, i1, b1⟩ := rg_A xs (d + 40) hκ hp hX hy (r0 := cpn 60 (D 301) (D 302)) (r := cpn 60 (D 301) (D 302)) (g := g') (q := cpn 6 (fun _ => 0) (D 299)) (U := sStk S) ⟨hrow.2.2.1, fun _ _ => rfl⟩ (fun j hj => by have := hU j hj; omega) (w : Int) (p27 (rbX X (sord S) (son S) 7 (sW S w)) : Int) none
    obtain ⟨r2, i2, b2⟩ := rg_B xs (d + 40) hκ hp hX hy i1 (g := g') (q := cpn 6 (fun _ => 0) (D 299)) (fun j hj => by have := hU j hj; split <;> omega) (w : Int) (p27 (rbX X (sord S) (son S) 7 (sW S w)) : Int) none
    obtain ⟨r3, i3, b3⟩ := rg_C xs (d + 40) hκ hp hX hy i2 (g := g') (q := cpn 6 (fun _ => 0) (D 299)) (fun j hj => by have := hU j hj; (repeat' split) <;> omega) (w : Int) (p27 (rbX X (sord S) (son S) 7 (sW S w)) : Int) none
    obtain ⟨q', c1, c2, c3, c4, b4⟩ := rg_D xs (d + 39) hκ hX hR hy (r := r3) (g := g') (q := cpn 6 (fun _ => 0) (D 299)) hg' (w : Int) (p27 (rbX X (sord S) (son S) 7 (sW S w)) : Int) none
    have hy' := hy
    obtain ⟨y1, ⟨y2, y2'⟩, y3, y4⟩ := hy
    have m0 := tnP_le hX (s := 1) (by decide) y4
    have m1 := tnP_le hX (s := 1) (by decide) y3
    have m2 := tnP_le hX (s := 0) (by decide) y2'
    have m3 := tnP_le hX (s := 2) (by decide) y1
    have l1 : endsY y ≤ 100 := by unfold endsY; (repeat' split) <;> omega
    have l2 : headsY y ≤ 100 := by unfold headsY; split <;> omega
    have l3 : tonsY X y ≤ 100 := by unfold tonsY; omega
    obtain ⟨D', e5, c5, f5⟩ := rg_end xs d hκ hX hS h hL hw h0 (r0 := cpn 60 (D 301) (D 302)) (r := r3) (g := g') (q := q') hg' hrow ⟨fun j hj => by
        show (if 20 + j = 55 then _ else r3 (20 + j)) = _
        rw [if_neg (by omega), i3.1 j hj]
        unfold gStk
        rw [hc]
        congr 1
        unfold cY
        dsimp only
        omega, fun j hj => by
        show (if j = 55 then _ else r3 j) = _
        by_cases h55 : j = 55
        · rw [if_pos h55, h55]
        · rw [if_neg h55]; exact i3.2 j hj⟩ (by
        rw [i3.2 55 (by omega), hrow.2.2.2.2.2.2.2.2.1]
        unfold gDust
        rw [hc]
        rw [show ((0 : Nat) : Int) = 0 from rfl, Int.add_zero]
        exact hS.2.2.2.2.2.2.2.2.1.symm) l1 l2 l3 (show 0 ≤ 100 by omega) ⟨c1, c2, c3, by rw [c4 3 (by omega), cpn_at (by omega)]; rfl⟩ (by unfold gVar; rw [hc]) ((y.1 : Int) - 1) ((y.2.1 : Int) - 1) ((y.2.2.1 : Int) - 1) ((y.2.2.2 : Int) - 1) (p27 (rbX X (sord S) (son S) 7 (sW S w)) : Int) 1 6 none
    refine ⟨D', ?_, c5, f5⟩
    exact (show _ = _ from z).trans (b1.trans (b2.trans (b3.trans (b4.trans e5))))
  | none =>
    obtain ⟨wa, wb, wc, wd, ef⟩ := fn (by rw [hgy] at hc; exact hc)
    have eh : wyD (setc (cpD D) 303 g') wa wb wc wd = gH D (cpn 60 (D 301) (D 302)) g' (D 299) wa wb wc wd := gH_of ..
    rw [eh] at ef
    rw [pre 0 _ ef]
    have z := rg_zero xs (d + 40) hκ hp (r := cpn 60 (D 301) (D 302)) (g := g') (q0 := D 299) wa wb wc wd (w : Int) (p27 (rbX X (sord S) (son S) 7 (sW S w)) : Int) 0 none 6 0 rfl
    rw [cpn_zero] at z
    have lo := longOf_eq xs (d + 39)
    have h8 := hwr.2
    obtain ⟨D', e5, c5, f5⟩ := rg_end xs d hκ hX hS h hL hw h0 (r0 := cpn 60 (D 301) (D 302)) (r := fun j => if j = 55 then w64 (cpn 60 (D 301) (D 302) 55 + ((rbX X (sord S) (son S) 7 (sW S w)).length : Int)) else cpn 60 (D 301) (D 302) j) (g := g') (q := fun j => if j = 3 then ((rbX X (sord S) (son S) 7 (sW S w)).length : Int) else cpn 6 (fun _ => 0) (D 299) j) hg' hrow ⟨fun j hj => by
        show (if 20 + j = 55 then _ else if 20 + j = 55 then _ else cpn 60 (D 301) (D 302) (20 + j)) = _
        rw [if_neg (by omega), if_neg (by omega)]
        unfold gStk
        rw [hc]
        exact hrow.2.2.1 j hj, fun j hj => by
        show (if j = 55 then _ else if j = 55 then _ else cpn 60 (D 301) (D 302) j) = _
        by_cases h55 : j = 55
        · rw [if_pos h55, h55]
        · rw [if_neg h55, if_neg h55]⟩ (by
        show w32 (w64 (cpn 60 (D 301) (D 302) 55 + _)) = _
        rw [w32_w64, ← w32_add_l, hrow.2.2.2.2.2.2.2.2.1]
        unfold gDust
        rw [hc, hgn]) (a := 0) (b := 0) (c := 0) (e := (rbX X (sord S) (son S) 7 (sW S w)).length) (by omega) (by omega) (by omega) (by omega) ⟨rfl, rfl, rfl, rfl⟩ (by unfold gVar; rw [hc, hgn]) wa wb wc wd (p27 (rbX X (sord S) (son S) 7 (sW S w)) : Int) 0 6 none
    refine ⟨D', ?_, c5, f5⟩
    refine (show _ = _ from z).trans ?_
    rw [q_264_46]
    simp (disch := omega) only [cond_true, cond_false, Bool.and_true, Int.toNat_natCast, Int.reduceToNat, bI_s, dT, dF, k_256 hκ, n_299 hκ, gH_o, pr_60 hp, lo _ hwr.1 (show (rbX X (sord S) (son S) 7 (sW S w)).length ≤ 12 by omega), gH_u299]
    rw [q_264_264]
    simp (disch := omega) only [cond_true, cond_false, Bool.and_true, Int.toNat_natCast, Int.reduceToNat, bI_s, dT, dF, k_256 hκ, n_302 hκ, gH_o, pr_64 hp, lo _ hwr.1 (show (rbX X (sord S) (son S) 7 (sW S w)).length ≤ 12 by omega), gH_302, gH_u302]
    exact e5
def qGrind (X : TX) (S : ST) (w : Int) : Int := if 0 ≤ w ∧ w < (xnw X : Int) then -2 else -1
theorem cgrind_no (xs : List Int) (d : Nat) {κ : aK} {D : Nat → Nat → Int} (hκ : Shp κ) (hc : CPtr D) {t : Nat} (ht : isT t) (h5 : D 0 5 = (t : Int)) {X : TX} (hX : TXok X) (hx : TxC D t X) {S : ST} (hS : STok X S) (hs : StC D 53 X S) {w : Int} (hno : ¬ ((0 ≤ w ∧ w < (xnw X : Int)) ∧ sFt S w.toNat = 0)) : cl xs (d + 41) 150 [.inr (.inr 0), .inl w] (κ, D) = some (some (.inl (qGrind X S w)), (κ, D)) := by
  have hk0 : aok κ 0 11 = true := kc_0 hκ
  have x2 := hX.2.1.1
  rw [c_150]
  unfold qGrind
  by_cases h : 0 ≤ w ∧ w < (xnw X : Int)
  · obtain ⟨n, rfl⟩ := Int.eq_ofNat_of_zero_le h.1
    rw [if_pos h]
    rw [Int.toNat_natCast] at hno
    have hf : ¬ sFt S n = 0 := fun q => hno ⟨h, q⟩
    simp (disch := omega) only [cond_true, cond_false, Bool.and_true, Bool.true_and, Bool.and_false, Bool.false_and, Int.toNat_natCast, Int.reduceToNat, bI_s, bJ_s, bV_s, bR_s, decide_true, decide_false, not_true_eq_false, not_false_eq_true, dT, dF, w_al, w_la, w_ab, w_sl, w_sb, w_dec, w_ml, w_lm, ol2i_n, aup_ne, aupE, aupJ, setc_self, setc_ne, pc_0_0 hc, pc_0_3 hc, pc_0_4 hc, pc_0_7 hc, pc_0_8 hc, pc_0_9 hc, pc_0_12 hc, pc_0_14 hc, pc_0_15 hc, pc_0_16 hc, pc_0_17 hc, pc_0_18 hc, pc_0_19 hc, pc_2_1 hc, pc_2_2 hc, pc_2_3 hc, pc_2_6 hc, pc_2_8 hc, pc_8_2 hc, pc_65_1 hc, pc_65_2 hc, pc_68_1 hc, pc_72_3 hc, pc_72_4 hc, pc_72_5 hc, pc_72_6 hc, pc_77_1 hc, pc_77_2 hc, pc_77_3 hc, pc_77_4 hc, pc_77_5 hc, pc_77_6 hc, kc_0 hκ, kc_1 hκ, nc_1 hκ, kc_2 hκ, kc_3 hκ, nc_3 hκ, kc_4 hκ, nc_4 hκ, kc_5 hκ, nc_5 hκ, kc_6 hκ, nc_6 hκ, kc_7 hκ, nc_7 hκ, kc_8 hκ, kc_63 hκ, nc_63 hκ, kc_64 hκ, nc_64 hκ, kc_65 hκ, kc_66 hκ, nc_66 hκ, kc_67 hκ, nc_67 hκ, kc_68 hκ, kc_69 hκ, nc_69 hκ, kc_70 hκ, nc_70 hκ, kc_71 hκ, nc_71 hκ, kc_72 hκ, kc_73 hκ, nc_73 hκ, kc_74 hκ, nc_74 hκ, kc_75 hκ, nc_75 hκ, kc_76 hκ, nc_76 hκ, kc_77 hκ, kc_78 hκ, nc_78 hκ, kc_79 hκ, nc_79 hκ, kc_80 hκ, nc_80 hκ, kc_81 hκ, nc_81 hκ, kc_82 hκ, nc_82 hκ, kc_83 hκ, nc_83 hκ, kc_84 hκ, nc_84 hκ, kc_85 hκ, nc_85 hκ, kc_86 hκ, nc_86 hκ, kc_87 hκ, nc_87 hκ, kc_88 hκ, nc_88 hκ, kc_89 hκ, nc_89 hκ, kc_90 hκ, nc_90 hκ, tp_0_1 hc ht, tp_0_2 hc ht, tp_0_3 hc ht, tp_0_4 hc ht, tp_0_6 hc ht, tp_0_8 hc ht, tp_0_9 hc ht, tp_0_10 hc ht, tp_0_12 hc ht, tp_0_13 hc ht, tp_0_14 hc ht, tp_3_1 hc ht, tp_3_2 hc ht, tp_3_3 hc ht, tp_3_4 hc ht, tp_8_0 hc ht, tp_8_1 hc ht, tp_8_2 hc ht, tp_18_0 hc ht, tp_18_2 hc ht, tp_18_3 hc ht, tk_0 hκ ht, tk_1 hκ ht, tn_1 hκ ht, tk_2 hκ ht, tn_2 hκ ht, tk_3 hκ ht, tk_4 hκ ht, tn_4 hκ ht, tk_5 hκ ht, tn_5 hκ ht, tk_6 hκ ht, tn_6 hκ ht, tk_7 hκ ht, tn_7 hκ ht, tk_8 hκ ht, tk_9 hκ ht, tn_9 hκ ht, tk_10 hκ ht, tn_10 hκ ht, tk_11 hκ ht, tn_11 hκ ht, tk_12 hκ ht, tn_12 hκ ht, tk_13 hκ ht, tn_13 hκ ht, tk_14 hκ ht, tn_14 hκ ht, tk_15 hκ ht, tn_15 hκ ht, tk_16 hκ ht, tn_16 hκ ht, tk_17 hκ ht, tn_17 hκ ht, tk_18 hκ ht, tk_19 hκ ht, tn_19 hκ ht, tk_20 hκ ht, tn_20 hκ ht, tk_21 hκ ht, tn_21 hκ ht, sk_0 hκ is53, sp_1 hc is53, sk_1 hκ is53, sn_1 hκ is53, sp_2 hc is53, sk_2 hκ is53, sn_2 hκ is53, sp_3 hc is53, sk_3 hκ is53, sn_3 hκ is53, sp_4 hc is53, sk_4 hκ is53, sn_4 hκ is53, sk_0 hκ is58, sp_1 hc is58, sk_1 hκ is58, sn_1 hκ is58, sp_2 hc is58, sk_2 hκ is58, sn_2 hκ is58, sp_3 hc is58, sk_3 hκ is58, sn_3 hκ is58, sp_4 hc is58, sk_4 hκ is58, sn_4 hκ is58, hk0, hasWord_eq xs (d + 39) hκ hc ht h5 hX hx (n : Int), hs.2.2.2.1 n (by omega)]
  · rw [if_neg h]
    simp (disch := omega) only [cond_true, cond_false, Bool.and_true, Bool.true_and, Bool.and_false, Bool.false_and, Int.toNat_natCast, Int.reduceToNat, bI_s, bJ_s, bV_s, bR_s, decide_true, decide_false, not_true_eq_false, not_false_eq_true, dT, dF, w_al, w_la, w_ab, w_sl, w_sb, w_dec, w_ml, w_lm, ol2i_n, aup_ne, aupE, aupJ, setc_self, setc_ne, pc_0_0 hc, pc_0_3 hc, pc_0_4 hc, pc_0_7 hc, pc_0_8 hc, pc_0_9 hc, pc_0_12 hc, pc_0_14 hc, pc_0_15 hc, pc_0_16 hc, pc_0_17 hc, pc_0_18 hc, pc_0_19 hc, pc_2_1 hc, pc_2_2 hc, pc_2_3 hc, pc_2_6 hc, pc_2_8 hc, pc_8_2 hc, pc_65_1 hc, pc_65_2 hc, pc_68_1 hc, pc_72_3 hc, pc_72_4 hc, pc_72_5 hc, pc_72_6 hc, pc_77_1 hc, pc_77_2 hc, pc_77_3 hc, pc_77_4 hc, pc_77_5 hc, pc_77_6 hc, kc_0 hκ, kc_1 hκ, nc_1 hκ, kc_2 hκ, kc_3 hκ, nc_3 hκ, kc_4 hκ, nc_4 hκ, kc_5 hκ, nc_5 hκ, kc_6 hκ, nc_6 hκ, kc_7 hκ, nc_7 hκ, kc_8 hκ, kc_63 hκ, nc_63 hκ, kc_64 hκ, nc_64 hκ, kc_65 hκ, kc_66 hκ, nc_66 hκ, kc_67 hκ, nc_67 hκ, kc_68 hκ, kc_69 hκ, nc_69 hκ, kc_70 hκ, nc_70 hκ, kc_71 hκ, nc_71 hκ, kc_72 hκ, kc_73 hκ, nc_73 hκ, kc_74 hκ, nc_74 hκ, kc_75 hκ, nc_75 hκ, kc_76 hκ, nc_76 hκ, kc_77 hκ, kc_78 hκ, nc_78 hκ, kc_79 hκ, nc_79 hκ, kc_80 hκ, nc_80 hκ, kc_81 hκ, nc_81 hκ, kc_82 hκ, nc_82 hκ, kc_83 hκ, nc_83 hκ, kc_84 hκ, nc_84 hκ, kc_85 hκ, nc_85 hκ, kc_86 hκ, nc_86 hκ, kc_87 hκ, nc_87 hκ, kc_88 hκ, nc_88 hκ, kc_89 hκ, nc_89 hκ, kc_90 hκ, nc_90 hκ, tp_0_1 hc ht, tp_0_2 hc ht, tp_0_3 hc ht, tp_0_4 hc ht, tp_0_6 hc ht, tp_0_8 hc ht, tp_0_9 hc ht, tp_0_10 hc ht, tp_0_12 hc ht, tp_0_13 hc ht, tp_0_14 hc ht, tp_3_1 hc ht, tp_3_2 hc ht, tp_3_3 hc ht, tp_3_4 hc ht, tp_8_0 hc ht, tp_8_1 hc ht, tp_8_2 hc ht, tp_18_0 hc ht, tp_18_2 hc ht, tp_18_3 hc ht, tk_0 hκ ht, tk_1 hκ ht, tn_1 hκ ht, tk_2 hκ ht, tn_2 hκ ht, tk_3 hκ ht, tk_4 hκ ht, tn_4 hκ ht, tk_5 hκ ht, tn_5 hκ ht, tk_6 hκ ht, tn_6 hκ ht, tk_7 hκ ht, tn_7 hκ ht, tk_8 hκ ht, tk_9 hκ ht, tn_9 hκ ht, tk_10 hκ ht, tn_10 hκ ht, tk_11 hκ ht, tn_11 hκ ht, tk_12 hκ ht, tn_12 hκ ht, tk_13 hκ ht, tn_13 hκ ht, tk_14 hκ ht, tn_14 hκ ht, tk_15 hκ ht, tn_15 hκ ht, tk_16 hκ ht, tn_16 hκ ht, tk_17 hκ ht, tn_17 hκ ht, tk_18 hκ ht, tk_19 hκ ht, tn_19 hκ ht, tk_20 hκ ht, tn_20 hκ ht, tk_21 hκ ht, tn_21 hκ ht, sk_0 hκ is53, sp_1 hc is53, sk_1 hκ is53, sn_1 hκ is53, sp_2 hc is53, sk_2 hκ is53, sn_2 hκ is53, sp_3 hc is53, sk_3 hκ is53, sn_3 hκ is53, sp_4 hc is53, sk_4 hκ is53, sn_4 hκ is53, sk_0 hκ is58, sp_1 hc is58, sk_1 hκ is58, sn_1 hκ is58, sp_2 hc is58, sk_2 hκ is58, sn_2 hκ is58, sp_3 hc is58, sk_3 hκ is58, sn_3 hκ is58, sp_4 hc is58, sk_4 hκ is58, sn_4 hκ is58, hk0, hasWord_eq xs (d + 39) hκ hc ht h5 hX hx w]
theorem rgrind_no (xs : List Int) (d : Nat) {κ : aK} {D : Nat → Nat → Int} (hκ : Shp κ) {v : Nat} {X : TX} (hX : TXok X) (hR : RI D v X) {S : ST} (hS : STok X S) (hn : RowR (D 301) X S) {w : Int} (hno : ¬ ((0 ≤ w ∧ w < (xnw X : Int)) ∧ sFt S w.toNat = 0)) : ∃ D', RSame D D' ∧ cl xs (d + 41) 264 [.inr (.inr 256), .inl w] (κ, D) = some (some (.inl (qGrind X S w)), (κ, D')) := by
  have hp := hR.1; have hv := hR.2.1; have hv2 := hR.2.2.1; have hT := hR.2.2.2.2; have x1 := hX.1.1; have x2 := hX.2.1.1; have hk := k_256 hκ
  have iw := isWordX xs (d + 38) hκ hX hR (g := D 303) w
  rw [setc_id] at iw
  rw [c_264]
  unfold qGrind
  by_cases h : 0 ≤ w ∧ w < (xnw X : Int)
  · obtain ⟨n, rfl⟩ := Int.eq_ofNat_of_zero_le h.1
    rw [if_pos h] at iw ⊢
    rw [Int.toNat_natCast] at hno
    have hf : ¬ sFt S n = 0 := fun q => hno ⟨h, q⟩
    have iwh := isWholeX xs (d + 39) hκ hR (r := cpn 60 (D 301) (D 302)) (g := D 303) (w := n) (by omega) ((hn.cpn (g := D 302) hX).2.1 n (by omega))
    rw [if_neg hf] at iwh
    refine ⟨_, RSame.q hR.2.2.2.1, ?_⟩
    simp (disch := omega) only [cond_true, cond_false, Bool.and_true, Bool.true_and, Bool.and_false, Bool.false_and, Int.toNat_natCast, Int.reduceToNat, bI_s, bJ_s, bV_s, bR_s, decide_true, decide_false, not_true_eq_false, not_false_eq_true, dT, dF, w_al, w_la, w_ab, w_sl, w_sb, w_dec, w_ml, w_lm, ol2i_n, aup_ne, aupE, aupJ, setc_self, setc_ne, pr_1 hp, pr_3 hp, pr_5 hp, pr_6 hp, pr_7 hp, pr_8 hp, pr_9 hp, pr_20 hp, pr_21 hp, pr_22 hp, pr_23 hp, pr_24 hp, pr_25 hp, pr_26 hp, pr_27 hp, pr_28 hp, pr_29 hp, pr_30 hp, pr_31 hp, pr_32 hp, pr_33 hp, pr_34 hp, pr_35 hp, pr_36 hp, pr_37 hp, pr_38 hp, pr_39 hp, pr_40 hp, pr_41 hp, pr_42 hp, pr_43 hp, pr_44 hp, pr_45 hp, pr_46 hp, pr_48 hp, pr_49 hp, pr_50 hp, pr_51 hp, pr_52 hp, pr_54 hp, pr_55 hp, pr_58 hp, pr_60 hp, pr_61 hp, pr_63 hp, pr_64 hp, pr_65 hp, pr_71 hp, pr_72 hp, pr_73 hp, pr_75 hp, pr_76 hp, pr_78 hp, pr_80 hp, pr_81 hp, pr_82 hp, pr_83 hp, pr_84 hp, k_256 hκ, n_257 hκ, n_258 hκ, n_259 hκ, n_260 hκ, n_261 hκ, n_262 hκ, n_263 hκ, n_264 hκ, n_265 hκ, n_266 hκ, n_267 hκ, n_268 hκ, n_269 hκ, n_270 hκ, n_271 hκ, n_272 hκ, n_273 hκ, n_274 hκ, n_275 hκ, n_276 hκ, n_277 hκ, n_278 hκ, n_279 hκ, n_280 hκ, n_281 hκ, n_282 hκ, n_283 hκ, n_284 hκ, n_285 hκ, n_286 hκ, n_287 hκ, n_288 hκ, n_289 hκ, n_290 hκ, n_291 hκ, n_292 hκ, n_293 hκ, n_294 hκ, n_295 hκ, n_296 hκ, n_297 hκ, n_298 hκ, n_299 hκ, n_300 hκ, n_301 hκ, n_302 hκ, n_303 hκ, n_304 hκ, n_305 hκ, n_306 hκ, n_307 hκ, n_308 hκ, n_309 hκ, n_310 hκ, n_311 hκ, n_312 hκ, n_313 hκ, n_314 hκ, hv, iw, copiesX xs (d + 39) hκ hR]
    rw [show cl xs (d + 40) 233 [.inr (.inr 256), .inl (n : Int)] (κ, setc (cpD D) 303 (D 303)) = _ from iwh]
    simp (disch := omega) only [cond_true, cond_false, Bool.and_true, Bool.true_and, Bool.and_false, Bool.false_and, Int.toNat_natCast, Int.reduceToNat, bI_s, bJ_s, bV_s, bR_s, decide_true, decide_false, not_true_eq_false, not_false_eq_true, dT, dF, w_al, w_la, w_ab, w_sl, w_sb, w_dec, w_ml, w_lm, ol2i_n, aup_ne, aupE, aupJ, setc_self, setc_ne]
  · rw [if_neg h] at iw ⊢
    refine ⟨D, RSame.rfl' hR.2.2.2.1, ?_⟩
    simp (disch := omega) only [cond_true, cond_false, Bool.and_true, Bool.true_and, Bool.and_false, Bool.false_and, Int.toNat_natCast, Int.reduceToNat, bI_s, bJ_s, bV_s, bR_s, decide_true, decide_false, not_true_eq_false, not_false_eq_true, dT, dF, w_al, w_la, w_ab, w_sl, w_sb, w_dec, w_ml, w_lm, ol2i_n, aup_ne, aupE, aupJ, setc_self, setc_ne, pr_1 hp, pr_3 hp, pr_5 hp, pr_6 hp, pr_7 hp, pr_8 hp, pr_9 hp, pr_20 hp, pr_21 hp, pr_22 hp, pr_23 hp, pr_24 hp, pr_25 hp, pr_26 hp, pr_27 hp, pr_28 hp, pr_29 hp, pr_30 hp, pr_31 hp, pr_32 hp, pr_33 hp, pr_34 hp, pr_35 hp, pr_36 hp, pr_37 hp, pr_38 hp, pr_39 hp, pr_40 hp, pr_41 hp, pr_42 hp, pr_43 hp, pr_44 hp, pr_45 hp, pr_46 hp, pr_48 hp, pr_49 hp, pr_50 hp, pr_51 hp, pr_52 hp, pr_54 hp, pr_55 hp, pr_58 hp, pr_60 hp, pr_61 hp, pr_63 hp, pr_64 hp, pr_65 hp, pr_71 hp, pr_72 hp, pr_73 hp, pr_75 hp, pr_76 hp, pr_78 hp, pr_80 hp, pr_81 hp, pr_82 hp, pr_83 hp, pr_84 hp, k_256 hκ, n_257 hκ, n_258 hκ, n_259 hκ, n_260 hκ, n_261 hκ, n_262 hκ, n_263 hκ, n_264 hκ, n_265 hκ, n_266 hκ, n_267 hκ, n_268 hκ, n_269 hκ, n_270 hκ, n_271 hκ, n_272 hκ, n_273 hκ, n_274 hκ, n_275 hκ, n_276 hκ, n_277 hκ, n_278 hκ, n_279 hκ, n_280 hκ, n_281 hκ, n_282 hκ, n_283 hκ, n_284 hκ, n_285 hκ, n_286 hκ, n_287 hκ, n_288 hκ, n_289 hκ, n_290 hκ, n_291 hκ, n_292 hκ, n_293 hκ, n_294 hκ, n_295 hκ, n_296 hκ, n_297 hκ, n_298 hκ, n_299 hκ, n_300 hκ, n_301 hκ, n_302 hκ, n_303 hκ, n_304 hκ, n_305 hκ, n_306 hκ, n_307 hκ, n_308 hκ, n_309 hκ, n_310 hκ, n_311 hκ, n_312 hκ, n_313 hκ, n_314 hκ, hv, iw]
