/-! grind by the reference. -/
def gH (D : Nat → Nat → Int) (r g q : Nat → Int) (a b c z : Int) : Nat → Nat → Int := wyD (setc (setc (setc D 302 r) 303 g) 299 q) a b c z
theorem gH_302 (D : Nat → Nat → Int) (r g q : Nat → Int) (a b c z : Int) : gH D r g q a b c z 302 = r := by unfold gH; rw [wy_q (by decide), setc_ne (by decide), setc_ne (by decide), setc_self]
theorem gH_303 (D : Nat → Nat → Int) (r g q : Nat → Int) (a b c z : Int) : gH D r g q a b c z 303 = g := by unfold gH; rw [wy_q (by decide), setc_ne (by decide), setc_self]
theorem gH_299 (D : Nat → Nat → Int) (r g q : Nat → Int) (a b c z : Int) : gH D r g q a b c z 299 = q := by unfold gH; rw [wy_q (by decide), setc_self]
theorem gH_66 (D : Nat → Nat → Int) (r g q : Nat → Int) (a b c z : Int) : gH D r g q a b c z 256 66 = a := wy_66 ..
theorem gH_67 (D : Nat → Nat → Int) (r g q : Nat → Int) (a b c z : Int) : gH D r g q a b c z 256 67 = b := wy_67 ..
theorem gH_68 (D : Nat → Nat → Int) (r g q : Nat → Int) (a b c z : Int) : gH D r g q a b c z 256 68 = c := wy_68 ..
theorem gH_69 (D : Nat → Nat → Int) (r g q : Nat → Int) (a b c z : Int) : gH D r g q a b c z 256 69 = z := wy_69 ..
theorem gH_o {D : Nat → Nat → Int} {r g q : Nat → Int} {a b c z : Int} {j : Nat} (h : j < 66 ∨ 69 < j) : gH D r g q a b c z 256 j = D 256 j := by unfold gH; rw [wy_o h, setc_ne (by decide), setc_ne (by decide), setc_ne (by decide)]
theorem gH_q {D : Nat → Nat → Int} {r g q : Nat → Int} {a b c z : Int} {p : Nat} (h1 : p ≠ 256) (h2 : p ≠ 302) (h3 : p ≠ 303) (h4 : p ≠ 299) : gH D r g q a b c z p = D p := by unfold gH; rw [wy_q h1, setc_ne h4, setc_ne h3, setc_ne h2]
theorem gH_u299 (D : Nat → Nat → Int) (r g q : Nat → Int) (a b c z : Int) (k : Nat) (x : Int) : aup (gH D r g q a b c z) 299 k x = gH D r g (fun j => if j = k then x else q j) a b c z := by
  unfold gH
  rw [wy_aup (by decide), aup_setc]
theorem gH_u302 (D : Nat → Nat → Int) (r g q : Nat → Int) (a b c z : Int) (k : Nat) (x : Int) : aup (gH D r g q a b c z) 302 k x = gH D (fun j => if j = k then x else r j) g q a b c z := by
  unfold gH
  rw [wy_aup (by decide)]
  congr 1
  funext p j
  unfold aup setc
  by_cases h1 : p = 302
  · subst h1
    simp
  · simp [h1]
theorem gH_same {D : Nat → Nat → Int} {r g q : Nat → Int} (hg : g 0 = 0) (a b c z : Int) : RSame D (gH D r g q a b c z) := by
  have h1 : RSame D (setc (setc D 302 r) 303 g) := RSame.row hg
  have h2 : RSame (setc (setc D 302 r) 303 g) (setc (setc (setc D 302 r) 303 g) 299 q) := RSame.cell h1.2.2 (by decide) (by decide) q
  exact (h1.trans h2).trans (wy_same h2.2.2 a b c z)
theorem tonsOfG (xs : List Int) (d : Nat) {κ : aK} {D : Nat → Nat → Int} (hκ : Shp κ) {v : Nat} {X : TX} (hX : TXok X) (hR : RI D v X) {s k : Nat} (hs : s < 3) (hk' : k ≤ xnp X s) : cl xs (d + 1) 262 [.inr (.inr 256), .inl (s : Int), .inl ((k : Int) - 1)] (κ, D) = some (some (.inl (tnP X s k : Int)), (κ, D)) := by
  have hp := hR.1; have hv := hR.2.1; have hv2 := hR.2.2.1; have hT := hR.2.2.2.2; have x1 := hX.1.1; have x2 := hX.2.1.1; have hk := k_256 hκ
  have n0 := xnp_le hX hs
  rw [c_262]
  by_cases h0 : k = 0
  · subst h0
    simp (disch := omega) only [cond_true, cond_false, Bool.and_true, Bool.true_and, Bool.and_false, Bool.false_and, Int.toNat_natCast, Int.reduceToNat, bI_s, bJ_s, bV_s, bR_s, decide_true, decide_false, not_true_eq_false, not_false_eq_true, dT, dF, w_al, w_la, w_ab, w_sl, w_sb, w_dec, w_ml, w_lm, ol2i_n, aup_ne, aupE, aupJ, setc_self, setc_ne]
    rfl
  · obtain ⟨k, rfl⟩ : ∃ j, k = j + 1 := ⟨k - 1, by omega⟩
    have e := ((hT.2.2.1 s hs).2 k (by omega)).2
    rw [show ((k + 1 : Nat) : Int) - 1 = (k : Int) by omega]
    unfold tnP
    rw [if_neg (by omega), Nat.add_sub_cancel]
    simp (disch := omega) only [cond_true, cond_false, Bool.and_true, Bool.true_and, Bool.and_false, Bool.false_and, Int.toNat_natCast, Int.reduceToNat, bI_s, bJ_s, bV_s, bR_s, decide_true, decide_false, not_true_eq_false, not_false_eq_true, dT, dF, w_al, w_la, w_ab, w_sl, w_sb, w_dec, w_ml, w_lm, ol2i_n, aup_ne, aupE, aupJ, setc_self, setc_ne, pr_1 hp, pr_3 hp, pr_5 hp, pr_6 hp, pr_7 hp, pr_8 hp, pr_9 hp, pr_20 hp, pr_21 hp, pr_22 hp, pr_23 hp, pr_24 hp, pr_25 hp, pr_26 hp, pr_27 hp, pr_28 hp, pr_29 hp, pr_30 hp, pr_31 hp, pr_32 hp, pr_33 hp, pr_34 hp, pr_35 hp, pr_36 hp, pr_37 hp, pr_38 hp, pr_39 hp, pr_40 hp, pr_41 hp, pr_42 hp, pr_43 hp, pr_44 hp, pr_45 hp, pr_46 hp, pr_48 hp, pr_49 hp, pr_50 hp, pr_51 hp, pr_52 hp, pr_54 hp, pr_55 hp, pr_58 hp, pr_60 hp, pr_61 hp, pr_63 hp, pr_64 hp, pr_65 hp, pr_71 hp, pr_72 hp, pr_73 hp, pr_75 hp, pr_76 hp, pr_78 hp, pr_80 hp, pr_81 hp, pr_82 hp, pr_83 hp, pr_84 hp, k_256 hκ, n_257 hκ, n_258 hκ, n_259 hκ, n_260 hκ, n_261 hκ, n_262 hκ, n_263 hκ, n_264 hκ, n_265 hκ, n_266 hκ, n_267 hκ, n_268 hκ, n_269 hκ, n_270 hκ, n_271 hκ, n_272 hκ, n_273 hκ, n_274 hκ, n_275 hκ, n_276 hκ, n_277 hκ, n_278 hκ, n_279 hκ, n_280 hκ, n_281 hκ, n_282 hκ, n_283 hκ, n_284 hκ, n_285 hκ, n_286 hκ, n_287 hκ, n_288 hκ, n_289 hκ, n_290 hκ, n_291 hκ, n_292 hκ, n_293 hκ, n_294 hκ, n_295 hκ, n_296 hκ, n_297 hκ, n_298 hκ, n_299 hκ, n_300 hκ, n_301 hκ, n_302 hκ, n_303 hκ, n_304 hκ, n_305 hκ, n_306 hκ, n_307 hκ, n_308 hκ, n_309 hκ, n_310 hκ, n_311 hκ, n_312 hκ, n_313 hκ, n_314 hκ, hv, e]
def RWi (r0 r : Nat → Int) (U : Nat → Nat) : Prop := (∀ j, j < 24 → r (20 + j) = (U j : Int)) ∧ (∀ j, j < 20 ∨ 44 ≤ j → r j = r0 j)
theorem RWi.up {r0 r : Nat → Int} {U : Nat → Nat} (h : RWi r0 r U) {p : Nat} (hp : p < 24) (hU : U p ≤ 1000) : RWi r0 (fun j => if j = 20 + p then ((U p + 1 : Nat) : Int) else r j) (upU U p) := by
  refine ⟨fun j hj => ?_, fun j hj => ?_⟩
  · show (if 20 + j = 20 + p then _ else r (20 + j)) = _
    unfold upU
    by_cases hjp : j = p
    · rw [if_pos (by omega), if_pos hjp, hjp]
    · rw [if_neg (by omega), if_neg hjp]; exact h.1 j hj
  · show (if j = 20 + p then _ else r j) = _
    rw [if_neg (by omega)]; exact h.2 j hj
theorem w64_1 {U : Nat} (h : U ≤ 1000) : w64 ((U : Int) + 1) = ((U + 1 : Nat) : Int) := by rw [w64_id (by omega) (by omega)]; omega
theorem upU_le {U : Nat → Nat} {c p : Nat} (h : ∀ j, j < 24 → U j ≤ c) : ∀ j, j < 24 → upU U p j ≤ c + 1 := fun j hj => by
  have := h j hj
  unfold upU
  split <;> omega
theorem rg_A (xs : List Int) (d : Nat) {κ : aK} {D : Nat → Nat → Int} (hκ : Shp κ) (hp : PtrR D) {X : TX} (hX : TXok X) {y : WY} (hy : wvd X y) {r0 r g q : Nat → Int} {U : Nat → Nat} (hr : RWi r0 r U) (hU : ∀ j, j < 24 → U j ≤ 100) (v1 v2 : Int) (u3 : Option aV) : ∃ r', RWi r0 r' (fun j => U j + (if 1 ≤ y.1 ∧ j = 15 + y.1 then 1 else 0)) ∧ ev xs d mm_264 46 [some (.inr (.inr 256)), some (.inl v1), some (.inr (.inl v2)), u3, some (.inl 1), some (.inl 6)] [] (κ, gH D r g q ((y.1 : Int) - 1) ((y.2.1 : Int) - 1) ((y.2.2.1 : Int) - 1) ((y.2.2.2 : Int) - 1)) = ev xs d mm_264 95 [some (.inr (.inr 256)), some (.inl v1), some (.inr (.inl v2)), u3, some (.inl 1), some (.inl 6)] [] (κ, gH D r' g q ((y.1 : Int) - 1) ((y.2.1 : Int) - 1) ((y.2.2.1 : Int) - 1) ((y.2.2.2 : Int) - 1)) := by
  have hk := k_256 hκ
  obtain ⟨y1, ⟨y2, y2'⟩, y3, y4⟩ := hy
  have n2 : xnp X 2 ≤ 4 := (hX.2.2.1 2 (by decide)).1
  rw [q_264_46]
  by_cases h0 : y.1 = 0
  · refine ⟨r, ⟨fun j hj => ?_, hr.2⟩, ?_⟩
    · show r (20 + j) = ((U j + (if 1 ≤ y.1 ∧ j = 15 + y.1 then 1 else 0) : Nat) : Int)
      rw [if_neg (by omega), Nat.add_zero]; exact hr.1 j hj
    · simp (disch := omega) only [cond_true, cond_false, Bool.and_true, Bool.true_and, Bool.and_false, Bool.false_and, Int.toNat_natCast, Int.reduceToNat, bI_s, bJ_s, bV_s, bR_s, decide_true, decide_false, not_true_eq_false, not_false_eq_true, dT, dF, w_al, w_la, w_ab, w_sl, w_sb, w_dec, w_ml, w_lm, ol2i_n, aup_ne, aupE, aupJ, setc_self, setc_ne, k_256 hκ, n_257 hκ, n_258 hκ, n_259 hκ, n_260 hκ, n_261 hκ, n_262 hκ, n_263 hκ, n_264 hκ, n_265 hκ, n_266 hκ, n_267 hκ, n_268 hκ, n_269 hκ, n_270 hκ, n_271 hκ, n_272 hκ, n_273 hκ, n_274 hκ, n_275 hκ, n_276 hκ, n_277 hκ, n_278 hκ, n_279 hκ, n_280 hκ, n_281 hκ, n_282 hκ, n_283 hκ, n_284 hκ, n_285 hκ, n_286 hκ, n_287 hκ, n_288 hκ, n_289 hκ, n_290 hκ, n_291 hκ, n_292 hκ, n_293 hκ, n_294 hκ, n_295 hκ, n_296 hκ, n_297 hκ, n_298 hκ, n_299 hκ, n_300 hκ, n_301 hκ, n_302 hκ, n_303 hκ, n_304 hκ, n_305 hκ, n_306 hκ, n_307 hκ, n_308 hκ, n_309 hκ, n_310 hκ, n_311 hκ, n_312 hκ, n_313 hκ, n_314 hκ, gH_66]
  · have hu := hr.up (p := 15 + y.1) (by omega) (by have := hU (15 + y.1) (by omega); omega)
    refine ⟨_, ⟨fun j hj => (hu.1 j hj).trans ?_, hu.2⟩, ?_⟩
    · congr 1
      unfold upU
      dsimp only
      (repeat' split) <;> omega
    · have eu := hr.1 (15 + y.1) (by omega)
      have ei : w32 (36 + ((y.1 : Int) - 1)) = ((20 + (15 + y.1) : Nat) : Int) := by rw [w32_id (by omega) (by omega)]; omega
      have hub := hU (15 + y.1) (by omega)
      simp (disch := omega) only [cond_true, cond_false, Bool.and_true, Int.toNat_natCast, Int.reduceToNat, dT, dF, k_256 hκ, n_302 hκ, gH_66, gH_o, pr_64 hp, ei, gH_302, eu, w64_1, gH_u302]
theorem rg_B (xs : List Int) (d : Nat) {κ : aK} {D : Nat → Nat → Int} (hκ : Shp κ) (hp : PtrR D) {X : TX} (hX : TXok X) {y : WY} (hy : wvd X y) {r0 r g q : Nat → Int} {U : Nat → Nat} (hr : RWi r0 r U) (hU : ∀ j, j < 24 → U j ≤ 101) (v1 v2 : Int) (u3 : Option aV) : ∃ r', RWi r0 r' (fun j => U j + (if j + 1 = y.2.1 then 1 else 0) + (if 1 ≤ y.2.2.1 ∧ j = 7 + y.2.2.1 then 1 else 0)) ∧ ev xs d mm_264 95 [some (.inr (.inr 256)), some (.inl v1), some (.inr (.inl v2)), u3, some (.inl 1), some (.inl 6)] [] (κ, gH D r g q ((y.1 : Int) - 1) ((y.2.1 : Int) - 1) ((y.2.2.1 : Int) - 1) ((y.2.2.2 : Int) - 1)) = ev xs d mm_264 134 [some (.inr (.inr 256)), some (.inl v1), some (.inr (.inl v2)), u3, some (.inl 1), some (.inl 6)] [] (κ, gH D r' g q ((y.1 : Int) - 1) ((y.2.1 : Int) - 1) ((y.2.2.1 : Int) - 1) ((y.2.2.2 : Int) - 1)) := by
  have hk := k_256 hκ
  obtain ⟨y1, ⟨y2, y2'⟩, y3, y4⟩ := hy
  have n0 := xnp_le hX (s := 0) (by decide)
  have n1 : xnp X 1 ≤ 6 := (hX.2.2.1 1 (by decide)).1
  have hu := hr.up (p := y.2.1 - 1) (by omega) (by have := hU (y.2.1 - 1) (by omega); omega)
  have eu := hr.1 (y.2.1 - 1) (by omega)
  have ei : w32 (20 + ((y.2.1 : Int) - 1)) = ((20 + (y.2.1 - 1) : Nat) : Int) := by rw [w32_id (by omega) (by omega)]; omega
  have hub := hU (y.2.1 - 1) (by omega)
  rw [q_264_95]
  by_cases h0 : y.2.2.1 = 0
  · refine ⟨_, ⟨fun j hj => (hu.1 j hj).trans ?_, hu.2⟩, ?_⟩
    · congr 1
      unfold upU
      dsimp only
      (repeat' split) <;> omega
    · simp (disch := omega) only [cond_true, cond_false, Bool.and_true, Int.toNat_natCast, Int.reduceToNat, dT, dF, k_256 hκ, n_302 hκ, gH_67, gH_68, gH_o, pr_64 hp, ei, gH_302, eu, w64_1, gH_u302]
  · have hul := upU_le (p := y.2.1 - 1) hU
    have hu2 := hu.up (p := 7 + y.2.2.1) (by omega) (by have := hul (7 + y.2.2.1) (by omega); omega)
    refine ⟨_, ⟨fun j hj => (hu2.1 j hj).trans ?_, hu2.2⟩, ?_⟩
    · congr 1
      unfold upU
      dsimp only
      (repeat' split) <;> omega
    · have eu2 := hr.1 (7 + y.2.2.1) (by omega)
      have ei2 : w32 (28 + ((y.2.2.1 : Int) - 1)) = ((20 + (7 + y.2.2.1) : Nat) : Int) := by rw [w32_id (by omega) (by omega)]; omega
      have hub2 := hU (7 + y.2.2.1) (by omega)
      have en : upU U (y.2.1 - 1) (7 + y.2.2.1) = U (7 + y.2.2.1) := if_neg (by omega)
      rw [en]
      simp (disch := omega) only [cond_true, cond_false, Bool.and_true, Int.toNat_natCast, Int.reduceToNat, dT, dF, k_256 hκ, n_302 hκ, gH_67, gH_68, gH_o, pr_64 hp, ei, ei2, gH_302, eu, eu2, w64_1, gH_u302, iF]
theorem rg_C (xs : List Int) (d : Nat) {κ : aK} {D : Nat → Nat → Int} (hκ : Shp κ) (hp : PtrR D) {X : TX} (hX : TXok X) {y : WY} (hy : wvd X y) {r0 r g q : Nat → Int} {U : Nat → Nat} (hr : RWi r0 r U) (hU : ∀ j, j < 24 → U j ≤ 103) (v1 v2 : Int) (u3 : Option aV) : ∃ r', RWi r0 r' (fun j => U j + (if 1 ≤ y.2.2.2 ∧ j = 7 + y.2.2.2 then 1 else 0)) ∧ ev xs d mm_264 134 [some (.inr (.inr 256)), some (.inl v1), some (.inr (.inl v2)), u3, some (.inl 1), some (.inl 6)] [] (κ, gH D r g q ((y.1 : Int) - 1) ((y.2.1 : Int) - 1) ((y.2.2.1 : Int) - 1) ((y.2.2.2 : Int) - 1)) = ev xs d mm_264 157 [some (.inr (.inr 256)), some (.inl v1), some (.inr (.inl v2)), u3, some (.inl 1), some (.inl 6)] [] (κ, gH D r' g q ((y.1 : Int) - 1) ((y.2.1 : Int) - 1) ((y.2.2.1 : Int) - 1) ((y.2.2.2 : Int) - 1)) := by
  have hk := k_256 hκ
  obtain ⟨y1, ⟨y2, y2'⟩, y3, y4⟩ := hy
  have n1 : xnp X 1 ≤ 6 := (hX.2.2.1 1 (by decide)).1
  rw [q_264_134]
  by_cases h0 : y.2.2.2 = 0
  · refine ⟨r, ⟨fun j hj => ?_, hr.2⟩, ?_⟩
    · show r (20 + j) = ((U j + (if 1 ≤ y.2.2.2 ∧ j = 7 + y.2.2.2 then 1 else 0) : Nat) : Int)
      rw [if_neg (by omega), Nat.add_zero]; exact hr.1 j hj
    · simp (disch := omega) only [cond_true, cond_false, Bool.and_true, Bool.true_and, Bool.and_false, Bool.false_and, Int.toNat_natCast, Int.reduceToNat, bI_s, bJ_s, bV_s, bR_s, decide_true, decide_false, not_true_eq_false, not_false_eq_true, dT, dF, w_al, w_la, w_ab, w_sl, w_sb, w_dec, w_ml, w_lm, ol2i_n, aup_ne, aupE, aupJ, setc_self, setc_ne, k_256 hκ, n_257 hκ, n_258 hκ, n_259 hκ, n_260 hκ, n_261 hκ, n_262 hκ, n_263 hκ, n_264 hκ, n_265 hκ, n_266 hκ, n_267 hκ, n_268 hκ, n_269 hκ, n_270 hκ, n_271 hκ, n_272 hκ, n_273 hκ, n_274 hκ, n_275 hκ, n_276 hκ, n_277 hκ, n_278 hκ, n_279 hκ, n_280 hκ, n_281 hκ, n_282 hκ, n_283 hκ, n_284 hκ, n_285 hκ, n_286 hκ, n_287 hκ, n_288 hκ, n_289 hκ, n_290 hκ, n_291 hκ, n_292 hκ, n_293 hκ, n_294 hκ, n_295 hκ, n_296 hκ, n_297 hκ, n_298 hκ, n_299 hκ, n_300 hκ, n_301 hκ, n_302 hκ, n_303 hκ, n_304 hκ, n_305 hκ, n_306 hκ, n_307 hκ, n_308 hκ, n_309 hκ, n_310 hκ, n_311 hκ, n_312 hκ, n_313 hκ, n_314 hκ, gH_69]
  · have hu := hr.up (p := 7 + y.2.2.2) (by omega) (by have := hU (7 + y.2.2.2) (by omega); omega)
    refine ⟨_, ⟨fun j hj => (hu.1 j hj).trans ?_, hu.2⟩, ?_⟩
    · congr 1
      unfold upU
      dsimp only
      (repeat' split) <;> omega
    · have eu := hr.1 (7 + y.2.2.2) (by omega)
      have ei : w32 (28 + ((y.2.2.2 : Int) - 1)) = ((20 + (7 + y.2.2.2) : Nat) : Int) := by rw [w32_id (by omega) (by omega)]; omega
      have hub := hU (7 + y.2.2.2) (by omega)
      simp (disch := omega) only [cond_true, cond_false, Bool.and_true, Int.toNat_natCast, Int.reduceToNat, dT, dF, k_256 hκ, n_302 hκ, gH_69, gH_o, pr_64 hp, ei, gH_302, eu, w64_1, gH_u302]
theorem rg_D (xs : List Int) (d : Nat) {κ : aK} {D : Nat → Nat → Int} (hκ : Shp κ) {v : Nat} {X : TX} (hX : TXok X) (hR : RI D v X) {y : WY} (hy : wvd X y) {r g q : Nat → Int} (hg : g 0 = 0) (v1 v2 : Int) (u3 : Option aV) : ∃ q', q' 0 = (endsY y : Int) ∧ q' 1 = (headsY y : Int) ∧ q' 2 = (tonsY X y : Int) ∧ (∀ j, 3 ≤ j → q' j = q j) ∧ ev xs (d + 1) mm_264 157 [some (.inr (.inr 256)), some (.inl v1), some (.inr (.inl v2)), u3, some (.inl 1), some (.inl 6)] [] (κ, gH D r g q ((y.1 : Int) - 1) ((y.2.1 : Int) - 1) ((y.2.2.1 : Int) - 1) ((y.2.2.2 : Int) - 1)) = ev xs (d + 1) mm_264 279 [some (.inr (.inr 256)), some (.inl v1), some (.inr (.inl v2)), u3, some (.inl 1), some (.inl 6)] [] (κ, gH D r g q' ((y.1 : Int) - 1) ((y.2.1 : Int) - 1) ((y.2.2.1 : Int) - 1) ((y.2.2.2 : Int) - 1)) := by
  have hp := hR.1; have hv := hR.2.1; have hv2 := hR.2.2.1; have hT := hR.2.2.2.2; have x1 := hX.1.1; have x2 := hX.2.1.1; have hk := k_256 hκ
  obtain ⟨y1, ⟨y2, y2'⟩, y3, y4⟩ := hy
  have m0 := tnP_le hX (s := 1) (by decide) y4
  have m1 := tnP_le hX (s := 1) (by decide) y3
  have m2 := tnP_le hX (s := 0) (by decide) y2'
  have m3 := tnP_le hX (s := 2) (by decide) y1
  refine ⟨fun j => if j = 2 then (tonsY X y : Int) else if j = 1 then (headsY y : Int) else if j = 0 then (endsY y : Int) else q j, rfl, rfl, rfl, fun j hj => ?_, ?_⟩
  · show (if j = 2 then _ else if j = 1 then _ else if j = 0 then _ else q j) = _
    rw [if_neg (by omega), if_neg (by omega), if_neg (by omega)]
  · have mid : ∀ s2 s3 : Int, w32 (s2 + s3) = (endsY y : Int) → ev xs (d + 1) mm_264 186 [some (.inr (.inr 256)), some (.inl v1), some (.inr (.inl v2)), u3, some (.inl 1), some (.inl 6)] [.inl s3, .inl s2, .inl 0, .inr (.inr 299)] (κ, gH D r g q ((y.1 : Int) - 1) ((y.2.1 : Int) - 1) ((y.2.2.1 : Int) - 1) ((y.2.2.2 : Int) - 1)) = ev xs (d + 1) mm_264 279 [some (.inr (.inr 256)), some (.inl v1), some (.inr (.inl v2)), u3, some (.inl 1), some (.inl 6)] [] (κ, gH D r g (fun j => if j = 2 then (tonsY X y : Int) else if j = 1 then (headsY y : Int) else if j = 0 then (endsY y : Int) else q j) ((y.1 : Int) - 1) ((y.2.1 : Int) - 1) ((y.2.2.1 : Int) - 1) ((y.2.2.2 : Int) - 1)) := by
      intro s2 s3 hs
      have tail : ∀ s2 : Int, s2 = (headsY y : Int) → ev xs (d + 1) mm_264 205 [some (.inr (.inr 256)), some (.inl v1), some (.inr (.inl v2)), u3, some (.inl 1), some (.inl 6)] [.inl s2, .inl 1, .inr (.inr 299)] (κ, gH D r g (fun j => if j = 0 then (endsY y : Int) else q j) ((y.1 : Int) - 1) ((y.2.1 : Int) - 1) ((y.2.2.1 : Int) - 1) ((y.2.2.2 : Int) - 1)) = ev xs (d + 1) mm_264 279 [some (.inr (.inr 256)), some (.inl v1), some (.inr (.inl v2)), u3, some (.inl 1), some (.inl 6)] [] (κ, gH D r g (fun j => if j = 2 then (tonsY X y : Int) else if j = 1 then (headsY y : Int) else if j = 0 then (endsY y : Int) else q j) ((y.1 : Int) - 1) ((y.2.1 : Int) - 1) ((y.2.2.1 : Int) - 1) ((y.2.2.2 : Int) - 1)) := by
        intro s2 h2
        subst h2
        have hRg := hR.same (gH_same (r := r) (q := fun j => if j = 1 then (headsY y : Int) else if j = 0 then (endsY y : Int) else q j) hg ((y.1 : Int) - 1) ((y.2.1 : Int) - 1) ((y.2.2.1 : Int) - 1) ((y.2.2.2 : Int) - 1))
        have a1 := tonsOfG xs d hκ hX hRg (s := 2) (by decide) y1
        have a2 := tonsOfG xs d hκ hX hRg (s := 0) (by decide) y2'
        have a3 := tonsOfG xs d hκ hX hRg (s := 1) (by decide) y3
        have a4 := tonsOfG xs d hκ hX hRg (s := 1) (by decide) y4
        simp only [Int.cast_ofNat_Int] at a1 a2 a3 a4
        have et : tnP X 2 y.1 + tnP X 0 y.2.1 + tnP X 1 y.2.2.1 + tnP X 1 y.2.2.2 = tonsY X y := rfl
        rw [q_264_205]
        simp (disch := omega) only [cond_true, cond_false, Bool.and_true, Int.toNat_natCast, Int.reduceToNat, bI_s, dT, dF, k_256 hκ, n_299 hκ, gH_66, gH_67, gH_68, gH_69, gH_o, pr_60 hp, gH_u299, a1, a2, a3, a4, w_ab, et]
      rw [q_264_186]
      by_cases h0 : y.1 = 0
      · have hh : headsY y = 0 := by unfold headsY; rw [if_pos h0]
        simp (disch := omega) only [cond_true, cond_false, Bool.and_true, Int.toNat_natCast, Int.reduceToNat, dT, dF, k_256 hκ, n_299 hκ, gH_66, gH_o, pr_60 hp, gH_u299, hs]
        exact tail 0 (by rw [hh]; rfl)
      · have hh : headsY y = 1 := by unfold headsY; rw [if_neg h0]
        simp (disch := omega) only [cond_true, cond_false, Bool.and_true, Int.toNat_natCast, Int.reduceToNat, dT, dF, k_256 hκ, n_299 hκ, gH_66, gH_o, pr_60 hp, gH_u299, hs]
        exact tail 1 (by rw [hh]; rfl)
    rw [q_264_157]
    by_cases h0 : y.2.2.1 = 0
    · by_cases h1 : y.2.2.2 = 0
      · simp (disch := omega) only [cond_true, cond_false, dT, dF, k_256 hκ, Int.reduceToNat, gH_68, gH_69, gH_o, pr_60 hp]
        exact mid 0 0 (by unfold endsY; rw [if_pos h0, if_pos h1]; rfl)
      · simp (disch := omega) only [cond_true, cond_false, dT, dF, k_256 hκ, Int.reduceToNat, gH_68, gH_69, gH_o, pr_60 hp]
        exact mid 0 1 (by unfold endsY; rw [if_pos h0, if_neg h1]; rfl)
    · by_cases h1 : y.2.2.2 = 0
      · simp (disch := omega) only [cond_true, cond_false, dT, dF, k_256 hκ, Int.reduceToNat, gH_68, gH_69, gH_o, pr_60 hp]
        exact mid 1 0 (by unfold endsY; rw [if_neg h0, if_pos h1]; rfl)
      · simp (disch := omega) only [cond_true, cond_false, dT, dF, k_256 hκ, Int.reduceToNat, gH_68, gH_69, gH_o, pr_60 hp]
        exact mid 1 1 (by unfold endsY; rw [if_neg h0, if_neg h1]; rfl)
