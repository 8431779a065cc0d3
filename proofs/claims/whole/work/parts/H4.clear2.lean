/-! The reference reads: the side is cleared: the run. -/
theorem r_clear (xs : List Int) (d : Nat) {κ : aK} {E : Nat → Nat → Int} (hκ : Shp κ) (hp : PtrR E) {v u : Nat} (hv : v < 2) (hu : u < 2) (hvu : u + v = 1) (e18 : E 256 18 = (v : Int)) (v1 : Int) : ∃ (E' : Nat → Nat → Int) (v2 : Int), ev xs d mm_204 50 [some (.inr (.inr 256)), some (.inl v1)] [] (κ, E) = ev xs d mm_204 206 [some (.inr (.inr 256)), some (.inl v2)] [] (κ, E') ∧ E' = aup (aup (aup (aup (aup (aup (aup (aup (aup (aup (aup (aup (aup (aup (aup (aup (aup E 256 12 0) 256 13 0) 256 15 0) 256 19 (u : Int)) 264 u 0) 267 u 0) 274 (3 * u + 0) 0) 274 (3 * u + 1) 0) 274 (3 * u + 2) 0) 277 u 0) 279 u 0) 283 u 0) 288 u 0) 256 47 ((130 * u : Nat) : Int)) 256 53 ((420 * u : Nat) : Int)) 289 u 0) 290 u 0 := by
  have k256 := k_256 hκ
  have ew : w32 (1 - (v : Int)) = (u : Int) := by rw [w32_id (by omega) (by omega)]; omega
  refine ⟨_, 3, ?_, rfl⟩
  rw [q_204_50]
  simp (disch := omega) only [cond_true, cond_false, Bool.and_true, Bool.true_and, Bool.and_false, Bool.false_and, Int.toNat_natCast, Int.reduceToNat, bI_s, bJ_s, bV_s, bR_s, decide_true, decide_false, not_true_eq_false, not_false_eq_true, dT, dF, w_al, w_la, w_ab, w_sl, w_sb, w_dec, w_ml, w_lm, ol2i_n, aup_ne, aupE, aupJ, setc_self, setc_ne, k256]
  rw [q_204_65]
  simp (disch := omega) only [cond_true, cond_false, Bool.and_true, Bool.true_and, Bool.and_false, Bool.false_and, Int.toNat_natCast, Int.reduceToNat, bI_s, bJ_s, bV_s, bR_s, decide_true, decide_false, not_true_eq_false, not_false_eq_true, dT, dF, w_al, w_la, w_ab, w_sl, w_sb, w_dec, w_ml, w_lm, ol2i_n, aup_ne, aupE, aupJ, setc_self, setc_ne, k256, pr_20 hp, pr_23 hp, e18, ew, n_264 hκ, n_267 hκ]
  rw [q_204_95, q_204_97]
  have w1 : w32 ((0 : Int) + 1) = 1 := by decide
  have w2 : w32 ((1 : Int) + 1) = 2 := by decide
  have w3 : w32 ((2 : Int) + 1) = 3 := by decide
  have j0 : w32 (((3 * u : Nat) : Int) + 0) = ((3 * u + 0 : Nat) : Int) := by rw [w32_id (by omega) (by omega)]; omega
  have j1 : w32 (((3 * u : Nat) : Int) + 1) = ((3 * u + 1 : Nat) : Int) := by rw [w32_id (by omega) (by omega)]; omega
  have j2 : w32 (((3 * u : Nat) : Int) + 2) = ((3 * u + 2 : Nat) : Int) := by rw [w32_id (by omega) (by omega)]; omega
  simp (disch := omega) only [cond_true, cond_false, Bool.and_true, Bool.true_and, Bool.and_false, Bool.false_and, Int.toNat_natCast, Int.reduceToNat, bI_s, bJ_s, bV_s, bR_s, decide_true, decide_false, not_true_eq_false, not_false_eq_true, dT, dF, w_al, w_la, w_ab, w_sl, w_sb, w_dec, w_ml, w_lm, ol2i_n, aup_ne, aupE, aupJ, setc_self, setc_ne, k256, pr_30 hp, j0, n_274 hκ, w1]
  rw [q_204_97]
  simp (disch := omega) only [cond_true, cond_false, Bool.and_true, Bool.true_and, Bool.and_false, Bool.false_and, Int.toNat_natCast, Int.reduceToNat, bI_s, bJ_s, bV_s, bR_s, decide_true, decide_false, not_true_eq_false, not_false_eq_true, dT, dF, w_al, w_la, w_ab, w_sl, w_sb, w_dec, w_ml, w_lm, ol2i_n, aup_ne, aupE, aupJ, setc_self, setc_ne, k256, pr_30 hp, j1, n_274 hκ, w2]
  rw [q_204_97]
  simp (disch := omega) only [cond_true, cond_false, Bool.and_true, Bool.true_and, Bool.and_false, Bool.false_and, Int.toNat_natCast, Int.reduceToNat, bI_s, bJ_s, bV_s, bR_s, decide_true, decide_false, not_true_eq_false, not_false_eq_true, dT, dF, w_al, w_la, w_ab, w_sl, w_sb, w_dec, w_ml, w_lm, ol2i_n, aup_ne, aupE, aupJ, setc_self, setc_ne, k256, pr_30 hp, j2, n_274 hκ, w3]
  rw [q_204_97]
  simp (disch := omega) only [cond_true, cond_false, Bool.and_true, Bool.true_and, Bool.and_false, Bool.false_and, Int.toNat_natCast, Int.reduceToNat, bI_s, bJ_s, bV_s, bR_s, decide_true, decide_false, not_true_eq_false, not_false_eq_true, dT, dF, w_al, w_la, w_ab, w_sl, w_sb, w_dec, w_ml, w_lm, ol2i_n, aup_ne, aupE, aupJ, setc_self, setc_ne, k256, pr_33 hp, pr_35 hp, n_277 hκ, n_279 hκ]
  rw [q_204_142]
  simp (disch := omega) only [cond_true, cond_false, Bool.and_true, Bool.true_and, Bool.and_false, Bool.false_and, Int.toNat_natCast, Int.reduceToNat, bI_s, bJ_s, bV_s, bR_s, decide_true, decide_false, not_true_eq_false, not_false_eq_true, dT, dF, w_al, w_la, w_ab, w_sl, w_sb, w_dec, w_ml, w_lm, ol2i_n, aup_ne, aupE, aupJ, setc_self, setc_ne, k256, pr_39 hp, pr_44 hp, n_283 hκ, n_288 hκ]
  rw [q_204_174]
  simp (disch := omega) only [cond_true, cond_false, Bool.and_true, Bool.true_and, Bool.and_false, Bool.false_and, Int.toNat_natCast, Int.reduceToNat, bI_s, bJ_s, bV_s, bR_s, decide_true, decide_false, not_true_eq_false, not_false_eq_true, dT, dF, w_al, w_la, w_ab, w_sl, w_sb, w_dec, w_ml, w_lm, ol2i_n, aup_ne, aupE, aupJ, setc_self, setc_ne, k256, pr_45 hp, pr_46 hp, n_289 hκ, n_290 hκ]
