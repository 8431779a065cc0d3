/-! The tape: feed, back, place. -/
theorem sh_eq (b : BitVec 32) {s : Nat} (hs : s ≤ 24) : (b >>> s).setWidth 8 = (b.sshiftRight s).setWidth 8 := by
  apply BitVec.eq_of_getLsbD_eq
  intro i hi
  rw [BitVec.getLsbD_setWidth, BitVec.getLsbD_setWidth, BitVec.getLsbD_ushiftRight, BitVec.getLsbD_sshiftRight]
  rw [decide_eq_true hi, decide_eq_false (show ¬ 32 ≤ i by omega), if_pos (show s + i < 32 by omega)]
  rfl
theorem by_eq (x : Int) {s : Nat} (hs : s ≤ 24) : oi2b (oushr x (s : Int)) = oi2b (oshr x (s : Int)) := by
  unfold oi2b oushr oshr
  rw [Int32.ofInt_toInt, Int32.ofInt_toInt]
  congr 2
  apply Int8.toBitVec_inj.mp
  rw [Int32.toBitVec_toInt8, Int32.toBitVec_toInt8]
  rw [Int32.toBitVec_shiftRight, show ∀ x y : BitVec 32, x.sshiftRight' y = x.sshiftRight y.toNat from fun _ _ => rfl, ofInt32_nat, sh_amt32 (by omega), BitVec.signExtend_eq_setWidth_of_le _ (by decide), BitVec.signExtend_eq_setWidth_of_le _ (by decide), ← sh_eq _ hs]
  congr 1
  show ((Int32.ofInt x).toUInt32 >>> ((Int32.ofNat s).toUInt32 &&& Int32.toUInt32 31)).toBitVec = _
  rw [UInt32.toBitVec_shiftRight]
  apply BitVec.eq_of_toNat_eq
  rw [BitVec.ushiftRight_eq', BitVec.toNat_ushiftRight, BitVec.toNat_ushiftRight]
  congr 1
  have := sh_amtu32 (b := s) (by omega)
  rw [BitVec.toNat_umod]
  exact this
def wr1 (f : Nat → Int) (n : Nat) (b : Int) : Nat → Int := fun j => if j = n then b else f j
def byB (x : Int) (s : Nat) : Int := oi2b (oi2b (oushr x (s : Int)))
def wr4 (f : Nat → Int) (n : Nat) (x : Int) : Nat → Int := wr1 (wr1 (wr1 (wr1 f n (byB x 24)) (n + 1) (byB x 16)) (n + 2) (byB x 8)) (n + 3) (byB x 0)
def tpD (D : Nat → Nat → Int) (c r : Nat) (k : Nat) (n : Nat) (f : Nat → Int) : Nat → Nat → Int := aup (setc D r f) c k (n : Int)
theorem tp_k (D : Nat → Nat → Int) (c r k n : Nat) (f : Nat → Int) : tpD D c r k n f c k = (n : Int) := aupE ..
theorem tp_r {D : Nat → Nat → Int} {c r k n : Nat} {f : Nat → Int} (h : r ≠ c) : tpD D c r k n f r = f := by unfold tpD; rw [aupN h, setc_self]
theorem tp_o {D : Nat → Nat → Int} {c r k n j : Nat} {f : Nat → Int} (h : r ≠ c) (hj : j ≠ k) : tpD D c r k n f c j = D c j := by unfold tpD; rw [aupJ hj, setc_ne (Ne.symm h)]
theorem tp_q {D : Nat → Nat → Int} {c r k n q : Nat} {f : Nat → Int} (h1 : q ≠ c) (h2 : q ≠ r) : tpD D c r k n f q = D q := by unfold tpD; rw [aupN h1, setc_ne h2]
theorem tp_put {D : Nat → Nat → Int} {c r k n : Nat} {f : Nat → Int} (h : r ≠ c) (b : Int) : aup (aup (tpD D c r k n f) r n b) c k ((n + 1 : Nat) : Int) = tpD D c r k (n + 1) (wr1 f n b) := by
  funext q j
  unfold tpD aup setc wr1
  by_cases h1 : q = c
  · subst h1
    by_cases h2 : j = k <;> simp [h2, Ne.symm h]
  · by_cases h2 : q = r
    · subst h2
      simp [h1]
    · simp [h1, h2]
theorem tp_id (D : Nat → Nat → Int) {c r k n : Nat} (hn : D c k = (n : Int)) : tpD D c r k n (D r) = D := by
  unfold tpD
  rw [setc_id]
  funext q j
  by_cases h1 : q = c
  · subst h1
    by_cases h2 : j = k
    · rw [h2, aupE, hn]
    · rw [aupJ h2]
  · rw [aupN h1]
theorem wm8 {a : Nat} (h : 8 ≤ a) (h2 : a < 1000) : w32 ((a : Int) + (-8)) = ((a - 8 : Nat) : Int) := by rw [w32_id (by omega) (by omega)]; omega
theorem cput_eq (xs : List Int) (d : Nat) {κ : aK} {D : Nat → Nat → Int} (hκ : Shp κ) (hc : CPtr D) {n : Nat} (hn : n + 4 ≤ 2000) (f : Nat → Int) (x : Int) : cl xs (d + 1) 128 [.inr (.inr 0), .inl x] (κ, tpD D 0 1 1 n f) = some (none, (κ, tpD D 0 1 1 (n + 4) (wr4 f n x))) := by
  have hk0 : aok κ 0 11 = true := kc_0 hκ
  have p0 := pc_0_0 hc
  have st : ∀ (m : Nat) (f : Nat → Int) (s : Nat), m < 2000 → ev xs d mm_128 3 [some (.inr (.inr 0)), some (.inl x), some (.inl (s : Int))] [] (κ, tpD D 0 1 1 m f) = ev xs d mm_128 3 [some (.inr (.inr 0)), some (.inl x), some (.inl (w32 ((s : Int) + (-8))))] [] (κ, tpD D 0 1 1 (m + 1) (wr1 f m (byB x s))) := by
    intro m f s hm
    have tpp := tp_put (D := D) (c := 0) (r := 1) (k := 1) (n := m) (f := f) (by decide) (byB x s)
    have e1 : oi2b (oi2b (oushr x (s : Int))) = byB x s := rfl
    rw [q_128_3]
    simp (disch := omega) only [cond_true, cond_false, Bool.and_true, Bool.true_and, Bool.and_false, Bool.false_and, Int.toNat_natCast, Int.reduceToNat, bI_s, bJ_s, bV_s, bR_s, decide_true, decide_false, not_true_eq_false, not_false_eq_true, dT, dF, w_al, w_la, w_ab, w_sl, w_sb, w_dec, w_ml, w_lm, ol2i_n, aup_ne, aupE, aupJ, setc_self, setc_ne, kc_1 hκ, nc_1 hκ, hk0, tp_k, tp_o, p0, e1, tpp]
  rw [c_128]
  have s1 := st n f 24 (by omega)
  have s2 := st (n + 1) (wr1 f n (byB x 24)) 16 (by omega)
  have s3 := st (n + 2) (wr1 (wr1 f n (byB x 24)) (n + 1) (byB x 16)) 8 (by omega)
  have s4 := st (n + 3) (wr1 (wr1 (wr1 f n (byB x 24)) (n + 1) (byB x 16)) (n + 2) (byB x 8)) 0 (by omega)
  refine (show _ = _ from s1).trans ((show _ = _ from s2).trans ((show _ = _ from s3).trans ((show _ = _ from s4).trans ?_)))
  rw [q_128_3]
  rfl
theorem rput_eq (xs : List Int) (d : Nat) {κ : aK} {D : Nat → Nat → Int} (hκ : Shp κ) (hp : PtrR D) {n : Nat} (hn : n + 4 ≤ 2000) (f : Nat → Int) (x : Int) : cl xs (d + 1) 189 [.inr (.inr 256), .inl x] (κ, tpD D 256 257 2 n f) = some (none, (κ, tpD D 256 257 2 (n + 4) (wr4 f n x))) := by
  have hk := k_256 hκ
  have p1 := pr_1 hp
  have st : ∀ (m : Nat) (f : Nat → Int) (s : Nat), m < 2000 → s ≤ 24 → ev xs d mm_189 3 [some (.inr (.inr 256)), some (.inl x), some (.inl (s : Int))] [] (κ, tpD D 256 257 2 m f) = ev xs d mm_189 3 [some (.inr (.inr 256)), some (.inl x), some (.inl (w32 ((s : Int) + (-8))))] [] (κ, tpD D 256 257 2 (m + 1) (wr1 f m (byB x s))) := by
    intro m f s hm hs
    have tpp := tp_put (D := D) (c := 256) (r := 257) (k := 2) (n := m) (f := f) (by decide) (byB x s)
    have e1 : oi2b (oi2b (oshr x (s : Int))) = byB x s := by unfold byB; rw [by_eq x hs]
    rw [q_189_3]
    simp (disch := omega) only [cond_true, cond_false, Bool.and_true, Bool.true_and, Bool.and_false, Bool.false_and, Int.toNat_natCast, Int.reduceToNat, bI_s, bJ_s, bV_s, bR_s, decide_true, decide_false, not_true_eq_false, not_false_eq_true, dT, dF, w_al, w_la, w_ab, w_sl, w_sb, w_dec, w_ml, w_lm, ol2i_n, aup_ne, aupE, aupJ, setc_self, setc_ne, k_256 hκ, n_257 hκ, n_258 hκ, n_259 hκ, n_260 hκ, n_261 hκ, n_262 hκ, n_263 hκ, n_264 hκ, n_265 hκ, n_266 hκ, n_267 hκ, n_268 hκ, n_269 hκ, n_270 hκ, n_271 hκ, n_272 hκ, n_273 hκ, n_274 hκ, n_275 hκ, n_276 hκ, n_277 hκ, n_278 hκ, n_279 hκ, n_280 hκ, n_281 hκ, n_282 hκ, n_283 hκ, n_284 hκ, n_285 hκ, n_286 hκ, n_287 hκ, n_288 hκ, n_289 hκ, n_290 hκ, n_291 hκ, n_292 hκ, n_293 hκ, n_294 hκ, n_295 hκ, n_296 hκ, n_297 hκ, n_298 hκ, n_299 hκ, n_300 hκ, n_301 hκ, n_302 hκ, n_303 hκ, n_304 hκ, n_305 hκ, n_306 hκ, n_307 hκ, n_308 hκ, n_309 hκ, n_310 hκ, n_311 hκ, n_312 hκ, n_313 hκ, n_314 hκ, tp_k, tp_o, p1, e1, tpp]
  rw [c_189]
  have s1 := st n f 24 (by omega) (by omega)
  have s2 := st (n + 1) (wr1 f n (byB x 24)) 16 (by omega) (by omega)
  have s3 := st (n + 2) (wr1 (wr1 f n (byB x 24)) (n + 1) (byB x 16)) 8 (by omega) (by omega)
  have s4 := st (n + 3) (wr1 (wr1 (wr1 f n (byB x 24)) (n + 1) (byB x 16)) (n + 2) (byB x 8)) 0 (by omega) (by omega)
  refine (show _ = _ from s1).trans ((show _ = _ from s2).trans ((show _ = _ from s3).trans ((show _ = _ from s4).trans ?_)))
  rw [q_189_3]
  rfl
/-- the tape on both sides -/
def TpI (D : Nat → Nat → Int) (n : Nat) (f : Nat → Int) : Prop := n ≤ 2000 ∧ D 0 1 = (n : Int) ∧ D 256 2 = (n : Int) ∧ ∀ j, j < n → D 1 j = f j ∧ D 257 j = f j
def wr20 (f : Nat → Int) (n : Nat) (a b c e g : Int) : Nat → Int := wr4 (wr4 (wr4 (wr4 (wr4 f n a) (n + 4) b) (n + 8) c) (n + 12) e) (n + 16) g
theorem cfeed (xs : List Int) (d : Nat) {κ : aK} {D : Nat → Nat → Int} (hκ : Shp κ) (hc : CPtr D) {n : Nat} (hn : D 0 1 = (n : Int)) (hn2 : n ≤ 2000) (a b c e g : Int) : cl xs (d + 2) 127 [.inr (.inr 0), .inl a, .inl b, .inl c, .inl e, .inl g] (κ, D) = (if n + 20 ≤ 2000 then some (some (.inl ((n + 20 : Nat) : Int)), (κ, tpD D 0 1 1 (n + 20) (wr20 (D 1) n a b c e g))) else some (some (.inl (-1)), (κ, D))) := by
  have hk0 : aok κ 0 11 = true := kc_0 hκ
  rw [c_127]
  by_cases h : n + 20 ≤ 2000
  · rw [if_pos h]
    have p1 := cput_eq xs d hκ hc (n := n) (by omega) (D 1) a
    have p2 := cput_eq xs d hκ hc (n := n + 4) (by omega) (wr4 (D 1) n a) b
    have p3 := cput_eq xs d hκ hc (n := n + 8) (by omega) (wr4 (wr4 (D 1) n a) (n + 4) b) c
    have p4 := cput_eq xs d hκ hc (n := n + 12) (by omega) (wr4 (wr4 (wr4 (D 1) n a) (n + 4) b) (n + 8) c) e
    have p5 := cput_eq xs d hκ hc (n := n + 16) (by omega) (wr4 (wr4 (wr4 (wr4 (D 1) n a) (n + 4) b) (n + 8) c) (n + 12) e) g
    rw [tp_id D hn] at p1
    simp (disch := omega) only [cond_true, cond_false, Bool.and_true, Bool.true_and, Bool.and_false, Bool.false_and, Int.toNat_natCast, Int.reduceToNat, bI_s, bJ_s, bV_s, bR_s, decide_true, decide_false, not_true_eq_false, not_false_eq_true, dT, dF, w_al, w_la, w_ab, w_sl, w_sb, w_dec, w_ml, w_lm, ol2i_n, aup_ne, aupE, aupJ, setc_self, setc_ne, hk0, hn, p1, p2, p3, p4, p5, tp_k]
    rfl
  · rw [if_neg h]
    simp (disch := omega) only [cond_true, cond_false, Bool.and_true, Bool.true_and, Bool.and_false, Bool.false_and, Int.toNat_natCast, Int.reduceToNat, bI_s, bJ_s, bV_s, bR_s, decide_true, decide_false, not_true_eq_false, not_false_eq_true, dT, dF, w_al, w_la, w_ab, w_sl, w_sb, w_dec, w_ml, w_lm, ol2i_n, aup_ne, aupE, aupJ, setc_self, setc_ne, hk0, hn]
theorem rfeed (xs : List Int) (d : Nat) {κ : aK} {D : Nat → Nat → Int} (hκ : Shp κ) (hp : PtrR D) {n : Nat} (hn : D 256 2 = (n : Int)) (hn2 : n ≤ 2000) (a b c e g : Int) : cl xs (d + 2) 188 [.inr (.inr 256), .inl a, .inl b, .inl c, .inl e, .inl g] (κ, D) = (if n + 20 ≤ 2000 then some (some (.inl ((n + 20 : Nat) : Int)), (κ, tpD D 256 257 2 (n + 20) (wr20 (D 257) n a b c e g))) else some (some (.inl (-1)), (κ, D))) := by
  have hk := k_256 hκ
  rw [c_188]
  by_cases h : n + 20 ≤ 2000
  · rw [if_pos h]
    have p1 := rput_eq xs d hκ hp (n := n) (by omega) (D 257) a
    have p2 := rput_eq xs d hκ hp (n := n + 4) (by omega) (wr4 (D 257) n a) b
    have p3 := rput_eq xs d hκ hp (n := n + 8) (by omega) (wr4 (wr4 (D 257) n a) (n + 4) b) c
    have p4 := rput_eq xs d hκ hp (n := n + 12) (by omega) (wr4 (wr4 (wr4 (D 257) n a) (n + 4) b) (n + 8) c) e
    have p5 := rput_eq xs d hκ hp (n := n + 16) (by omega) (wr4 (wr4 (wr4 (wr4 (D 257) n a) (n + 4) b) (n + 8) c) (n + 12) e) g
    rw [tp_id D hn] at p1
    simp (disch := omega) only [cond_true, cond_false, Bool.and_true, Bool.true_and, Bool.and_false, Bool.false_and, Int.toNat_natCast, Int.reduceToNat, bI_s, bJ_s, bV_s, bR_s, decide_true, decide_false, not_true_eq_false, not_false_eq_true, dT, dF, w_al, w_la, w_ab, w_sl, w_sb, w_dec, w_ml, w_lm, ol2i_n, aup_ne, aupE, aupJ, setc_self, setc_ne, k_256 hκ, n_257 hκ, n_258 hκ, n_259 hκ, n_260 hκ, n_261 hκ, n_262 hκ, n_263 hκ, n_264 hκ, n_265 hκ, n_266 hκ, n_267 hκ, n_268 hκ, n_269 hκ, n_270 hκ, n_271 hκ, n_272 hκ, n_273 hκ, n_274 hκ, n_275 hκ, n_276 hκ, n_277 hκ, n_278 hκ, n_279 hκ, n_280 hκ, n_281 hκ, n_282 hκ, n_283 hκ, n_284 hκ, n_285 hκ, n_286 hκ, n_287 hκ, n_288 hκ, n_289 hκ, n_290 hκ, n_291 hκ, n_292 hκ, n_293 hκ, n_294 hκ, n_295 hκ, n_296 hκ, n_297 hκ, n_298 hκ, n_299 hκ, n_300 hκ, n_301 hκ, n_302 hκ, n_303 hκ, n_304 hκ, n_305 hκ, n_306 hκ, n_307 hκ, n_308 hκ, n_309 hκ, n_310 hκ, n_311 hκ, n_312 hκ, n_313 hκ, n_314 hκ, hn, p1, p2, p3, p4, p5, tp_k]
    rfl
  · rw [if_neg h]
    simp (disch := omega) only [cond_true, cond_false, Bool.and_true, Bool.true_and, Bool.and_false, Bool.false_and, Int.toNat_natCast, Int.reduceToNat, bI_s, bJ_s, bV_s, bR_s, decide_true, decide_false, not_true_eq_false, not_false_eq_true, dT, dF, w_al, w_la, w_ab, w_sl, w_sb, w_dec, w_ml, w_lm, ol2i_n, aup_ne, aupE, aupJ, setc_self, setc_ne, k_256 hκ, n_257 hκ, n_258 hκ, n_259 hκ, n_260 hκ, n_261 hκ, n_262 hκ, n_263 hκ, n_264 hκ, n_265 hκ, n_266 hκ, n_267 hκ, n_268 hκ, n_269 hκ, n_270 hκ, n_271 hκ, n_272 hκ, n_273 hκ, n_274 hκ, n_275 hκ, n_276 hκ, n_277 hκ, n_278 hκ, n_279 hκ, n_280 hκ, n_281 hκ, n_282 hκ, n_283 hκ, n_284 hκ, n_285 hκ, n_286 hκ, n_287 hκ, n_288 hκ, n_289 hκ, n_290 hκ, n_291 hκ, n_292 hκ, n_293 hκ, n_294 hκ, n_295 hκ, n_296 hκ, n_297 hκ, n_298 hκ, n_299 hκ, n_300 hκ, n_301 hκ, n_302 hκ, n_303 hκ, n_304 hκ, n_305 hκ, n_306 hκ, n_307 hκ, n_308 hκ, n_309 hκ, n_310 hκ, n_311 hκ, n_312 hκ, n_313 hκ, n_314 hκ, hn]
theorem cback (xs : List Int) (d : Nat) {κ : aK} {D : Nat → Nat → Int} (hκ : Shp κ) {n : Nat} (hn : D 0 1 = (n : Int)) (hn2 : n ≤ 2000) (k : Int) : cl xs (d + 1) 129 [.inr (.inr 0), .inl k] (κ, D) = (if 0 ≤ k ∧ k ≤ (n : Int) then some (some (.inl ((n - k.toNat : Nat) : Int)), (κ, aup D 0 1 ((n - k.toNat : Nat) : Int))) else some (some (.inl (-1)), (κ, D))) := by
  have hk0 : aok κ 0 11 = true := kc_0 hκ
  rw [c_129]
  by_cases h : 0 ≤ k ∧ k ≤ (n : Int)
  · rw [if_pos h]
    obtain ⟨k, rfl⟩ := Int.eq_ofNat_of_zero_le h.1
    simp (disch := omega) only [cond_true, cond_false, Bool.and_true, Bool.true_and, Bool.and_false, Bool.false_and, Int.toNat_natCast, Int.reduceToNat, bI_s, bJ_s, bV_s, bR_s, decide_true, decide_false, not_true_eq_false, not_false_eq_true, dT, dF, w_al, w_la, w_ab, w_sl, w_sb, w_dec, w_ml, w_lm, ol2i_n, aup_ne, aupE, aupJ, setc_self, setc_ne, hk0, hn]
  · rw [if_neg h]
    by_cases h1 : k < 0
    · simp (disch := omega) only [cond_true, cond_false, Bool.and_true, Bool.true_and, Bool.and_false, Bool.false_and, Int.toNat_natCast, Int.reduceToNat, bI_s, bJ_s, bV_s, bR_s, decide_true, decide_false, not_true_eq_false, not_false_eq_true, dT, dF, w_al, w_la, w_ab, w_sl, w_sb, w_dec, w_ml, w_lm, ol2i_n, aup_ne, aupE, aupJ, setc_self, setc_ne]
    · simp (disch := omega) only [cond_true, cond_false, Bool.and_true, Bool.true_and, Bool.and_false, Bool.false_and, Int.toNat_natCast, Int.reduceToNat, bI_s, bJ_s, bV_s, bR_s, decide_true, decide_false, not_true_eq_false, not_false_eq_true, dT, dF, w_al, w_la, w_ab, w_sl, w_sb, w_dec, w_ml, w_lm, ol2i_n, aup_ne, aupE, aupJ, setc_self, setc_ne, hk0, hn]
theorem rback (xs : List Int) (d : Nat) {κ : aK} {D : Nat → Nat → Int} (hκ : Shp κ) {n : Nat} (hn : D 256 2 = (n : Int)) (hn2 : n ≤ 2000) (k : Int) : cl xs (d + 1) 190 [.inr (.inr 256), .inl k] (κ, D) = (if 0 ≤ k ∧ k ≤ (n : Int) then some (some (.inl ((n - k.toNat : Nat) : Int)), (κ, aup D 256 2 ((n - k.toNat : Nat) : Int))) else some (some (.inl (-1)), (κ, D))) := by
  have hk := k_256 hκ
  rw [c_190]
  by_cases h : 0 ≤ k ∧ k ≤ (n : Int)
  · rw [if_pos h]
    obtain ⟨k, rfl⟩ := Int.eq_ofNat_of_zero_le h.1
    simp (disch := omega) only [cond_true, cond_false, Bool.and_true, Bool.true_and, Bool.and_false, Bool.false_and, Int.toNat_natCast, Int.reduceToNat, bI_s, bJ_s, bV_s, bR_s, decide_true, decide_false, not_true_eq_false, not_false_eq_true, dT, dF, w_al, w_la, w_ab, w_sl, w_sb, w_dec, w_ml, w_lm, ol2i_n, aup_ne, aupE, aupJ, setc_self, setc_ne, k_256 hκ, n_257 hκ, n_258 hκ, n_259 hκ, n_260 hκ, n_261 hκ, n_262 hκ, n_263 hκ, n_264 hκ, n_265 hκ, n_266 hκ, n_267 hκ, n_268 hκ, n_269 hκ, n_270 hκ, n_271 hκ, n_272 hκ, n_273 hκ, n_274 hκ, n_275 hκ, n_276 hκ, n_277 hκ, n_278 hκ, n_279 hκ, n_280 hκ, n_281 hκ, n_282 hκ, n_283 hκ, n_284 hκ, n_285 hκ, n_286 hκ, n_287 hκ, n_288 hκ, n_289 hκ, n_290 hκ, n_291 hκ, n_292 hκ, n_293 hκ, n_294 hκ, n_295 hκ, n_296 hκ, n_297 hκ, n_298 hκ, n_299 hκ, n_300 hκ, n_301 hκ, n_302 hκ, n_303 hκ, n_304 hκ, n_305 hκ, n_306 hκ, n_307 hκ, n_308 hκ, n_309 hκ, n_310 hκ, n_311 hκ, n_312 hκ, n_313 hκ, n_314 hκ, hn]
  · rw [if_neg h]
    by_cases h1 : k < 0
    · simp (disch := omega) only [cond_true, cond_false, Bool.and_true, Bool.true_and, Bool.and_false, Bool.false_and, Int.toNat_natCast, Int.reduceToNat, bI_s, bJ_s, bV_s, bR_s, decide_true, decide_false, not_true_eq_false, not_false_eq_true, dT, dF, w_al, w_la, w_ab, w_sl, w_sb, w_dec, w_ml, w_lm, ol2i_n, aup_ne, aupE, aupJ, setc_self, setc_ne]
    · simp (disch := omega) only [cond_true, cond_false, Bool.and_true, Bool.true_and, Bool.and_false, Bool.false_and, Int.toNat_natCast, Int.reduceToNat, bI_s, bJ_s, bV_s, bR_s, decide_true, decide_false, not_true_eq_false, not_false_eq_true, dT, dF, w_al, w_la, w_ab, w_sl, w_sb, w_dec, w_ml, w_lm, ol2i_n, aup_ne, aupE, aupJ, setc_self, setc_ne, k_256 hκ, n_257 hκ, n_258 hκ, n_259 hκ, n_260 hκ, n_261 hκ, n_262 hκ, n_263 hκ, n_264 hκ, n_265 hκ, n_266 hκ, n_267 hκ, n_268 hκ, n_269 hκ, n_270 hκ, n_271 hκ, n_272 hκ, n_273 hκ, n_274 hκ, n_275 hκ, n_276 hκ, n_277 hκ, n_278 hκ, n_279 hκ, n_280 hκ, n_281 hκ, n_282 hκ, n_283 hκ, n_284 hκ, n_285 hκ, n_286 hκ, n_287 hκ, n_288 hκ, n_289 hκ, n_290 hκ, n_291 hκ, n_292 hκ, n_293 hκ, n_294 hκ, n_295 hκ, n_296 hκ, n_297 hκ, n_298 hκ, n_299 hκ, n_300 hκ, n_301 hκ, n_302 hκ, n_303 hκ, n_304 hκ, n_305 hκ, n_306 hκ, n_307 hκ, n_308 hκ, n_309 hκ, n_310 hκ, n_311 hκ, n_312 hκ, n_313 hκ, n_314 hκ, hn]
theorem cplace (xs : List Int) (d : Nat) {κ : aK} {D : Nat → Nat → Int} (hκ : Shp κ) : cl xs (d + 1) 134 [.inr (.inr 0)] (κ, D) = some (some (.inl (D 0 2)), (κ, D)) := by
  have hk0 : aok κ 0 11 = true := kc_0 hκ
  rw [c_134]
  simp (disch := omega) only [cond_true, cond_false, Bool.and_true, Bool.true_and, Bool.and_false, Bool.false_and, Int.toNat_natCast, Int.reduceToNat, bI_s, bJ_s, bV_s, bR_s, decide_true, decide_false, not_true_eq_false, not_false_eq_true, dT, dF, w_al, w_la, w_ab, w_sl, w_sb, w_dec, w_ml, w_lm, ol2i_n, aup_ne, aupE, aupJ, setc_self, setc_ne, hk0]
theorem rplace (xs : List Int) (d : Nat) {κ : aK} {D : Nat → Nat → Int} (hκ : Shp κ) : cl xs (d + 1) 205 [.inr (.inr 256)] (κ, D) = some (some (.inl (D 256 17)), (κ, D)) := by
  have hk := k_256 hκ
  rw [c_205]
  simp (disch := omega) only [cond_true, cond_false, Bool.and_true, Bool.true_and, Bool.and_false, Bool.false_and, Int.toNat_natCast, Int.reduceToNat, bI_s, bJ_s, bV_s, bR_s, decide_true, decide_false, not_true_eq_false, not_false_eq_true, dT, dF, w_al, w_la, w_ab, w_sl, w_sb, w_dec, w_ml, w_lm, ol2i_n, aup_ne, aupE, aupJ, setc_self, setc_ne, k_256 hκ, n_257 hκ, n_258 hκ, n_259 hκ, n_260 hκ, n_261 hκ, n_262 hκ, n_263 hκ, n_264 hκ, n_265 hκ, n_266 hκ, n_267 hκ, n_268 hκ, n_269 hκ, n_270 hκ, n_271 hκ, n_272 hκ, n_273 hκ, n_274 hκ, n_275 hκ, n_276 hκ, n_277 hκ, n_278 hκ, n_279 hκ, n_280 hκ, n_281 hκ, n_282 hκ, n_283 hκ, n_284 hκ, n_285 hκ, n_286 hκ, n_287 hκ, n_288 hκ, n_289 hκ, n_290 hκ, n_291 hκ, n_292 hκ, n_293 hκ, n_294 hκ, n_295 hκ, n_296 hκ, n_297 hκ, n_298 hκ, n_299 hκ, n_300 hκ, n_301 hκ, n_302 hκ, n_303 hκ, n_304 hκ, n_305 hκ, n_306 hκ, n_307 hκ, n_308 hκ, n_309 hκ, n_310 hκ, n_311 hκ, n_312 hκ, n_313 hκ, n_314 hκ]
