/-! The reference reads: what stands on the side told now. -/
/-- stones, of a text -/
def V1 (D : Nat → Nat → Int) (v : Nat) (X : TX) : Prop := stAll D v (xns X) (xF X) (xT X) ∧ ∀ s, s < xns X → (∀ a, a ≤ 26 → rA D (7 * v + s) a = xA X s a) ∧ (∀ a, a ≤ 26 → rB D (7 * v + s) a = xB X s a)
theorem V1.congr {D D' : Nat → Nat → Int} {v : Nat} {X : TX} (h : V1 D v X) (hd : ∀ q, 266 ≤ q → q ≤ 273 → D' q = D q) (h1 : D' 256 18 = D 256 18) : V1 D' v X := by
  have hi := isbR_congr h1 (hd 266 (by omega) (by omega))
  unfold V1 stAll stOK rA rB at h ⊢
  simp only [hi, hd 267 (by omega) (by omega), hd 268 (by omega) (by omega), hd 269 (by omega) (by omega), hd 270 (by omega) (by omega), hd 271 (by omega) (by omega), hd 272 (by omega) (by omega), hd 273 (by omega) (by omega)]
  exact h
/-- what a code makes of a pile: none where it is broken -/
def opk (c : Int) : Nat := if c = 2 then 43 else if c = 3 then 45 else if c = 4 then 42 else 47
def rpn (C I : Nat → Int) (V : Nat → Int) : Nat → Nat → List Int → Option (Option (List Int))
  | 0, _, st => some (some st)
  | m + 1, p, st => if C p = 0 then rpn C I V m (p + 1) (I p :: st) else if C p = 1 then rpn C I V m (p + 1) (V (I p).toNat :: st) else match st with
    | y :: x :: r => match bop (opk (C p)) x y with
      | some z => rpn C I V m (p + 1) (z :: r)
      | none => some none
    | _ => none
/-- a stretch of code that reckons one thing -/
def seg (E : Nat → Nat → Int) (p q : Nat) (g : VF) : Prop := p ≤ q ∧ q ≤ p + 400 ∧ (∀ i, p ≤ i → i < q → 0 ≤ E 296 i ∧ E 296 i ≤ 5 ∧ (E 296 i = 1 → 0 ≤ E 297 i ∧ E 297 i < 6)) ∧ ∀ V, rpn (E 296) (E 297) V (q - p) p [] = some (match g V with
  | some x => some [x]
  | none => none)
def lwB (E : Nat → Nat → Int) : Nat → Nat → VF → Prop
  | 0, _, _ => False
  | n + 1, b, F => ∃ p0 p1 p2 p3 : Nat, (p3 ≤ 840 ∧ 420 * (b / 130) ≤ p0 ∧ p3 ≤ 420 * (b / 130) + 420) ∧ p0 ≤ p1 ∧ p1 ≤ p2 ∧ p2 ≤ p3 ∧ E 294 b = (p2 : Int) ∧ E 295 b = (p3 : Int) ∧ ((n = 0 ∧ E 291 b = 0 ∧ seg E p2 p3 F) ∨ (¬ n = 0 ∧ E 291 b = 1 ∧ E 292 b = (p0 : Int) ∧ E 293 b = (p1 : Int) ∧ ∃ f1 f2 f3 F' : VF, seg E p0 p1 f1 ∧ seg E p1 p2 f2 ∧ seg E p2 p3 f3 ∧ lwB E n (b + 1) F' ∧ F = fun V => match f1 V, f2 V with
      | some x, some y => if x < y then f3 V else F' V
      | _, _ => none))
/-- a law told, as the reference keeps it -/
def LwR (E : Nat → Nat → Int) (u : Nat) (X : TX) : Prop := (E 289 u = E 290 u ∧ xlaw X = fun V => V 2) ∨ ∃ (f n : Nat) (F : VF), f + n ≤ 130 ∧ 0 < n ∧ n ≤ 5 ∧ E 289 u = ((130 * u + f : Nat) : Int) ∧ E 290 u = ((130 * u + f + n : Nat) : Int) ∧ lwB E n (130 * u + f) F ∧ xlaw X = fun V => (F V).getD 0
theorem LwR.congr {E E' : Nat → Nat → Int} {u : Nat} {X X' : TX} (h : LwR E u X) (hd : ∀ q, 289 ≤ q → q ≤ 297 → E' q = E q) (e : xlaw X' = xlaw X) : LwR E' u X' := by
  have hl : ∀ n b F, lwB E n b F → lwB E' n b F := by
    intro n
    induction n with
    | zero => intro b F h; exact h
    | succ n ih =>
      intro b F h
      unfold lwB at h ⊢
      unfold seg at h ⊢
      rw [hd 291 (by omega) (by omega), hd 292 (by omega) (by omega), hd 293 (by omega) (by omega), hd 294 (by omega) (by omega), hd 295 (by omega) (by omega), hd 296 (by omega) (by omega), hd 297 (by omega) (by omega)]
      obtain ⟨p0, p1, p2, p3, a1, a2, a3, a4, a5, a6, h | ⟨b1, b2, b3, b4, f1, f2, f3, F', c1, c2, c3, c4, c5⟩⟩ := h
      · exact ⟨p0, p1, p2, p3, a1, a2, a3, a4, a5, a6, Or.inl h⟩
      · exact ⟨p0, p1, p2, p3, a1, a2, a3, a4, a5, a6, Or.inr ⟨b1, b2, b3, b4, f1, f2, f3, F', c1, c2, c3, ih _ _ c4, c5⟩⟩
  unfold LwR at h ⊢
  rw [hd 289 (by omega) (by omega), hd 290 (by omega) (by omega), e]
  rcases h with h | ⟨f, n, F, a1, a2, a3, a4, a5, a6, a7⟩
  · exact Or.inl h
  · exact Or.inr ⟨f, n, F, a1, a2, a3, a4, a5, hl _ _ _ a6, a7⟩
/-- classes, as the reference keeps them -/
def RlC (E : Nat → Nat → Int) (u : Nat) (Y : PY) : Prop := ∀ k, k < xnc Y.1 → E 265 (6 * u + k) = (p27 (Y.2.1 k) : Int) ∧ ∃ n : Nat, n < 2 ^ 27 ∧ E 266 (6 * u + k) = (n : Int) ∧ ∀ x, n.testBit x = decide (x ∈ Y.2.2 k)
/-- a stone's class is one told ahead -/
def RsC (E : Nat → Nat → Int) (u : Nat) (Y : PY) : Prop := ∀ s, s < xns Y.1 → (¬ E 270 (7 * u + s) = 0 → ¬ E 270 (7 * u + s) = 3 → ¬ E 270 (7 * u + s) = 1 → E 271 (7 * u + s) < (xnc Y.1 : Int)) ∧ (¬ E 272 (7 * u + s) = 0 → ¬ E 272 (7 * u + s) = 3 → ¬ E 272 (7 * u + s) = 1 → E 273 (7 * u + s) < (xnc Y.1 : Int))
def sid (E : Nat → Nat → Int) (u : Nat) : Nat → Nat → Int := aup E 256 18 (u : Int)
theorem sid_q {E : Nat → Nat → Int} {u q : Nat} (h : q ≠ 256) : sid E u q = E q := aupN h
theorem sid_18 (E : Nat → Nat → Int) (u : Nat) : sid E u 256 18 = (u : Int) := aupE ..
def RvY (E : Nat → Nat → Int) (u : Nat) (Y : PY) : Prop := TxV (sid E u) u Y.1 ∧ RlC E u Y ∧ RsC E u Y ∧ LwR E u Y.1
def RvC (E : Nat → Nat → Int) (u : Nat) (c : Nat → Nat) : Prop := E 264 u = (c 0 : Int) ∧ E 267 u = (c 1 : Int) ∧ (∀ s, s < 3 → E 274 (3 * u + s) = (c (6 + s) : Int)) ∧ E 277 u = (c 9 : Int) ∧ E 279 u = (c 10 : Int) ∧ E 283 u = (c 11 : Int) ∧ ∀ j, j < 12 → c j ≤ 10
theorem RvC.congr {E E' : Nat → Nat → Int} {u : Nat} {c : Nat → Nat} (h : RvC E u c) (hd : ∀ q, 264 ≤ q → q ≤ 283 → E' q = E q) : RvC E' u c := by
  unfold RvC at h ⊢
  rw [hd 264 (by omega) (by omega), hd 267 (by omega) (by omega), hd 274 (by omega) (by omega), hd 277 (by omega) (by omega), hd 279 (by omega) (by omega), hd 283 (by omega) (by omega)]
  exact h
theorem RvY.congr {E E' : Nat → Nat → Int} {u : Nat} {Y : PY} (h : RvY E u Y) (hd : ∀ q, 264 ≤ q → q ≤ 297 → E' q = E q) : RvY E' u Y := by
  obtain ⟨h1, h2, h3, h4⟩ := h
  refine ⟨h1.congr (fun q a b => by rw [sid_q (by omega), sid_q (by omega)]; exact hd q a (by omega)) (by rw [sid_18, sid_18]), fun k hk => ?_, fun s hs => ?_, h4.congr (fun q a b => hd q (by omega) b) rfl⟩
  · rw [hd 265 (by omega) (by omega), hd 266 (by omega) (by omega)]; exact h2 k hk
  · rw [hd 270 (by omega) (by omega), hd 271 (by omega) (by omega), hd 272 (by omega) (by omega), hd 273 (by omega) (by omega)]; exact h3 s hs
theorem Rq.cell {E E' : Nat → Nat → Int} (h : Rq E E') {q : Nat} (hq : q ≠ 256) : E' q = E q := h.1 q hq
/-- fields of the law's own telling stay -/
theorem Rq.f {E E' : Nat → Nat → Int} (h : Rq E E') {j : Nat} (hj : ¬ (j = 11 ∨ j = 13 ∨ j = 14 ∨ j = 15 ∨ j = 16)) : E' 256 j = E 256 j := h.2 j hj
/-- the side told now -/
def RsD (D : Nat → Nat → Int) (v u : Nat) : Prop := D 256 18 = (v : Int) ∧ D 256 19 = (u : Int) ∧ v < 2 ∧ u < 2 ∧ ¬ u = v
theorem RpS.side {D E : Nat → Nat → Int} {v u : Nat} {T : Nat → TK} {s w : SS} (h : RpS D E v T s w) (hs : RsD D v u) : E 256 19 = (u : Int) := by rw [h.1.2.1 19 (by decide)]; exact hs.2.1
/-- other tells' parts of a text stay: all but the cells told -/
theorem TxV.p1 {D D' : Nat → Nat → Int} {v : Nat} {X : TX} (h : TxV D v X) (hd : ∀ q, 266 ≤ q → q ≤ 273 → D' q = D q) (h1 : D' 256 18 = D 256 18) : V1 D' v X := V1.congr h.1 hd h1
/-! words -/
theorem rWord (xs : List Int) (d : Nat) {κ : aK} {D E : Nat → Nat → Int} {v u : Nat} (hκ : Shp κ) (hpD : PtrR D) {T : Nat → TK} (hT : TKok T) (hk : TkR D T) {a : Nat} {w : SS} (h : RpS D E v T (a, 0) w) (hs : RsD D v u) {c : Nat → Nat} (hc : RvC E u c) (hK : tkK (T a) = 137) (u1 : Option aV) : ∃ E', ev xs (d + 3) mm_208 142 [some (.inr (.inr 256)), u1] [] (κ, E) = some (none, (κ, E')) ∧ RpS D E' v T (rtG T c a) w ∧ ((rtG T c a).2 = 0 → RvC E' u (cnU c 137) ∧ (E' 256 47 = E 256 47 ∧ E' 256 53 = E 256 53 ∧ E' 256 12 = E 256 12) ∧ (∀ Y, YCn c Y → RvY E u Y → RvY E' u (mkW Y (tkN (T (a + 1)))))) := by
  have k256 := k_256 hκ
  obtain ⟨v1, v2, v3, v4, v5⟩ := hs
  obtain ⟨c0, c1, c6, c9, c10, c11, cb⟩ := hc
  have hc9 := cb 9 (by decide)
  have hp := h.1.ptr hpD
  have e19 : E 256 19 = (u : Int) := by rw [h.1.2.1 19 (by decide)]; exact v2
  have er : rtG T c a = mu T 59 (mu T 2 (fstG T 137 (c 9) 10 (a, 0))) := by
    unfold rtG
    rw [if_neg (by omega), if_neg (by omega), if_neg (by omega), if_neg (by omega), if_neg (by omega), if_pos hK]
  obtain ⟨E1, a1, a2, a3⟩ := r_room xs d hκ hpD hT hk h (fun _ => by show ¬ tkK (T a) = 0; omega) (has := c 9) (most := 10) hc9 (hh' := (c 9 : Int)) (mm := 10) rfl rfl
  have ef2 : fstG T 137 (c 9) 10 (a, 0) = (if ((a, 0) : SS).2 = 0 then (if 10 ≤ c 9 then (((a, 0) : SS).1, 2) else goG (a, 0)) else (a, 0)) := by
    unfold fstG
    rw [goG_mu (show tkK (T ((a, 0) : SS).1) = 137 from hK)]
  rw [← ef2] at a2
  obtain ⟨E2, b1, b2, b3⟩ := r_must xs d hκ hpD hT hk a2 (k := 2) (by decide) (by decide) (kk := 1) rfl
  obtain ⟨E3, d1, d2, d3⟩ := r_must xs d hκ hpD hT hk b2 (k := 59) (by decide) (by decide) (kk := 4) rfl
  rw [← er] at d2
  have rq := (a3.trans b3).trans d3
  have p33 := pr_33 hp
  rw [q_208_142]
  have h13 := d2.2.1
  obtain ⟨tt, tt1, tt2⟩ := a2.2.2.1
  by_cases hf : (rtG T c a).2 = 0
  · obtain ⟨z0, z1, z2, z3, z4⟩ := sh137 hK hf
    rw [z4] at d2 ⊢
    have hf1 : (fstG T 137 (c 9) 10 (a, 0)).2 = 0 := by
      have := hf
      rw [er] at this
      exact (mu_ok (mu_ok this).1).1
    have s1 := (fst_ok hf1).2.2.2
    rw [s1] at a2
    have e11 : E1 256 11 = ((a + 1 : Nat) : Int) := (a2.2.2.2.2 rfl).1
    have la1 : live T (a + 1) := (a2.2.2.2.2 rfl).2.2.1
    have hp3 := d2.1.ptr hpD
    have eN : E3 262 (a + 1) = (p27 (tkN (T (a + 1))) : Int) := ((d2.1.tk hk) (a + 1) (by omega) la1).2.2.2 z1
    have h13' : E3 256 13 = 0 := by have := d2.2.1; exact this
    have e19' : E3 256 19 = (u : Int) := (rq.f (by decide)).trans e19
    have e77 : E3 277 u = (c 9 : Int) := by rw [rq.cell (by decide)]; exact c9
    have ew : w32 (((10 * u : Nat) : Int) + (c 9 : Int)) = ((10 * u + c 9 : Nat) : Int) := by rw [w32_id (by omega) (by omega)]; omega
    refine ⟨aup (aup E3 278 (10 * u + c 9) (p27 (tkN (T (a + 1))) : Int)) 277 u ((c 9 + 1 : Nat) : Int), ?_, d2.fr ((d2.1.wr (by decide) (by decide) (by show ¬ (10 * u + c 9) / 10 = v; omega) _).wr (by decide) (by decide) (by show ¬ u / 1 = v; omega) _) (fun j _ => by rw [aupN (by decide), aupN (by decide)]), fun _ => ⟨?_, ⟨?_, ?_, ?_⟩, fun Y hY hR => ?_⟩⟩
    · simp (disch := omega) only [k256, p33, e19, n_277 hκ, c9, a1, b1, d1, h13', pr_34 hp3, pr_33 hp3, pr_8 hp3, e11, e19', e77, ew, n_278 hκ, n_262 hκ, eN, cond_true, cond_false, Bool.and_true, Bool.true_and, Bool.and_false, Bool.false_and, Int.toNat_natCast, Int.reduceToNat, bI_s, bJ_s, bV_s, bR_s, decide_true, decide_false, not_true_eq_false, not_false_eq_true, dT, dF, w_al, w_la, w_ab, w_sl, w_sb, w_dec, w_ml, w_lm, ol2i_n, aup_ne, aupE, aupJ, setc_self, setc_ne]
    · refine ⟨by simp (disch := omega) only [aup_ne]; rw [rq.cell (by decide), c0, cnU_n c (by decide)], by simp (disch := omega) only [aup_ne]; rw [rq.cell (by decide), c1, cnU_n c (by decide)], fun s hs => by simp (disch := omega) only [aup_ne]; rw [rq.cell (by decide), c6 s hs, cnU_n c (by omega)], by rw [aupE, cnU_s c rfl], by simp (disch := omega) only [aup_ne]; rw [rq.cell (by decide), c10, cnU_n c (by decide)], by simp (disch := omega) only [aup_ne]; rw [rq.cell (by decide), c11, cnU_n c (by decide)], fun j hj => ?_⟩
      by_cases e : j = 9
      · subst e; rw [cnU_s c rfl]; omega
      · rw [cnU_n c (by omega)]; exact cb j hj
    · rw [aupN (by decide), aupN (by decide), rq.f (by decide)]
    · rw [aupN (by decide), aupN (by decide), rq.f (by decide)]
    · rw [aupN (by decide), aupN (by decide), rq.f (by decide)]
    · obtain ⟨y0, y1, y6, y7, y8, y9, y10, y11⟩ := hY
      obtain ⟨r1, r2, r3, r4⟩ := hR
      have fr : ∀ q, q ≠ 256 → q ≠ 277 → q ≠ 278 → aup (aup E3 278 (10 * u + c 9) (p27 (tkN (T (a + 1))) : Int)) 277 u ((c 9 + 1 : Nat) : Int) q = E q := fun q q1 q2 q3 => by rw [aupN q2, aupN q3]; exact rq.cell q1
      have sf : ∀ q, q ≠ 256 → q ≠ 277 → q ≠ 278 → sid (aup (aup E3 278 (10 * u + c 9) (p27 (tkN (T (a + 1))) : Int)) 277 u ((c 9 + 1 : Nat) : Int)) u q = sid E u q := fun q q1 q2 q3 => by rw [sid_q q1, sid_q q1]; exact fr q q1 q2 q3
      obtain ⟨t1, t2, t3, t4, t5, t6, t7⟩ := r1
      refine ⟨⟨V1.congr t1 (fun q a b => sf q (by omega) (by omega) (by omega)) (by rw [sid_18, sid_18]), ⟨?_, fun w' hw' => ?_⟩, ?_, ?_, ?_, ?_, ?_⟩, fun k hk' => ?_, fun s hs' => ?_, r4.congr (fun q a b => fr q (by omega) (by omega) (by omega)) rfl⟩
      · rw [sid_q (by decide), aupE, y9]; rfl
      · have hw' : w' < xnw Y.1 + 1 := hw'
        rw [sid_q (by decide)]
        show _ = ((p27 (upf (xWd Y.1) (xnw Y.1) _ w') : Nat) : Int)
        by_cases e : w' = xnw Y.1
        · subst e
          rw [upf_s, ← y9]
          simp (disch := omega) only [aup_ne, aupE]
        · rw [upf_n e]
          simp (disch := omega) only [aup_ne, aupJ]
          rw [rq.cell (by decide), ← sid_q (E := E) (u := u) (show 278 ≠ 256 by decide)]
          exact t2.2 w' (by omega)
      · rw [sf 274 (by decide) (by decide) (by decide), sf 275 (by decide) (by decide) (by decide), sf 276 (by decide) (by decide) (by decide)]; exact t3
      · rw [sf 279 (by decide) (by decide) (by decide), sf 280 (by decide) (by decide) (by decide), sf 281 (by decide) (by decide) (by decide), sf 282 (by decide) (by decide) (by decide)]; exact t4
      · rw [sf 283 (by decide) (by decide) (by decide), sf 284 (by decide) (by decide) (by decide), sf 285 (by decide) (by decide) (by decide), sf 286 (by decide) (by decide) (by decide), sf 287 (by decide) (by decide) (by decide)]; exact t5
      · rw [sf 288 (by decide) (by decide) (by decide)]; exact t6
      · rw [sf 264 (by decide) (by decide) (by decide)]; exact t7
      · rw [fr 265 (by decide) (by decide) (by decide), fr 266 (by decide) (by decide) (by decide)]; exact r2 k hk'
      · rw [fr 270 (by decide) (by decide) (by decide), fr 271 (by decide) (by decide) (by decide), fr 272 (by decide) (by decide) (by decide), fr 273 (by decide) (by decide) (by decide)]; exact r3 s hs'
  · refine ⟨E3, ?_, d2, fun q => absurd q hf⟩
    simp (disch := omega) only [cond_true, cond_false, Bool.and_true, Bool.true_and, Bool.and_false, Bool.false_and, Int.toNat_natCast, Int.reduceToNat, bI_s, bJ_s, bV_s, bR_s, decide_true, decide_false, not_true_eq_false, not_false_eq_true, dT, dF, w_al, w_la, w_ab, w_sl, w_sb, w_dec, w_ml, w_lm, ol2i_n, aup_ne, aupE, aupJ, setc_self, setc_ne, k256, p33, e19, n_277 hκ, c9, a1, b1, d1, h13]
