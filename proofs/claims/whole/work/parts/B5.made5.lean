/-! Made: the class's command. -/
def KLe (κ κ' : aK) : Prop := κ.1 ≤ κ'.1 ∧ (∀ q, q < κ.1 → κ'.2.2 q = κ.2.2 q) ∧ 2 * κ'.1 + κ.2.1 ≤ 2 * κ.1 + κ'.2.1
theorem KLe.rfl' (κ : aK) : KLe κ κ := ⟨Nat.le_refl _, fun _ _ => rfl, Nat.le_refl _⟩
theorem KLe.trans {κ κ1 κ2 : aK} (h1 : KLe κ κ1) (h2 : KLe κ1 κ2) : KLe κ κ2 := ⟨Nat.le_trans h1.1 h2.1, fun q hq => (h2.2.1 q (Nat.lt_of_lt_of_le hq h1.1)).trans (h1.2.1 q hq), by have a1 := h1.2.2; have a2 := h2.2.2; omega⟩
theorem KLe.shp {κ κ' : aK} (h : KLe κ κ') (hκ : Shp κ) : Shp κ' := fun r hr => ⟨Nat.lt_of_lt_of_le (hκ r hr).1 h.1, (h.2.1 r (hκ r hr).1).trans (hκ r hr).2⟩
theorem KLe.mdk {κ κ' : aK} {a b : Nat} (h : KLe κ κ') (hK : MdK κ a b) : MdK κ' a b := ⟨⟨Nat.lt_of_lt_of_le hK.1.1 h.1, (h.2.1 a hK.1.1).trans hK.1.2⟩, ⟨Nat.lt_of_lt_of_le hK.2.1.1 h.1, (h.2.1 b hK.2.1.1).trans hK.2.1.2⟩, hK.2.2⟩
theorem aoa_g {κ : aK} {r c n : Nat} (h1 : r < κ.1) (h2 : κ.2.2 r = (c, n)) (hc : 100 ≤ c) : aoa κ ((r : Nat) : Int) = true := by
  unfold aoa
  rw [Int.toNat_natCast, h2]
  simp only [Bool.and_eq_true, decide_eq_true_eq]
  exact ⟨by omega, h1, Nat.ble_eq.mpr hc⟩
theorem aln_g {κ : aK} {r c n : Nat} (h2 : κ.2.2 r = (c, n)) : aln κ ((r : Nat) : Int) = n := by
  unfold aln
  rw [Int.toNat_natCast, h2]
theorem fillL_loop (xs : List Int) (d : Nat) {κ : aK} {D : Nat → Nat → Int} {r : Nat} {n : Nat} (hr : r < κ.1) (hk : κ.2.2 r = (101, n)) (hn : n < 100000) (x : Int) : ∀ (m k : Nat) (u2 : Option aV), k + m = n → ev xs d mm_317 6 [some (.inr (.inr (r : Int))), some (.inr (.inl x)), u2, some (.inl (k : Int)), some (.inl (n : Int))] [] (κ, setc D r (cpn k (fun _ => x) (D r))) = some (none, (κ, setc D r (cpn n (fun _ => x) (D r)))) := by
  intro m
  induction m with
  | zero =>
    intro k u2 h
    rw [q_317_6, show k = n by omega]
    simp (disch := omega) only [cond_true, cond_false, Bool.and_true, Bool.true_and, Bool.and_false, Bool.false_and, Int.toNat_natCast, Int.reduceToNat, bI_s, bJ_s, bV_s, bR_s, decide_true, decide_false, not_true_eq_false, not_false_eq_true, dT, dF, w_al, w_la, w_ab, w_sl, w_sb, w_dec, w_ml, w_lm, ol2i_n, aup_ne, aupE, aupJ, setc_self, setc_ne]
  | succ m ih =>
    intro k u2 h
    have e := cpn_step k (fun _ => x) (D r)
    have hn' : ain κ (r : Int) 101 (k : Int) = true := ain_t r k rfl rfl hr hk (by omega)
    rw [q_317_6]
    simp (disch := omega) only [cond_true, cond_false, Bool.and_true, Bool.true_and, Bool.and_false, Bool.false_and, Int.toNat_natCast, Int.reduceToNat, bI_s, bJ_s, bV_s, bR_s, decide_true, decide_false, not_true_eq_false, not_false_eq_true, dT, dF, w_al, w_la, w_ab, w_sl, w_sb, w_dec, w_ml, w_lm, ol2i_n, aup_ne, aupE, aupJ, setc_self, setc_ne, hn', aup_setc, e, ih (k + 1) _ (by omega)]
theorem fillL_eq (xs : List Int) (d : Nat) {κ : aK} {D : Nat → Nat → Int} {r : Nat} {n : Nat} (hr : r < κ.1) (hk : κ.2.2 r = (101, n)) (hn : n < 100000) (x : Int) : cl xs (d + 1) 317 [.inr (.inr (r : Int)), .inr (.inl x)] (κ, D) = some (none, (κ, setc D r (cpn n (fun _ => x) (D r)))) := by
  have e := fillL_loop xs d (D := D) hr hk hn x n 0 none (by omega)
  rw [cpn_zero, setc_id] at e
  rw [c_317]
  simp (disch := omega) only [cond_true, cond_false, Bool.and_true, Bool.true_and, Bool.and_false, Bool.false_and, Int.toNat_natCast, Int.reduceToNat, bI_s, bJ_s, bV_s, bR_s, decide_true, decide_false, not_true_eq_false, not_false_eq_true, dT, dF, w_al, w_la, w_ab, w_sl, w_sb, w_dec, w_ml, w_lm, ol2i_n, aup_ne, aupE, aupJ, setc_self, setc_ne, aoa_g hr hk (by decide), aln_g hk]
  exact e
theorem mall_eq (X : TX) (n : Nat) : ((List.range' 0 (xnp X 2 + 1)).flatMap (mHe X n)).reverse ++ [] = (mAll X n).reverse := by rw [List.append_nil]; rfl
def MdE (D : Nat → Nat → Int) (a b : Nat) (R : List ENT) : Prop := D 68 2 = (a : Int) ∧ D 68 3 = (b : Int) ∧ D 68 4 = (mdU R : Int) ∧ D 68 5 = (mdT R : Int) ∧ D 68 6 = mdF R
theorem rk_29 (xs : List Int) (d : Nat) {κ : aK} {D : Nat → Nat → Int} {a b t : Nat} {X : TX} (hX : TXok X) (ht : isT t) (hK : MdK κ a b) {n : Nat} (hn : n ≤ 12) (hP : MdP κ D t X) (h2 : D 68 2 = (a : Int)) (h3 : D 68 3 = (b : Int)) : ∃ D', MdE D' a b (mAll X n).reverse ∧ MdFr a b D D' ∧ MdP κ D' t X ∧ ev xs (d + 3) mm_14 29 [some (.inr (.inr ((68 : Nat) : Int))), some (.inr (.inr ((t + 8 : Nat) : Int))), some (.inl (n : Int)), none, none, none, none, none, none, none] [] (κ, D) = some (none, (κ, D')) := by
  have ka := hK.2.2.1
  have kb := hK.2.2.2.1
  have kn := hK.2.2.2.2
  have n2 := xnp_le hX (s := 2) (by decide)
  have hκ := hP.1
  have fl := fillL_eq xs (d + 2) (D := D) hK.1.1 hK.1.2 (by decide) 0
  generalize hE : aup (aup (aup (setc D a (cpn 4096 (fun _ => 0) (D a))) 68 4 0) 68 5 0) 68 6 (-2) = E at *
  have fr : MdFr a b D E := by
    refine ⟨fun q q1 q2 q3 => ?_, fun j hj => ?_⟩
    · rw [← hE, aupN q1, aupN q1, aupN q1, setc_ne q2]
    · rw [← hE, aupJ (by omega), aupJ (by omega), aupJ (by omega), setc_ne (by omega)]
  have hEa : E a = cpn 4096 (fun _ => 0) (D a) := by rw [← hE, aupN (by omega), aupN (by omega), aupN (by omega), setc_self]
  have hM : MdH E a b [] (fun _ => []) (fun _ => 0) := by
    refine ⟨(fr.2 2 (by omega)).trans h2, (fr.2 3 (by omega)).trans h3, fun i hi => ?_, fun i hi h => absurd rfl h, ?_, ?_, ?_, ⟨fun i hi h => absurd rfl h, fun w h => absurd rfl h, fun i j _ _ h => absurd rfl h⟩, fun e he => by cases he⟩
    · rw [hEa]
      refine ⟨?_, fun x hx => by cases hx⟩
      show (if i < 4096 then (0 : Int) else _) = _
      rw [if_pos hi]
      rfl
    · rw [← hE, aupJ (by decide), aupJ (by decide), aupE]; rfl
    · rw [← hE, aupJ (by decide), aupE]; rfl
    · rw [← hE, aupE]; rfl
  have hP' := fr.p ht ka kb hP
  obtain ⟨D', T', G', q1, q2, q3⟩ := mh_loop xs d hX ht hK hn (xnp X 2 + 1) 0 E [] _ _ none none none none none none (by omega) hP' hM (by simp only [List.length_nil]; omega)
  rw [mall_eq] at q1
  refine ⟨D', ⟨q1.1, q1.2.1, q1.2.2.2.2.1, q1.2.2.2.2.2.1, q1.2.2.2.2.2.2.1⟩, fr.trans q2, q2.p ht ka kb hP', ?_⟩
  rw [q_14_29]
  simp (disch := omega) only [cond_true, cond_false, Bool.and_true, Bool.true_and, Bool.and_false, Bool.false_and, Int.toNat_natCast, Int.reduceToNat, bI_s, bJ_s, bV_s, bR_s, decide_true, decide_false, not_true_eq_false, not_false_eq_true, dT, dF, w_al, w_la, w_ab, w_sl, w_sb, w_dec, w_ml, w_lm, ol2i_n, aup_ne, aupE, aupJ, setc_self, setc_ne, kc_68 hκ, h2, fl, hE]
  rw [q_14_53]
  exact q3
def MdTab (κ : aK) (D : Nat → Nat → Int) : Prop := (D 68 2 = ((70 : Nat) : Int) ∧ D 68 3 = ((71 : Nat) : Int)) ∨ ∃ a b : Nat, D 68 2 = (a : Int) ∧ D 68 3 = (b : Int) ∧ MdK κ a b
def mdR (D : Nat → Nat → Int) : Nat := if D 68 2 = ((70 : Nat) : Int) then 8192 else 0
set_option maxRecDepth 100000 in
theorem ppl_68 : (∀ p ∈ ppl, p.1 = 68 → p.2.1 = 1) ∧ ∀ p ∈ ppl, p.1 ≠ 69 := by decide
theorem ptr_md {D D' : Nat → Nat → Int} (hc : CPtr D) (h1 : ∀ q, q < 315 → q ≠ 68 → q ≠ 69 → D' q = D q) (h2 : D' 68 1 = D 68 1) : CPtr D' := by
  refine hc.congr (fun r k hr => ?_)
  have hlt := ptrd_lt hr
  by_cases h68 : r = 68
  · subst h68
    by_cases hk : k = 1
    · rw [hk]; exact h2
    · exfalso
      unfold ptrd at hr
      rw [List.any_eq_true] at hr
      obtain ⟨p, hp, hq⟩ := hr
      rw [Bool.and_eq_true] at hq
      have := ppl_68.1 p hp (Nat.eq_of_beq_eq_true hq.1)
      have := Nat.eq_of_beq_eq_true hq.2
      omega
  · by_cases h69 : r = 69
    · exfalso
      unfold ptrd at hr
      rw [List.any_eq_true] at hr
      obtain ⟨p, hp, hq⟩ := hr
      rw [Bool.and_eq_true] at hq
      exact ppl_68.2 p hp ((Nat.eq_of_beq_eq_true hq.1).trans h69)
    · rw [h1 r hlt h68 h69]
theorem reckon_eq (xs : List Int) (d : Nat) {κ : aK} {D : Nat → Nat → Int} {t : Nat} {X : TX} (hX : TXok X) (ht : isT t) (hP : MdP κ D t X) (hT : MdTab κ D) {n : Nat} (hn : n ≤ 12) : ∃ κ' D' a b, KLe κ κ' ∧ MdK κ' a b ∧ MdE D' a b (mAll X n).reverse ∧ MdP κ' D' t X ∧ (∀ q, q < 315 → q ≠ 68 → D' q = D q) ∧ (∀ j, j < 2 → D' 68 j = D 68 j) ∧ κ'.2.1 + mdR D' ≤ κ.2.1 + mdR D ∧ cl xs (d + 4) 14 [.inr (.inr ((68 : Nat) : Int)), .inr (.inr ((t + 8 : Nat) : Int)), .inl (n : Int)] (κ, D) = some (none, (κ', D')) := by
  have ht' : t = 9 ∨ t = 31 := ht
  have hκ := hP.1
  rcases hT with ⟨e2, e3⟩ | ⟨a, b, e2, e3, hK⟩
  · have h315 := (hκ 314 (by decide)).1
    generalize hk1 : ((κ.1 + 1, κ.2.1 + 4096, fun q => if q = κ.1 then (101, 4096) else κ.2.2 q) : aK) = κ1 at *
    generalize hk2 : ((κ1.1 + 1, κ1.2.1 + 4096, fun q => if q = κ1.1 then (100, 4096) else κ1.2.2 q) : aK) = κ2 at *
    have k11 : κ1.1 = κ.1 + 1 := by rw [← hk1]
    have k21 : κ2.1 = κ.1 + 1 + 1 := by rw [← hk2]; show κ1.1 + 1 = _; rw [k11]
    have k12 : κ1.2.1 = κ.2.1 + 4096 := by rw [← hk1]
    have k22 : κ2.2.1 = κ.2.1 + 4096 + 4096 := by rw [← hk2]; show κ1.2.1 + 4096 = _; rw [k12]
    have kf : ∀ q, q < κ.1 → κ2.2.2 q = κ.2.2 q := fun q hq => by
      rw [← hk2]
      show (if q = κ1.1 then _ else κ1.2.2 q) = _
      rw [if_neg (by omega), ← hk1]
      show (if q = κ.1 then _ else κ.2.2 q) = _
      rw [if_neg (by omega)]
    have ka : κ2.2.2 κ.1 = (101, 4096) := by
      rw [← hk2]
      show (if κ.1 = κ1.1 then _ else κ1.2.2 κ.1) = _
      rw [if_neg (by omega), ← hk1]
      show (if κ.1 = κ.1 then _ else κ.2.2 κ.1) = _
      rw [if_pos rfl]
    have kb : κ2.2.2 (κ.1 + 1) = (100, 4096) := by
      rw [← hk2]
      show (if κ.1 + 1 = κ1.1 then _ else κ1.2.2 (κ.1 + 1)) = _
      rw [if_pos k11.symm]
    have hle : KLe κ κ2 := ⟨by omega, kf, by omega⟩
    have hK : MdK κ2 κ.1 (κ.1 + 1) := ⟨⟨by omega, ka⟩, ⟨by omega, kb⟩, by omega, by omega, by omega⟩
    generalize hD1 : (fun q j => if q = κ.1 then 0 else D q j : Nat → Nat → Int) = D1 at *
    generalize hD2 : (fun q j => if q = κ.1 + 1 then 0 else aup D1 68 2 (κ.1 : Int) q j : Nat → Nat → Int) = D2 at *
    generalize hD3 : aup D2 68 3 ((κ.1 + 1 : Nat) : Int) = D3 at *
    have d1 : ∀ q, q < 315 → D1 q = D q := fun q hq => by
      funext j
      rw [← hD1]
      show (if q = κ.1 then 0 else D q j) = _
      rw [if_neg (by omega)]
    have d2 : ∀ q j, q < 315 → D2 q j = aup D1 68 2 (κ.1 : Int) q j := fun q j hq => by
      rw [← hD2]
      show (if q = κ.1 + 1 then 0 else aup D1 68 2 (κ.1 : Int) q j) = _
      rw [if_neg (by omega)]
    have d3 : ∀ q, q < 315 → q ≠ 68 → D3 q = D q := fun q hq h68 => by
      funext j
      rw [← hD3, aupN h68, d2 q j hq, aupN h68, d1 q hq]
    have d68 : ∀ j, j ≠ 2 → j ≠ 3 → D3 68 j = D 68 j := fun j h2 h3 => by
      rw [← hD3, aupJ h3, d2 68 j (by decide), aupJ h2, d1 68 (by decide)]
    have x2 : D3 68 2 = (κ.1 : Int) := by rw [← hD3, aupJ (by decide), d2 68 2 (by decide), aupE]
    have x3 : D3 68 3 = ((κ.1 + 1 : Nat) : Int) := by rw [← hD3, aupE]
    have hP3 : MdP κ2 D3 t X := by
      refine ⟨hle.shp hκ, ptr_md hP.2.1 (fun q h1 h2 _ => d3 q h1 h2) (d68 1 (by decide) (by decide)), ?_⟩
      unfold PcC
      rw [d3 (t + 9) (by omega) (by omega), d3 (t + 10) (by omega) (by omega), d3 (t + 11) (by omega) (by omega)]
      exact hP.2.2
    obtain ⟨D', q1, q2, q3, q4⟩ := rk_29 xs d hX ht hK hn hP3 x2 x3
    refine ⟨κ2, D', κ.1, κ.1 + 1, hle, hK, q1, q3, fun q h1 h2 => ?_, fun j hj => ?_, ?_, ?_⟩
    · rw [q2.1 q h2 (by omega) (by omega), d3 q h1 h2]
    · rw [q2.2 j (by omega), d68 j (by omega) (by omega)]
    · unfold mdR
      rw [q1.1, e2, if_pos rfl, if_neg (by omega), k22]
      omega
    · rw [c_14]
      have a0 : aoa κ ((70 : Nat) : Int) = true := aoa_s hκ 70 (n := 0) (by decide) rfl (by decide)
      have a1 : aln κ ((70 : Nat) : Int) = 0 := aln_s hκ 70 (by decide) rfl
      have hs1 : Shp κ1 := KLe.shp (κ := κ) ⟨by omega, fun q hq => by
        rw [← hk1]
        show (if q = κ.1 then _ else κ.2.2 q) = _
        rw [if_neg (by omega)], by omega⟩ hκ
      have hs2 := hle.shp hκ
      simp (disch := omega) only [cond_true, cond_false, Bool.and_true, Bool.true_and, Bool.and_false, Bool.false_and, Int.toNat_natCast, Int.reduceToNat, bI_s, bJ_s, bV_s, bR_s, decide_true, decide_false, not_true_eq_false, not_false_eq_true, dT, dF, w_al, w_la, w_ab, w_sl, w_sb, w_dec, w_ml, w_lm, ol2i_n, aup_ne, aupE, aupJ, setc_self, setc_ne, kc_68 hκ, e2, a0, a1, hk1, hD1]
      rw [q_14_17]
      simp (disch := omega) only [cond_true, cond_false, Bool.and_true, Bool.true_and, Bool.and_false, Bool.false_and, Int.toNat_natCast, Int.reduceToNat, bI_s, bJ_s, bV_s, bR_s, decide_true, decide_false, not_true_eq_false, not_false_eq_true, dT, dF, w_al, w_la, w_ab, w_sl, w_sb, w_dec, w_ml, w_lm, ol2i_n, aup_ne, aupE, aupJ, setc_self, setc_ne, kc_68 hs1, hk2]
      rw [q_14_26]
      simp (disch := omega) only [cond_true, cond_false, Bool.and_true, Bool.true_and, Bool.and_false, Bool.false_and, Int.toNat_natCast, Int.reduceToNat, bI_s, bJ_s, bV_s, bR_s, decide_true, decide_false, not_true_eq_false, not_false_eq_true, dT, dF, w_al, w_la, w_ab, w_sl, w_sb, w_dec, w_ml, w_lm, ol2i_n, aup_ne, aupE, aupJ, setc_self, setc_ne, kc_68 hs2, k11, hD2, hD3]
      exact q4
  · obtain ⟨D', q1, q2, q3, q4⟩ := rk_29 xs d hX ht hK hn hP e2 e3
    have a0 := aoa_g hK.1.1 hK.1.2 (by decide)
    have a1 := aln_g hK.1.2
    have kk := hK.2.2
    refine ⟨κ, D', a, b, KLe.rfl' κ, hK, q1, q3, fun q h1 h2 => q2.1 q h2 (by omega) (by omega), fun j hj => q2.2 j (by omega), ?_, ?_⟩
    · unfold mdR
      rw [q1.1, e2]
      exact Nat.le_refl _
    · rw [c_14]
      simp (disch := omega) only [cond_true, cond_false, Bool.and_true, Bool.true_and, Bool.and_false, Bool.false_and, Int.toNat_natCast, Int.reduceToNat, bI_s, bJ_s, bV_s, bR_s, decide_true, decide_false, not_true_eq_false, not_false_eq_true, dT, dF, w_al, w_la, w_ab, w_sl, w_sb, w_dec, w_ml, w_lm, ol2i_n, aup_ne, aupE, aupJ, setc_self, setc_ne, kc_68 hκ, e2, a0, a1]
      exact q4
