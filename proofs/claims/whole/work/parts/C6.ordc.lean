/-! Orders: the class's heap. -/
def okc (x : Nat) : Prop := (84 ≤ x ∧ x ≤ 88) ∨ 315 ≤ x
def OrK (κ : aK) (a b c e g R : Nat) : Prop := ((a < κ.1 ∧ κ.2.2 a = (100, R)) ∧ (b < κ.1 ∧ κ.2.2 b = (100, R)) ∧ (c < κ.1 ∧ κ.2.2 c = (100, R)) ∧ (e < κ.1 ∧ κ.2.2 e = (100, R)) ∧ (g < κ.1 ∧ κ.2.2 g = (101, R * 8))) ∧ (okc a ∧ okc b ∧ okc c ∧ okc e ∧ okc g) ∧ (a ≠ b ∧ a ≠ c ∧ a ≠ e ∧ a ≠ g ∧ b ≠ c ∧ b ≠ e ∧ b ≠ g ∧ c ≠ e ∧ c ≠ g ∧ e ≠ g) ∧ 64 ≤ R ∧ R ≤ 27400
def OrF (D : Nat → Nat → Int) (a b c e g m : Nat) : Prop := D 77 7 = (m : Int) ∧ D 77 8 = (a : Int) ∧ D 77 9 = (b : Int) ∧ D 77 10 = (c : Int) ∧ D 77 11 = (e : Int) ∧ D 77 12 = (g : Int)
def vOk (X : TX) (v : VV) : Prop := v.length = xpr X ∧ ∀ p, p < xpr X → wok (v.getD p [])
def OrH (D : Nat → Nat → Int) (X : TX) (a b c e g m : Nat) (ow : Nat → Nat) (vv : Nat → VV) (wy fi sp : Nat → Nat) : Prop := OrF D a b c e g m ∧ (∀ s, s < 128 → D 81 s = prv ow s m) ∧ ∀ i, i < m → D a i = prv ow (ow i) i ∧ D b i = (wy i : Int) ∧ D c i = (fi i : Int) ∧ D e i = (sp i : Int) ∧ (∀ p, p < xpr X → D g (i * 8 + p) = (p32 ((vv i).getD p []) : Int)) ∧ vOk X (vv i)
def frC (D : Nat → Nat → Int) (X : TX) (v : VV) : Prop := vOk X v ∧ ∀ p, p < xpr X → D 83 p = (p32 (v.getD p []) : Int)
theorem ext_getD {u v : VV} {n : Nat} (hu : u.length = n) (hv : v.length = n) (h : ∀ p, p < n → u.getD p [] = v.getD p []) : u = v := by
  refine List.ext_getElem (by omega) (fun i h1 h2 => ?_)
  have := h i (by omega)
  rw [List.getD_eq_getElem?_getD, List.getD_eq_getElem?_getD, List.getElem?_eq_getElem h1, List.getElem?_eq_getElem h2] at this
  exact this
theorem ok_g {κ : aK} {a b c e g R : Nat} (h : OrK κ a b c e g R) {i : Int} (h0 : 0 ≤ i) (h1 : i.toNat < R * 8) : ain κ ((g : Nat) : Int) 101 i = true := ain_t g i.toNat rfl (by omega) h.1.2.2.2.2.1 h.1.2.2.2.2.2 h1
theorem ok_a {κ : aK} {a b c e g R : Nat} (h : OrK κ a b c e g R) {i : Int} (h0 : 0 ≤ i) (h1 : i.toNat < R) : ain κ ((a : Nat) : Int) 100 i = true := ain_t a i.toNat rfl (by omega) h.1.1.1 h.1.1.2 h1
theorem ok_b {κ : aK} {a b c e g R : Nat} (h : OrK κ a b c e g R) {i : Int} (h0 : 0 ≤ i) (h1 : i.toNat < R) : ain κ ((b : Nat) : Int) 100 i = true := ain_t b i.toNat rfl (by omega) h.1.2.1.1 h.1.2.1.2 h1
theorem ok_c {κ : aK} {a b c e g R : Nat} (h : OrK κ a b c e g R) {i : Int} (h0 : 0 ≤ i) (h1 : i.toNat < R) : ain κ ((c : Nat) : Int) 100 i = true := ain_t c i.toNat rfl (by omega) h.1.2.2.1.1 h.1.2.2.1.2 h1
theorem ok_e {κ : aK} {a b c e g R : Nat} (h : OrK κ a b c e g R) {i : Int} (h0 : 0 ≤ i) (h1 : i.toNat < R) : ain κ ((e : Nat) : Int) 100 i = true := ain_t e i.toNat rfl (by omega) h.1.2.2.2.1.1 h.1.2.2.2.1.2 h1
theorem isAs_loop (xs : List Int) (d : Nat) {κ : aK} {D : Nat → Nat → Int} (hκ : Shp κ) (hc : CPtr D) {t : Nat} (ht : isT t) (h5 : D 0 5 = (t : Int)) {X : TX} (hX : TXok X) (hx : TxC D t X) {a b c e g R m : Nat} (hK : OrK κ a b c e g R) {ow : Nat → Nat} {vv : Nat → VV} {wy fi sp : Nat → Nat} (hH : OrH D X a b c e g m ow vv wy fi sp) (hm : m ≤ R) {v : VV} (hf : frC D X v) {i : Nat} (hi : i < m) : ∀ (n p : Nat), p + n = xpr X → (∀ j, j < p → (vv i).getD j [] = v.getD j []) → ev xs d mm_26 2 [some (.inr (.inr ((77 : Nat) : Int))), some (.inr (.inr (t : Int))), some (.inl (i : Int)), some (.inl (p : Int))] [] (κ, D) = some (some (.inl (if vv i = v then 1 else 0)), (κ, D)) := by
  have ht' : t = 9 ∨ t = 31 := ht
  have x8 := hX.2.2.2.1.1
  have h7 : D t 7 = (xpr X : Int) := hx.2.2.2.1.1
  obtain ⟨⟨f1, f2, f3, f4, f5, f6⟩, _, hE⟩ := hH
  obtain ⟨_, _, _, _, ew, ev1, ev2⟩ := hE i hi
  have hR := hK.2.2.2
  intro n
  induction n with
  | zero =>
    intro p hp hj
    have e : vv i = v := ext_getD ev1 hf.1.1 (fun j hj2 => hj j (by omega))
    rw [if_pos e, q_26_2]
    simp (disch := omega) only [cond_true, cond_false, Bool.and_true, Bool.true_and, Bool.and_false, Bool.false_and, Int.toNat_natCast, Int.reduceToNat, bI_s, bJ_s, bV_s, bR_s, decide_true, decide_false, not_true_eq_false, not_false_eq_true, dT, dF, w_al, w_la, w_ab, w_sl, w_sb, w_dec, w_ml, w_lm, ol2i_n, aup_ne, aupE, aupJ, setc_self, setc_ne, tp_0_1 hc ht, tp_0_2 hc ht, tp_0_3 hc ht, tp_0_4 hc ht, tp_0_6 hc ht, tp_0_8 hc ht, tp_0_9 hc ht, tp_0_10 hc ht, tp_0_12 hc ht, tp_0_13 hc ht, tp_0_14 hc ht, tp_3_1 hc ht, tp_3_2 hc ht, tp_3_3 hc ht, tp_3_4 hc ht, tp_8_0 hc ht, tp_8_1 hc ht, tp_8_2 hc ht, tp_18_0 hc ht, tp_18_2 hc ht, tp_18_3 hc ht, tk_0 hκ ht, tk_1 hκ ht, tn_1 hκ ht, tk_2 hκ ht, tn_2 hκ ht, tk_3 hκ ht, tk_4 hκ ht, tn_4 hκ ht, tk_5 hκ ht, tn_5 hκ ht, tk_6 hκ ht, tn_6 hκ ht, tk_7 hκ ht, tn_7 hκ ht, tk_8 hκ ht, tk_9 hκ ht, tn_9 hκ ht, tk_10 hκ ht, tn_10 hκ ht, tk_11 hκ ht, tn_11 hκ ht, tk_12 hκ ht, tn_12 hκ ht, tk_13 hκ ht, tn_13 hκ ht, tk_14 hκ ht, tn_14 hκ ht, tk_15 hκ ht, tn_15 hκ ht, tk_16 hκ ht, tn_16 hκ ht, tk_17 hκ ht, tn_17 hκ ht, tk_18 hκ ht, tk_19 hκ ht, tn_19 hκ ht, tk_20 hκ ht, tn_20 hκ ht, tk_21 hκ ht, tn_21 hκ ht, h7]
  | succ n ih =>
    intro p hp hj
    have e1 := ew p (by omega)
    have e2 := hf.2 p (by omega)
    have w1 := (ev2 p (by omega)).1
    have w2 := (hf.1.2 p (by omega)).1
    rw [q_26_2]
    by_cases hq : (vv i).getD p [] = v.getD p []
    · rw [hq] at e1
      have e3 := ih (p + 1) (by omega) (fun j hj2 => by
        by_cases hjp : j = p
        · rw [hjp]; exact hq
        · exact hj j (by omega))
      simp (disch := omega) only [cond_true, cond_false, Bool.and_true, Bool.true_and, Bool.and_false, Bool.false_and, Int.toNat_natCast, Int.reduceToNat, bI_s, bJ_s, bV_s, bR_s, decide_true, decide_false, not_true_eq_false, not_false_eq_true, dT, dF, w_al, w_la, w_ab, w_sl, w_sb, w_dec, w_ml, w_lm, ol2i_n, aup_ne, aupE, aupJ, setc_self, setc_ne, tp_0_1 hc ht, tp_0_2 hc ht, tp_0_3 hc ht, tp_0_4 hc ht, tp_0_6 hc ht, tp_0_8 hc ht, tp_0_9 hc ht, tp_0_10 hc ht, tp_0_12 hc ht, tp_0_13 hc ht, tp_0_14 hc ht, tp_3_1 hc ht, tp_3_2 hc ht, tp_3_3 hc ht, tp_3_4 hc ht, tp_8_0 hc ht, tp_8_1 hc ht, tp_8_2 hc ht, tp_18_0 hc ht, tp_18_2 hc ht, tp_18_3 hc ht, tk_0 hκ ht, tk_1 hκ ht, tn_1 hκ ht, tk_2 hκ ht, tn_2 hκ ht, tk_3 hκ ht, tk_4 hκ ht, tn_4 hκ ht, tk_5 hκ ht, tn_5 hκ ht, tk_6 hκ ht, tn_6 hκ ht, tk_7 hκ ht, tn_7 hκ ht, tk_8 hκ ht, tk_9 hκ ht, tn_9 hκ ht, tk_10 hκ ht, tn_10 hκ ht, tk_11 hκ ht, tn_11 hκ ht, tk_12 hκ ht, tn_12 hκ ht, tk_13 hκ ht, tn_13 hκ ht, tk_14 hκ ht, tn_14 hκ ht, tk_15 hκ ht, tn_15 hκ ht, tk_16 hκ ht, tn_16 hκ ht, tk_17 hκ ht, tn_17 hκ ht, tk_18 hκ ht, tk_19 hκ ht, tn_19 hκ ht, tk_20 hκ ht, tn_20 hκ ht, tk_21 hκ ht, tn_21 hκ ht, h7, kc_77 hκ, f6, ok_g hK, e1, pc_77_6 hc, nc_83 hκ, e2, olcmp_eq, e3]
    · have hne : ¬ vv i = v := fun q => hq (by rw [q])
      have hp32 := p32_ne w1 w2 hq
      rw [if_neg hne]
      simp (disch := omega) only [cond_true, cond_false, Bool.and_true, Bool.true_and, Bool.and_false, Bool.false_and, Int.toNat_natCast, Int.reduceToNat, bI_s, bJ_s, bV_s, bR_s, decide_true, decide_false, not_true_eq_false, not_false_eq_true, dT, dF, w_al, w_la, w_ab, w_sl, w_sb, w_dec, w_ml, w_lm, ol2i_n, aup_ne, aupE, aupJ, setc_self, setc_ne, tp_0_1 hc ht, tp_0_2 hc ht, tp_0_3 hc ht, tp_0_4 hc ht, tp_0_6 hc ht, tp_0_8 hc ht, tp_0_9 hc ht, tp_0_10 hc ht, tp_0_12 hc ht, tp_0_13 hc ht, tp_0_14 hc ht, tp_3_1 hc ht, tp_3_2 hc ht, tp_3_3 hc ht, tp_3_4 hc ht, tp_8_0 hc ht, tp_8_1 hc ht, tp_8_2 hc ht, tp_18_0 hc ht, tp_18_2 hc ht, tp_18_3 hc ht, tk_0 hκ ht, tk_1 hκ ht, tn_1 hκ ht, tk_2 hκ ht, tn_2 hκ ht, tk_3 hκ ht, tk_4 hκ ht, tn_4 hκ ht, tk_5 hκ ht, tn_5 hκ ht, tk_6 hκ ht, tn_6 hκ ht, tk_7 hκ ht, tn_7 hκ ht, tk_8 hκ ht, tk_9 hκ ht, tn_9 hκ ht, tk_10 hκ ht, tn_10 hκ ht, tk_11 hκ ht, tn_11 hκ ht, tk_12 hκ ht, tn_12 hκ ht, tk_13 hκ ht, tn_13 hκ ht, tk_14 hκ ht, tn_14 hκ ht, tk_15 hκ ht, tn_15 hκ ht, tk_16 hκ ht, tn_16 hκ ht, tk_17 hκ ht, tn_17 hκ ht, tk_18 hκ ht, tk_19 hκ ht, tn_19 hκ ht, tk_20 hκ ht, tn_20 hκ ht, tk_21 hκ ht, tn_21 hκ ht, h7, kc_77 hκ, f6, ok_g hK, e1, pc_77_6 hc, nc_83 hκ, e2, olcmp_eq]
theorem isAs_eq (xs : List Int) (d : Nat) {κ : aK} {D : Nat → Nat → Int} (hκ : Shp κ) (hc : CPtr D) {t : Nat} (ht : isT t) (h5 : D 0 5 = (t : Int)) {X : TX} (hX : TXok X) (hx : TxC D t X) {a b c e g R m : Nat} (hK : OrK κ a b c e g R) {ow : Nat → Nat} {vv : Nat → VV} {wy fi sp : Nat → Nat} (hH : OrH D X a b c e g m ow vv wy fi sp) (hm : m ≤ R) {v : VV} (hf : frC D X v) {i : Nat} (hi : i < m) : cl xs (d + 1) 26 [.inr (.inr ((77 : Nat) : Int)), .inr (.inr (t : Int)), .inl (i : Int)] (κ, D) = some (some (.inl (if vv i = v then 1 else 0)), (κ, D)) := by
  rw [c_26]
  exact isAs_loop xs d hκ hc ht h5 hX hx hK hH hm hf hi (xpr X) 0 (by omega) (fun j hj => absurd hj (by omega))
