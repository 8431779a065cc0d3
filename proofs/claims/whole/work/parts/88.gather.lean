/-! The class gathers ways. -/
theorem p32_split : ∀ (k : Nat) (w : List Nat), wv w → p32 w % 32 ^ k = p32 (w.take k) ∧ p32 w / 32 ^ k = p32 (w.drop k)
  | 0, w, _ => by
    rw [Nat.pow_zero, Nat.mod_one, Nat.div_one, List.take_zero, List.drop_zero]
    exact ⟨rfl, rfl⟩
  | k + 1, [], _ => by
    rw [List.take_nil, List.drop_nil]
    show 0 % _ = 0 ∧ 0 / _ = 0
    rw [Nat.zero_mod, Nat.zero_div]
    exact ⟨rfl, rfl⟩
  | k + 1, a :: w, h => by
    have ha := h a List.mem_cons_self
    have ih := p32_split k w (fun x hx => h x (List.mem_cons_of_mem _ hx))
    have e1 : p32 (a :: w) = a + 32 * p32 w := rfl
    have hp : 32 ^ (k + 1) = 32 * 32 ^ k := by rw [Nat.pow_succ, Nat.mul_comm]
    rw [List.take_succ_cons, List.drop_succ_cons, e1, hp]
    show _ = a + 32 * p32 (w.take k) ∧ _
    constructor
    · rw [Nat.mod_mul, Nat.add_mul_mod_self_left, Nat.mod_eq_of_lt (show a < 32 by omega), Nat.add_mul_div_left _ _ (by decide), Nat.div_eq_of_lt (show a < 32 by omega), Nat.zero_add, ih.1]
    · rw [← Nat.div_div_eq_div_mul, Nat.add_mul_div_left _ _ (by decide), Nat.div_eq_of_lt (show a < 32 by omega), Nat.zero_add, ih.2]
theorem pow32_2 (n : Nat) : 2 ^ (5 * n) = 32 ^ n := by rw [Nat.pow_mul]
theorem wok_take {w : List Nat} (h : wok w) (k : Nat) : wok (w.take k) := ⟨fun x hx => h.1 x (List.mem_of_mem_take hx), Nat.le_trans (by rw [List.length_take]; omega) h.2⟩
theorem wok_drop {w : List Nat} (h : wok w) (k : Nat) : wok (w.drop k) := ⟨fun x hx => h.1 x (List.mem_of_mem_drop hx), Nat.le_trans (by rw [List.length_drop]; omega) h.2⟩
theorem begins_eq (xs : List Int) (d : Nat) (h : aH) {w p : List Nat} (hw : wok w) (hp : wok p) : cl xs (d + 2) 123 [.inr (.inl (p32 w : Int)), .inr (.inl (p32 p : Int))] h = some (some (.inl (if pfx w p = true then 1 else 0)), h) := by
  have h8 := hp.2
  have hpow : 32 ^ p.length ≤ 1099511627776 := Nat.pow_le_pow_right (n := 32) (j := 8) (by decide) h8
  have hpos : 0 < 32 ^ p.length := Nat.pow_pos (by decide)
  have hlt := p32_lt w hw.1
  have hpw : 32 ^ w.length ≤ 1099511627776 := Nat.pow_le_pow_right (n := 32) (j := 8) (by decide) hw.2
  have e1 : olshl 1 ((5 * p.length : Nat) : Int) = ((32 ^ p.length : Nat) : Int) := by
    have := olshl_nat (a := 1) (b := 5 * p.length) (by omega) (by rw [pow32_2]; omega)
    rw [pow32_2, Nat.one_mul] at this
    exact this
  have e2 : w64 (((32 ^ p.length : Nat) : Int) - 1) = ((32 ^ p.length - 1 : Nat) : Int) := by rw [w64_id (by omega) (by omega)]; omega
  have e3 : oland (p32 w : Int) ((32 ^ p.length - 1 : Nat) : Int) = (p32 (w.take p.length) : Int) := by
    rw [oland_nat (by omega) (by omega), ← pow32_2, Nat.and_two_pow_sub_one_eq_mod, pow32_2, (p32_split p.length w hw.1).1]
  rw [c_123]
  simp (disch := omega) only [cond_true, cond_false, Bool.and_true, Bool.true_and, Bool.and_false, Bool.false_and, Int.toNat_natCast, Int.reduceToNat, bI_s, bJ_s, bV_s, bR_s, decide_true, decide_false, not_true_eq_false, not_false_eq_true, dT, dF, w_al, w_la, w_ab, w_sl, w_sb, w_dec, w_ml, w_lm, ol2i_n, aup_ne, aupE, aupJ, setc_self, setc_ne, sizeOf_eq xs d h hp.1 (show p.length ≤ 12 by omega), e1, e2, e3, olcmp_eq]
  unfold pfx
  by_cases he : w.take p.length = p
  · rw [if_pos (by simpa using he), he]
    simp (disch := omega) only [cond_true, cond_false, Bool.and_true, Bool.true_and, Bool.and_false, Bool.false_and, Int.toNat_natCast, Int.reduceToNat, bI_s, bJ_s, bV_s, bR_s, decide_true, decide_false, not_true_eq_false, not_false_eq_true, dT, dF, w_al, w_la, w_ab, w_sl, w_sb, w_dec, w_ml, w_lm, ol2i_n, aup_ne, aupE, aupJ, setc_self, setc_ne]
  · have := p32_ne (wok_take hw p.length).1 hp.1 he
    rw [if_neg (by simpa using he)]
    simp (disch := omega) only [cond_true, cond_false, Bool.and_true, Bool.true_and, Bool.and_false, Bool.false_and, Int.toNat_natCast, Int.reduceToNat, bI_s, bJ_s, bV_s, bR_s, decide_true, decide_false, not_true_eq_false, not_false_eq_true, dT, dF, w_al, w_la, w_ab, w_sl, w_sb, w_dec, w_ml, w_lm, ol2i_n, aup_ne, aupE, aupJ, setc_self, setc_ne]
theorem behind_eq (xs : List Int) (d : Nat) (h : aH) {w p : List Nat} (hw : wok w) (hp : wok p) : cl xs (d + 2) 124 [.inr (.inl (p32 w : Int)), .inr (.inl (p32 p : Int))] h = some (some (.inr (.inl (p32 (w.drop p.length) : Int))), h) := by
  have h8 := hp.2
  have hlt := p32_lt w hw.1
  have hpw : 32 ^ w.length ≤ 1099511627776 := Nat.pow_le_pow_right (n := 32) (j := 8) (by decide) hw.2
  have e : olushr (p32 w : Int) ((5 * p.length : Nat) : Int) = (p32 (w.drop p.length) : Int) := by
    rw [olushr_nat (by omega) (by omega), pow32_2, (p32_split p.length w hw.1).2]
  rw [c_124]
  simp (disch := omega) only [cond_true, cond_false, Bool.and_true, Bool.true_and, Bool.and_false, Bool.false_and, Int.toNat_natCast, Int.reduceToNat, bI_s, bJ_s, bV_s, bR_s, decide_true, decide_false, not_true_eq_false, not_false_eq_true, dT, dF, w_al, w_la, w_ab, w_sl, w_sb, w_dec, w_ml, w_lm, ol2i_n, aup_ne, aupE, aupJ, setc_self, setc_ne, sizeOf_eq xs d h hp.1 (show p.length ≤ 12 by omega), e]
/-- the class's gathered codes -/
def gaD (D : Nat → Nat → Int) (n : Nat) (f : Nat → Int) : Nat → Nat → Int := aup (setc D 66 f) 65 0 (n : Int)
theorem ga_65 (D : Nat → Nat → Int) (n : Nat) (f : Nat → Int) : gaD D n f 65 0 = (n : Int) := aupE ..
theorem ga_66 (D : Nat → Nat → Int) (n : Nat) (f : Nat → Int) : gaD D n f 66 = f := by unfold gaD; rw [aupN (by decide), setc_self]
theorem ga_q {D : Nat → Nat → Int} {n : Nat} {f : Nat → Int} {q : Nat} (h1 : q ≠ 65) (h2 : q ≠ 66) : gaD D n f q = D q := by unfold gaD; rw [aupN h1, setc_ne h2]
theorem ga_j {D : Nat → Nat → Int} {n : Nat} {f : Nat → Int} {j : Nat} (h : j ≠ 0) : gaD D n f 65 j = D 65 j := by unfold gaD; rw [aupJ h, setc_ne (by decide)]
theorem ga_put (D : Nat → Nat → Int) (n : Nat) (f : Nat → Int) (x : Int) : aup (aup (gaD D n f) 66 n x) 65 0 ((n + 1 : Nat) : Int) = gaD D (n + 1) (fun j => if j = n then x else f j) := by
  funext q j
  unfold gaD aup setc
  by_cases h1 : q = 65
  · subst h1
    by_cases h2 : j = 0 <;> simp [h2]
  · by_cases h2 : q = 66
    · subst h2
      simp
    · simp [h1, h2]
set_option maxRecDepth 100000 in
theorem pd_ga : ptrc 66 = false ∧ ptrd 65 0 = false ∧ ptrc 67 = false := by decide
theorem ga_ptr {D : Nat → Nat → Int} (hc : CPtr D) (n : Nat) (f : Nat → Int) : CPtr (gaD D n f) := (hc.setc pd_ga.1 f).up pd_ga.2.1 _
def CLs (f : Nat → Int) (C : List Nat) : Prop := ∀ j, j < C.length → f j = ((C.getD j 0 : Nat) : Int)
theorem CLs_snoc {f : Nat → Int} {C : List Nat} (h : CLs f C) (a : Nat) : CLs (fun j => if j = C.length then (a : Int) else f j) (C ++ [a]) := by
  intro j hj
  rw [List.length_append, List.length_singleton] at hj
  by_cases hc : j = C.length
  · subst hc
    show (if C.length = C.length then _ else _) = _
    rw [if_pos rfl]
    simp
  · show (if j = C.length then _ else f j) = _
    rw [if_neg hc, h j (by omega)]
    simp only [List.getD_eq_getElem?_getD]
    rw [List.getElem?_append_left (by omega)]
theorem put_eq (xs : List Int) (d : Nat) {κ : aK} {D : Nat → Nat → Int} (hκ : Shp κ) (hc : CPtr D) {n : Nat} (hn : n < 280) (f : Nat → Int) (x : Int) : cl xs (d + 1) 117 [.inr (.inr ((65 : Nat) : Int)), .inl x] (κ, gaD D n f) = some (none, (κ, gaD D (n + 1) (fun j => if j = n then x else f j))) := by
  rw [c_117]
  simp (disch := omega) only [cond_true, cond_false, Bool.and_true, Bool.true_and, Bool.and_false, Bool.false_and, Int.toNat_natCast, Int.reduceToNat, bI_s, bJ_s, bV_s, bR_s, decide_true, decide_false, not_true_eq_false, not_false_eq_true, dT, dF, w_al, w_la, w_ab, w_sl, w_sb, w_dec, w_ml, w_lm, ol2i_n, aup_ne, aupE, aupJ, setc_self, setc_ne, pc_0_0 hc, pc_0_3 hc, pc_0_4 hc, pc_0_7 hc, pc_0_8 hc, pc_0_9 hc, pc_0_12 hc, pc_0_14 hc, pc_0_15 hc, pc_0_16 hc, pc_0_17 hc, pc_0_18 hc, pc_0_19 hc, pc_2_1 hc, pc_2_2 hc, pc_2_3 hc, pc_2_6 hc, pc_2_8 hc, pc_8_2 hc, pc_65_1 hc, pc_65_2 hc, pc_68_1 hc, pc_72_3 hc, pc_72_4 hc, pc_72_5 hc, pc_72_6 hc, pc_77_1 hc, pc_77_2 hc, pc_77_3 hc, pc_77_4 hc, pc_77_5 hc, pc_77_6 hc, kc_0 hκ, kc_1 hκ, nc_1 hκ, kc_2 hκ, kc_3 hκ, nc_3 hκ, kc_4 hκ, nc_4 hκ, kc_5 hκ, nc_5 hκ, kc_6 hκ, nc_6 hκ, kc_7 hκ, nc_7 hκ, kc_8 hκ, kc_63 hκ, nc_63 hκ, kc_64 hκ, nc_64 hκ, kc_65 hκ, kc_66 hκ, nc_66 hκ, kc_67 hκ, nc_67 hκ, kc_68 hκ, kc_69 hκ, nc_69 hκ, kc_70 hκ, nc_70 hκ, kc_71 hκ, nc_71 hκ, kc_72 hκ, kc_73 hκ, nc_73 hκ, kc_74 hκ, nc_74 hκ, kc_75 hκ, nc_75 hκ, kc_76 hκ, nc_76 hκ, kc_77 hκ, kc_78 hκ, nc_78 hκ, kc_79 hκ, nc_79 hκ, kc_80 hκ, nc_80 hκ, kc_81 hκ, nc_81 hκ, kc_82 hκ, nc_82 hκ, kc_83 hκ, nc_83 hκ, kc_84 hκ, nc_84 hκ, kc_85 hκ, nc_85 hκ, kc_86 hκ, nc_86 hκ, kc_87 hκ, nc_87 hκ, kc_88 hκ, nc_88 hκ, kc_89 hκ, nc_89 hκ, kc_90 hκ, nc_90 hκ, sk_0 hκ is53, sp_1 hc is53, sk_1 hκ is53, sn_1 hκ is53, sp_2 hc is53, sk_2 hκ is53, sn_2 hκ is53, sp_3 hc is53, sk_3 hκ is53, sn_3 hκ is53, sp_4 hc is53, sk_4 hκ is53, sn_4 hκ is53, sk_0 hκ is58, sp_1 hc is58, sk_1 hκ is58, sn_1 hκ is58, sp_2 hc is58, sk_2 hκ is58, sn_2 hκ is58, sp_3 hc is58, sk_3 hκ is58, sn_3 hκ is58, sp_4 hc is58, sk_4 hκ is58, sn_4 hκ is58, ga_65, ga_66, ga_q, ga_j, ga_put]
/-- what is asked of the pieces -/
def PcC (D : Nat → Nat → Int) (t : Nat) (X : TX) : Prop := ∀ s, s < 3 → D (t + 9) s = (xnp X s : Int) ∧ ∀ k, k < xnp X s → D (t + 10) (8 * s + k) = (p32 (xPN X (8 * s + k)) : Int) ∧ D (t + 11) (8 * s + k) = (xPT X (8 * s + k) : Int)
theorem find_loop (xs : List Int) (d : Nat) {κ : aK} {D : Nat → Nat → Int} (hκ : Shp κ) (hc : CPtr D) {t : Nat} (ht : isT t) {X : TX} (hX : TXok X) (hP : PcC D t X) {s : Nat} (hs : s < 3) {w : List Nat} (hw : wok w) : ∀ (m k : Nat) (u3 : Option aV), k + m = xnp X s → ev xs d mm_33 3 [some (.inr (.inr ((t + 8 : Nat) : Int))), some (.inl (s : Int)), some (.inr (.inl (p32 w : Int))), u3, some (.inl (k : Int))] [] (κ, D) = some (some (.inl (if fnd X s w m k = 0 then -1 else ((8 * s + fnd X s w m k : Nat) : Int) - 1)), (κ, D)) := by
  have n0 := xnp_le hX hs
  have hp := (hP s hs).1
  intro m
  induction m with
  | zero =>
    intro k u3 h
    rw [q_33_3]
    simp (disch := omega) only [cond_true, cond_false, Bool.and_true, Bool.true_and, Bool.and_false, Bool.false_and, Int.toNat_natCast, Int.reduceToNat, bI_s, bJ_s, bV_s, bR_s, decide_true, decide_false, not_true_eq_false, not_false_eq_true, dT, dF, w_al, w_la, w_ab, w_sl, w_sb, w_dec, w_ml, w_lm, ol2i_n, aup_ne, aupE, aupJ, setc_self, setc_ne, tp_0_1 hc ht, tp_0_2 hc ht, tp_0_3 hc ht, tp_0_4 hc ht, tp_0_6 hc ht, tp_0_8 hc ht, tp_0_9 hc ht, tp_0_10 hc ht, tp_0_12 hc ht, tp_0_13 hc ht, tp_0_14 hc ht, tp_3_1 hc ht, tp_3_2 hc ht, tp_3_3 hc ht, tp_3_4 hc ht, tp_8_0 hc ht, tp_8_1 hc ht, tp_8_2 hc ht, tp_18_0 hc ht, tp_18_2 hc ht, tp_18_3 hc ht, tk_0 hκ ht, tk_1 hκ ht, tn_1 hκ ht, tk_2 hκ ht, tn_2 hκ ht, tk_3 hκ ht, tk_4 hκ ht, tn_4 hκ ht, tk_5 hκ ht, tn_5 hκ ht, tk_6 hκ ht, tn_6 hκ ht, tk_7 hκ ht, tn_7 hκ ht, tk_8 hκ ht, tk_9 hκ ht, tn_9 hκ ht, tk_10 hκ ht, tn_10 hκ ht, tk_11 hκ ht, tn_11 hκ ht, tk_12 hκ ht, tn_12 hκ ht, tk_13 hκ ht, tn_13 hκ ht, tk_14 hκ ht, tn_14 hκ ht, tk_15 hκ ht, tn_15 hκ ht, tk_16 hκ ht, tn_16 hκ ht, tk_17 hκ ht, tn_17 hκ ht, tk_18 hκ ht, tk_19 hκ ht, tn_19 hκ ht, tk_20 hκ ht, tn_20 hκ ht, tk_21 hκ ht, tn_21 hκ ht, hp]
    rfl
  | succ m ih =>
    intro k u3 h
    have e := ((hP s hs).2 k (by omega)).1
    have ho := nmX_ok hX (s := s) hs (show k + 1 ≤ xnp X s by omega)
    have en : nmX X s (k + 1) = xPN X (8 * s + k) := by unfold nmX; rw [if_neg (by omega), Nat.add_sub_cancel]
    rw [← en] at e
    rw [q_33_3]
    unfold fnd
    by_cases he : nmX X s (k + 1) = w
    · rw [if_pos he, if_neg (by omega)]
      simp (disch := omega) only [cond_true, cond_false, Bool.and_true, Bool.true_and, Bool.and_false, Bool.false_and, Int.toNat_natCast, Int.reduceToNat, bI_s, bJ_s, bV_s, bR_s, decide_true, decide_false, not_true_eq_false, not_false_eq_true, dT, dF, w_al, w_la, w_ab, w_sl, w_sb, w_dec, w_ml, w_lm, ol2i_n, aup_ne, aupE, aupJ, setc_self, setc_ne, tp_0_1 hc ht, tp_0_2 hc ht, tp_0_3 hc ht, tp_0_4 hc ht, tp_0_6 hc ht, tp_0_8 hc ht, tp_0_9 hc ht, tp_0_10 hc ht, tp_0_12 hc ht, tp_0_13 hc ht, tp_0_14 hc ht, tp_3_1 hc ht, tp_3_2 hc ht, tp_3_3 hc ht, tp_3_4 hc ht, tp_8_0 hc ht, tp_8_1 hc ht, tp_8_2 hc ht, tp_18_0 hc ht, tp_18_2 hc ht, tp_18_3 hc ht, tk_0 hκ ht, tk_1 hκ ht, tn_1 hκ ht, tk_2 hκ ht, tn_2 hκ ht, tk_3 hκ ht, tk_4 hκ ht, tn_4 hκ ht, tk_5 hκ ht, tn_5 hκ ht, tk_6 hκ ht, tn_6 hκ ht, tk_7 hκ ht, tn_7 hκ ht, tk_8 hκ ht, tk_9 hκ ht, tn_9 hκ ht, tk_10 hκ ht, tn_10 hκ ht, tk_11 hκ ht, tn_11 hκ ht, tk_12 hκ ht, tn_12 hκ ht, tk_13 hκ ht, tn_13 hκ ht, tk_14 hκ ht, tn_14 hκ ht, tk_15 hκ ht, tn_15 hκ ht, tk_16 hκ ht, tn_16 hκ ht, tk_17 hκ ht, tn_17 hκ ht, tk_18 hκ ht, tk_19 hκ ht, tn_19 hκ ht, tk_20 hκ ht, tn_20 hκ ht, tk_21 hκ ht, tn_21 hκ ht, hp, Nat.mul_comm s 8, e, he, olcmp_eq]
      rw [show ((8 * s + (k + 1) : Nat) : Int) - 1 = ((8 * s + k : Nat) : Int) by omega]
    · have := p32_ne ho.1 hw.1 he
      rw [if_neg he]
      simp (disch := omega) only [cond_true, cond_false, Bool.and_true, Bool.true_and, Bool.and_false, Bool.false_and, Int.toNat_natCast, Int.reduceToNat, bI_s, bJ_s, bV_s, bR_s, decide_true, decide_false, not_true_eq_false, not_false_eq_true, dT, dF, w_al, w_la, w_ab, w_sl, w_sb, w_dec, w_ml, w_lm, ol2i_n, aup_ne, aupE, aupJ, setc_self, setc_ne, tp_0_1 hc ht, tp_0_2 hc ht, tp_0_3 hc ht, tp_0_4 hc ht, tp_0_6 hc ht, tp_0_8 hc ht, tp_0_9 hc ht, tp_0_10 hc ht, tp_0_12 hc ht, tp_0_13 hc ht, tp_0_14 hc ht, tp_3_1 hc ht, tp_3_2 hc ht, tp_3_3 hc ht, tp_3_4 hc ht, tp_8_0 hc ht, tp_8_1 hc ht, tp_8_2 hc ht, tp_18_0 hc ht, tp_18_2 hc ht, tp_18_3 hc ht, tk_0 hκ ht, tk_1 hκ ht, tn_1 hκ ht, tk_2 hκ ht, tn_2 hκ ht, tk_3 hκ ht, tk_4 hκ ht, tn_4 hκ ht, tk_5 hκ ht, tn_5 hκ ht, tk_6 hκ ht, tn_6 hκ ht, tk_7 hκ ht, tn_7 hκ ht, tk_8 hκ ht, tk_9 hκ ht, tn_9 hκ ht, tk_10 hκ ht, tn_10 hκ ht, tk_11 hκ ht, tn_11 hκ ht, tk_12 hκ ht, tn_12 hκ ht, tk_13 hκ ht, tn_13 hκ ht, tk_14 hκ ht, tn_14 hκ ht, tk_15 hκ ht, tn_15 hκ ht, tk_16 hκ ht, tn_16 hκ ht, tk_17 hκ ht, tn_17 hκ ht, tk_18 hκ ht, tk_19 hκ ht, tn_19 hκ ht, tk_20 hκ ht, tn_20 hκ ht, tk_21 hκ ht, tn_21 hκ ht, hp, Nat.mul_comm s 8, e, olcmp_eq, ih (k + 1) _ (by omega)]
theorem find_eq (xs : List Int) (d : Nat) {κ : aK} {D : Nat → Nat → Int} (hκ : Shp κ) (hc : CPtr D) {t : Nat} (ht : isT t) {X : TX} (hX : TXok X) (hP : PcC D t X) {s : Nat} (hs : s < 3) {w : List Nat} (hw : wok w) : cl xs (d + 1) 33 [.inr (.inr ((t + 8 : Nat) : Int)), .inl (s : Int), .inr (.inl (p32 w : Int))] (κ, D) = some (some (.inl (if fnd X s w (xnp X s) 0 = 0 then -1 else ((8 * s + fnd X s w (xnp X s) 0 : Nat) : Int) - 1)), (κ, D)) := by
  rw [c_33]
  exact find_loop xs d hκ hc ht hX hP hs hw (xnp X s) 0 none (by omega)
theorem PcC.ga {D : Nat → Nat → Int} {t : Nat} {X : TX} (ht : isT t) (h : PcC D t X) (n : Nat) (f : Nat → Int) : PcC (gaD D n f) t X := by
  have ht' : t = 9 ∨ t = 31 := ht
  unfold PcC
  rw [ga_q (by omega) (by omega), ga_q (by omega) (by omega), ga_q (by omega) (by omega)]
  exact h
