/-! Centuries: the class's pass, the reference's. -/
theorem pass1_loop (xs : List Int) (d : Nat) {κ : aK} {D : Nat → Nat → Int} (hκ : Shp κ) (hc : CPtr D) {t : Nat} (ht : isT t) (h5 : D 0 5 = (t : Int)) {X : TX} (hX : TXok X) (hx : TxC D t X) {c : Nat} (hcs : isS c) {S : ST} (hS : STok X S) (hF : ∀ w, w < xnw X → D (c + 3) w = (sFt S w : Int)) : ∀ (m k : Nat) (f : Nat → Int), k + m = xnw X → (∀ i, i < xnw X → f i = (p32 (if i < k then cenW X S i else sW S i) : Int)) → ∃ f' : Nat → Int, (∀ i, i < xnw X → f' i = (p32 (cenW X S i) : Int)) ∧ ev xs (d + 2) mm_80 21 [some (.inr (.inr (c : Int))), some (.inr (.inr (t : Int))), some (.inl (stoI X (sCent S))), some (.inl (k : Int))] [] (κ, setc D (c + 2) f) = ev xs (d + 2) mm_80 66 [some (.inr (.inr (c : Int))), some (.inr (.inr (t : Int))), some (.inl (stoI X (sCent S))), some (.inl 0)] [] (κ, setc D (c + 2) f') := by
  have ht' : t = 9 ∨ t = 31 := ht
  have hlt := isS_lt hcs
  have hn := hX.2.1.1
  have hnw := hx.2.1.1
  intro m
  induction m with
  | zero =>
    intro k f h hf
    refine ⟨f, fun i hi => by rw [hf i hi, if_pos (by omega)], ?_⟩
    rw [q_80_21]
    simp (disch := omega) only [cond_true, cond_false, Bool.and_true, Bool.true_and, Bool.and_false, Bool.false_and, Int.toNat_natCast, Int.reduceToNat, bI_s, bJ_s, bV_s, bR_s, decide_true, decide_false, not_true_eq_false, not_false_eq_true, dT, dF, w_al, w_la, w_ab, w_sl, w_sb, w_dec, w_ml, w_lm, ol2i_n, aup_ne, aupE, aupJ, setc_self, setc_ne, sk_0 hκ hcs, sp_1 hc hcs, sk_1 hκ hcs, sn_1 hκ hcs, sp_2 hc hcs, sk_2 hκ hcs, sn_2 hκ hcs, sp_3 hc hcs, sk_3 hκ hcs, sn_3 hκ hcs, sp_4 hc hcs, sk_4 hκ hcs, sn_4 hκ hcs, tp_0_1 hc ht, tp_0_2 hc ht, tp_0_3 hc ht, tp_0_4 hc ht, tp_0_6 hc ht, tp_0_8 hc ht, tp_0_9 hc ht, tp_0_10 hc ht, tp_0_12 hc ht, tp_0_13 hc ht, tp_0_14 hc ht, tp_3_1 hc ht, tp_3_2 hc ht, tp_3_3 hc ht, tp_3_4 hc ht, tp_8_0 hc ht, tp_8_1 hc ht, tp_8_2 hc ht, tp_18_0 hc ht, tp_18_2 hc ht, tp_18_3 hc ht, tk_0 hκ ht, tk_1 hκ ht, tn_1 hκ ht, tk_2 hκ ht, tn_2 hκ ht, tk_3 hκ ht, tk_4 hκ ht, tn_4 hκ ht, tk_5 hκ ht, tn_5 hκ ht, tk_6 hκ ht, tn_6 hκ ht, tk_7 hκ ht, tn_7 hκ ht, tk_8 hκ ht, tk_9 hκ ht, tn_9 hκ ht, tk_10 hκ ht, tn_10 hκ ht, tk_11 hκ ht, tn_11 hκ ht, tk_12 hκ ht, tn_12 hκ ht, tk_13 hκ ht, tn_13 hκ ht, tk_14 hκ ht, tn_14 hκ ht, tk_15 hκ ht, tn_15 hκ ht, tk_16 hκ ht, tn_16 hκ ht, tk_17 hκ ht, tn_17 hκ ht, tk_18 hκ ht, tk_19 hκ ht, tn_19 hκ ht, tk_20 hκ ht, tn_20 hκ ht, tk_21 hκ ht, tn_21 hκ ht, hnw]
  | succ m ih =>
    intro k f h hf
    have hfk := hf k (by omega)
    rw [if_neg (by omega)] at hfk
    have hFk := hF k (by omega)
    rw [q_80_21]
    by_cases h0 : sFt S k = 0
    · have tk := takeLot xs d hκ (hc.setc (isS_c hcs).2.1 f) ht (D := setc D (c + 2) f) (by rw [setc_ne (by omega)]; exact h5) hX (hx.congr (fun q h1 h2 => setc_ne (by omega))) (sCent S) (hS.2.2.2.1 k (by omega)).1
      obtain ⟨f', hf', e⟩ := ih (k + 1) (fun j => if j = k then (p32 (lotW X (sCent S) (sW S k)) : Int) else f j) (by omega) (fun i hi => by
        by_cases hik : i = k
        · subst hik
          rw [if_pos rfl, if_pos (by omega)]
          unfold cenW
          rw [if_pos h0]
        · rw [if_neg hik, hf i hi]
          by_cases h2 : i < k
          · rw [if_pos h2, if_pos (by omega)]
          · rw [if_neg h2, if_neg (by omega)])
      refine ⟨f', hf', ?_⟩
      simp (disch := omega) only [cond_true, cond_false, Bool.and_true, Bool.true_and, Bool.and_false, Bool.false_and, Int.toNat_natCast, Int.reduceToNat, bI_s, bJ_s, bV_s, bR_s, decide_true, decide_false, not_true_eq_false, not_false_eq_true, dT, dF, w_al, w_la, w_ab, w_sl, w_sb, w_dec, w_ml, w_lm, ol2i_n, aup_ne, aupE, aupJ, setc_self, setc_ne, sk_0 hκ hcs, sp_1 hc hcs, sk_1 hκ hcs, sn_1 hκ hcs, sp_2 hc hcs, sk_2 hκ hcs, sn_2 hκ hcs, sp_3 hc hcs, sk_3 hκ hcs, sn_3 hκ hcs, sp_4 hc hcs, sk_4 hκ hcs, sn_4 hκ hcs, tp_0_1 hc ht, tp_0_2 hc ht, tp_0_3 hc ht, tp_0_4 hc ht, tp_0_6 hc ht, tp_0_8 hc ht, tp_0_9 hc ht, tp_0_10 hc ht, tp_0_12 hc ht, tp_0_13 hc ht, tp_0_14 hc ht, tp_3_1 hc ht, tp_3_2 hc ht, tp_3_3 hc ht, tp_3_4 hc ht, tp_8_0 hc ht, tp_8_1 hc ht, tp_8_2 hc ht, tp_18_0 hc ht, tp_18_2 hc ht, tp_18_3 hc ht, tk_0 hκ ht, tk_1 hκ ht, tn_1 hκ ht, tk_2 hκ ht, tn_2 hκ ht, tk_3 hκ ht, tk_4 hκ ht, tn_4 hκ ht, tk_5 hκ ht, tn_5 hκ ht, tk_6 hκ ht, tn_6 hκ ht, tk_7 hκ ht, tn_7 hκ ht, tk_8 hκ ht, tk_9 hκ ht, tn_9 hκ ht, tk_10 hκ ht, tn_10 hκ ht, tk_11 hκ ht, tn_11 hκ ht, tk_12 hκ ht, tn_12 hκ ht, tk_13 hκ ht, tn_13 hκ ht, tk_14 hκ ht, tn_14 hκ ht, tk_15 hκ ht, tn_15 hκ ht, tk_16 hκ ht, tn_16 hκ ht, tk_17 hκ ht, tn_17 hκ ht, tk_18 hκ ht, tk_19 hκ ht, tn_19 hκ ht, tk_20 hκ ht, tn_20 hκ ht, tk_21 hκ ht, tn_21 hκ ht, hnw, hFk, h0, hfk, tk, aup_setc, e]
    · obtain ⟨f', hf', e⟩ := ih (k + 1) f (by omega) (fun i hi => by
        by_cases hik : i = k
        · subst hik
          rw [hf i hi, if_neg (by omega), if_pos (by omega)]
          unfold cenW
          rw [if_neg h0]
        · rw [hf i hi]
          by_cases h2 : i < k
          · rw [if_pos h2, if_pos (by omega)]
          · rw [if_neg h2, if_neg (by omega)])
      refine ⟨f', hf', ?_⟩
      simp (disch := omega) only [cond_true, cond_false, Bool.and_true, Bool.true_and, Bool.and_false, Bool.false_and, Int.toNat_natCast, Int.reduceToNat, bI_s, bJ_s, bV_s, bR_s, decide_true, decide_false, not_true_eq_false, not_false_eq_true, dT, dF, w_al, w_la, w_ab, w_sl, w_sb, w_dec, w_ml, w_lm, ol2i_n, aup_ne, aupE, aupJ, setc_self, setc_ne, sk_0 hκ hcs, sp_1 hc hcs, sk_1 hκ hcs, sn_1 hκ hcs, sp_2 hc hcs, sk_2 hκ hcs, sn_2 hκ hcs, sp_3 hc hcs, sk_3 hκ hcs, sn_3 hκ hcs, sp_4 hc hcs, sk_4 hκ hcs, sn_4 hκ hcs, tp_0_1 hc ht, tp_0_2 hc ht, tp_0_3 hc ht, tp_0_4 hc ht, tp_0_6 hc ht, tp_0_8 hc ht, tp_0_9 hc ht, tp_0_10 hc ht, tp_0_12 hc ht, tp_0_13 hc ht, tp_0_14 hc ht, tp_3_1 hc ht, tp_3_2 hc ht, tp_3_3 hc ht, tp_3_4 hc ht, tp_8_0 hc ht, tp_8_1 hc ht, tp_8_2 hc ht, tp_18_0 hc ht, tp_18_2 hc ht, tp_18_3 hc ht, tk_0 hκ ht, tk_1 hκ ht, tn_1 hκ ht, tk_2 hκ ht, tn_2 hκ ht, tk_3 hκ ht, tk_4 hκ ht, tn_4 hκ ht, tk_5 hκ ht, tn_5 hκ ht, tk_6 hκ ht, tn_6 hκ ht, tk_7 hκ ht, tn_7 hκ ht, tk_8 hκ ht, tk_9 hκ ht, tn_9 hκ ht, tk_10 hκ ht, tn_10 hκ ht, tk_11 hκ ht, tn_11 hκ ht, tk_12 hκ ht, tn_12 hκ ht, tk_13 hκ ht, tn_13 hκ ht, tk_14 hκ ht, tn_14 hκ ht, tk_15 hκ ht, tn_15 hκ ht, tk_16 hκ ht, tn_16 hκ ht, tk_17 hκ ht, tn_17 hκ ht, tk_18 hκ ht, tk_19 hκ ht, tn_19 hκ ht, tk_20 hκ ht, tn_20 hκ ht, tk_21 hκ ht, tn_21 hκ ht, hnw, hFk, e]
theorem pass_eq (xs : List Int) (d : Nat) {κ : aK} {D : Nat → Nat → Int} (hκ : Shp κ) (hc : CPtr D) {t : Nat} (ht : isT t) (h5 : D 0 5 = (t : Int)) {X : TX} (hX : TXok X) (hx : TxC D t X) {c : Nat} (hcs : isS c) {S : ST} (hS : STok X S) (hs : StC D c X S) : ∃ D', cl xs (d + 3) 80 [.inr (.inr (c : Int)), .inr (.inr (t : Int))] (κ, D) = some (none, (κ, D')) ∧ CPtr D' ∧ StC D' c X (cenS X S) ∧ (∀ q, q < c ∨ c + 4 < q → D' q = D q) := by
  have ht' : t = 9 ∨ t = 31 := ht
  have hlt := isS_lt hcs
  obtain ⟨p1, p2, p3, p4, p5, p6, p7, p8, p9⟩ := isS_c hcs
  obtain ⟨s1, s2, s3, s4, s5, s6, s7, s8, s9⟩ := hs
  have hseed := hx.2.2.2.2.2.1
  obtain ⟨f, hf, e1⟩ := pass1_loop xs d hκ hc ht h5 hX hx hcs hS s4 (xnw X) 0 (D (c + 2)) (by omega) (fun i hi => by rw [s3 i hi, if_neg (by omega)])
  obtain ⟨g, hg, e2⟩ := pass2_loop xs (d + 1) hκ (hc.setc p2 f) hcs ht (nw := xnw X) (by rw [setc_ne (by omega)]; exact hx.2.1.1) hX.2.1.1 (W := cenW X S) (F := sFt S) (fun i hi => by rw [setc_self]; exact ⟨hf i hi, ((cen_ok hX hS).2.2.2.1 i hi).1⟩) (stoI X (sCent S)) (xnw X) 0 (D (c + 3)) (by omega) (fun i hi => s4 i hi)
  rw [setc_id] at e1
  rw [show setc (setc D (c + 2) f) (c + 3) (D (c + 3)) = setc D (c + 2) f from by
    rw [show D (c + 3) = setc D (c + 2) f (c + 3) from (setc_ne (by omega)).symm, setc_id]] at e2
  rw [show setc D (c + 2) f c 7 = sCent S from by rw [setc_ne (by omega)]; exact s8] at e2
  refine ⟨aup (setc (setc D (c + 2) f) (c + 3) g) c 7 (w32 (sCent S + 1)), ?_, ((hc.setc p2 f).setc p3 g).up p8 _, ⟨?_, fun k hk => ?_, fun w hw => ?_, fun w hw => ?_, fun i hi => ?_, ?_, ?_, ?_, ?_⟩, fun q hq => ?_⟩
  · rw [c_80]
    simp (disch := omega) only [cond_true, cond_false, Bool.and_true, Bool.true_and, Bool.and_false, Bool.false_and, Int.toNat_natCast, Int.reduceToNat, bI_s, bJ_s, bV_s, bR_s, decide_true, decide_false, not_true_eq_false, not_false_eq_true, dT, dF, w_al, w_la, w_ab, w_sl, w_sb, w_dec, w_ml, w_lm, ol2i_n, aup_ne, aupE, aupJ, setc_self, setc_ne, sk_0 hκ hcs, sp_1 hc hcs, sk_1 hκ hcs, sn_1 hκ hcs, sp_2 hc hcs, sk_2 hκ hcs, sn_2 hκ hcs, sp_3 hc hcs, sk_3 hκ hcs, sn_3 hκ hcs, sp_4 hc hcs, sk_4 hκ hcs, sn_4 hκ hcs, tp_0_1 hc ht, tp_0_2 hc ht, tp_0_3 hc ht, tp_0_4 hc ht, tp_0_6 hc ht, tp_0_8 hc ht, tp_0_9 hc ht, tp_0_10 hc ht, tp_0_12 hc ht, tp_0_13 hc ht, tp_0_14 hc ht, tp_3_1 hc ht, tp_3_2 hc ht, tp_3_3 hc ht, tp_3_4 hc ht, tp_8_0 hc ht, tp_8_1 hc ht, tp_8_2 hc ht, tp_18_0 hc ht, tp_18_2 hc ht, tp_18_3 hc ht, tk_0 hκ ht, tk_1 hκ ht, tn_1 hκ ht, tk_2 hκ ht, tn_2 hκ ht, tk_3 hκ ht, tk_4 hκ ht, tn_4 hκ ht, tk_5 hκ ht, tn_5 hκ ht, tk_6 hκ ht, tn_6 hκ ht, tk_7 hκ ht, tn_7 hκ ht, tk_8 hκ ht, tk_9 hκ ht, tn_9 hκ ht, tk_10 hκ ht, tn_10 hκ ht, tk_11 hκ ht, tn_11 hκ ht, tk_12 hκ ht, tn_12 hκ ht, tk_13 hκ ht, tn_13 hκ ht, tk_14 hκ ht, tn_14 hκ ht, tk_15 hκ ht, tn_15 hκ ht, tk_16 hκ ht, tn_16 hκ ht, tk_17 hκ ht, tn_17 hκ ht, tk_18 hκ ht, tk_19 hκ ht, tn_19 hκ ht, tk_20 hκ ht, tn_20 hκ ht, tk_21 hκ ht, tn_21 hκ ht, hx.1.1, hseed, s8, clot_eq xs d (κ, D) hX (sCent S)]
    exact e1.trans e2
  · simp (disch := omega) only [cond_true, cond_false, Bool.and_true, Bool.true_and, Bool.and_false, Bool.false_and, Int.toNat_natCast, Int.reduceToNat, bI_s, bJ_s, bV_s, bR_s, decide_true, decide_false, not_true_eq_false, not_false_eq_true, dT, dF, w_al, w_la, w_ab, w_sl, w_sb, w_dec, w_ml, w_lm, ol2i_n, aup_ne, aupE, aupJ, setc_self, setc_ne, s1]; rfl
  · simp (disch := omega) only [cond_true, cond_false, Bool.and_true, Bool.true_and, Bool.and_false, Bool.false_and, Int.toNat_natCast, Int.reduceToNat, bI_s, bJ_s, bV_s, bR_s, decide_true, decide_false, not_true_eq_false, not_false_eq_true, dT, dF, w_al, w_la, w_ab, w_sl, w_sb, w_dec, w_ml, w_lm, ol2i_n, aup_ne, aupE, aupJ, setc_self, setc_ne, s2 k hk]; rfl
  · simp (disch := omega) only [cond_true, cond_false, Bool.and_true, Bool.true_and, Bool.and_false, Bool.false_and, Int.toNat_natCast, Int.reduceToNat, bI_s, bJ_s, bV_s, bR_s, decide_true, decide_false, not_true_eq_false, not_false_eq_true, dT, dF, w_al, w_la, w_ab, w_sl, w_sb, w_dec, w_ml, w_lm, ol2i_n, aup_ne, aupE, aupJ, setc_self, setc_ne, hf w hw]; rfl
  · simp (disch := omega) only [cond_true, cond_false, Bool.and_true, Bool.true_and, Bool.and_false, Bool.false_and, Int.toNat_natCast, Int.reduceToNat, bI_s, bJ_s, bV_s, bR_s, decide_true, decide_false, not_true_eq_false, not_false_eq_true, dT, dF, w_al, w_la, w_ab, w_sl, w_sb, w_dec, w_ml, w_lm, ol2i_n, aup_ne, aupE, aupJ, setc_self, setc_ne, hg w hw]; rfl
  · simp (disch := omega) only [cond_true, cond_false, Bool.and_true, Bool.true_and, Bool.and_false, Bool.false_and, Int.toNat_natCast, Int.reduceToNat, bI_s, bJ_s, bV_s, bR_s, decide_true, decide_false, not_true_eq_false, not_false_eq_true, dT, dF, w_al, w_la, w_ab, w_sl, w_sb, w_dec, w_ml, w_lm, ol2i_n, aup_ne, aupE, aupJ, setc_self, setc_ne, s5 i hi]; rfl
  · simp (disch := omega) only [cond_true, cond_false, Bool.and_true, Bool.true_and, Bool.and_false, Bool.false_and, Int.toNat_natCast, Int.reduceToNat, bI_s, bJ_s, bV_s, bR_s, decide_true, decide_false, not_true_eq_false, not_false_eq_true, dT, dF, w_al, w_la, w_ab, w_sl, w_sb, w_dec, w_ml, w_lm, ol2i_n, aup_ne, aupE, aupJ, setc_self, setc_ne, s6]; rfl
  · simp (disch := omega) only [cond_true, cond_false, Bool.and_true, Bool.true_and, Bool.and_false, Bool.false_and, Int.toNat_natCast, Int.reduceToNat, bI_s, bJ_s, bV_s, bR_s, decide_true, decide_false, not_true_eq_false, not_false_eq_true, dT, dF, w_al, w_la, w_ab, w_sl, w_sb, w_dec, w_ml, w_lm, ol2i_n, aup_ne, aupE, aupJ, setc_self, setc_ne, s7]; rfl
  · simp (disch := omega) only [cond_true, cond_false, Bool.and_true, Bool.true_and, Bool.and_false, Bool.false_and, Int.toNat_natCast, Int.reduceToNat, bI_s, bJ_s, bV_s, bR_s, decide_true, decide_false, not_true_eq_false, not_false_eq_true, dT, dF, w_al, w_la, w_ab, w_sl, w_sb, w_dec, w_ml, w_lm, ol2i_n, aup_ne, aupE, aupJ, setc_self, setc_ne, s8]; rfl
  · simp (disch := omega) only [cond_true, cond_false, Bool.and_true, Bool.true_and, Bool.and_false, Bool.false_and, Int.toNat_natCast, Int.reduceToNat, bI_s, bJ_s, bV_s, bR_s, decide_true, decide_false, not_true_eq_false, not_false_eq_true, dT, dF, w_al, w_la, w_ab, w_sl, w_sb, w_dec, w_ml, w_lm, ol2i_n, aup_ne, aupE, aupJ, setc_self, setc_ne, s9]; rfl
  · rw [aupN (by omega), setc_ne (by omega), setc_ne (by omega)]
theorem passes_loop (xs : List Int) (d : Nat) {κ : aK} (hκ : Shp κ) {t : Nat} (ht : isT t) {X : TX} (hX : TXok X) {c : Nat} (hcs : isS c) {n : Nat} (hn : n ≤ 1000) : ∀ (m k : Nat) (D : Nat → Nat → Int) (S : ST), k + m = n → CPtr D → D 0 5 = (t : Int) → TxC D t X → STok X S → StC D c X S → ∃ D', ev xs (d + 3) mm_79 2 [some (.inr (.inr (c : Int))), some (.inr (.inr (t : Int))), some (.inl (n : Int)), some (.inl (k : Int))] [] (κ, D) = some (none, (κ, D')) ∧ CPtr D' ∧ StC D' c X (cenN X m S) ∧ (∀ q, q < c ∨ c + 4 < q → D' q = D q) := by
  have ht' : t = 9 ∨ t = 31 := ht
  have hlt := isS_lt hcs
  intro m
  induction m with
  | zero =>
    intro k D S h hc h5 hx hS hs
    refine ⟨D, ?_, hc, hs, fun _ _ => rfl⟩
    rw [q_79_2]
    simp (disch := omega) only [cond_true, cond_false, Bool.and_true, Bool.true_and, Bool.and_false, Bool.false_and, Int.toNat_natCast, Int.reduceToNat, bI_s, bJ_s, bV_s, bR_s, decide_true, decide_false, not_true_eq_false, not_false_eq_true, dT, dF, w_al, w_la, w_ab, w_sl, w_sb, w_dec, w_ml, w_lm, ol2i_n, aup_ne, aupE, aupJ, setc_self, setc_ne]
  | succ m ih =>
    intro k D S h hc h5 hx hS hs
    obtain ⟨D1, e1, c1, s1, f1⟩ := pass_eq xs d hκ hc ht h5 hX hx hcs hS hs
    obtain ⟨D2, e2, c2, s2, f2⟩ := ih (k + 1) D1 (cenS X S) (by omega) c1 (by rw [f1 0 (by omega)]; exact h5) (hx.congr (fun q h1 h2 => f1 q (by omega))) (cen_ok hX hS) s1
    refine ⟨D2, ?_, c2, s2, fun q hq => (f2 q hq).trans (f1 q hq)⟩
    rw [q_79_2]
    simp (disch := omega) only [cond_true, cond_false, Bool.and_true, Bool.true_and, Bool.and_false, Bool.false_and, Int.toNat_natCast, Int.reduceToNat, bI_s, bJ_s, bV_s, bR_s, decide_true, decide_false, not_true_eq_false, not_false_eq_true, dT, dF, w_al, w_la, w_ab, w_sl, w_sb, w_dec, w_ml, w_lm, ol2i_n, aup_ne, aupE, aupJ, setc_self, setc_ne, sk_0 hκ hcs, sp_1 hc hcs, sk_1 hκ hcs, sn_1 hκ hcs, sp_2 hc hcs, sk_2 hκ hcs, sn_2 hκ hcs, sp_3 hc hcs, sk_3 hκ hcs, sn_3 hκ hcs, sp_4 hc hcs, sk_4 hκ hcs, sn_4 hκ hcs, e1, e2]
theorem passes_eq (xs : List Int) (d : Nat) {κ : aK} {D : Nat → Nat → Int} (hκ : Shp κ) (hc : CPtr D) {t : Nat} (ht : isT t) (h5 : D 0 5 = (t : Int)) {X : TX} (hX : TXok X) (hx : TxC D t X) {c : Nat} (hcs : isS c) {S : ST} (hS : STok X S) (hs : StC D c X S) {n : Nat} (hn : n ≤ 1000) : ∃ D', cl xs (d + 4) 79 [.inr (.inr (c : Int)), .inr (.inr (t : Int)), .inl (n : Int)] (κ, D) = some (none, (κ, D')) ∧ CPtr D' ∧ StC D' c X (cenN X n S) ∧ (∀ q, q < c ∨ c + 4 < q → D' q = D q) := by
  rw [c_79]
  exact passes_loop xs d hκ ht hX hcs hn n 0 D S (by omega) hc h5 hx hS hs
theorem w32_w64 (x : Int) : w32 (w64 x) = w32 x := by
  rw [← ol2i_w, ← ol2i_w]
  unfold ol2i w64
  rw [Int64.ofInt_toInt]
theorem aup_s2 {D : Nat → Nat → Int} {a b k : Nat} {f g : Nat → Int} {x : Int} (h : a ≠ b) : aup (setc (setc D a f) b g) a k x = setc (setc D a (fun j => if j = k then x else f j)) b g := by
  funext q j
  unfold aup setc
  by_cases h1 : q = a
  · subst h1
    simp [h]
  · simp [h1]
theorem s2_id {D : Nat → Nat → Int} (g : Nat → Int) : setc (setc D 302 (D 302)) 303 g = setc D 303 g := by rw [setc_id]
theorem isWholeX (xs : List Int) (d : Nat) {κ : aK} {D : Nat → Nat → Int} (hκ : Shp κ) {v : Nat} {X : TX} (hR : RI D v X) {r g : Nat → Int} {w F : Nat} (hw : w < 10) (hF : r (10 + w) = (F : Int)) : cl xs (d + 1) 233 [.inr (.inr 256), .inl (w : Int)] (κ, setc (setc D 302 r) 303 g) = some (some (.inl (if F = 0 then 1 else 0)), (κ, setc (setc D 302 r) 303 g)) := by
  have hp := hR.1
  have hk := k_256 hκ
  rw [c_233]
  by_cases h0 : F = 0
  · rw [if_pos h0]
    simp (disch := omega) only [cond_true, cond_false, Bool.and_true, Bool.true_and, Bool.and_false, Bool.false_and, Int.toNat_natCast, Int.reduceToNat, bI_s, bJ_s, bV_s, bR_s, decide_true, decide_false, not_true_eq_false, not_false_eq_true, dT, dF, w_al, w_la, w_ab, w_sl, w_sb, w_dec, w_ml, w_lm, ol2i_n, aup_ne, aupE, aupJ, setc_self, setc_ne, pr_1 hp, pr_3 hp, pr_5 hp, pr_6 hp, pr_7 hp, pr_8 hp, pr_9 hp, pr_20 hp, pr_21 hp, pr_22 hp, pr_23 hp, pr_24 hp, pr_25 hp, pr_26 hp, pr_27 hp, pr_28 hp, pr_29 hp, pr_30 hp, pr_31 hp, pr_32 hp, pr_33 hp, pr_34 hp, pr_35 hp, pr_36 hp, pr_37 hp, pr_38 hp, pr_39 hp, pr_40 hp, pr_41 hp, pr_42 hp, pr_43 hp, pr_44 hp, pr_45 hp, pr_46 hp, pr_48 hp, pr_49 hp, pr_50 hp, pr_51 hp, pr_52 hp, pr_54 hp, pr_55 hp, pr_58 hp, pr_60 hp, pr_61 hp, pr_63 hp, pr_64 hp, pr_65 hp, pr_71 hp, pr_72 hp, pr_73 hp, pr_75 hp, pr_76 hp, pr_78 hp, pr_80 hp, pr_81 hp, pr_82 hp, pr_83 hp, pr_84 hp, k_256 hκ, n_257 hκ, n_258 hκ, n_259 hκ, n_260 hκ, n_261 hκ, n_262 hκ, n_263 hκ, n_264 hκ, n_265 hκ, n_266 hκ, n_267 hκ, n_268 hκ, n_269 hκ, n_270 hκ, n_271 hκ, n_272 hκ, n_273 hκ, n_274 hκ, n_275 hκ, n_276 hκ, n_277 hκ, n_278 hκ, n_279 hκ, n_280 hκ, n_281 hκ, n_282 hκ, n_283 hκ, n_284 hκ, n_285 hκ, n_286 hκ, n_287 hκ, n_288 hκ, n_289 hκ, n_290 hκ, n_291 hκ, n_292 hκ, n_293 hκ, n_294 hκ, n_295 hκ, n_296 hκ, n_297 hκ, n_298 hκ, n_299 hκ, n_300 hκ, n_301 hκ, n_302 hκ, n_303 hκ, n_304 hκ, n_305 hκ, n_306 hκ, n_307 hκ, n_308 hκ, n_309 hκ, n_310 hκ, n_311 hκ, n_312 hκ, n_313 hκ, n_314 hκ, hF, olcmp_eq]
  · rw [if_neg h0]
    simp (disch := omega) only [cond_true, cond_false, Bool.and_true, Bool.true_and, Bool.and_false, Bool.false_and, Int.toNat_natCast, Int.reduceToNat, bI_s, bJ_s, bV_s, bR_s, decide_true, decide_false, not_true_eq_false, not_false_eq_true, dT, dF, w_al, w_la, w_ab, w_sl, w_sb, w_dec, w_ml, w_lm, ol2i_n, aup_ne, aupE, aupJ, setc_self, setc_ne, pr_1 hp, pr_3 hp, pr_5 hp, pr_6 hp, pr_7 hp, pr_8 hp, pr_9 hp, pr_20 hp, pr_21 hp, pr_22 hp, pr_23 hp, pr_24 hp, pr_25 hp, pr_26 hp, pr_27 hp, pr_28 hp, pr_29 hp, pr_30 hp, pr_31 hp, pr_32 hp, pr_33 hp, pr_34 hp, pr_35 hp, pr_36 hp, pr_37 hp, pr_38 hp, pr_39 hp, pr_40 hp, pr_41 hp, pr_42 hp, pr_43 hp, pr_44 hp, pr_45 hp, pr_46 hp, pr_48 hp, pr_49 hp, pr_50 hp, pr_51 hp, pr_52 hp, pr_54 hp, pr_55 hp, pr_58 hp, pr_60 hp, pr_61 hp, pr_63 hp, pr_64 hp, pr_65 hp, pr_71 hp, pr_72 hp, pr_73 hp, pr_75 hp, pr_76 hp, pr_78 hp, pr_80 hp, pr_81 hp, pr_82 hp, pr_83 hp, pr_84 hp, k_256 hκ, n_257 hκ, n_258 hκ, n_259 hκ, n_260 hκ, n_261 hκ, n_262 hκ, n_263 hκ, n_264 hκ, n_265 hκ, n_266 hκ, n_267 hκ, n_268 hκ, n_269 hκ, n_270 hκ, n_271 hκ, n_272 hκ, n_273 hκ, n_274 hκ, n_275 hκ, n_276 hκ, n_277 hκ, n_278 hκ, n_279 hκ, n_280 hκ, n_281 hκ, n_282 hκ, n_283 hκ, n_284 hκ, n_285 hκ, n_286 hκ, n_287 hκ, n_288 hκ, n_289 hκ, n_290 hκ, n_291 hκ, n_292 hκ, n_293 hκ, n_294 hκ, n_295 hκ, n_296 hκ, n_297 hκ, n_298 hκ, n_299 hκ, n_300 hκ, n_301 hκ, n_302 hκ, n_303 hκ, n_304 hκ, n_305 hκ, n_306 hκ, n_307 hκ, n_308 hκ, n_309 hκ, n_310 hκ, n_311 hκ, n_312 hκ, n_313 hκ, n_314 hκ, hF, olcmp_eq]
theorem dying_loop (xs : List Int) (d : Nat) {κ : aK} {D : Nat → Nat → Int} (hκ : Shp κ) {v : Nat} {X : TX} (hR : RI D v X) {r g : Nat → Int} {W : Nat → List Nat} {F : Nat → Nat} {w : Nat} (hw : w < 10) (hW : ∀ i, i ≤ w → r i = (p27 (W i) : Int) ∧ wok (W i)) (hF : ∀ i, i ≤ w → r (10 + i) = (F i : Int)) : ∀ (m k : Nat), k + m = w → ev xs (d + 1) mm_272 15 [some (.inr (.inr 256)), some (.inl (w : Int)), some (.inl (k : Int))] [] (κ, setc (setc D 302 r) 303 g) = some (some (.inl (if smA W F w m k = true then 1 else 0)), (κ, setc (setc D 302 r) 303 g)) := by
  have hp := hR.1
  have hk := k_256 hκ
  intro m
  induction m with
  | zero =>
    intro k h
    rw [q_272_15]
    simp (disch := omega) only [cond_true, cond_false, Bool.and_true, Bool.true_and, Bool.and_false, Bool.false_and, Int.toNat_natCast, Int.reduceToNat, bI_s, bJ_s, bV_s, bR_s, decide_true, decide_false, not_true_eq_false, not_false_eq_true, dT, dF, w_al, w_la, w_ab, w_sl, w_sb, w_dec, w_ml, w_lm, ol2i_n, aup_ne, aupE, aupJ, setc_self, setc_ne]
    rfl
  | succ m ih =>
    intro k h
    obtain ⟨e1, k1⟩ := hW k (by omega)
    obtain ⟨e2, k2⟩ := hW w (by omega)
    have iw := isWholeX xs d hκ hR (r := r) (g := g) (w := k) (by omega) (hF k (by omega))
    rw [q_272_15]
    unfold smA
    by_cases hf : F k = 0
    · by_cases he : W k = W w
      · rw [if_pos (show F k = 0 ∧ W k = W w from ⟨hf, he⟩)]
        simp (disch := omega) only [cond_true, cond_false, Bool.and_true, Bool.true_and, Bool.and_false, Bool.false_and, Int.toNat_natCast, Int.reduceToNat, bI_s, bJ_s, bV_s, bR_s, decide_true, decide_false, not_true_eq_false, not_false_eq_true, dT, dF, w_al, w_la, w_ab, w_sl, w_sb, w_dec, w_ml, w_lm, ol2i_n, aup_ne, aupE, aupJ, setc_self, setc_ne, pr_1 hp, pr_3 hp, pr_5 hp, pr_6 hp, pr_7 hp, pr_8 hp, pr_9 hp, pr_20 hp, pr_21 hp, pr_22 hp, pr_23 hp, pr_24 hp, pr_25 hp, pr_26 hp, pr_27 hp, pr_28 hp, pr_29 hp, pr_30 hp, pr_31 hp, pr_32 hp, pr_33 hp, pr_34 hp, pr_35 hp, pr_36 hp, pr_37 hp, pr_38 hp, pr_39 hp, pr_40 hp, pr_41 hp, pr_42 hp, pr_43 hp, pr_44 hp, pr_45 hp, pr_46 hp, pr_48 hp, pr_49 hp, pr_50 hp, pr_51 hp, pr_52 hp, pr_54 hp, pr_55 hp, pr_58 hp, pr_60 hp, pr_61 hp, pr_63 hp, pr_64 hp, pr_65 hp, pr_71 hp, pr_72 hp, pr_73 hp, pr_75 hp, pr_76 hp, pr_78 hp, pr_80 hp, pr_81 hp, pr_82 hp, pr_83 hp, pr_84 hp, k_256 hκ, n_257 hκ, n_258 hκ, n_259 hκ, n_260 hκ, n_261 hκ, n_262 hκ, n_263 hκ, n_264 hκ, n_265 hκ, n_266 hκ, n_267 hκ, n_268 hκ, n_269 hκ, n_270 hκ, n_271 hκ, n_272 hκ, n_273 hκ, n_274 hκ, n_275 hκ, n_276 hκ, n_277 hκ, n_278 hκ, n_279 hκ, n_280 hκ, n_281 hκ, n_282 hκ, n_283 hκ, n_284 hκ, n_285 hκ, n_286 hκ, n_287 hκ, n_288 hκ, n_289 hκ, n_290 hκ, n_291 hκ, n_292 hκ, n_293 hκ, n_294 hκ, n_295 hκ, n_296 hκ, n_297 hκ, n_298 hκ, n_299 hκ, n_300 hκ, n_301 hκ, n_302 hκ, n_303 hκ, n_304 hκ, n_305 hκ, n_306 hκ, n_307 hκ, n_308 hκ, n_309 hκ, n_310 hκ, n_311 hκ, n_312 hκ, n_313 hκ, n_314 hκ, iw, e1, e2, olcmp_eq, he, hf, if_true]
      · have hne := p27_ne k1.1 k2.1 he
        rw [if_neg (show ¬ (F k = 0 ∧ W k = W w) from fun q => he q.2)]
        simp (disch := omega) only [cond_true, cond_false, Bool.and_true, Bool.true_and, Bool.and_false, Bool.false_and, Int.toNat_natCast, Int.reduceToNat, bI_s, bJ_s, bV_s, bR_s, decide_true, decide_false, not_true_eq_false, not_false_eq_true, dT, dF, w_al, w_la, w_ab, w_sl, w_sb, w_dec, w_ml, w_lm, ol2i_n, aup_ne, aupE, aupJ, setc_self, setc_ne, pr_1 hp, pr_3 hp, pr_5 hp, pr_6 hp, pr_7 hp, pr_8 hp, pr_9 hp, pr_20 hp, pr_21 hp, pr_22 hp, pr_23 hp, pr_24 hp, pr_25 hp, pr_26 hp, pr_27 hp, pr_28 hp, pr_29 hp, pr_30 hp, pr_31 hp, pr_32 hp, pr_33 hp, pr_34 hp, pr_35 hp, pr_36 hp, pr_37 hp, pr_38 hp, pr_39 hp, pr_40 hp, pr_41 hp, pr_42 hp, pr_43 hp, pr_44 hp, pr_45 hp, pr_46 hp, pr_48 hp, pr_49 hp, pr_50 hp, pr_51 hp, pr_52 hp, pr_54 hp, pr_55 hp, pr_58 hp, pr_60 hp, pr_61 hp, pr_63 hp, pr_64 hp, pr_65 hp, pr_71 hp, pr_72 hp, pr_73 hp, pr_75 hp, pr_76 hp, pr_78 hp, pr_80 hp, pr_81 hp, pr_82 hp, pr_83 hp, pr_84 hp, k_256 hκ, n_257 hκ, n_258 hκ, n_259 hκ, n_260 hκ, n_261 hκ, n_262 hκ, n_263 hκ, n_264 hκ, n_265 hκ, n_266 hκ, n_267 hκ, n_268 hκ, n_269 hκ, n_270 hκ, n_271 hκ, n_272 hκ, n_273 hκ, n_274 hκ, n_275 hκ, n_276 hκ, n_277 hκ, n_278 hκ, n_279 hκ, n_280 hκ, n_281 hκ, n_282 hκ, n_283 hκ, n_284 hκ, n_285 hκ, n_286 hκ, n_287 hκ, n_288 hκ, n_289 hκ, n_290 hκ, n_291 hκ, n_292 hκ, n_293 hκ, n_294 hκ, n_295 hκ, n_296 hκ, n_297 hκ, n_298 hκ, n_299 hκ, n_300 hκ, n_301 hκ, n_302 hκ, n_303 hκ, n_304 hκ, n_305 hκ, n_306 hκ, n_307 hκ, n_308 hκ, n_309 hκ, n_310 hκ, n_311 hκ, n_312 hκ, n_313 hκ, n_314 hκ, iw, e1, e2, olcmp_eq, hf, if_true, ih (k + 1) (by omega)]
    · rw [if_neg (show ¬ (F k = 0 ∧ W k = W w) from fun q => hf q.1)]
      simp (disch := omega) only [cond_true, cond_false, Bool.and_true, Bool.true_and, Bool.and_false, Bool.false_and, Int.toNat_natCast, Int.reduceToNat, bI_s, bJ_s, bV_s, bR_s, decide_true, decide_false, not_true_eq_false, not_false_eq_true, dT, dF, w_al, w_la, w_ab, w_sl, w_sb, w_dec, w_ml, w_lm, ol2i_n, aup_ne, aupE, aupJ, setc_self, setc_ne, pr_1 hp, pr_3 hp, pr_5 hp, pr_6 hp, pr_7 hp, pr_8 hp, pr_9 hp, pr_20 hp, pr_21 hp, pr_22 hp, pr_23 hp, pr_24 hp, pr_25 hp, pr_26 hp, pr_27 hp, pr_28 hp, pr_29 hp, pr_30 hp, pr_31 hp, pr_32 hp, pr_33 hp, pr_34 hp, pr_35 hp, pr_36 hp, pr_37 hp, pr_38 hp, pr_39 hp, pr_40 hp, pr_41 hp, pr_42 hp, pr_43 hp, pr_44 hp, pr_45 hp, pr_46 hp, pr_48 hp, pr_49 hp, pr_50 hp, pr_51 hp, pr_52 hp, pr_54 hp, pr_55 hp, pr_58 hp, pr_60 hp, pr_61 hp, pr_63 hp, pr_64 hp, pr_65 hp, pr_71 hp, pr_72 hp, pr_73 hp, pr_75 hp, pr_76 hp, pr_78 hp, pr_80 hp, pr_81 hp, pr_82 hp, pr_83 hp, pr_84 hp, k_256 hκ, n_257 hκ, n_258 hκ, n_259 hκ, n_260 hκ, n_261 hκ, n_262 hκ, n_263 hκ, n_264 hκ, n_265 hκ, n_266 hκ, n_267 hκ, n_268 hκ, n_269 hκ, n_270 hκ, n_271 hκ, n_272 hκ, n_273 hκ, n_274 hκ, n_275 hκ, n_276 hκ, n_277 hκ, n_278 hκ, n_279 hκ, n_280 hκ, n_281 hκ, n_282 hκ, n_283 hκ, n_284 hκ, n_285 hκ, n_286 hκ, n_287 hκ, n_288 hκ, n_289 hκ, n_290 hκ, n_291 hκ, n_292 hκ, n_293 hκ, n_294 hκ, n_295 hκ, n_296 hκ, n_297 hκ, n_298 hκ, n_299 hκ, n_300 hκ, n_301 hκ, n_302 hκ, n_303 hκ, n_304 hκ, n_305 hκ, n_306 hκ, n_307 hκ, n_308 hκ, n_309 hκ, n_310 hκ, n_311 hκ, n_312 hκ, n_313 hκ, n_314 hκ, iw, hf, if_false, ih (k + 1) (by omega)]
/-- what of a row a century leaves alone -/
def rowF (r r' : Nat → Int) : Prop := ∀ j, 20 ≤ j → j ≠ 53 → r' j = r j
theorem cent2_loop (xs : List Int) (d : Nat) {κ : aK} {D : Nat → Nat → Int} (hκ : Shp κ) {v : Nat} {X : TX} (hX : TXok X) (hR : RI D v X) {W : Nat → List Nat} {F : Nat → Nat} {g : Nat → Int} (v2 : Option aV) : ∀ (m k : Nat) (r : Nat → Int), k + m = xnw X → (∀ i, i < xnw X → r i = (p27 (W i) : Int) ∧ wok (W i)) → (∀ i, i < xnw X → r (10 + i) = (dieF W F k i : Int)) → ∃ r' : Nat → Int, (∀ i, i < xnw X → r' i = (p27 (W i) : Int)) ∧ (∀ i, i < xnw X → r' (10 + i) = (dieF W F (xnw X) i : Int)) ∧ rowF r r' ∧ r' 53 = w64 (r 53 + 1) ∧ ev xs (d + 2) mm_273 90 [some (.inr (.inr 256)), some (.inl (k : Int)), v2] [] (κ, setc (setc D 302 r) 303 g) = some (none, (κ, setc (setc D 302 r') 303 g)) := by
  have hp := hR.1; have hv := hR.2.1; have hv2 := hR.2.2.1; have hT := hR.2.2.2.2; have x1 := hX.1.1; have x2 := hX.2.1.1; have hk := k_256 hκ
  intro m
  induction m with
  | zero =>
    intro k r h hW hF
    refine ⟨fun j => if j = 53 then w64 (r 53 + 1) else r j, fun i hi => ?_, fun i hi => ?_, fun j h1 h2 => if_neg h2, if_pos rfl, ?_⟩
    · exact (if_neg (show ¬ i = 53 by omega)).trans (hW i hi).1
    · exact (if_neg (show ¬ 10 + i = 53 by omega)).trans (by rw [hF i hi, show k = xnw X by omega])
    · rw [q_273_90]
      simp (disch := omega) only [cond_true, cond_false, Bool.and_true, Bool.true_and, Bool.and_false, Bool.false_and, Int.toNat_natCast, Int.reduceToNat, bI_s, bJ_s, bV_s, bR_s, decide_true, decide_false, not_true_eq_false, not_false_eq_true, dT, dF, w_al, w_la, w_ab, w_sl, w_sb, w_dec, w_ml, w_lm, ol2i_n, aup_ne, aupE, aupJ, setc_self, setc_ne, pr_1 hp, pr_3 hp, pr_5 hp, pr_6 hp, pr_7 hp, pr_8 hp, pr_9 hp, pr_20 hp, pr_21 hp, pr_22 hp, pr_23 hp, pr_24 hp, pr_25 hp, pr_26 hp, pr_27 hp, pr_28 hp, pr_29 hp, pr_30 hp, pr_31 hp, pr_32 hp, pr_33 hp, pr_34 hp, pr_35 hp, pr_36 hp, pr_37 hp, pr_38 hp, pr_39 hp, pr_40 hp, pr_41 hp, pr_42 hp, pr_43 hp, pr_44 hp, pr_45 hp, pr_46 hp, pr_48 hp, pr_49 hp, pr_50 hp, pr_51 hp, pr_52 hp, pr_54 hp, pr_55 hp, pr_58 hp, pr_60 hp, pr_61 hp, pr_63 hp, pr_64 hp, pr_65 hp, pr_71 hp, pr_72 hp, pr_73 hp, pr_75 hp, pr_76 hp, pr_78 hp, pr_80 hp, pr_81 hp, pr_82 hp, pr_83 hp, pr_84 hp, k_256 hκ, n_257 hκ, n_258 hκ, n_259 hκ, n_260 hκ, n_261 hκ, n_262 hκ, n_263 hκ, n_264 hκ, n_265 hκ, n_266 hκ, n_267 hκ, n_268 hκ, n_269 hκ, n_270 hκ, n_271 hκ, n_272 hκ, n_273 hκ, n_274 hκ, n_275 hκ, n_276 hκ, n_277 hκ, n_278 hκ, n_279 hκ, n_280 hκ, n_281 hκ, n_282 hκ, n_283 hκ, n_284 hκ, n_285 hκ, n_286 hκ, n_287 hκ, n_288 hκ, n_289 hκ, n_290 hκ, n_291 hκ, n_292 hκ, n_293 hκ, n_294 hκ, n_295 hκ, n_296 hκ, n_297 hκ, n_298 hκ, n_299 hκ, n_300 hκ, n_301 hκ, n_302 hκ, n_303 hκ, n_304 hκ, n_305 hκ, n_306 hκ, n_307 hκ, n_308 hκ, n_309 hκ, n_310 hκ, n_311 hκ, n_312 hκ, n_313 hκ, n_314 hκ, hv, hT.2.1.1, aup_s2]
  | succ m ih =>
    intro k r h hW hF
    have hFk := hF k (by omega)
    have e1 := hW k (by omega)
    have iw := isWholeX xs (d + 1) hκ hR (r := r) (g := g) (w := k) (by omega) hFk
    have aa := dying_loop xs d hκ hR (r := r) (g := g) (W := W) (F := dieF W F k) (w := k) (by omega) (fun i hi => hW i (by omega)) (fun i hi => hF i (by omega)) k 0 (by omega)
    have keep : ¬ (dieF W F k k = 0 ∧ (W k = [] ∨ smA W (dieF W F k) k k 0 = true)) → (∀ i, i < xnw X → r (10 + i) = (dieF W F (k + 1) i : Int)) := fun hp i hi => by
      rw [hF i hi]
      show _ = ((if dieF W F k k = 0 ∧ (W k = [] ∨ smA W (dieF W F k) k k 0 = true) then (fun i => if i = k then 2 else dieF W F k i) else dieF W F k) i : Int)
      rw [if_neg hp]
    have kill : (dieF W F k k = 0 ∧ (W k = [] ∨ smA W (dieF W F k) k k 0 = true)) → (∀ i, i < xnw X → (if 10 + i = 10 + k then (2 : Int) else r (10 + i)) = (dieF W F (k + 1) i : Int)) := fun hp i hi => by
      rw [hF i hi]
      show _ = (((if dieF W F k k = 0 ∧ (W k = [] ∨ smA W (dieF W F k) k k 0 = true) then (fun i => if i = k then 2 else dieF W F k i) else dieF W F k) i : Nat) : Int)
      rw [if_pos hp]
      by_cases hik : i = k
      · rw [if_pos (by omega)]; simp [hik]
      · rw [if_neg (by omega)]; simp [hik]
    have hW2 : ∀ i, i < xnw X → (if i = 10 + k then (2 : Int) else r i) = (p27 (W i) : Int) ∧ wok (W i) := fun i hi => by
      rw [if_neg (by omega)]; exact hW i hi
    have done : (dieF W F k k = 0 ∧ (W k = [] ∨ smA W (dieF W F k) k k 0 = true)) → ∃ r' : Nat → Int, (∀ i, i < xnw X → r' i = (p27 (W i) : Int)) ∧ (∀ i, i < xnw X → r' (10 + i) = (dieF W F (xnw X) i : Int)) ∧ rowF r r' ∧ r' 53 = w64 (r 53 + 1) ∧ ev xs (d + 2) mm_273 90 [some (.inr (.inr 256)), some (.inl ((k + 1 : Nat) : Int)), v2] [] (κ, setc (setc D 302 (fun j => if j = 10 + k then 2 else r j)) 303 g) = some (none, (κ, setc (setc D 302 r') 303 g)) := fun hp => by
      obtain ⟨r', a1, a2, a3, a4, a5⟩ := ih (k + 1) (fun j => if j = 10 + k then 2 else r j) (by omega) hW2 (kill hp)
      refine ⟨r', a1, a2, fun j h1 h2 => ?_, ?_, a5⟩
      · rw [a3 j h1 h2]; exact if_neg (by omega)
      · rw [a4]
        show w64 ((if 53 = 10 + k then (2 : Int) else r 53) + 1) = _
        rw [if_neg (by omega)]
    rw [q_273_90]
    by_cases hf : dieF W F k k = 0
    · by_cases hw0 : W k = []
      · have e0 : p27 (W k) = 0 := by rw [hw0]; rfl
        obtain ⟨r', a1, a2, a3, a4, a5⟩ := done ⟨hf, Or.inl hw0⟩
        refine ⟨r', a1, a2, a3, a4, ?_⟩
        simp (disch := omega) only [cond_true, cond_false, Bool.and_true, Bool.true_and, Bool.and_false, Bool.false_and, Int.toNat_natCast, Int.reduceToNat, bI_s, bJ_s, bV_s, bR_s, decide_true, decide_false, not_true_eq_false, not_false_eq_true, dT, dF, w_al, w_la, w_ab, w_sl, w_sb, w_dec, w_ml, w_lm, ol2i_n, aup_ne, aupE, aupJ, setc_self, setc_ne, pr_1 hp, pr_3 hp, pr_5 hp, pr_6 hp, pr_7 hp, pr_8 hp, pr_9 hp, pr_20 hp, pr_21 hp, pr_22 hp, pr_23 hp, pr_24 hp, pr_25 hp, pr_26 hp, pr_27 hp, pr_28 hp, pr_29 hp, pr_30 hp, pr_31 hp, pr_32 hp, pr_33 hp, pr_34 hp, pr_35 hp, pr_36 hp, pr_37 hp, pr_38 hp, pr_39 hp, pr_40 hp, pr_41 hp, pr_42 hp, pr_43 hp, pr_44 hp, pr_45 hp, pr_46 hp, pr_48 hp, pr_49 hp, pr_50 hp, pr_51 hp, pr_52 hp, pr_54 hp, pr_55 hp, pr_58 hp, pr_60 hp, pr_61 hp, pr_63 hp, pr_64 hp, pr_65 hp, pr_71 hp, pr_72 hp, pr_73 hp, pr_75 hp, pr_76 hp, pr_78 hp, pr_80 hp, pr_81 hp, pr_82 hp, pr_83 hp, pr_84 hp, k_256 hκ, n_257 hκ, n_258 hκ, n_259 hκ, n_260 hκ, n_261 hκ, n_262 hκ, n_263 hκ, n_264 hκ, n_265 hκ, n_266 hκ, n_267 hκ, n_268 hκ, n_269 hκ, n_270 hκ, n_271 hκ, n_272 hκ, n_273 hκ, n_274 hκ, n_275 hκ, n_276 hκ, n_277 hκ, n_278 hκ, n_279 hκ, n_280 hκ, n_281 hκ, n_282 hκ, n_283 hκ, n_284 hκ, n_285 hκ, n_286 hκ, n_287 hκ, n_288 hκ, n_289 hκ, n_290 hκ, n_291 hκ, n_292 hκ, n_293 hκ, n_294 hκ, n_295 hκ, n_296 hκ, n_297 hκ, n_298 hκ, n_299 hκ, n_300 hκ, n_301 hκ, n_302 hκ, n_303 hκ, n_304 hκ, n_305 hκ, n_306 hκ, n_307 hκ, n_308 hκ, n_309 hκ, n_310 hκ, n_311 hκ, n_312 hκ, n_313 hκ, n_314 hκ, hv, hT.2.1.1, iw, hf, if_true, c_272, e1.1, olcmp_eq, aup_s2, a5]
      · have e0 := p27_nz e1.2.1 hw0
        by_cases hs : smA W (dieF W F k) k k 0 = true
        · obtain ⟨r', a1, a2, a3, a4, a5⟩ := done ⟨hf, Or.inr hs⟩
          refine ⟨r', a1, a2, a3, a4, ?_⟩
          rw [if_pos hs] at aa
          simp (disch := omega) only [cond_true, cond_false, Bool.and_true, Bool.true_and, Bool.and_false, Bool.false_and, Int.toNat_natCast, Int.reduceToNat, bI_s, bJ_s, bV_s, bR_s, decide_true, decide_false, not_true_eq_false, not_false_eq_true, dT, dF, w_al, w_la, w_ab, w_sl, w_sb, w_dec, w_ml, w_lm, ol2i_n, aup_ne, aupE, aupJ, setc_self, setc_ne, pr_1 hp, pr_3 hp, pr_5 hp, pr_6 hp, pr_7 hp, pr_8 hp, pr_9 hp, pr_20 hp, pr_21 hp, pr_22 hp, pr_23 hp, pr_24 hp, pr_25 hp, pr_26 hp, pr_27 hp, pr_28 hp, pr_29 hp, pr_30 hp, pr_31 hp, pr_32 hp, pr_33 hp, pr_34 hp, pr_35 hp, pr_36 hp, pr_37 hp, pr_38 hp, pr_39 hp, pr_40 hp, pr_41 hp, pr_42 hp, pr_43 hp, pr_44 hp, pr_45 hp, pr_46 hp, pr_48 hp, pr_49 hp, pr_50 hp, pr_51 hp, pr_52 hp, pr_54 hp, pr_55 hp, pr_58 hp, pr_60 hp, pr_61 hp, pr_63 hp, pr_64 hp, pr_65 hp, pr_71 hp, pr_72 hp, pr_73 hp, pr_75 hp, pr_76 hp, pr_78 hp, pr_80 hp, pr_81 hp, pr_82 hp, pr_83 hp, pr_84 hp, k_256 hκ, n_257 hκ, n_258 hκ, n_259 hκ, n_260 hκ, n_261 hκ, n_262 hκ, n_263 hκ, n_264 hκ, n_265 hκ, n_266 hκ, n_267 hκ, n_268 hκ, n_269 hκ, n_270 hκ, n_271 hκ, n_272 hκ, n_273 hκ, n_274 hκ, n_275 hκ, n_276 hκ, n_277 hκ, n_278 hκ, n_279 hκ, n_280 hκ, n_281 hκ, n_282 hκ, n_283 hκ, n_284 hκ, n_285 hκ, n_286 hκ, n_287 hκ, n_288 hκ, n_289 hκ, n_290 hκ, n_291 hκ, n_292 hκ, n_293 hκ, n_294 hκ, n_295 hκ, n_296 hκ, n_297 hκ, n_298 hκ, n_299 hκ, n_300 hκ, n_301 hκ, n_302 hκ, n_303 hκ, n_304 hκ, n_305 hκ, n_306 hκ, n_307 hκ, n_308 hκ, n_309 hκ, n_310 hκ, n_311 hκ, n_312 hκ, n_313 hκ, n_314 hκ, hv, hT.2.1.1, iw, hf, if_true, c_272, e1.1, olcmp_eq, (show ev xs (d + 1) mm_272 15 [some (.inr (.inr 256)), some (.inl (k : Int)), some (.inl 0)] [] (κ, setc (setc D 302 r) 303 g) = _ from aa), aup_s2, a5]
        · obtain ⟨r', a1, a2, a3, a4, a5⟩ := ih (k + 1) r (by omega) hW (keep (fun q => by rcases q.2 with h | h; exact hw0 h; exact hs h))
          refine ⟨r', a1, a2, a3, a4, ?_⟩
          rw [if_neg hs] at aa
          simp (disch := omega) only [cond_true, cond_false, Bool.and_true, Bool.true_and, Bool.and_false, Bool.false_and, Int.toNat_natCast, Int.reduceToNat, bI_s, bJ_s, bV_s, bR_s, decide_true, decide_false, not_true_eq_false, not_false_eq_true, dT, dF, w_al, w_la, w_ab, w_sl, w_sb, w_dec, w_ml, w_lm, ol2i_n, aup_ne, aupE, aupJ, setc_self, setc_ne, pr_1 hp, pr_3 hp, pr_5 hp, pr_6 hp, pr_7 hp, pr_8 hp, pr_9 hp, pr_20 hp, pr_21 hp, pr_22 hp, pr_23 hp, pr_24 hp, pr_25 hp, pr_26 hp, pr_27 hp, pr_28 hp, pr_29 hp, pr_30 hp, pr_31 hp, pr_32 hp, pr_33 hp, pr_34 hp, pr_35 hp, pr_36 hp, pr_37 hp, pr_38 hp, pr_39 hp, pr_40 hp, pr_41 hp, pr_42 hp, pr_43 hp, pr_44 hp, pr_45 hp, pr_46 hp, pr_48 hp, pr_49 hp, pr_50 hp, pr_51 hp, pr_52 hp, pr_54 hp, pr_55 hp, pr_58 hp, pr_60 hp, pr_61 hp, pr_63 hp, pr_64 hp, pr_65 hp, pr_71 hp, pr_72 hp, pr_73 hp, pr_75 hp, pr_76 hp, pr_78 hp, pr_80 hp, pr_81 hp, pr_82 hp, pr_83 hp, pr_84 hp, k_256 hκ, n_257 hκ, n_258 hκ, n_259 hκ, n_260 hκ, n_261 hκ, n_262 hκ, n_263 hκ, n_264 hκ, n_265 hκ, n_266 hκ, n_267 hκ, n_268 hκ, n_269 hκ, n_270 hκ, n_271 hκ, n_272 hκ, n_273 hκ, n_274 hκ, n_275 hκ, n_276 hκ, n_277 hκ, n_278 hκ, n_279 hκ, n_280 hκ, n_281 hκ, n_282 hκ, n_283 hκ, n_284 hκ, n_285 hκ, n_286 hκ, n_287 hκ, n_288 hκ, n_289 hκ, n_290 hκ, n_291 hκ, n_292 hκ, n_293 hκ, n_294 hκ, n_295 hκ, n_296 hκ, n_297 hκ, n_298 hκ, n_299 hκ, n_300 hκ, n_301 hκ, n_302 hκ, n_303 hκ, n_304 hκ, n_305 hκ, n_306 hκ, n_307 hκ, n_308 hκ, n_309 hκ, n_310 hκ, n_311 hκ, n_312 hκ, n_313 hκ, n_314 hκ, hv, hT.2.1.1, iw, hf, if_true, c_272, e1.1, olcmp_eq, (show ev xs (d + 1) mm_272 15 [some (.inr (.inr 256)), some (.inl (k : Int)), some (.inl 0)] [] (κ, setc (setc D 302 r) 303 g) = _ from aa), a5]
    · obtain ⟨r', a1, a2, a3, a4, a5⟩ := ih (k + 1) r (by omega) hW (keep (fun q => hf q.1))
      refine ⟨r', a1, a2, a3, a4, ?_⟩
      simp (disch := omega) only [cond_true, cond_false, Bool.and_true, Bool.true_and, Bool.and_false, Bool.false_and, Int.toNat_natCast, Int.reduceToNat, bI_s, bJ_s, bV_s, bR_s, decide_true, decide_false, not_true_eq_false, not_false_eq_true, dT, dF, w_al, w_la, w_ab, w_sl, w_sb, w_dec, w_ml, w_lm, ol2i_n, aup_ne, aupE, aupJ, setc_self, setc_ne, pr_1 hp, pr_3 hp, pr_5 hp, pr_6 hp, pr_7 hp, pr_8 hp, pr_9 hp, pr_20 hp, pr_21 hp, pr_22 hp, pr_23 hp, pr_24 hp, pr_25 hp, pr_26 hp, pr_27 hp, pr_28 hp, pr_29 hp, pr_30 hp, pr_31 hp, pr_32 hp, pr_33 hp, pr_34 hp, pr_35 hp, pr_36 hp, pr_37 hp, pr_38 hp, pr_39 hp, pr_40 hp, pr_41 hp, pr_42 hp, pr_43 hp, pr_44 hp, pr_45 hp, pr_46 hp, pr_48 hp, pr_49 hp, pr_50 hp, pr_51 hp, pr_52 hp, pr_54 hp, pr_55 hp, pr_58 hp, pr_60 hp, pr_61 hp, pr_63 hp, pr_64 hp, pr_65 hp, pr_71 hp, pr_72 hp, pr_73 hp, pr_75 hp, pr_76 hp, pr_78 hp, pr_80 hp, pr_81 hp, pr_82 hp, pr_83 hp, pr_84 hp, k_256 hκ, n_257 hκ, n_258 hκ, n_259 hκ, n_260 hκ, n_261 hκ, n_262 hκ, n_263 hκ, n_264 hκ, n_265 hκ, n_266 hκ, n_267 hκ, n_268 hκ, n_269 hκ, n_270 hκ, n_271 hκ, n_272 hκ, n_273 hκ, n_274 hκ, n_275 hκ, n_276 hκ, n_277 hκ, n_278 hκ, n_279 hκ, n_280 hκ, n_281 hκ, n_282 hκ, n_283 hκ, n_284 hκ, n_285 hκ, n_286 hκ, n_287 hκ, n_288 hκ, n_289 hκ, n_290 hκ, n_291 hκ, n_292 hκ, n_293 hκ, n_294 hκ, n_295 hκ, n_296 hκ, n_297 hκ, n_298 hκ, n_299 hκ, n_300 hκ, n_301 hκ, n_302 hκ, n_303 hκ, n_304 hκ, n_305 hκ, n_306 hκ, n_307 hκ, n_308 hκ, n_309 hκ, n_310 hκ, n_311 hκ, n_312 hκ, n_313 hκ, n_314 hκ, hv, hT.2.1.1, iw, hf, if_false, a5]
