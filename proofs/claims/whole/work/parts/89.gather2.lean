/-! The class gathers ways: endings, roots, heads. -/
theorem gEnd_loop (xs : List Int) (d : Nat) {κ : aK} {D : Nat → Nat → Int} (hκ : Shp κ) (hc : CPtr D) {t : Nat} (ht : isT t) {X : TX} (hX : TXok X) (hP : PcC D t X) {w : List Nat} (hw : wok w) {b : Nat} (hb : b ≤ 9000) : ∀ (m k : Nat) (C : List Nat) (f : Nat → Int) (u3 u6 u7 u8 u9 u10 : Option aV), k + m = xnp X 1 → CLs f C → C.length + m ≤ 280 → ∃ f' : Nat → Int, CLs f' (C ++ ((List.range' (k + 1) m).flatMap (enO X w)).map (fun p => b + 10 * p.1 + p.2)) ∧ ev xs (d + 2) mm_116 16 [some (.inr (.inr ((65 : Nat) : Int))), some (.inr (.inr ((t + 8 : Nat) : Int))), some (.inr (.inl (p32 w : Int))), u3, some (.inl (b : Int)), some (.inl (k : Int)), u6, u7, u8, u9, u10] [] (κ, gaD D C.length f) = some (none, (κ, gaD D (C ++ ((List.range' (k + 1) m).flatMap (enO X w)).map (fun p => b + 10 * p.1 + p.2)).length f')) := by
  have ht' : t = 9 ∨ t = 31 := ht
  have n1 := xnp_le hX (s := 1) (by decide)
  have hp1 := (hP 1 (by decide)).1
  intro m
  induction m with
  | zero =>
    intro k C f u3 u6 u7 u8 u9 u10 h hC hl
    refine ⟨f, by simpa using hC, ?_⟩
    rw [q_116_16]
    simp (disch := omega) only [cond_true, cond_false, Bool.and_true, Bool.true_and, Bool.and_false, Bool.false_and, Int.toNat_natCast, Int.reduceToNat, bI_s, bJ_s, bV_s, bR_s, decide_true, decide_false, not_true_eq_false, not_false_eq_true, dT, dF, w_al, w_la, w_ab, w_sl, w_sb, w_dec, w_ml, w_lm, ol2i_n, aup_ne, aupE, aupJ, setc_self, setc_ne, tp_0_1 hc ht, tp_0_2 hc ht, tp_0_3 hc ht, tp_0_4 hc ht, tp_0_6 hc ht, tp_0_8 hc ht, tp_0_9 hc ht, tp_0_10 hc ht, tp_0_12 hc ht, tp_0_13 hc ht, tp_0_14 hc ht, tp_3_1 hc ht, tp_3_2 hc ht, tp_3_3 hc ht, tp_3_4 hc ht, tp_8_0 hc ht, tp_8_1 hc ht, tp_8_2 hc ht, tp_18_0 hc ht, tp_18_2 hc ht, tp_18_3 hc ht, tk_0 hκ ht, tk_1 hκ ht, tn_1 hκ ht, tk_2 hκ ht, tn_2 hκ ht, tk_3 hκ ht, tk_4 hκ ht, tn_4 hκ ht, tk_5 hκ ht, tn_5 hκ ht, tk_6 hκ ht, tn_6 hκ ht, tk_7 hκ ht, tn_7 hκ ht, tk_8 hκ ht, tk_9 hκ ht, tn_9 hκ ht, tk_10 hκ ht, tn_10 hκ ht, tk_11 hκ ht, tn_11 hκ ht, tk_12 hκ ht, tn_12 hκ ht, tk_13 hκ ht, tn_13 hκ ht, tk_14 hκ ht, tn_14 hκ ht, tk_15 hκ ht, tn_15 hκ ht, tk_16 hκ ht, tn_16 hκ ht, tk_17 hκ ht, tn_17 hκ ht, tk_18 hκ ht, tk_19 hκ ht, tn_19 hκ ht, tk_20 hκ ht, tn_20 hκ ht, tk_21 hκ ht, tn_21 hκ ht, ga_q, hp1]
    simp
  | succ m ih =>
    intro k C f u3 u6 u7 u8 u9 u10 h hC hl
    have e := ((hP 1 (by decide)).2 k (by omega)).1
    have ho := nmX_ok hX (s := 1) (by decide) (show k + 1 ≤ xnp X 1 by omega)
    have en : nmX X 1 (k + 1) = xPN X (8 * 1 + k) := by unfold nmX; rw [if_neg (by omega), Nat.add_sub_cancel]
    rw [← en, Nat.mul_one] at e
    have bg := begins_eq xs d (κ, gaD D C.length f) hw ho
    have bh := behind_eq xs d (κ, gaD D C.length f) hw ho
    have hd := wok_drop hw (nmX X 1 (k + 1)).length
    rw [List.range'_succ, List.flatMap_cons, List.map_append]
    rw [q_116_16]
    by_cases hpf : pfx w (nmX X 1 (k + 1)) = true
    · rw [if_pos hpf] at bg
      by_cases hd0 : w.drop (nmX X 1 (k + 1)).length = []
      · have e0 : p32 (w.drop (nmX X 1 (k + 1)).length) = 0 := by rw [hd0]; rfl
        have eo : enO X w (k + 1) = [(k + 1, 0)] := by unfold enO; rw [if_pos hpf, if_pos hd0]
        rw [eo]
        have pt := put_eq xs (d + 1) hκ hc (n := C.length) (by omega) f ((b + 10 * (k + 1) + 0 : Nat) : Int)
        have sn := CLs_snoc hC (b + 10 * (k + 1) + 0)
        obtain ⟨f', h1, h2⟩ := ih (k + 1) (C ++ [b + 10 * (k + 1) + 0]) _ u3 (some (.inr (.inl (p32 (nmX X 1 (k + 1)) : Int)))) none (some (.inr (.inl (p32 (w.drop (nmX X 1 (k + 1)).length) : Int)))) none (some (.inl (-1))) (by omega) sn (by rw [List.length_append, List.length_singleton]; omega)
        rw [List.append_assoc] at h1 h2
        refine ⟨f', h1, ?_⟩
        simp (disch := omega) only [cond_true, cond_false, Bool.and_true, Bool.true_and, Bool.and_false, Bool.false_and, Int.toNat_natCast, Int.reduceToNat, bI_s, bJ_s, bV_s, bR_s, decide_true, decide_false, not_true_eq_false, not_false_eq_true, dT, dF, w_al, w_la, w_ab, w_sl, w_sb, w_dec, w_ml, w_lm, ol2i_n, aup_ne, aupE, aupJ, setc_self, setc_ne, tp_0_1 hc ht, tp_0_2 hc ht, tp_0_3 hc ht, tp_0_4 hc ht, tp_0_6 hc ht, tp_0_8 hc ht, tp_0_9 hc ht, tp_0_10 hc ht, tp_0_12 hc ht, tp_0_13 hc ht, tp_0_14 hc ht, tp_3_1 hc ht, tp_3_2 hc ht, tp_3_3 hc ht, tp_3_4 hc ht, tp_8_0 hc ht, tp_8_1 hc ht, tp_8_2 hc ht, tp_18_0 hc ht, tp_18_2 hc ht, tp_18_3 hc ht, tk_0 hκ ht, tk_1 hκ ht, tn_1 hκ ht, tk_2 hκ ht, tn_2 hκ ht, tk_3 hκ ht, tk_4 hκ ht, tn_4 hκ ht, tk_5 hκ ht, tn_5 hκ ht, tk_6 hκ ht, tn_6 hκ ht, tk_7 hκ ht, tn_7 hκ ht, tk_8 hκ ht, tk_9 hκ ht, tn_9 hκ ht, tk_10 hκ ht, tn_10 hκ ht, tk_11 hκ ht, tn_11 hκ ht, tk_12 hκ ht, tn_12 hκ ht, tk_13 hκ ht, tn_13 hκ ht, tk_14 hκ ht, tn_14 hκ ht, tk_15 hκ ht, tn_15 hκ ht, tk_16 hκ ht, tn_16 hκ ht, tk_17 hκ ht, tn_17 hκ ht, tk_18 hκ ht, tk_19 hκ ht, tn_19 hκ ht, tk_20 hκ ht, tn_20 hκ ht, tk_21 hκ ht, tn_21 hκ ht, ga_q, hp1, e, bg, bh, e0, olcmp_eq]
        rw [q_116_91]
        have ec : w32 (w32 (w32 ((b : Int) + w32 (10 * w32 ((k : Int) + 1))) + (-1)) + 1) = ((b + 10 * (k + 1) + 0 : Nat) : Int) := by
          rw [w32_id (x := (k : Int) + 1) (by omega) (by omega), w32_id (x := 10 * ((k : Int) + 1)) (by omega) (by omega), w32_id (x := (b : Int) + 10 * ((k : Int) + 1)) (by omega) (by omega), w32_id (x := (b : Int) + 10 * ((k : Int) + 1) + (-1)) (by omega) (by omega), w32_id (by omega) (by omega)]
          omega
        rw [e0, List.length_append (as := C) (bs := [b + 10 * (k + 1) + 0]), List.length_singleton] at h2
        rw [ec]
        simp (disch := omega) only [cond_true, Bool.and_true, bV_s, kc_65 hκ, pt, w_al]
        exact h2
      · have e0 := p32_nz hd.1 hd0
        have fe := find_eq xs (d + 1) hκ (ga_ptr hc C.length f) ht hX (hP.ga ht C.length f) (s := 1) (by decide) hd
        simp only [Int.cast_ofNat_Int] at fe
        have fl := fnd_le X 1 (w.drop (nmX X 1 (k + 1)).length) (xnp X 1) 0
        by_cases hf0 : fnd X 1 (w.drop (nmX X 1 (k + 1)).length) (xnp X 1) 0 = 0
        · have eo : enO X w (k + 1) = [] := by unfold enO; rw [if_pos hpf, if_neg hd0, if_pos hf0]
          rw [eo]
          rw [if_pos hf0] at fe
          have ew : w32 (-1 - 8) = -9 := rfl
          obtain ⟨f', h1, h2⟩ := ih (k + 1) C f u3 (some (.inr (.inl (p32 (nmX X 1 (k + 1)) : Int)))) none (some (.inr (.inl (p32 (w.drop (nmX X 1 (k + 1)).length) : Int)))) none (some (.inl (-9))) (by omega) hC (by omega)
          refine ⟨f', h1, ?_⟩
          simp (disch := omega) only [cond_true, cond_false, Bool.and_true, Bool.true_and, Bool.and_false, Bool.false_and, Int.toNat_natCast, Int.reduceToNat, bI_s, bJ_s, bV_s, bR_s, decide_true, decide_false, not_true_eq_false, not_false_eq_true, dT, dF, w_al, w_la, w_ab, w_sl, w_sb, w_dec, w_ml, w_lm, ol2i_n, aup_ne, aupE, aupJ, setc_self, setc_ne, tp_0_1 hc ht, tp_0_2 hc ht, tp_0_3 hc ht, tp_0_4 hc ht, tp_0_6 hc ht, tp_0_8 hc ht, tp_0_9 hc ht, tp_0_10 hc ht, tp_0_12 hc ht, tp_0_13 hc ht, tp_0_14 hc ht, tp_3_1 hc ht, tp_3_2 hc ht, tp_3_3 hc ht, tp_3_4 hc ht, tp_8_0 hc ht, tp_8_1 hc ht, tp_8_2 hc ht, tp_18_0 hc ht, tp_18_2 hc ht, tp_18_3 hc ht, tk_0 hκ ht, tk_1 hκ ht, tn_1 hκ ht, tk_2 hκ ht, tn_2 hκ ht, tk_3 hκ ht, tk_4 hκ ht, tn_4 hκ ht, tk_5 hκ ht, tn_5 hκ ht, tk_6 hκ ht, tn_6 hκ ht, tk_7 hκ ht, tn_7 hκ ht, tk_8 hκ ht, tk_9 hκ ht, tn_9 hκ ht, tk_10 hκ ht, tn_10 hκ ht, tk_11 hκ ht, tn_11 hκ ht, tk_12 hκ ht, tn_12 hκ ht, tk_13 hκ ht, tn_13 hκ ht, tk_14 hκ ht, tn_14 hκ ht, tk_15 hκ ht, tn_15 hκ ht, tk_16 hκ ht, tn_16 hκ ht, tk_17 hκ ht, tn_17 hκ ht, tk_18 hκ ht, tk_19 hκ ht, tn_19 hκ ht, tk_20 hκ ht, tn_20 hκ ht, tk_21 hκ ht, tn_21 hκ ht, ga_q, hp1, e, bg, bh, olcmp_eq, fe, ew]
          exact h2
        · generalize hF : fnd X 1 (w.drop (nmX X 1 (k + 1)).length) (xnp X 1) 0 = F at *
          have eo : enO X w (k + 1) = [(k + 1, F)] := by unfold enO; rw [if_pos hpf, if_neg hd0, hF, if_neg hf0]
          rw [eo]
          rw [if_neg hf0] at fe
          have ew : w32 (((8 * 1 + F : Nat) : Int) - 1 - 8) = ((F - 1 : Nat) : Int) := by rw [w32_id (by omega) (by omega)]; omega
          have pt := put_eq xs (d + 1) hκ hc (n := C.length) (by omega) f ((b + 10 * (k + 1) + F : Nat) : Int)
          have sn := CLs_snoc hC (b + 10 * (k + 1) + F)
          obtain ⟨f', h1, h2⟩ := ih (k + 1) (C ++ [b + 10 * (k + 1) + F]) _ u3 (some (.inr (.inl (p32 (nmX X 1 (k + 1)) : Int)))) none (some (.inr (.inl (p32 (w.drop (nmX X 1 (k + 1)).length) : Int)))) none (some (.inl ((F - 1 : Nat) : Int))) (by omega) sn (by rw [List.length_append, List.length_singleton]; omega)
          rw [List.append_assoc] at h1 h2
          refine ⟨f', h1, ?_⟩
          simp (disch := omega) only [cond_true, cond_false, Bool.and_true, Bool.true_and, Bool.and_false, Bool.false_and, Int.toNat_natCast, Int.reduceToNat, bI_s, bJ_s, bV_s, bR_s, decide_true, decide_false, not_true_eq_false, not_false_eq_true, dT, dF, w_al, w_la, w_ab, w_sl, w_sb, w_dec, w_ml, w_lm, ol2i_n, aup_ne, aupE, aupJ, setc_self, setc_ne, tp_0_1 hc ht, tp_0_2 hc ht, tp_0_3 hc ht, tp_0_4 hc ht, tp_0_6 hc ht, tp_0_8 hc ht, tp_0_9 hc ht, tp_0_10 hc ht, tp_0_12 hc ht, tp_0_13 hc ht, tp_0_14 hc ht, tp_3_1 hc ht, tp_3_2 hc ht, tp_3_3 hc ht, tp_3_4 hc ht, tp_8_0 hc ht, tp_8_1 hc ht, tp_8_2 hc ht, tp_18_0 hc ht, tp_18_2 hc ht, tp_18_3 hc ht, tk_0 hκ ht, tk_1 hκ ht, tn_1 hκ ht, tk_2 hκ ht, tn_2 hκ ht, tk_3 hκ ht, tk_4 hκ ht, tn_4 hκ ht, tk_5 hκ ht, tn_5 hκ ht, tk_6 hκ ht, tn_6 hκ ht, tk_7 hκ ht, tn_7 hκ ht, tk_8 hκ ht, tk_9 hκ ht, tn_9 hκ ht, tk_10 hκ ht, tn_10 hκ ht, tk_11 hκ ht, tn_11 hκ ht, tk_12 hκ ht, tn_12 hκ ht, tk_13 hκ ht, tn_13 hκ ht, tk_14 hκ ht, tn_14 hκ ht, tk_15 hκ ht, tn_15 hκ ht, tk_16 hκ ht, tn_16 hκ ht, tk_17 hκ ht, tn_17 hκ ht, tk_18 hκ ht, tk_19 hκ ht, tn_19 hκ ht, tk_20 hκ ht, tn_20 hκ ht, tk_21 hκ ht, tn_21 hκ ht, ga_q, hp1, e, bg, bh, olcmp_eq, fe, ew]
          rw [q_116_91]
          have ec : w32 (w32 (w32 ((b : Int) + w32 (10 * w32 ((k : Int) + 1))) + ((F - 1 : Nat) : Int)) + 1) = ((b + 10 * (k + 1) + F : Nat) : Int) := by
            rw [w32_id (x := (k : Int) + 1) (by omega) (by omega), w32_id (x := 10 * ((k : Int) + 1)) (by omega) (by omega), w32_id (x := (b : Int) + 10 * ((k : Int) + 1)) (by omega) (by omega), w32_id (x := (b : Int) + 10 * ((k : Int) + 1) + ((F - 1 : Nat) : Int)) (by omega) (by omega), w32_id (by omega) (by omega)]
            omega
          rw [List.length_append (as := C) (bs := [b + 10 * (k + 1) + F]), List.length_singleton] at h2
          rw [ec]
          simp (disch := omega) only [cond_true, Bool.and_true, bV_s, kc_65 hκ, pt, w_al]
          exact h2
    · rw [if_neg hpf] at bg
      have eo : enO X w (k + 1) = [] := by unfold enO; rw [if_neg hpf]
      rw [eo]
      obtain ⟨f', h1, h2⟩ := ih (k + 1) C f u3 (some (.inr (.inl (p32 (nmX X 1 (k + 1)) : Int)))) none u8 u9 u10 (by omega) hC (by omega)
      refine ⟨f', h1, ?_⟩
      simp (disch := omega) only [cond_true, cond_false, Bool.and_true, Bool.true_and, Bool.and_false, Bool.false_and, Int.toNat_natCast, Int.reduceToNat, bI_s, bJ_s, bV_s, bR_s, decide_true, decide_false, not_true_eq_false, not_false_eq_true, dT, dF, w_al, w_la, w_ab, w_sl, w_sb, w_dec, w_ml, w_lm, ol2i_n, aup_ne, aupE, aupJ, setc_self, setc_ne, tp_0_1 hc ht, tp_0_2 hc ht, tp_0_3 hc ht, tp_0_4 hc ht, tp_0_6 hc ht, tp_0_8 hc ht, tp_0_9 hc ht, tp_0_10 hc ht, tp_0_12 hc ht, tp_0_13 hc ht, tp_0_14 hc ht, tp_3_1 hc ht, tp_3_2 hc ht, tp_3_3 hc ht, tp_3_4 hc ht, tp_8_0 hc ht, tp_8_1 hc ht, tp_8_2 hc ht, tp_18_0 hc ht, tp_18_2 hc ht, tp_18_3 hc ht, tk_0 hκ ht, tk_1 hκ ht, tn_1 hκ ht, tk_2 hκ ht, tn_2 hκ ht, tk_3 hκ ht, tk_4 hκ ht, tn_4 hκ ht, tk_5 hκ ht, tn_5 hκ ht, tk_6 hκ ht, tn_6 hκ ht, tk_7 hκ ht, tn_7 hκ ht, tk_8 hκ ht, tk_9 hκ ht, tn_9 hκ ht, tk_10 hκ ht, tn_10 hκ ht, tk_11 hκ ht, tn_11 hκ ht, tk_12 hκ ht, tn_12 hκ ht, tk_13 hκ ht, tn_13 hκ ht, tk_14 hκ ht, tn_14 hκ ht, tk_15 hκ ht, tn_15 hκ ht, tk_16 hκ ht, tn_16 hκ ht, tk_17 hκ ht, tn_17 hκ ht, tk_18 hκ ht, tk_19 hκ ht, tn_19 hκ ht, tk_20 hκ ht, tn_20 hκ ht, tk_21 hκ ht, tn_21 hκ ht, ga_q, hp1, e, bg]
      exact h2
theorem gEnd_eq (xs : List Int) (d : Nat) {κ : aK} {D : Nat → Nat → Int} (hκ : Shp κ) (hc : CPtr D) {t : Nat} (ht : isT t) {X : TX} (hX : TXok X) (hP : PcC D t X) {w : List Nat} (hw : wok w) {b : Nat} (hb : b ≤ 9000) {C : List Nat} {f : Nat → Int} (hC : CLs f C) (hl : C.length + 7 ≤ 280) : ∃ f' : Nat → Int, CLs f' (C ++ cdE X b w) ∧ cl xs (d + 3) 116 [.inr (.inr ((65 : Nat) : Int)), .inr (.inr ((t + 8 : Nat) : Int)), .inr (.inl (p32 w : Int)), .inl (b : Int)] (κ, gaD D C.length f) = some (none, (κ, gaD D (C ++ cdE X b w).length f')) := by
  have h6 : xnp X 1 ≤ 6 := (hX.2.2.1 1 (by decide)).1
  rw [c_116]
  unfold cdE enL
  by_cases h0 : w = []
  · subst h0
    rw [if_pos rfl]
    have pt := put_eq xs (d + 1) hκ hc (n := C.length) (by omega) f (b : Int)
    have sn := CLs_snoc hC b
    refine ⟨_, by simpa using sn, ?_⟩
    have e0 : p32 [] = 0 := rfl
    simp (disch := omega) only [cond_true, cond_false, Bool.and_true, Bool.true_and, Bool.and_false, Bool.false_and, Int.toNat_natCast, Int.reduceToNat, bI_s, bJ_s, bV_s, bR_s, decide_true, decide_false, not_true_eq_false, not_false_eq_true, dT, dF, w_al, w_la, w_ab, w_sl, w_sb, w_dec, w_ml, w_lm, ol2i_n, aup_ne, aupE, aupJ, setc_self, setc_ne, e0, olcmp_eq, kc_65 hκ, pt]
    simp
  · have e0 := p32_nz hw.1 h0
    rw [if_neg h0]
    obtain ⟨f', h1, h2⟩ := gEnd_loop xs d hκ hc ht hX hP hw hb (xnp X 1) 0 C f none none none none none none (by omega) hC (by omega)
    refine ⟨f', h1, ?_⟩
    simp (disch := omega) only [cond_true, cond_false, Bool.and_true, Bool.true_and, Bool.and_false, Bool.false_and, Int.toNat_natCast, Int.reduceToNat, bI_s, bJ_s, bV_s, bR_s, decide_true, decide_false, not_true_eq_false, not_false_eq_true, dT, dF, w_al, w_la, w_ab, w_sl, w_sb, w_dec, w_ml, w_lm, ol2i_n, aup_ne, aupE, aupJ, setc_self, setc_ne, olcmp_eq]
    exact h2
theorem gRoot_loop (xs : List Int) (d : Nat) {κ : aK} {D : Nat → Nat → Int} (hκ : Shp κ) (hc : CPtr D) {t : Nat} (ht : isT t) {X : TX} (hX : TXok X) (hP : PcC D t X) {w : List Nat} (hw : wok w) {b : Nat} (hb : b ≤ 8000) : ∀ (m k : Nat) (C : List Nat) (f : Nat → Int) (u3 u6 u7 : Option aV), k + m = xnp X 0 → CLs f C → C.length + 7 * m ≤ 280 → ∃ f' : Nat → Int, CLs f' (C ++ (List.range' (k + 1) m).flatMap (cdO X b w)) ∧ ev xs (d + 3) mm_115 3 [some (.inr (.inr ((65 : Nat) : Int))), some (.inr (.inr ((t + 8 : Nat) : Int))), some (.inr (.inl (p32 w : Int))), u3, some (.inl (b : Int)), some (.inl (k : Int)), u6, u7] [] (κ, gaD D C.length f) = some (none, (κ, gaD D (C ++ (List.range' (k + 1) m).flatMap (cdO X b w)).length f')) := by
  have ht' : t = 9 ∨ t = 31 := ht
  have n0 := xnp_le hX (s := 0) (by decide)
  have hp0 := (hP 0 (by decide)).1
  intro m
  induction m with
  | zero =>
    intro k C f u3 u6 u7 h hC hl
    refine ⟨f, by simpa using hC, ?_⟩
    rw [q_115_3]
    simp (disch := omega) only [cond_true, cond_false, Bool.and_true, Bool.true_and, Bool.and_false, Bool.false_and, Int.toNat_natCast, Int.reduceToNat, bI_s, bJ_s, bV_s, bR_s, decide_true, decide_false, not_true_eq_false, not_false_eq_true, dT, dF, w_al, w_la, w_ab, w_sl, w_sb, w_dec, w_ml, w_lm, ol2i_n, aup_ne, aupE, aupJ, setc_self, setc_ne, tp_0_1 hc ht, tp_0_2 hc ht, tp_0_3 hc ht, tp_0_4 hc ht, tp_0_6 hc ht, tp_0_8 hc ht, tp_0_9 hc ht, tp_0_10 hc ht, tp_0_12 hc ht, tp_0_13 hc ht, tp_0_14 hc ht, tp_3_1 hc ht, tp_3_2 hc ht, tp_3_3 hc ht, tp_3_4 hc ht, tp_8_0 hc ht, tp_8_1 hc ht, tp_8_2 hc ht, tp_18_0 hc ht, tp_18_2 hc ht, tp_18_3 hc ht, tk_0 hκ ht, tk_1 hκ ht, tn_1 hκ ht, tk_2 hκ ht, tn_2 hκ ht, tk_3 hκ ht, tk_4 hκ ht, tn_4 hκ ht, tk_5 hκ ht, tn_5 hκ ht, tk_6 hκ ht, tn_6 hκ ht, tk_7 hκ ht, tn_7 hκ ht, tk_8 hκ ht, tk_9 hκ ht, tn_9 hκ ht, tk_10 hκ ht, tn_10 hκ ht, tk_11 hκ ht, tn_11 hκ ht, tk_12 hκ ht, tn_12 hκ ht, tk_13 hκ ht, tn_13 hκ ht, tk_14 hκ ht, tn_14 hκ ht, tk_15 hκ ht, tn_15 hκ ht, tk_16 hκ ht, tn_16 hκ ht, tk_17 hκ ht, tn_17 hκ ht, tk_18 hκ ht, tk_19 hκ ht, tn_19 hκ ht, tk_20 hκ ht, tn_20 hκ ht, tk_21 hκ ht, tn_21 hκ ht, ga_q, hp0]
    simp
  | succ m ih =>
    intro k C f u3 u6 u7 h hC hl
    have e := ((hP 0 (by decide)).2 k (by omega)).1
    have ho := nmX_ok hX (s := 0) (by decide) (show k + 1 ≤ xnp X 0 by omega)
    have en : nmX X 0 (k + 1) = xPN X (8 * 0 + k) := by unfold nmX; rw [if_neg (by omega), Nat.add_sub_cancel]
    rw [← en, Nat.mul_zero, Nat.zero_add] at e
    have bg := begins_eq xs (d + 1) (κ, gaD D C.length f) hw ho
    have bh := behind_eq xs (d + 1) (κ, gaD D C.length f) hw ho
    have hd := wok_drop hw (nmX X 0 (k + 1)).length
    have e0k : w32 (0 + (k : Int)) = (k : Int) := by rw [Int.zero_add]; exact w32_id (by omega) (by omega)
    have ol := cdO_len hX b w (k + 1)
    rw [List.range'_succ, List.flatMap_cons]
    rw [q_115_3]
    by_cases hpf : pfx w (nmX X 0 (k + 1)) = true
    · rw [if_pos hpf] at bg
      have eo : cdO X b w (k + 1) = cdE X (b + 100 * (k + 1)) (w.drop (nmX X 0 (k + 1)).length) := by unfold cdO; rw [if_pos hpf]
      rw [eo] at ol ⊢
      obtain ⟨f1, h1, h2⟩ := gEnd_eq xs d hκ hc ht hX hP hd (b := b + 100 * (k + 1)) (by omega) hC (by omega)
      obtain ⟨f', h3, h4⟩ := ih (k + 1) _ f1 u3 (some (.inr (.inl (p32 (nmX X 0 (k + 1)) : Int)))) none (by omega) h1 (by rw [List.length_append]; omega)
      rw [List.append_assoc] at h3 h4
      refine ⟨f', h3, ?_⟩
      simp (disch := omega) only [cond_true, cond_false, Bool.and_true, Int.toNat_natCast, Int.reduceToNat, bI_s, bJ_s, bV_s, dT, dF, w_al, w_lm, w_ab, tp_0_1 hc ht, tp_0_2 hc ht, tp_0_3 hc ht, tp_0_4 hc ht, tp_0_6 hc ht, tp_0_8 hc ht, tp_0_9 hc ht, tp_0_10 hc ht, tp_0_12 hc ht, tp_0_13 hc ht, tp_0_14 hc ht, tp_3_1 hc ht, tp_3_2 hc ht, tp_3_3 hc ht, tp_3_4 hc ht, tp_8_0 hc ht, tp_8_1 hc ht, tp_8_2 hc ht, tp_18_0 hc ht, tp_18_2 hc ht, tp_18_3 hc ht, tk_0 hκ ht, tk_1 hκ ht, tn_1 hκ ht, tk_2 hκ ht, tn_2 hκ ht, tk_3 hκ ht, tk_4 hκ ht, tn_4 hκ ht, tk_5 hκ ht, tn_5 hκ ht, tk_6 hκ ht, tn_6 hκ ht, tk_7 hκ ht, tn_7 hκ ht, tk_8 hκ ht, tk_9 hκ ht, tn_9 hκ ht, tk_10 hκ ht, tn_10 hκ ht, tk_11 hκ ht, tn_11 hκ ht, tk_12 hκ ht, tn_12 hκ ht, tk_13 hκ ht, tn_13 hκ ht, tk_14 hκ ht, tn_14 hκ ht, tk_15 hκ ht, tn_15 hκ ht, tk_16 hκ ht, tn_16 hκ ht, tk_17 hκ ht, tn_17 hκ ht, tk_18 hκ ht, tk_19 hκ ht, tn_19 hκ ht, tk_20 hκ ht, tn_20 hκ ht, tk_21 hκ ht, tn_21 hκ ht, kc_65 hκ, ga_q, hp0, e0k, e, bg, bh, h2]
      exact h4
    · rw [if_neg hpf] at bg
      have eo : cdO X b w (k + 1) = [] := by unfold cdO; rw [if_neg hpf]
      rw [eo]
      obtain ⟨f', h1, h2⟩ := ih (k + 1) C f u3 (some (.inr (.inl (p32 (nmX X 0 (k + 1)) : Int)))) none (by omega) hC (by omega)
      refine ⟨f', h1, ?_⟩
      simp (disch := omega) only [cond_true, cond_false, Bool.and_true, Int.toNat_natCast, Int.reduceToNat, bI_s, bJ_s, bV_s, dT, dF, w_al, w_lm, w_ab, tp_0_1 hc ht, tp_0_2 hc ht, tp_0_3 hc ht, tp_0_4 hc ht, tp_0_6 hc ht, tp_0_8 hc ht, tp_0_9 hc ht, tp_0_10 hc ht, tp_0_12 hc ht, tp_0_13 hc ht, tp_0_14 hc ht, tp_3_1 hc ht, tp_3_2 hc ht, tp_3_3 hc ht, tp_3_4 hc ht, tp_8_0 hc ht, tp_8_1 hc ht, tp_8_2 hc ht, tp_18_0 hc ht, tp_18_2 hc ht, tp_18_3 hc ht, tk_0 hκ ht, tk_1 hκ ht, tn_1 hκ ht, tk_2 hκ ht, tn_2 hκ ht, tk_3 hκ ht, tk_4 hκ ht, tn_4 hκ ht, tk_5 hκ ht, tn_5 hκ ht, tk_6 hκ ht, tn_6 hκ ht, tk_7 hκ ht, tn_7 hκ ht, tk_8 hκ ht, tk_9 hκ ht, tn_9 hκ ht, tk_10 hκ ht, tn_10 hκ ht, tk_11 hκ ht, tn_11 hκ ht, tk_12 hκ ht, tn_12 hκ ht, tk_13 hκ ht, tn_13 hκ ht, tk_14 hκ ht, tn_14 hκ ht, tk_15 hκ ht, tn_15 hκ ht, tk_16 hκ ht, tn_16 hκ ht, tk_17 hκ ht, tn_17 hκ ht, tk_18 hκ ht, tk_19 hκ ht, tn_19 hκ ht, tk_20 hκ ht, tn_20 hκ ht, tk_21 hκ ht, tn_21 hκ ht, kc_65 hκ, ga_q, hp0, e0k, e, bg]
      exact h2
theorem gRoot_eq (xs : List Int) (d : Nat) {κ : aK} {D : Nat → Nat → Int} (hκ : Shp κ) (hc : CPtr D) {t : Nat} (ht : isT t) {X : TX} (hX : TXok X) (hP : PcC D t X) {w : List Nat} (hw : wok w) {b : Nat} (hb : b ≤ 8000) {C : List Nat} {f : Nat → Int} (hC : CLs f C) (hl : C.length + 56 ≤ 280) : ∃ f' : Nat → Int, CLs f' (C ++ cdR X b w) ∧ cl xs (d + 4) 115 [.inr (.inr ((65 : Nat) : Int)), .inr (.inr ((t + 8 : Nat) : Int)), .inr (.inl (p32 w : Int)), .inl (b : Int)] (κ, gaD D C.length f) = some (none, (κ, gaD D (C ++ cdR X b w).length f')) := by
  have n0 := xnp_le hX (s := 0) (by decide)
  rw [c_115]
  exact gRoot_loop xs d hκ hc ht hX hP hw hb (xnp X 0) 0 C f none none none (by omega) hC (by omega)
theorem gHead_loop (xs : List Int) (d : Nat) {κ : aK} {D : Nat → Nat → Int} (hκ : Shp κ) (hc : CPtr D) {t : Nat} (ht : isT t) {X : TX} (hX : TXok X) (hP : PcC D t X) {w : List Nat} (hw : wok w) : ∀ (m k : Nat) (C : List Nat) (f : Nat → Int) (u3 u5 u6 : Option aV), k + m = xnp X 2 → CLs f C → C.length + 56 * m ≤ 280 → ∃ f' : Nat → Int, CLs f' (C ++ (List.range' (k + 1) m).flatMap (cdH X w)) ∧ ev xs (d + 4) mm_114 15 [some (.inr (.inr ((65 : Nat) : Int))), some (.inr (.inr ((t + 8 : Nat) : Int))), some (.inr (.inl (p32 w : Int))), u3, some (.inl (k : Int)), u5, u6] [] (κ, gaD D C.length f) = some (none, (κ, gaD D (C ++ (List.range' (k + 1) m).flatMap (cdH X w)).length f')) := by
  have ht' : t = 9 ∨ t = 31 := ht
  have n2 : xnp X 2 ≤ 4 := (hX.2.2.1 2 (by decide)).1
  have hp2 := (hP 2 (by decide)).1
  intro m
  induction m with
  | zero =>
    intro k C f u3 u5 u6 h hC hl
    refine ⟨f, by simpa using hC, ?_⟩
    rw [q_114_15]
    simp (disch := omega) only [cond_true, cond_false, Bool.and_true, Bool.true_and, Bool.and_false, Bool.false_and, Int.toNat_natCast, Int.reduceToNat, bI_s, bJ_s, bV_s, bR_s, decide_true, decide_false, not_true_eq_false, not_false_eq_true, dT, dF, w_al, w_la, w_ab, w_sl, w_sb, w_dec, w_ml, w_lm, ol2i_n, aup_ne, aupE, aupJ, setc_self, setc_ne, tp_0_1 hc ht, tp_0_2 hc ht, tp_0_3 hc ht, tp_0_4 hc ht, tp_0_6 hc ht, tp_0_8 hc ht, tp_0_9 hc ht, tp_0_10 hc ht, tp_0_12 hc ht, tp_0_13 hc ht, tp_0_14 hc ht, tp_3_1 hc ht, tp_3_2 hc ht, tp_3_3 hc ht, tp_3_4 hc ht, tp_8_0 hc ht, tp_8_1 hc ht, tp_8_2 hc ht, tp_18_0 hc ht, tp_18_2 hc ht, tp_18_3 hc ht, tk_0 hκ ht, tk_1 hκ ht, tn_1 hκ ht, tk_2 hκ ht, tn_2 hκ ht, tk_3 hκ ht, tk_4 hκ ht, tn_4 hκ ht, tk_5 hκ ht, tn_5 hκ ht, tk_6 hκ ht, tn_6 hκ ht, tk_7 hκ ht, tn_7 hκ ht, tk_8 hκ ht, tk_9 hκ ht, tn_9 hκ ht, tk_10 hκ ht, tn_10 hκ ht, tk_11 hκ ht, tn_11 hκ ht, tk_12 hκ ht, tn_12 hκ ht, tk_13 hκ ht, tn_13 hκ ht, tk_14 hκ ht, tn_14 hκ ht, tk_15 hκ ht, tn_15 hκ ht, tk_16 hκ ht, tn_16 hκ ht, tk_17 hκ ht, tn_17 hκ ht, tk_18 hκ ht, tk_19 hκ ht, tn_19 hκ ht, tk_20 hκ ht, tn_20 hκ ht, tk_21 hκ ht, tn_21 hκ ht, ga_q, hp2]
    simp
  | succ m ih =>
    intro k C f u3 u5 u6 h hC hl
    have e := ((hP 2 (by decide)).2 k (by omega)).1
    have ho := nmX_ok hX (s := 2) (by decide) (show k + 1 ≤ xnp X 2 by omega)
    have en : nmX X 2 (k + 1) = xPN X (8 * 2 + k) := by unfold nmX; rw [if_neg (by omega), Nat.add_sub_cancel]
    rw [← en, show 8 * 2 = 16 from rfl] at e
    have bg := begins_eq xs (d + 2) (κ, gaD D C.length f) hw ho
    have bh := behind_eq xs (d + 2) (κ, gaD D C.length f) hw ho
    have hd := wok_drop hw (nmX X 2 (k + 1)).length
    have ol := cdH_len hX w (k + 1)
    rw [List.range'_succ, List.flatMap_cons]
    rw [q_114_15]
    by_cases hpf : pfx w (nmX X 2 (k + 1)) = true
    · rw [if_pos hpf] at bg
      have eo : cdH X w (k + 1) = cdR X (1000 * (k + 1)) (w.drop (nmX X 2 (k + 1)).length) := by unfold cdH; rw [if_pos hpf]
      rw [eo] at ol ⊢
      obtain ⟨f1, h1, h2⟩ := gRoot_eq xs d hκ hc ht hX hP hd (b := 1000 * (k + 1)) (by omega) hC (by omega)
      obtain ⟨f', h3, h4⟩ := ih (k + 1) _ f1 (acl u3) (some (.inr (.inl (p32 (nmX X 2 (k + 1)) : Int)))) none (by omega) h1 (by rw [List.length_append]; omega)
      rw [List.append_assoc] at h3 h4
      refine ⟨f', h3, ?_⟩
      simp (disch := omega) only [cond_true, cond_false, Bool.and_true, Int.toNat_natCast, Int.reduceToNat, bI_s, bJ_s, bV_s, dT, dF, w_al, w_la, w_lm, w_ab, tp_0_1 hc ht, tp_0_2 hc ht, tp_0_3 hc ht, tp_0_4 hc ht, tp_0_6 hc ht, tp_0_8 hc ht, tp_0_9 hc ht, tp_0_10 hc ht, tp_0_12 hc ht, tp_0_13 hc ht, tp_0_14 hc ht, tp_3_1 hc ht, tp_3_2 hc ht, tp_3_3 hc ht, tp_3_4 hc ht, tp_8_0 hc ht, tp_8_1 hc ht, tp_8_2 hc ht, tp_18_0 hc ht, tp_18_2 hc ht, tp_18_3 hc ht, tk_0 hκ ht, tk_1 hκ ht, tn_1 hκ ht, tk_2 hκ ht, tn_2 hκ ht, tk_3 hκ ht, tk_4 hκ ht, tn_4 hκ ht, tk_5 hκ ht, tn_5 hκ ht, tk_6 hκ ht, tn_6 hκ ht, tk_7 hκ ht, tn_7 hκ ht, tk_8 hκ ht, tk_9 hκ ht, tn_9 hκ ht, tk_10 hκ ht, tn_10 hκ ht, tk_11 hκ ht, tn_11 hκ ht, tk_12 hκ ht, tn_12 hκ ht, tk_13 hκ ht, tn_13 hκ ht, tk_14 hκ ht, tn_14 hκ ht, tk_15 hκ ht, tn_15 hκ ht, tk_16 hκ ht, tn_16 hκ ht, tk_17 hκ ht, tn_17 hκ ht, tk_18 hκ ht, tk_19 hκ ht, tn_19 hκ ht, tk_20 hκ ht, tn_20 hκ ht, tk_21 hκ ht, tn_21 hκ ht, kc_65 hκ, ga_q, hp2, e, bg, bh, h2]
      exact h4
    · rw [if_neg hpf] at bg
      have eo : cdH X w (k + 1) = [] := by unfold cdH; rw [if_neg hpf]
      rw [eo]
      obtain ⟨f', h1, h2⟩ := ih (k + 1) C f (acl u3) (some (.inr (.inl (p32 (nmX X 2 (k + 1)) : Int)))) none (by omega) hC (by omega)
      refine ⟨f', h1, ?_⟩
      simp (disch := omega) only [cond_true, cond_false, Bool.and_true, Int.toNat_natCast, Int.reduceToNat, bI_s, bJ_s, bV_s, dT, dF, w_al, w_la, w_lm, w_ab, tp_0_1 hc ht, tp_0_2 hc ht, tp_0_3 hc ht, tp_0_4 hc ht, tp_0_6 hc ht, tp_0_8 hc ht, tp_0_9 hc ht, tp_0_10 hc ht, tp_0_12 hc ht, tp_0_13 hc ht, tp_0_14 hc ht, tp_3_1 hc ht, tp_3_2 hc ht, tp_3_3 hc ht, tp_3_4 hc ht, tp_8_0 hc ht, tp_8_1 hc ht, tp_8_2 hc ht, tp_18_0 hc ht, tp_18_2 hc ht, tp_18_3 hc ht, tk_0 hκ ht, tk_1 hκ ht, tn_1 hκ ht, tk_2 hκ ht, tn_2 hκ ht, tk_3 hκ ht, tk_4 hκ ht, tn_4 hκ ht, tk_5 hκ ht, tn_5 hκ ht, tk_6 hκ ht, tn_6 hκ ht, tk_7 hκ ht, tn_7 hκ ht, tk_8 hκ ht, tk_9 hκ ht, tn_9 hκ ht, tk_10 hκ ht, tn_10 hκ ht, tk_11 hκ ht, tn_11 hκ ht, tk_12 hκ ht, tn_12 hκ ht, tk_13 hκ ht, tn_13 hκ ht, tk_14 hκ ht, tn_14 hκ ht, tk_15 hκ ht, tn_15 hκ ht, tk_16 hκ ht, tn_16 hκ ht, tk_17 hκ ht, tn_17 hκ ht, tk_18 hκ ht, tk_19 hκ ht, tn_19 hκ ht, tk_20 hκ ht, tn_20 hκ ht, tk_21 hκ ht, tn_21 hκ ht, kc_65 hκ, ga_q, hp2, e, bg]
      exact h2
theorem gather_eq (xs : List Int) (d : Nat) {κ : aK} {D : Nat → Nat → Int} (hκ : Shp κ) (hc : CPtr D) {t : Nat} (ht : isT t) {X : TX} (hX : TXok X) (hP : PcC D t X) {w : List Nat} (hw : wok w) : ∃ f' : Nat → Int, CLs f' (cdA X w) ∧ cl xs (d + 5) 114 [.inr (.inr ((65 : Nat) : Int)), .inr (.inr ((t + 8 : Nat) : Int)), .inr (.inl (p32 w : Int))] (κ, D) = some (none, (κ, gaD D (cdA X w).length f')) := by
  have n2 : xnp X 2 ≤ 4 := (hX.2.2.1 2 (by decide)).1
  have h0 : aup D 65 0 0 = gaD D 0 (D 66) := by
    unfold gaD
    rw [setc_id]
    rfl
  obtain ⟨f1, h1, h2⟩ := gRoot_eq xs d hκ hc ht hX hP hw (b := 0) (by omega) (C := []) (f := D 66) (fun j hj => by simp at hj) (by simp)
  have l1 := cdR_len hX 0 w
  rw [List.nil_append] at h1 h2
  obtain ⟨f', h3, h4⟩ := gHead_loop xs d hκ hc ht hX hP hw (xnp X 2) 0 (cdR X 0 w) f1 none none none (by omega) h1 (by omega)
  refine ⟨f', h3, ?_⟩
  rw [c_114]
  simp (disch := omega) only [cond_true, cond_false, Bool.and_true, Bool.true_and, Bool.and_false, Bool.false_and, Int.toNat_natCast, Int.reduceToNat, bI_s, bJ_s, bV_s, bR_s, decide_true, decide_false, not_true_eq_false, not_false_eq_true, dT, dF, w_al, w_la, w_ab, w_sl, w_sb, w_dec, w_ml, w_lm, ol2i_n, aup_ne, aupE, aupJ, setc_self, setc_ne, kc_65 hκ, h0]
  rw [show cl xs (d + 4) 115 [.inr (.inr ((65 : Nat) : Int)), .inr (.inr ((t + 8 : Nat) : Int)), .inr (.inl (p32 w : Int)), .inl 0] (κ, gaD D 0 (D 66)) = _ from h2]
  simp (disch := omega) only [cond_true, cond_false, Bool.and_true, Bool.true_and, Bool.and_false, Bool.false_and, Int.toNat_natCast, Int.reduceToNat, bI_s, bJ_s, bV_s, bR_s, decide_true, decide_false, not_true_eq_false, not_false_eq_true, dT, dF, w_al, w_la, w_ab, w_sl, w_sb, w_dec, w_ml, w_lm, ol2i_n, aup_ne, aupE, aupJ, setc_self, setc_ne]
  exact h4
