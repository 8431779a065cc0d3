/-! Made: tellOf and made by the class. -/
def mdA (X : TX) (n w : Nat) : Int := if w = 0 then (mdU (mAll X n).reverse : Int) else if w = 1 then (mdT (mAll X n).reverse : Int) else mdF (mAll X n).reverse
def MadeOK (κ : aK) (D : Nat → Nat → Int) (X : TX) : Prop := MdTab κ D ∧ ∃ kb : Nat, kb < 8192 ∧ D 68 0 = (kb : Int) ∧ ∀ n, n ≤ 12 → kb.testBit n = true → ∀ w, w < 3 → D 69 (n * 3 + w) = mdA X n w
def qMade (X : TX) (n w : Int) : Int := if 1 ≤ n ∧ n ≤ 12 ∧ 0 ≤ w ∧ w < 3 then mdA X n.toNat w.toNat else -1
theorem tellOf_eq (xs : List Int) (d : Nat) {κ : aK} {D : Nat → Nat → Int} {t : Nat} {X : TX} (hX : TXok X) (ht : isT t) (hP : MdP κ D t X) (hM : MadeOK κ D X) {n w : Nat} (hn : n ≤ 12) (hw : w < 3) : ∃ κ' D', cl xs (d + 5) 13 [.inr (.inr ((68 : Nat) : Int)), .inr (.inr ((t + 8 : Nat) : Int)), .inl (n : Int), .inl (w : Int)] (κ, D) = some (some (.inl (mdA X n w)), (κ', D')) ∧ KLe κ κ' ∧ MadeOK κ' D' X ∧ CPtr D' ∧ (∀ q, q < 315 → q ≠ 68 → q ≠ 69 → D' q = D q) ∧ κ'.2.1 + mdR D' ≤ κ.2.1 + mdR D := by
  obtain ⟨hT, kb, hkb, e0, hb⟩ := hM
  obtain ⟨hκ, hc, hp⟩ := hP
  have eb := obitu (a := kb) (s := n) (by omega) (by omega)
  by_cases hbit : kb.testBit n = true
  · have e1 : kb / 2 ^ n % 2 = 1 := by rw [bitT, hbit]; rfl
    rw [e1] at eb
    refine ⟨κ, D, ?_, KLe.rfl' κ, ⟨hT, kb, hkb, e0, hb⟩, hc, fun q _ _ _ => rfl, Nat.le_refl _⟩
    have ee := hb n hn hbit w hw
    rw [c_13]
    simp (disch := omega) only [cond_true, cond_false, Bool.and_true, Bool.true_and, Bool.and_false, Bool.false_and, Int.toNat_natCast, Int.reduceToNat, bI_s, bJ_s, bV_s, bR_s, decide_true, decide_false, not_true_eq_false, not_false_eq_true, dT, dF, w_al, w_la, w_ab, w_sl, w_sb, w_dec, w_ml, w_lm, ol2i_n, aup_ne, aupE, aupJ, setc_self, setc_ne, kc_68 hκ, kc_69 hκ, nc_69 hκ, pc_68_1 hc, e0, eb, ee]
  · have hbf : kb.testBit n = false := by simpa using hbit
    have e1 : kb / 2 ^ n % 2 = 0 := by rw [bitT, hbf]; rfl
    rw [e1] at eb
    obtain ⟨κ', D1, a, b, r1, r2, r3, r4, r5, r6, r7, r8⟩ := reckon_eq xs d hX ht ⟨hκ, hc, hp⟩ hT hn
    obtain ⟨x2, x3, x4, x5, x6⟩ := r3
    have hκ' := r4.1
    have hc' := r4.2.1
    have p1 : D1 68 1 = ((69 : Nat) : Int) := pc_68_1 hc'
    have f0 : D1 68 0 = (kb : Int) := (r6 0 (by decide)).trans e0
    have eo : oor (kb : Int) (oshl 1 (n : Int)) = ((kb ||| 2 ^ n : Nat) : Int) := by
      have h2 : 2 ^ n < 2147483648 := Nat.lt_of_le_of_lt (Nat.pow_le_pow_right (by decide) hn) (by decide)
      rw [oshl1 (by omega), oor_nat (by omega) h2]
    generalize hR : (mAll X n).reverse = R at *
    generalize hE : aup (aup (aup (aup D1 68 0 ((kb ||| 2 ^ n : Nat) : Int)) 69 (n * 3) (mdU R : Int)) 69 (n * 3 + 1) (mdT R : Int)) 69 (n * 3 + 2) (mdF R) = E at *
    have g68 : ∀ j, j ≠ 0 → E 68 j = D1 68 j := fun j hj => by rw [← hE, aupN (by decide), aupN (by decide), aupN (by decide), aupJ hj]
    have g69 : ∀ w', w' < 3 → E 69 (n * 3 + w') = mdA X n w' := fun w' hw' => by
      unfold mdA
      rw [hR]
      have : w' = 0 ∨ w' = 1 ∨ w' = 2 := by omega
      rcases this with rfl | rfl | rfl
      · rw [← hE, aupJ (by omega), aupJ (by omega), Nat.add_zero, aupE]; rfl
      · rw [← hE, aupJ (by omega), aupE]; rfl
      · rw [← hE, aupE]; rfl
    have g69' : ∀ j, j < n * 3 ∨ n * 3 + 2 < j → E 69 j = D 69 j := fun j hj => by
      rw [← hE, aupJ (by omega), aupJ (by omega), aupJ (by omega), aupN (by decide), r5 69 (by decide) (by decide)]
    have go : ∀ q, q ≠ 68 → q ≠ 69 → E q = D1 q := fun q h1 h2 => by rw [← hE, aupN h2, aupN h2, aupN h2, aupN h1]
    refine ⟨κ', E, ?_, r1, ⟨Or.inr ⟨a, b, ?_, ?_, r2⟩, kb ||| 2 ^ n, ?_, ?_, fun n' hn' hb' w' hw' => ?_⟩, ?_, fun q h1 h2 h3 => ?_, ?_⟩
    · have gw := g69 w hw
      have q13 : ev xs (d + 4) mm_13 55 [some (.inr (.inr ((68 : Nat) : Int))), some (.inr (.inr ((t + 8 : Nat) : Int))), some (.inl (n : Int)), some (.inl (w : Int))] [] (κ', aup (aup (aup D1 68 0 ((kb ||| 2 ^ n : Nat) : Int)) 69 (n * 3) (mdU R : Int)) 69 (n * 3 + 1) (mdT R : Int)) = some (some (.inl (mdA X n w)), (κ', E)) := by
        rw [q_13_55]
        simp (disch := omega) only [cond_true, cond_false, Bool.and_true, Bool.true_and, Bool.and_false, Bool.false_and, Int.toNat_natCast, Int.reduceToNat, bI_s, bJ_s, bV_s, bR_s, decide_true, decide_false, not_true_eq_false, not_false_eq_true, dT, dF, w_al, w_la, w_ab, w_sl, w_sb, w_dec, w_ml, w_lm, ol2i_n, aup_ne, aupE, aupJ, setc_self, setc_ne, kc_68 hκ', kc_69 hκ', nc_69 hκ', p1, x6, hE, g68, gw]
      rw [c_13]
      simp (disch := omega) only [cond_true, cond_false, Bool.and_true, Bool.true_and, Bool.and_false, Bool.false_and, Int.toNat_natCast, Int.reduceToNat, bI_s, bJ_s, bV_s, bR_s, decide_true, decide_false, not_true_eq_false, not_false_eq_true, dT, dF, w_al, w_la, w_ab, w_sl, w_sb, w_dec, w_ml, w_lm, ol2i_n, aup_ne, aupE, aupJ, setc_self, setc_ne, kc_68 hκ, eb, e0, r8, kc_68 hκ', nc_69 hκ', p1, f0, eo, x4, x5]
      exact q13
    · rw [g68 2 (by decide)]; exact x2
    · rw [g68 3 (by decide)]; exact x3
    · exact Nat.or_lt_two_pow (n := 13) hkb (Nat.lt_of_le_of_lt (Nat.pow_le_pow_right (by decide) hn) (by decide))
    · rw [← hE, aupN (by decide), aupN (by decide), aupN (by decide), aupE]
    · by_cases h : n' = n
      · subst h; exact g69 w' hw'
      · rw [g69' (n' * 3 + w') (by omega)]
        refine hb n' hn' ?_ w' hw'
        rw [Nat.testBit_or, Nat.testBit_two_pow, decide_eq_false (fun q => h q.symm), Bool.or_false] at hb'
        exact hb'
    · exact ptr_md hc' (fun q h1 h2 h3 => go q h2 h3) (g68 1 (by decide))
    · rw [go q h2 h3, r5 q h1 h2]
    · have : mdR E = mdR D1 := by unfold mdR; rw [g68 2 (by decide)]
      rw [this]; exact r7
theorem cmade (xs : List Int) (d : Nat) {κ : aK} {D : Nat → Nat → Int} (hκ : Shp κ) (hc : CPtr D) {t : Nat} (ht : isT t) (h5 : D 0 5 = (t : Int)) {X : TX} (hX : TXok X) (hx : TxC D t X) (hM : MadeOK κ D X) (n w : Int) : ∃ κ' D', cl xs (d + 6) 157 [.inr (.inr 0), .inl n, .inl w] (κ, D) = some (some (.inl (qMade X n w)), (κ', D')) ∧ KLe κ κ' ∧ MadeOK κ' D' X ∧ CPtr D' ∧ (∀ q, q < 315 → q ≠ 68 → q ≠ 69 → D' q = D q) ∧ κ'.2.1 + mdR D' ≤ κ.2.1 + mdR D := by
  have ht' : t = 9 ∨ t = 31 := ht
  have hk0 : aok κ 0 11 = true := kc_0 hκ
  unfold qMade
  by_cases h : 1 ≤ n ∧ n ≤ 12 ∧ 0 ≤ w ∧ w < 3
  · rw [if_pos h]
    obtain ⟨h1, h2, h3, h4⟩ := h
    obtain ⟨N, rfl⟩ := Int.eq_ofNat_of_zero_le (show 0 ≤ n by omega)
    obtain ⟨W, rfl⟩ := Int.eq_ofNat_of_zero_le h3
    obtain ⟨κ', D', e, rest⟩ := tellOf_eq xs d hX ht ⟨hκ, hc, hx.pc⟩ hM (n := N) (w := W) (by omega) (by omega)
    refine ⟨κ', D', ?_, rest⟩
    rw [c_157]
    simp (disch := omega) only [cond_true, cond_false, Bool.and_true, Bool.true_and, Bool.and_false, Bool.false_and, Int.toNat_natCast, Int.reduceToNat, bI_s, bJ_s, bV_s, bR_s, decide_true, decide_false, not_true_eq_false, not_false_eq_true, dT, dF, w_al, w_la, w_ab, w_sl, w_sb, w_dec, w_ml, w_lm, ol2i_n, aup_ne, aupE, aupJ, setc_self, setc_ne, pc_0_0 hc, pc_0_3 hc, pc_0_4 hc, pc_0_7 hc, pc_0_8 hc, pc_0_9 hc, pc_0_12 hc, pc_0_14 hc, pc_0_15 hc, pc_0_16 hc, pc_0_17 hc, pc_0_18 hc, pc_0_19 hc, pc_2_1 hc, pc_2_2 hc, pc_2_3 hc, pc_2_6 hc, pc_2_8 hc, pc_8_2 hc, pc_65_1 hc, pc_65_2 hc, pc_68_1 hc, pc_72_3 hc, pc_72_4 hc, pc_72_5 hc, pc_72_6 hc, pc_77_1 hc, pc_77_2 hc, pc_77_3 hc, pc_77_4 hc, pc_77_5 hc, pc_77_6 hc, kc_0 hκ, kc_1 hκ, nc_1 hκ, kc_2 hκ, kc_3 hκ, nc_3 hκ, kc_4 hκ, nc_4 hκ, kc_5 hκ, nc_5 hκ, kc_6 hκ, nc_6 hκ, kc_7 hκ, nc_7 hκ, kc_8 hκ, kc_63 hκ, nc_63 hκ, kc_64 hκ, nc_64 hκ, kc_65 hκ, kc_66 hκ, nc_66 hκ, kc_67 hκ, nc_67 hκ, kc_68 hκ, kc_69 hκ, nc_69 hκ, kc_70 hκ, nc_70 hκ, kc_71 hκ, nc_71 hκ, kc_72 hκ, kc_73 hκ, nc_73 hκ, kc_74 hκ, nc_74 hκ, kc_75 hκ, nc_75 hκ, kc_76 hκ, nc_76 hκ, kc_77 hκ, kc_78 hκ, nc_78 hκ, kc_79 hκ, nc_79 hκ, kc_80 hκ, nc_80 hκ, kc_81 hκ, nc_81 hκ, kc_82 hκ, nc_82 hκ, kc_83 hκ, nc_83 hκ, kc_84 hκ, nc_84 hκ, kc_85 hκ, nc_85 hκ, kc_86 hκ, nc_86 hκ, kc_87 hκ, nc_87 hκ, kc_88 hκ, nc_88 hκ, kc_89 hκ, nc_89 hκ, kc_90 hκ, nc_90 hκ, tp_0_1 hc ht, tp_0_2 hc ht, tp_0_3 hc ht, tp_0_4 hc ht, tp_0_6 hc ht, tp_0_8 hc ht, tp_0_9 hc ht, tp_0_10 hc ht, tp_0_12 hc ht, tp_0_13 hc ht, tp_0_14 hc ht, tp_3_1 hc ht, tp_3_2 hc ht, tp_3_3 hc ht, tp_3_4 hc ht, tp_8_0 hc ht, tp_8_1 hc ht, tp_8_2 hc ht, tp_18_0 hc ht, tp_18_2 hc ht, tp_18_3 hc ht, tk_0 hκ ht, tk_1 hκ ht, tn_1 hκ ht, tk_2 hκ ht, tn_2 hκ ht, tk_3 hκ ht, tk_4 hκ ht, tn_4 hκ ht, tk_5 hκ ht, tn_5 hκ ht, tk_6 hκ ht, tn_6 hκ ht, tk_7 hκ ht, tn_7 hκ ht, tk_8 hκ ht, tk_9 hκ ht, tn_9 hκ ht, tk_10 hκ ht, tn_10 hκ ht, tk_11 hκ ht, tn_11 hκ ht, tk_12 hκ ht, tn_12 hκ ht, tk_13 hκ ht, tn_13 hκ ht, tk_14 hκ ht, tn_14 hκ ht, tk_15 hκ ht, tn_15 hκ ht, tk_16 hκ ht, tn_16 hκ ht, tk_17 hκ ht, tn_17 hκ ht, tk_18 hκ ht, tk_19 hκ ht, tn_19 hκ ht, tk_20 hκ ht, tn_20 hκ ht, tk_21 hκ ht, tn_21 hκ ht, sk_0 hκ is53, sp_1 hc is53, sk_1 hκ is53, sn_1 hκ is53, sp_2 hc is53, sk_2 hκ is53, sn_2 hκ is53, sp_3 hc is53, sk_3 hκ is53, sn_3 hκ is53, sp_4 hc is53, sk_4 hκ is53, sn_4 hκ is53, sk_0 hκ is58, sp_1 hc is58, sk_1 hκ is58, sn_1 hκ is58, sp_2 hc is58, sk_2 hκ is58, sn_2 hκ is58, sp_3 hc is58, sk_3 hκ is58, sn_3 hκ is58, sp_4 hc is58, sk_4 hκ is58, sn_4 hκ is58, h5, hk0, e]
  · rw [if_neg h]
    refine ⟨κ, D, ?_, KLe.rfl' κ, hM, hc, fun q _ _ _ => rfl, Nat.le_refl _⟩
    rw [c_157]
    by_cases h1 : n < 1
    · simp (disch := omega) only [cond_true, cond_false, Bool.and_true, Bool.true_and, Bool.and_false, Bool.false_and, Int.toNat_natCast, Int.reduceToNat, bI_s, bJ_s, bV_s, bR_s, decide_true, decide_false, not_true_eq_false, not_false_eq_true, dT, dF, w_al, w_la, w_ab, w_sl, w_sb, w_dec, w_ml, w_lm, ol2i_n, aup_ne, aupE, aupJ, setc_self, setc_ne]
    · by_cases h2 : 12 < n
      · simp (disch := omega) only [cond_true, cond_false, Bool.and_true, Bool.true_and, Bool.and_false, Bool.false_and, Int.toNat_natCast, Int.reduceToNat, bI_s, bJ_s, bV_s, bR_s, decide_true, decide_false, not_true_eq_false, not_false_eq_true, dT, dF, w_al, w_la, w_ab, w_sl, w_sb, w_dec, w_ml, w_lm, ol2i_n, aup_ne, aupE, aupJ, setc_self, setc_ne]
      · by_cases h3 : w < 0
        · simp (disch := omega) only [cond_true, cond_false, Bool.and_true, Bool.true_and, Bool.and_false, Bool.false_and, Int.toNat_natCast, Int.reduceToNat, bI_s, bJ_s, bV_s, bR_s, decide_true, decide_false, not_true_eq_false, not_false_eq_true, dT, dF, w_al, w_la, w_ab, w_sl, w_sb, w_dec, w_ml, w_lm, ol2i_n, aup_ne, aupE, aupJ, setc_self, setc_ne]
        · simp (disch := omega) only [cond_true, cond_false, Bool.and_true, Bool.true_and, Bool.and_false, Bool.false_and, Int.toNat_natCast, Int.reduceToNat, bI_s, bJ_s, bV_s, bR_s, decide_true, decide_false, not_true_eq_false, not_false_eq_true, dT, dF, w_al, w_la, w_ab, w_sl, w_sb, w_dec, w_ml, w_lm, ol2i_n, aup_ne, aupE, aupJ, setc_self, setc_ne]
