/-! way by the class; uses of pieces by the class. -/
def CScr (D D' : Nat → Nat → Int) : Prop := (∀ q, q < 58 ∨ (62 < q ∧ q < 65) ∨ (67 < q ∧ q < 89) ∨ 90 < q → D' q = D q) ∧ CPtr D'
theorem CScr.rfl' {D : Nat → Nat → Int} (hc : CPtr D) : CScr D D := ⟨fun _ _ => rfl, hc⟩
theorem CScr.trans {D D1 D2 : Nat → Nat → Int} (h1 : CScr D D1) (h2 : CScr D1 D2) : CScr D D2 := ⟨fun q a => (h2.1 q a).trans (h1.1 q a), h2.2⟩
theorem CScr.ga {D : Nat → Nat → Int} (hc : CPtr D) (n : Nat) (f : Nat → Int) : CScr D (gaD D n f) := ⟨fun q hq => ga_q (by omega) (by omega), ga_ptr hc n f⟩
theorem TxC.pc {D : Nat → Nat → Int} {t : Nat} {X : TX} (h : TxC D t X) : PcC D t X := h.2.2.1
theorem cway (xs : List Int) (d : Nat) {κ : aK} {D : Nat → Nat → Int} (hκ : Shp κ) (hc : CPtr D) {t : Nat} (ht : isT t) (h5 : D 0 5 = (t : Int)) {X : TX} (hX : TXok X) (hx : TxC D t X) {S : ST} (hS : STok X S) (hs : StC D 53 X S) (w i : Int) : ∃ D', CScr D D' ∧ cl xs (d + 6) 144 [.inr (.inr 0), .inl w, .inl i] (κ, D) = some (some (.inl (qWay X S w i)), (κ, D')) := by
  have hk0 : aok κ 0 11 = true := kc_0 hκ
  have x2 := hX.2.1.1
  have ht' : t = 9 ∨ t = 31 := ht
  have hw1 := hasWord_eq xs (d + 4) hκ hc ht h5 hX hx w
  rw [c_144]
  unfold qWay
  by_cases h : (0 ≤ w ∧ w < (xnw X : Int)) ∧ -1 ≤ i
  · rw [if_pos h]
    rw [if_pos h.1] at hw1
    obtain ⟨n, rfl⟩ := Int.eq_ofNat_of_zero_le h.1.1
    have hw := (hS.2.2.2.1 n (by omega)).1
    have hwr := rbX_wok hX hS.2.1 (son S) 7 hw
    obtain ⟨f, hC, e⟩ := gather_eq xs d hκ hc ht hX hx.pc hwr
    have hl := cdA_len hX (rbX X (sord S) (son S) 7 (sW S n))
    refine ⟨_, CScr.ga hc (cdA X (rbX X (sord S) (son S) 7 (sW S n))).length f, ?_⟩
    rw [Int.toNat_natCast]
    generalize hCe : cdA X (rbX X (sord S) (son S) 7 (sW S n)) = C at *
    have ro := runOfC_eq xs (d + 1) hκ hc ht h5 hX hx hS hs hw
    unfold nthW
    by_cases h1 : i = -1
    · rw [if_pos h1]
      simp (disch := omega) only [cond_true, cond_false, Bool.and_true, Bool.true_and, Bool.and_false, Bool.false_and, Int.toNat_natCast, Int.reduceToNat, bI_s, bJ_s, bV_s, bR_s, decide_true, decide_false, not_true_eq_false, not_false_eq_true, dT, dF, w_al, w_la, w_ab, w_sl, w_sb, w_dec, w_ml, w_lm, ol2i_n, aup_ne, aupE, aupJ, setc_self, setc_ne, pc_0_0 hc, pc_0_3 hc, pc_0_4 hc, pc_0_7 hc, pc_0_8 hc, pc_0_9 hc, pc_0_12 hc, pc_0_14 hc, pc_0_15 hc, pc_0_16 hc, pc_0_17 hc, pc_0_18 hc, pc_0_19 hc, pc_2_1 hc, pc_2_2 hc, pc_2_3 hc, pc_2_6 hc, pc_2_8 hc, pc_8_2 hc, pc_65_1 hc, pc_65_2 hc, pc_68_1 hc, pc_72_3 hc, pc_72_4 hc, pc_72_5 hc, pc_72_6 hc, pc_77_1 hc, pc_77_2 hc, pc_77_3 hc, pc_77_4 hc, pc_77_5 hc, pc_77_6 hc, kc_0 hκ, kc_1 hκ, nc_1 hκ, kc_2 hκ, kc_3 hκ, nc_3 hκ, kc_4 hκ, nc_4 hκ, kc_5 hκ, nc_5 hκ, kc_6 hκ, nc_6 hκ, kc_7 hκ, nc_7 hκ, kc_8 hκ, kc_63 hκ, nc_63 hκ, kc_64 hκ, nc_64 hκ, kc_65 hκ, kc_66 hκ, nc_66 hκ, kc_67 hκ, nc_67 hκ, kc_68 hκ, kc_69 hκ, nc_69 hκ, kc_70 hκ, nc_70 hκ, kc_71 hκ, nc_71 hκ, kc_72 hκ, kc_73 hκ, nc_73 hκ, kc_74 hκ, nc_74 hκ, kc_75 hκ, nc_75 hκ, kc_76 hκ, nc_76 hκ, kc_77 hκ, kc_78 hκ, nc_78 hκ, kc_79 hκ, nc_79 hκ, kc_80 hκ, nc_80 hκ, kc_81 hκ, nc_81 hκ, kc_82 hκ, nc_82 hκ, kc_83 hκ, nc_83 hκ, kc_84 hκ, nc_84 hκ, kc_85 hκ, nc_85 hκ, kc_86 hκ, nc_86 hκ, kc_87 hκ, nc_87 hκ, kc_88 hκ, nc_88 hκ, kc_89 hκ, nc_89 hκ, kc_90 hκ, nc_90 hκ, tp_0_1 hc ht, tp_0_2 hc ht, tp_0_3 hc ht, tp_0_4 hc ht, tp_0_6 hc ht, tp_0_8 hc ht, tp_0_9 hc ht, tp_0_10 hc ht, tp_0_12 hc ht, tp_0_13 hc ht, tp_0_14 hc ht, tp_3_1 hc ht, tp_3_2 hc ht, tp_3_3 hc ht, tp_3_4 hc ht, tp_8_0 hc ht, tp_8_1 hc ht, tp_8_2 hc ht, tp_18_0 hc ht, tp_18_2 hc ht, tp_18_3 hc ht, tk_0 hκ ht, tk_1 hκ ht, tn_1 hκ ht, tk_2 hκ ht, tn_2 hκ ht, tk_3 hκ ht, tk_4 hκ ht, tn_4 hκ ht, tk_5 hκ ht, tn_5 hκ ht, tk_6 hκ ht, tn_6 hκ ht, tk_7 hκ ht, tn_7 hκ ht, tk_8 hκ ht, tk_9 hκ ht, tn_9 hκ ht, tk_10 hκ ht, tn_10 hκ ht, tk_11 hκ ht, tn_11 hκ ht, tk_12 hκ ht, tn_12 hκ ht, tk_13 hκ ht, tn_13 hκ ht, tk_14 hκ ht, tn_14 hκ ht, tk_15 hκ ht, tn_15 hκ ht, tk_16 hκ ht, tn_16 hκ ht, tk_17 hκ ht, tn_17 hκ ht, tk_18 hκ ht, tk_19 hκ ht, tn_19 hκ ht, tk_20 hκ ht, tn_20 hκ ht, tk_21 hκ ht, tn_21 hκ ht, sk_0 hκ is53, sp_1 hc is53, sk_1 hκ is53, sn_1 hκ is53, sp_2 hc is53, sk_2 hκ is53, sn_2 hκ is53, sp_3 hc is53, sk_3 hκ is53, sn_3 hκ is53, sp_4 hc is53, sk_4 hκ is53, sn_4 hκ is53, sk_0 hκ is58, sp_1 hc is58, sk_1 hκ is58, sn_1 hκ is58, sp_2 hc is58, sk_2 hκ is58, sn_2 hκ is58, sp_3 hc is58, sk_3 hκ is58, sn_3 hκ is58, sp_4 hc is58, sk_4 hκ is58, sn_4 hκ is58, hk0, h5, hw1, hs.2.2.1 n (by omega), ro, e, ga_q, ga_65]
      rw [Nat.zero_add]
    · rw [if_neg h1]
      obtain ⟨k, rfl⟩ := Int.eq_ofNat_of_zero_le (show 0 ≤ i by omega)
      by_cases h2 : k < C.length
      · rw [if_pos (by omega)]
        simp (disch := omega) only [cond_true, cond_false, Bool.and_true, Bool.true_and, Bool.and_false, Bool.false_and, Int.toNat_natCast, Int.reduceToNat, bI_s, bJ_s, bV_s, bR_s, decide_true, decide_false, not_true_eq_false, not_false_eq_true, dT, dF, w_al, w_la, w_ab, w_sl, w_sb, w_dec, w_ml, w_lm, ol2i_n, aup_ne, aupE, aupJ, setc_self, setc_ne, pc_0_0 hc, pc_0_3 hc, pc_0_4 hc, pc_0_7 hc, pc_0_8 hc, pc_0_9 hc, pc_0_12 hc, pc_0_14 hc, pc_0_15 hc, pc_0_16 hc, pc_0_17 hc, pc_0_18 hc, pc_0_19 hc, pc_2_1 hc, pc_2_2 hc, pc_2_3 hc, pc_2_6 hc, pc_2_8 hc, pc_8_2 hc, pc_65_1 hc, pc_65_2 hc, pc_68_1 hc, pc_72_3 hc, pc_72_4 hc, pc_72_5 hc, pc_72_6 hc, pc_77_1 hc, pc_77_2 hc, pc_77_3 hc, pc_77_4 hc, pc_77_5 hc, pc_77_6 hc, kc_0 hκ, kc_1 hκ, nc_1 hκ, kc_2 hκ, kc_3 hκ, nc_3 hκ, kc_4 hκ, nc_4 hκ, kc_5 hκ, nc_5 hκ, kc_6 hκ, nc_6 hκ, kc_7 hκ, nc_7 hκ, kc_8 hκ, kc_63 hκ, nc_63 hκ, kc_64 hκ, nc_64 hκ, kc_65 hκ, kc_66 hκ, nc_66 hκ, kc_67 hκ, nc_67 hκ, kc_68 hκ, kc_69 hκ, nc_69 hκ, kc_70 hκ, nc_70 hκ, kc_71 hκ, nc_71 hκ, kc_72 hκ, kc_73 hκ, nc_73 hκ, kc_74 hκ, nc_74 hκ, kc_75 hκ, nc_75 hκ, kc_76 hκ, nc_76 hκ, kc_77 hκ, kc_78 hκ, nc_78 hκ, kc_79 hκ, nc_79 hκ, kc_80 hκ, nc_80 hκ, kc_81 hκ, nc_81 hκ, kc_82 hκ, nc_82 hκ, kc_83 hκ, nc_83 hκ, kc_84 hκ, nc_84 hκ, kc_85 hκ, nc_85 hκ, kc_86 hκ, nc_86 hκ, kc_87 hκ, nc_87 hκ, kc_88 hκ, nc_88 hκ, kc_89 hκ, nc_89 hκ, kc_90 hκ, nc_90 hκ, tp_0_1 hc ht, tp_0_2 hc ht, tp_0_3 hc ht, tp_0_4 hc ht, tp_0_6 hc ht, tp_0_8 hc ht, tp_0_9 hc ht, tp_0_10 hc ht, tp_0_12 hc ht, tp_0_13 hc ht, tp_0_14 hc ht, tp_3_1 hc ht, tp_3_2 hc ht, tp_3_3 hc ht, tp_3_4 hc ht, tp_8_0 hc ht, tp_8_1 hc ht, tp_8_2 hc ht, tp_18_0 hc ht, tp_18_2 hc ht, tp_18_3 hc ht, tk_0 hκ ht, tk_1 hκ ht, tn_1 hκ ht, tk_2 hκ ht, tn_2 hκ ht, tk_3 hκ ht, tk_4 hκ ht, tn_4 hκ ht, tk_5 hκ ht, tn_5 hκ ht, tk_6 hκ ht, tn_6 hκ ht, tk_7 hκ ht, tn_7 hκ ht, tk_8 hκ ht, tk_9 hκ ht, tn_9 hκ ht, tk_10 hκ ht, tn_10 hκ ht, tk_11 hκ ht, tn_11 hκ ht, tk_12 hκ ht, tn_12 hκ ht, tk_13 hκ ht, tn_13 hκ ht, tk_14 hκ ht, tn_14 hκ ht, tk_15 hκ ht, tn_15 hκ ht, tk_16 hκ ht, tn_16 hκ ht, tk_17 hκ ht, tn_17 hκ ht, tk_18 hκ ht, tk_19 hκ ht, tn_19 hκ ht, tk_20 hκ ht, tn_20 hκ ht, tk_21 hκ ht, tn_21 hκ ht, sk_0 hκ is53, sp_1 hc is53, sk_1 hκ is53, sn_1 hκ is53, sp_2 hc is53, sk_2 hκ is53, sn_2 hκ is53, sp_3 hc is53, sk_3 hκ is53, sn_3 hκ is53, sp_4 hc is53, sk_4 hκ is53, sn_4 hκ is53, sk_0 hκ is58, sp_1 hc is58, sk_1 hκ is58, sn_1 hκ is58, sp_2 hc is58, sk_2 hκ is58, sn_2 hκ is58, sp_3 hc is58, sk_3 hκ is58, sn_3 hκ is58, sp_4 hc is58, sk_4 hκ is58, sn_4 hκ is58, hk0, h5, hw1, hs.2.2.1 n (by omega), ro, e, ga_q, ga_65, ga_j, ga_66, hC k h2]
        rw [Nat.sub_zero]
      · rw [if_neg (by omega)]
        simp (disch := omega) only [cond_true, cond_false, Bool.and_true, Bool.true_and, Bool.and_false, Bool.false_and, Int.toNat_natCast, Int.reduceToNat, bI_s, bJ_s, bV_s, bR_s, decide_true, decide_false, not_true_eq_false, not_false_eq_true, dT, dF, w_al, w_la, w_ab, w_sl, w_sb, w_dec, w_ml, w_lm, ol2i_n, aup_ne, aupE, aupJ, setc_self, setc_ne, pc_0_0 hc, pc_0_3 hc, pc_0_4 hc, pc_0_7 hc, pc_0_8 hc, pc_0_9 hc, pc_0_12 hc, pc_0_14 hc, pc_0_15 hc, pc_0_16 hc, pc_0_17 hc, pc_0_18 hc, pc_0_19 hc, pc_2_1 hc, pc_2_2 hc, pc_2_3 hc, pc_2_6 hc, pc_2_8 hc, pc_8_2 hc, pc_65_1 hc, pc_65_2 hc, pc_68_1 hc, pc_72_3 hc, pc_72_4 hc, pc_72_5 hc, pc_72_6 hc, pc_77_1 hc, pc_77_2 hc, pc_77_3 hc, pc_77_4 hc, pc_77_5 hc, pc_77_6 hc, kc_0 hκ, kc_1 hκ, nc_1 hκ, kc_2 hκ, kc_3 hκ, nc_3 hκ, kc_4 hκ, nc_4 hκ, kc_5 hκ, nc_5 hκ, kc_6 hκ, nc_6 hκ, kc_7 hκ, nc_7 hκ, kc_8 hκ, kc_63 hκ, nc_63 hκ, kc_64 hκ, nc_64 hκ, kc_65 hκ, kc_66 hκ, nc_66 hκ, kc_67 hκ, nc_67 hκ, kc_68 hκ, kc_69 hκ, nc_69 hκ, kc_70 hκ, nc_70 hκ, kc_71 hκ, nc_71 hκ, kc_72 hκ, kc_73 hκ, nc_73 hκ, kc_74 hκ, nc_74 hκ, kc_75 hκ, nc_75 hκ, kc_76 hκ, nc_76 hκ, kc_77 hκ, kc_78 hκ, nc_78 hκ, kc_79 hκ, nc_79 hκ, kc_80 hκ, nc_80 hκ, kc_81 hκ, nc_81 hκ, kc_82 hκ, nc_82 hκ, kc_83 hκ, nc_83 hκ, kc_84 hκ, nc_84 hκ, kc_85 hκ, nc_85 hκ, kc_86 hκ, nc_86 hκ, kc_87 hκ, nc_87 hκ, kc_88 hκ, nc_88 hκ, kc_89 hκ, nc_89 hκ, kc_90 hκ, nc_90 hκ, tp_0_1 hc ht, tp_0_2 hc ht, tp_0_3 hc ht, tp_0_4 hc ht, tp_0_6 hc ht, tp_0_8 hc ht, tp_0_9 hc ht, tp_0_10 hc ht, tp_0_12 hc ht, tp_0_13 hc ht, tp_0_14 hc ht, tp_3_1 hc ht, tp_3_2 hc ht, tp_3_3 hc ht, tp_3_4 hc ht, tp_8_0 hc ht, tp_8_1 hc ht, tp_8_2 hc ht, tp_18_0 hc ht, tp_18_2 hc ht, tp_18_3 hc ht, tk_0 hκ ht, tk_1 hκ ht, tn_1 hκ ht, tk_2 hκ ht, tn_2 hκ ht, tk_3 hκ ht, tk_4 hκ ht, tn_4 hκ ht, tk_5 hκ ht, tn_5 hκ ht, tk_6 hκ ht, tn_6 hκ ht, tk_7 hκ ht, tn_7 hκ ht, tk_8 hκ ht, tk_9 hκ ht, tn_9 hκ ht, tk_10 hκ ht, tn_10 hκ ht, tk_11 hκ ht, tn_11 hκ ht, tk_12 hκ ht, tn_12 hκ ht, tk_13 hκ ht, tn_13 hκ ht, tk_14 hκ ht, tn_14 hκ ht, tk_15 hκ ht, tn_15 hκ ht, tk_16 hκ ht, tn_16 hκ ht, tk_17 hκ ht, tn_17 hκ ht, tk_18 hκ ht, tk_19 hκ ht, tn_19 hκ ht, tk_20 hκ ht, tn_20 hκ ht, tk_21 hκ ht, tn_21 hκ ht, sk_0 hκ is53, sp_1 hc is53, sk_1 hκ is53, sn_1 hκ is53, sp_2 hc is53, sk_2 hκ is53, sn_2 hκ is53, sp_3 hc is53, sk_3 hκ is53, sn_3 hκ is53, sp_4 hc is53, sk_4 hκ is53, sn_4 hκ is53, sk_0 hκ is58, sp_1 hc is58, sk_1 hκ is58, sn_1 hκ is58, sp_2 hc is58, sk_2 hκ is58, sn_2 hκ is58, sp_3 hc is58, sk_3 hκ is58, sn_3 hκ is58, sp_4 hc is58, sk_4 hκ is58, sn_4 hκ is58, hk0, h5, hw1, hs.2.2.1 n (by omega), ro, e, ga_q, ga_65]
  · rw [if_neg h]
    refine ⟨D, CScr.rfl' hc, ?_⟩
    by_cases h1 : 0 ≤ w ∧ w < (xnw X : Int)
    · rw [if_pos h1] at hw1
      simp (disch := omega) only [cond_true, cond_false, Bool.and_true, Bool.true_and, Bool.and_false, Bool.false_and, Int.toNat_natCast, Int.reduceToNat, bI_s, bJ_s, bV_s, bR_s, decide_true, decide_false, not_true_eq_false, not_false_eq_true, dT, dF, w_al, w_la, w_ab, w_sl, w_sb, w_dec, w_ml, w_lm, ol2i_n, aup_ne, aupE, aupJ, setc_self, setc_ne, pc_0_0 hc, pc_0_3 hc, pc_0_4 hc, pc_0_7 hc, pc_0_8 hc, pc_0_9 hc, pc_0_12 hc, pc_0_14 hc, pc_0_15 hc, pc_0_16 hc, pc_0_17 hc, pc_0_18 hc, pc_0_19 hc, pc_2_1 hc, pc_2_2 hc, pc_2_3 hc, pc_2_6 hc, pc_2_8 hc, pc_8_2 hc, pc_65_1 hc, pc_65_2 hc, pc_68_1 hc, pc_72_3 hc, pc_72_4 hc, pc_72_5 hc, pc_72_6 hc, pc_77_1 hc, pc_77_2 hc, pc_77_3 hc, pc_77_4 hc, pc_77_5 hc, pc_77_6 hc, kc_0 hκ, kc_1 hκ, nc_1 hκ, kc_2 hκ, kc_3 hκ, nc_3 hκ, kc_4 hκ, nc_4 hκ, kc_5 hκ, nc_5 hκ, kc_6 hκ, nc_6 hκ, kc_7 hκ, nc_7 hκ, kc_8 hκ, kc_63 hκ, nc_63 hκ, kc_64 hκ, nc_64 hκ, kc_65 hκ, kc_66 hκ, nc_66 hκ, kc_67 hκ, nc_67 hκ, kc_68 hκ, kc_69 hκ, nc_69 hκ, kc_70 hκ, nc_70 hκ, kc_71 hκ, nc_71 hκ, kc_72 hκ, kc_73 hκ, nc_73 hκ, kc_74 hκ, nc_74 hκ, kc_75 hκ, nc_75 hκ, kc_76 hκ, nc_76 hκ, kc_77 hκ, kc_78 hκ, nc_78 hκ, kc_79 hκ, nc_79 hκ, kc_80 hκ, nc_80 hκ, kc_81 hκ, nc_81 hκ, kc_82 hκ, nc_82 hκ, kc_83 hκ, nc_83 hκ, kc_84 hκ, nc_84 hκ, kc_85 hκ, nc_85 hκ, kc_86 hκ, nc_86 hκ, kc_87 hκ, nc_87 hκ, kc_88 hκ, nc_88 hκ, kc_89 hκ, nc_89 hκ, kc_90 hκ, nc_90 hκ, tp_0_1 hc ht, tp_0_2 hc ht, tp_0_3 hc ht, tp_0_4 hc ht, tp_0_6 hc ht, tp_0_8 hc ht, tp_0_9 hc ht, tp_0_10 hc ht, tp_0_12 hc ht, tp_0_13 hc ht, tp_0_14 hc ht, tp_3_1 hc ht, tp_3_2 hc ht, tp_3_3 hc ht, tp_3_4 hc ht, tp_8_0 hc ht, tp_8_1 hc ht, tp_8_2 hc ht, tp_18_0 hc ht, tp_18_2 hc ht, tp_18_3 hc ht, tk_0 hκ ht, tk_1 hκ ht, tn_1 hκ ht, tk_2 hκ ht, tn_2 hκ ht, tk_3 hκ ht, tk_4 hκ ht, tn_4 hκ ht, tk_5 hκ ht, tn_5 hκ ht, tk_6 hκ ht, tn_6 hκ ht, tk_7 hκ ht, tn_7 hκ ht, tk_8 hκ ht, tk_9 hκ ht, tn_9 hκ ht, tk_10 hκ ht, tn_10 hκ ht, tk_11 hκ ht, tn_11 hκ ht, tk_12 hκ ht, tn_12 hκ ht, tk_13 hκ ht, tn_13 hκ ht, tk_14 hκ ht, tn_14 hκ ht, tk_15 hκ ht, tn_15 hκ ht, tk_16 hκ ht, tn_16 hκ ht, tk_17 hκ ht, tn_17 hκ ht, tk_18 hκ ht, tk_19 hκ ht, tn_19 hκ ht, tk_20 hκ ht, tn_20 hκ ht, tk_21 hκ ht, tn_21 hκ ht, sk_0 hκ is53, sp_1 hc is53, sk_1 hκ is53, sn_1 hκ is53, sp_2 hc is53, sk_2 hκ is53, sn_2 hκ is53, sp_3 hc is53, sk_3 hκ is53, sn_3 hκ is53, sp_4 hc is53, sk_4 hκ is53, sn_4 hκ is53, sk_0 hκ is58, sp_1 hc is58, sk_1 hκ is58, sn_1 hκ is58, sp_2 hc is58, sk_2 hκ is58, sn_2 hκ is58, sp_3 hc is58, sk_3 hκ is58, sn_3 hκ is58, sp_4 hc is58, sk_4 hκ is58, sn_4 hκ is58, hk0, hw1]
    · rw [if_neg h1] at hw1
      simp (disch := omega) only [cond_true, cond_false, Bool.and_true, Bool.true_and, Bool.and_false, Bool.false_and, Int.toNat_natCast, Int.reduceToNat, bI_s, bJ_s, bV_s, bR_s, decide_true, decide_false, not_true_eq_false, not_false_eq_true, dT, dF, w_al, w_la, w_ab, w_sl, w_sb, w_dec, w_ml, w_lm, ol2i_n, aup_ne, aupE, aupJ, setc_self, setc_ne, pc_0_0 hc, pc_0_3 hc, pc_0_4 hc, pc_0_7 hc, pc_0_8 hc, pc_0_9 hc, pc_0_12 hc, pc_0_14 hc, pc_0_15 hc, pc_0_16 hc, pc_0_17 hc, pc_0_18 hc, pc_0_19 hc, pc_2_1 hc, pc_2_2 hc, pc_2_3 hc, pc_2_6 hc, pc_2_8 hc, pc_8_2 hc, pc_65_1 hc, pc_65_2 hc, pc_68_1 hc, pc_72_3 hc, pc_72_4 hc, pc_72_5 hc, pc_72_6 hc, pc_77_1 hc, pc_77_2 hc, pc_77_3 hc, pc_77_4 hc, pc_77_5 hc, pc_77_6 hc, kc_0 hκ, kc_1 hκ, nc_1 hκ, kc_2 hκ, kc_3 hκ, nc_3 hκ, kc_4 hκ, nc_4 hκ, kc_5 hκ, nc_5 hκ, kc_6 hκ, nc_6 hκ, kc_7 hκ, nc_7 hκ, kc_8 hκ, kc_63 hκ, nc_63 hκ, kc_64 hκ, nc_64 hκ, kc_65 hκ, kc_66 hκ, nc_66 hκ, kc_67 hκ, nc_67 hκ, kc_68 hκ, kc_69 hκ, nc_69 hκ, kc_70 hκ, nc_70 hκ, kc_71 hκ, nc_71 hκ, kc_72 hκ, kc_73 hκ, nc_73 hκ, kc_74 hκ, nc_74 hκ, kc_75 hκ, nc_75 hκ, kc_76 hκ, nc_76 hκ, kc_77 hκ, kc_78 hκ, nc_78 hκ, kc_79 hκ, nc_79 hκ, kc_80 hκ, nc_80 hκ, kc_81 hκ, nc_81 hκ, kc_82 hκ, nc_82 hκ, kc_83 hκ, nc_83 hκ, kc_84 hκ, nc_84 hκ, kc_85 hκ, nc_85 hκ, kc_86 hκ, nc_86 hκ, kc_87 hκ, nc_87 hκ, kc_88 hκ, nc_88 hκ, kc_89 hκ, nc_89 hκ, kc_90 hκ, nc_90 hκ, tp_0_1 hc ht, tp_0_2 hc ht, tp_0_3 hc ht, tp_0_4 hc ht, tp_0_6 hc ht, tp_0_8 hc ht, tp_0_9 hc ht, tp_0_10 hc ht, tp_0_12 hc ht, tp_0_13 hc ht, tp_0_14 hc ht, tp_3_1 hc ht, tp_3_2 hc ht, tp_3_3 hc ht, tp_3_4 hc ht, tp_8_0 hc ht, tp_8_1 hc ht, tp_8_2 hc ht, tp_18_0 hc ht, tp_18_2 hc ht, tp_18_3 hc ht, tk_0 hκ ht, tk_1 hκ ht, tn_1 hκ ht, tk_2 hκ ht, tn_2 hκ ht, tk_3 hκ ht, tk_4 hκ ht, tn_4 hκ ht, tk_5 hκ ht, tn_5 hκ ht, tk_6 hκ ht, tn_6 hκ ht, tk_7 hκ ht, tn_7 hκ ht, tk_8 hκ ht, tk_9 hκ ht, tn_9 hκ ht, tk_10 hκ ht, tn_10 hκ ht, tk_11 hκ ht, tn_11 hκ ht, tk_12 hκ ht, tn_12 hκ ht, tk_13 hκ ht, tn_13 hκ ht, tk_14 hκ ht, tn_14 hκ ht, tk_15 hκ ht, tn_15 hκ ht, tk_16 hκ ht, tn_16 hκ ht, tk_17 hκ ht, tn_17 hκ ht, tk_18 hκ ht, tk_19 hκ ht, tn_19 hκ ht, tk_20 hκ ht, tn_20 hκ ht, tk_21 hκ ht, tn_21 hκ ht, sk_0 hκ is53, sp_1 hc is53, sk_1 hκ is53, sn_1 hκ is53, sp_2 hc is53, sk_2 hκ is53, sn_2 hκ is53, sp_3 hc is53, sk_3 hκ is53, sn_3 hκ is53, sp_4 hc is53, sk_4 hκ is53, sn_4 hκ is53, sk_0 hκ is58, sp_1 hc is58, sk_1 hκ is58, sn_1 hκ is58, sp_2 hc is58, sk_2 hκ is58, sn_2 hκ is58, sp_3 hc is58, sk_3 hκ is58, sn_3 hκ is58, sp_4 hc is58, sk_4 hκ is58, sn_4 hκ is58, hk0, hw1]
/-- how often a way uses a piece -/
def cY (y : WY) (i : Nat) : Nat := (if 1 ≤ y.1 ∧ i = 15 + y.1 then 1 else 0) + (if i + 1 = y.2.1 then 1 else 0) + (if 1 ≤ y.2.2.1 ∧ i = 7 + y.2.2.1 then 1 else 0) + (if 1 ≤ y.2.2.2 ∧ i = 7 + y.2.2.2 then 1 else 0)
theorem cY_le (y : WY) (i : Nat) : cY y i ≤ 4 := by
  unfold cY
  repeat' split
  all_goals omega
def usL : List WY → Nat → Nat
  | [], _ => 0
  | y :: L, i => cY y i + usL L i
theorem usL_le (L : List WY) (i : Nat) : usL L i ≤ 4 * L.length := by
  induction L with
  | nil => exact Nat.le_refl _
  | cons y L ih =>
    have := cY_le y i
    show cY y i + usL L i ≤ 4 * (L.length + 1)
    omega
theorem ways_wvd {X : TX} {y : WY} (h : y ∈ waysX X) : wvd X y := by
  unfold waysX at h
  rw [List.mem_flatMap] at h
  obtain ⟨a, ha, h⟩ := h
  rw [List.mem_range'_1] at ha
  unfold waR at h
  rw [List.mem_flatMap] at h
  obtain ⟨b, hb, h⟩ := h
  rw [List.mem_range'_1] at hb
  unfold waE at h
  rw [List.mem_cons] at h
  rcases h with rfl | h
  · exact ⟨by dsimp only; omega, ⟨by dsimp only; omega, by dsimp only; omega⟩, by dsimp only; omega, by dsimp only; omega⟩
  · rw [List.mem_flatMap] at h
    obtain ⟨e, he, h⟩ := h
    rw [List.mem_range'_1] at he
    unfold waG at h
    rw [List.mem_cons] at h
    rcases h with rfl | h
    · exact ⟨by dsimp only; omega, ⟨by dsimp only; omega, by dsimp only; omega⟩, by dsimp only; omega, by dsimp only; omega⟩
    · unfold waF at h
      rw [List.mem_map] at h
      obtain ⟨f, hf, rfl⟩ := h
      rw [List.mem_range'_1] at hf
      exact ⟨by dsimp only; omega, ⟨by dsimp only; omega, by dsimp only; omega⟩, by dsimp only; omega, by dsimp only; omega⟩
/-- the ways that make a word -/
def mkL (X : TX) (w : List Nat) : List WY := (waysX X).filter (fun y => decide (nmW X y = w))
theorem mkL_wvd {X : TX} {w : List Nat} {y : WY} (h : y ∈ mkL X w) : wvd X y := ways_wvd (List.mem_filter.mp h).1
theorem mkL_cd {X : TX} (hX : TXok X) (w : List Nat) : (mkL X w).map cdW = cdA X w := cdA_eq hX w
theorem mkL_len {X : TX} (hX : TXok X) (w : List Nat) : (mkL X w).length ≤ 280 := by
  have := cdA_len hX w
  rw [← mkL_cd hX, List.length_map] at this
  exact this
/-- pieceIn -/
def pcI (y : WY) (k : Nat) : Int := if k = 0 then (if y.2.2.2 = 0 then -1 else ((7 + y.2.2.2 : Nat) : Int)) else if k = 1 then (if y.2.2.1 = 0 then -1 else ((7 + y.2.2.1 : Nat) : Int)) else if k = 2 then (if y.2.1 = 0 then -1 else ((y.2.1 - 1 : Nat) : Int)) else (if y.1 = 0 then -1 else ((15 + y.1 : Nat) : Int))
theorem pieceIn_eq (xs : List Int) (d : Nat) (h : aH) {y : WY} (h1 : y.1 ≤ 9) (h2 : y.2.1 ≤ 9) (h3 : y.2.2.1 ≤ 9) (h4 : y.2.2.2 ≤ 9) {k : Nat} (hk : k < 4) : cl xs (d + 1) 119 [.inl (cdW y : Int), .inl (k : Int)] h = some (some (.inl (pcI y k)), h) := by
  have hc : cdW y = 1000 * y.1 + 100 * y.2.1 + 10 * y.2.2.1 + y.2.2.2 := rfl
  have r : ∀ n : Nat, n < 100000 → orem (n : Int) 10 = ((n % 10 : Nat) : Int) := fun n hn => orem_nat (b := 10) (by omega) (by decide)
  have d1 : odiv (cdW y : Int) 10 = ((cdW y / 10 : Nat) : Int) := odiv_nat (b := 10) (by omega) (by decide)
  have d2 : odiv (cdW y : Int) 100 = ((cdW y / 100 : Nat) : Int) := odiv_nat (b := 100) (by omega) (by decide)
  have d3 : odiv (cdW y : Int) 1000 = ((cdW y / 1000 : Nat) : Int) := odiv_nat (b := 1000) (by omega) (by decide)
  have e0 : orem (cdW y : Int) 10 = (y.2.2.2 : Int) := by rw [r _ (by omega)]; omega
  have e1 : orem (odiv (cdW y : Int) 10) 10 = (y.2.2.1 : Int) := by rw [d1, r _ (by omega)]; omega
  have e2 : orem (odiv (cdW y : Int) 100) 10 = (y.2.1 : Int) := by rw [d2, r _ (by omega)]; omega
  have e3 : odiv (cdW y : Int) 1000 = (y.1 : Int) := by rw [d3]; omega
  have fin : ∀ (v1 s : Int) (p b : Nat), p ≤ 9 → b ≤ 16 → s * 8 = (b : Int) → ev xs d mm_119 72 [some (.inl (cdW y : Int)), some (.inl v1), some (.inl (p : Int)), some (.inl s)] [] h = some (some (.inl (if p = 0 then -1 else ((b + p : Nat) : Int) - 1)), h) := by
    intro v1 s p b hp hb hs
    rw [q_119_72]
    by_cases h0 : p = 0
    · rw [if_pos h0]
      simp (disch := omega) only [cond_true, cond_false, Bool.and_true, Bool.true_and, Bool.and_false, Bool.false_and, Int.toNat_natCast, Int.reduceToNat, bI_s, bJ_s, bV_s, bR_s, decide_true, decide_false, not_true_eq_false, not_false_eq_true, dT, dF, w_al, w_la, w_ab, w_sl, w_sb, w_dec, w_ml, w_lm, ol2i_n, aup_ne, aupE, aupJ, setc_self, setc_ne]
    · rw [if_neg h0]
      have ew : w32 (w32 (w32 (s * 8) + (p : Int)) - 1) = ((b + p : Nat) : Int) - 1 := by
        rw [hs, w32_id (x := (b : Int)) (by omega) (by omega), w32_id (x := (b : Int) + (p : Int)) (by omega) (by omega), w32_id (by omega) (by omega)]
        omega
      simp (disch := omega) only [cond_true, dT, ew]
  rw [c_119]
  have hk4 : k = 0 ∨ k = 1 ∨ k = 2 ∨ k = 3 := by omega
  rcases hk4 with rfl | rfl | rfl | rfl
  · rw [show asw 1 63 0 2 #[27, 37, 50] ((0 : Nat) : Int) = 28 from rfl, q_119_28, e0, fin _ _ _ 8 h4 (by decide) (by decide), show pcI y 0 = (if y.2.2.2 = 0 then -1 else ((7 + y.2.2.2 : Nat) : Int)) from rfl]
    by_cases h0 : y.2.2.2 = 0
    · rw [if_pos h0, if_pos h0]
    · rw [if_neg h0, if_neg h0, show ((8 + y.2.2.2 : Nat) : Int) - 1 = ((7 + y.2.2.2 : Nat) : Int) by omega]
  · rw [show asw 1 63 0 2 #[27, 37, 50] ((1 : Nat) : Int) = 38 from rfl, q_119_38, e1, fin _ _ _ 8 h3 (by decide) (by decide), show pcI y 1 = (if y.2.2.1 = 0 then -1 else ((7 + y.2.2.1 : Nat) : Int)) from rfl]
    by_cases h0 : y.2.2.1 = 0
    · rw [if_pos h0, if_pos h0]
    · rw [if_neg h0, if_neg h0, show ((8 + y.2.2.1 : Nat) : Int) - 1 = ((7 + y.2.2.1 : Nat) : Int) by omega]
  · rw [show asw 1 63 0 2 #[27, 37, 50] ((2 : Nat) : Int) = 51 from rfl, q_119_51, e2, fin _ _ _ 0 h2 (by decide) (by decide), show pcI y 2 = (if y.2.1 = 0 then -1 else ((y.2.1 - 1 : Nat) : Int)) from rfl]
    by_cases h0 : y.2.1 = 0
    · rw [if_pos h0, if_pos h0]
    · rw [if_neg h0, if_neg h0, show ((0 + y.2.1 : Nat) : Int) - 1 = ((y.2.1 - 1 : Nat) : Int) by omega]
  · rw [show asw 1 63 0 2 #[27, 37, 50] ((3 : Nat) : Int) = 64 from rfl, q_119_64, e3, fin _ _ _ 16 h1 (by decide) (by decide), show pcI y 3 = (if y.1 = 0 then -1 else ((15 + y.1 : Nat) : Int)) from rfl]
    by_cases h0 : y.1 = 0
    · rw [if_pos h0, if_pos h0]
    · rw [if_neg h0, if_neg h0, show ((16 + y.1 : Nat) : Int) - 1 = ((15 + y.1 : Nat) : Int) by omega]
