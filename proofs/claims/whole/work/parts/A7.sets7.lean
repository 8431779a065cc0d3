/-! parted, next. -/
/-- how far from the order's begin a set reaches -/
def stL (ord : Nat → Nat) (set : Nat) : Nat → Nat → Nat
  | 0, p => p
  | m + 1, p => if set.testBit (ord p) = true then stL ord set m (p + 1) else p
theorem stL_spec (ord : Nat → Nat) (set : Nat) : ∀ m p, (∀ j, j < p → set.testBit (ord j) = true) → p ≤ stL ord set m p ∧ stL ord set m p ≤ p + m ∧ (∀ j, j < stL ord set m p → set.testBit (ord j) = true) ∧ (stL ord set m p < p + m → set.testBit (ord (stL ord set m p)) = false)
  | 0, p, h => ⟨Nat.le_refl _, Nat.le_refl _, h, fun q => by unfold stL at q; omega⟩
  | m + 1, p, h => by
    unfold stL
    cases hb : set.testBit (ord p)
    · rw [if_neg (by decide)]
      exact ⟨Nat.le_refl _, by omega, h, fun _ => hb⟩
    · rw [if_pos rfl]
      obtain ⟨a, b, c, e⟩ := stL_spec ord set m (p + 1) (fun j hj => by
        by_cases hjp : j = p
        · rw [hjp]; exact hb
        · exact h j (by omega))
      exact ⟨by omega, by omega, c, fun q => e (by omega)⟩
def lgS (X : TX) (ord : Nat → Nat) (b : Bool) (k : Nat) : Nat → Nat → Int → Int
  | 0, _, v => v
  | m + 1, s, v => if fitA X ord s b k = true then lgS X ord b k m (s + 1) (if v < (stL ord s (xns X) 0 : Int) then (stL ord s (xns X) 0 : Int) else v) else lgS X ord b k m (s + 1) v
theorem long_in (xs : List Int) (d : Nat) {κ : aK} {D : Nat → Nat → Int} (hκ : Shp κ) (hc : CPtr D) {X : TX} (hX : TXok X) {ord : Nat → Nat} (hT : SetsT D X ord) (ho : ∀ k, k < xns X → ord k < xns X) (hord : ∀ k, k < xns X → D 54 k = (ord k : Int)) {s : Nat} (hs : s < 2 ^ xns X) (v1 v2 v4 : Int) : ∀ (m p : Nat), p + m = xns X → ev xs d mm_71 29 [some (.inr (.inr ((72 : Nat) : Int))), some (.inl v1), some (.inl v2), some (.inr (.inr ((54 : Nat) : Int))), some (.inl v4), some (.inl (s : Int)), some (.inl (p : Int))] [] (κ, D) = ev xs d mm_71 6 [some (.inr (.inr ((72 : Nat) : Int))), some (.inl v1), some (.inl v2), some (.inr (.inr ((54 : Nat) : Int))), some (.inl (omax v4 (stL ord s m p : Int))), some (.inl ((s + 1 : Nat) : Int)), some (.inl (stL ord s m p : Int))] [] (κ, D) := by
  have hp2 := p2 hX
  have x1 := hX.1.1
  have n54 : ∀ i : Int, 0 ≤ i → i.toNat < 7 → ain κ ((54 : Nat) : Int) 100 i = true := fun i a b => sn_1 hκ is53 a b
  intro m
  induction m with
  | zero =>
    intro p h
    rw [q_71_29]
    simp (disch := omega) only [cond_true, cond_false, Bool.and_true, Bool.true_and, Bool.and_false, Bool.false_and, Int.toNat_natCast, Int.reduceToNat, bI_s, bJ_s, bV_s, bR_s, decide_true, decide_false, not_true_eq_false, not_false_eq_true, dT, dF, w_al, w_la, w_ab, w_sl, w_sb, w_dec, w_ml, w_lm, ol2i_n, aup_ne, aupE, aupJ, setc_self, setc_ne, pc_0_0 hc, pc_0_3 hc, pc_0_4 hc, pc_0_7 hc, pc_0_8 hc, pc_0_9 hc, pc_0_12 hc, pc_0_14 hc, pc_0_15 hc, pc_0_16 hc, pc_0_17 hc, pc_0_18 hc, pc_0_19 hc, pc_2_1 hc, pc_2_2 hc, pc_2_3 hc, pc_2_6 hc, pc_2_8 hc, pc_8_2 hc, pc_65_1 hc, pc_65_2 hc, pc_68_1 hc, pc_72_3 hc, pc_72_4 hc, pc_72_5 hc, pc_72_6 hc, pc_77_1 hc, pc_77_2 hc, pc_77_3 hc, pc_77_4 hc, pc_77_5 hc, pc_77_6 hc, kc_0 hκ, kc_1 hκ, nc_1 hκ, kc_2 hκ, kc_3 hκ, nc_3 hκ, kc_4 hκ, nc_4 hκ, kc_5 hκ, nc_5 hκ, kc_6 hκ, nc_6 hκ, kc_7 hκ, nc_7 hκ, kc_8 hκ, kc_63 hκ, nc_63 hκ, kc_64 hκ, nc_64 hκ, kc_65 hκ, kc_66 hκ, nc_66 hκ, kc_67 hκ, nc_67 hκ, kc_68 hκ, kc_69 hκ, nc_69 hκ, kc_70 hκ, nc_70 hκ, kc_71 hκ, nc_71 hκ, kc_72 hκ, kc_73 hκ, nc_73 hκ, kc_74 hκ, nc_74 hκ, kc_75 hκ, nc_75 hκ, kc_76 hκ, nc_76 hκ, kc_77 hκ, kc_78 hκ, nc_78 hκ, kc_79 hκ, nc_79 hκ, kc_80 hκ, nc_80 hκ, kc_81 hκ, nc_81 hκ, kc_82 hκ, nc_82 hκ, kc_83 hκ, nc_83 hκ, kc_84 hκ, nc_84 hκ, kc_85 hκ, nc_85 hκ, kc_86 hκ, nc_86 hκ, kc_87 hκ, nc_87 hκ, kc_88 hκ, nc_88 hκ, kc_89 hκ, nc_89 hκ, kc_90 hκ, nc_90 hκ, sk_0 hκ is53, sp_1 hc is53, sk_1 hκ is53, sn_1 hκ is53, sp_2 hc is53, sk_2 hκ is53, sn_2 hκ is53, sp_3 hc is53, sk_3 hκ is53, sn_3 hκ is53, sp_4 hc is53, sk_4 hκ is53, sn_4 hκ is53, sk_0 hκ is58, sp_1 hc is58, sk_1 hκ is58, sn_1 hκ is58, sp_2 hc is58, sk_2 hκ is58, sn_2 hκ is58, sp_3 hc is58, sk_3 hκ is58, sn_3 hκ is58, sp_4 hc is58, sk_4 hκ is58, sn_4 hκ is58, hT.2.1]
    rfl
  | succ m ih =>
    intro p h
    have ho' := ho p (by omega)
    have e1 := hord p (by omega)
    have ob' := obitu (a := s) (s := ord p) (by omega) (by omega)
    rw [bitT] at ob'
    rw [q_71_29]
    unfold stL
    cases hb : s.testBit (ord p)
    · rw [hb] at ob'
      rw [if_neg (by decide)]
      simp (disch := omega) only [cond_true, cond_false, Bool.and_true, Bool.true_and, Bool.and_false, Bool.false_and, Int.toNat_natCast, Int.reduceToNat, bI_s, bJ_s, bV_s, bR_s, decide_true, decide_false, not_true_eq_false, not_false_eq_true, dT, dF, w_al, w_la, w_ab, w_sl, w_sb, w_dec, w_ml, w_lm, ol2i_n, aup_ne, aupE, aupJ, setc_self, setc_ne, pc_0_0 hc, pc_0_3 hc, pc_0_4 hc, pc_0_7 hc, pc_0_8 hc, pc_0_9 hc, pc_0_12 hc, pc_0_14 hc, pc_0_15 hc, pc_0_16 hc, pc_0_17 hc, pc_0_18 hc, pc_0_19 hc, pc_2_1 hc, pc_2_2 hc, pc_2_3 hc, pc_2_6 hc, pc_2_8 hc, pc_8_2 hc, pc_65_1 hc, pc_65_2 hc, pc_68_1 hc, pc_72_3 hc, pc_72_4 hc, pc_72_5 hc, pc_72_6 hc, pc_77_1 hc, pc_77_2 hc, pc_77_3 hc, pc_77_4 hc, pc_77_5 hc, pc_77_6 hc, kc_0 hκ, kc_1 hκ, nc_1 hκ, kc_2 hκ, kc_3 hκ, nc_3 hκ, kc_4 hκ, nc_4 hκ, kc_5 hκ, nc_5 hκ, kc_6 hκ, nc_6 hκ, kc_7 hκ, nc_7 hκ, kc_8 hκ, kc_63 hκ, nc_63 hκ, kc_64 hκ, nc_64 hκ, kc_65 hκ, kc_66 hκ, nc_66 hκ, kc_67 hκ, nc_67 hκ, kc_68 hκ, kc_69 hκ, nc_69 hκ, kc_70 hκ, nc_70 hκ, kc_71 hκ, nc_71 hκ, kc_72 hκ, kc_73 hκ, nc_73 hκ, kc_74 hκ, nc_74 hκ, kc_75 hκ, nc_75 hκ, kc_76 hκ, nc_76 hκ, kc_77 hκ, kc_78 hκ, nc_78 hκ, kc_79 hκ, nc_79 hκ, kc_80 hκ, nc_80 hκ, kc_81 hκ, nc_81 hκ, kc_82 hκ, nc_82 hκ, kc_83 hκ, nc_83 hκ, kc_84 hκ, nc_84 hκ, kc_85 hκ, nc_85 hκ, kc_86 hκ, nc_86 hκ, kc_87 hκ, nc_87 hκ, kc_88 hκ, nc_88 hκ, kc_89 hκ, nc_89 hκ, kc_90 hκ, nc_90 hκ, sk_0 hκ is53, sp_1 hc is53, sk_1 hκ is53, sn_1 hκ is53, sp_2 hc is53, sk_2 hκ is53, sn_2 hκ is53, sp_3 hc is53, sk_3 hκ is53, sn_3 hκ is53, sp_4 hc is53, sk_4 hκ is53, sn_4 hκ is53, sk_0 hκ is58, sp_1 hc is58, sk_1 hκ is58, sn_1 hκ is58, sp_2 hc is58, sk_2 hκ is58, sn_2 hκ is58, sp_3 hc is58, sk_3 hκ is58, sn_3 hκ is58, sp_4 hc is58, sk_4 hκ is58, sn_4 hκ is58, hT.2.1, n54, e1, ob', Bool.toNat_false]
    · rw [hb] at ob'
      rw [if_pos rfl]
      simp (disch := omega) only [cond_true, cond_false, Bool.and_true, Bool.true_and, Bool.and_false, Bool.false_and, Int.toNat_natCast, Int.reduceToNat, bI_s, bJ_s, bV_s, bR_s, decide_true, decide_false, not_true_eq_false, not_false_eq_true, dT, dF, w_al, w_la, w_ab, w_sl, w_sb, w_dec, w_ml, w_lm, ol2i_n, aup_ne, aupE, aupJ, setc_self, setc_ne, pc_0_0 hc, pc_0_3 hc, pc_0_4 hc, pc_0_7 hc, pc_0_8 hc, pc_0_9 hc, pc_0_12 hc, pc_0_14 hc, pc_0_15 hc, pc_0_16 hc, pc_0_17 hc, pc_0_18 hc, pc_0_19 hc, pc_2_1 hc, pc_2_2 hc, pc_2_3 hc, pc_2_6 hc, pc_2_8 hc, pc_8_2 hc, pc_65_1 hc, pc_65_2 hc, pc_68_1 hc, pc_72_3 hc, pc_72_4 hc, pc_72_5 hc, pc_72_6 hc, pc_77_1 hc, pc_77_2 hc, pc_77_3 hc, pc_77_4 hc, pc_77_5 hc, pc_77_6 hc, kc_0 hκ, kc_1 hκ, nc_1 hκ, kc_2 hκ, kc_3 hκ, nc_3 hκ, kc_4 hκ, nc_4 hκ, kc_5 hκ, nc_5 hκ, kc_6 hκ, nc_6 hκ, kc_7 hκ, nc_7 hκ, kc_8 hκ, kc_63 hκ, nc_63 hκ, kc_64 hκ, nc_64 hκ, kc_65 hκ, kc_66 hκ, nc_66 hκ, kc_67 hκ, nc_67 hκ, kc_68 hκ, kc_69 hκ, nc_69 hκ, kc_70 hκ, nc_70 hκ, kc_71 hκ, nc_71 hκ, kc_72 hκ, kc_73 hκ, nc_73 hκ, kc_74 hκ, nc_74 hκ, kc_75 hκ, nc_75 hκ, kc_76 hκ, nc_76 hκ, kc_77 hκ, kc_78 hκ, nc_78 hκ, kc_79 hκ, nc_79 hκ, kc_80 hκ, nc_80 hκ, kc_81 hκ, nc_81 hκ, kc_82 hκ, nc_82 hκ, kc_83 hκ, nc_83 hκ, kc_84 hκ, nc_84 hκ, kc_85 hκ, nc_85 hκ, kc_86 hκ, nc_86 hκ, kc_87 hκ, nc_87 hκ, kc_88 hκ, nc_88 hκ, kc_89 hκ, nc_89 hκ, kc_90 hκ, nc_90 hκ, sk_0 hκ is53, sp_1 hc is53, sk_1 hκ is53, sn_1 hκ is53, sp_2 hc is53, sk_2 hκ is53, sn_2 hκ is53, sp_3 hc is53, sk_3 hκ is53, sn_3 hκ is53, sp_4 hc is53, sk_4 hκ is53, sn_4 hκ is53, sk_0 hκ is58, sp_1 hc is58, sk_1 hκ is58, sn_1 hκ is58, sp_2 hc is58, sk_2 hκ is58, sn_2 hκ is58, sp_3 hc is58, sk_3 hκ is58, sn_3 hκ is58, sp_4 hc is58, sk_4 hκ is58, sn_4 hκ is58, hT.2.1, n54, e1, ob', Bool.toNat_true, ih (p + 1) (by omega)]
theorem long_loop (xs : List Int) (d : Nat) {κ : aK} {D : Nat → Nat → Int} (hκ : Shp κ) (hc : CPtr D) {X : TX} (hX : TXok X) {ord : Nat → Nat} (hT : SetsT D X ord) (ho : ∀ k, k < xns X → ord k < xns X) (hord : ∀ k, k < xns X → D 54 k = (ord k : Int)) {k : Nat} (hk : k ≤ xpr X) (o : Int) : ∀ (m s : Nat) (v : Int) (u6 : Option aV), s + m = 2 ^ xns X → ev xs (d + 2) mm_71 6 [some (.inr (.inr ((72 : Nat) : Int))), some (.inl (k : Int)), some (.inl o), some (.inr (.inr ((54 : Nat) : Int))), some (.inl v), some (.inl (s : Int)), u6] [] (κ, D) = some (some (.inl (lgS X ord (ob o) k m s v)), (κ, D)) := by
  have hp2 := p2 hX
  intro m
  induction m with
  | zero =>
    intro s v u6 h
    rw [q_71_6]
    simp (disch := omega) only [cond_true, cond_false, Bool.and_true, Bool.true_and, Bool.and_false, Bool.false_and, Int.toNat_natCast, Int.reduceToNat, bI_s, bJ_s, bV_s, bR_s, decide_true, decide_false, not_true_eq_false, not_false_eq_true, dT, dF, w_al, w_la, w_ab, w_sl, w_sb, w_dec, w_ml, w_lm, ol2i_n, aup_ne, aupE, aupJ, setc_self, setc_ne, pc_0_0 hc, pc_0_3 hc, pc_0_4 hc, pc_0_7 hc, pc_0_8 hc, pc_0_9 hc, pc_0_12 hc, pc_0_14 hc, pc_0_15 hc, pc_0_16 hc, pc_0_17 hc, pc_0_18 hc, pc_0_19 hc, pc_2_1 hc, pc_2_2 hc, pc_2_3 hc, pc_2_6 hc, pc_2_8 hc, pc_8_2 hc, pc_65_1 hc, pc_65_2 hc, pc_68_1 hc, pc_72_3 hc, pc_72_4 hc, pc_72_5 hc, pc_72_6 hc, pc_77_1 hc, pc_77_2 hc, pc_77_3 hc, pc_77_4 hc, pc_77_5 hc, pc_77_6 hc, kc_0 hκ, kc_1 hκ, nc_1 hκ, kc_2 hκ, kc_3 hκ, nc_3 hκ, kc_4 hκ, nc_4 hκ, kc_5 hκ, nc_5 hκ, kc_6 hκ, nc_6 hκ, kc_7 hκ, nc_7 hκ, kc_8 hκ, kc_63 hκ, nc_63 hκ, kc_64 hκ, nc_64 hκ, kc_65 hκ, kc_66 hκ, nc_66 hκ, kc_67 hκ, nc_67 hκ, kc_68 hκ, kc_69 hκ, nc_69 hκ, kc_70 hκ, nc_70 hκ, kc_71 hκ, nc_71 hκ, kc_72 hκ, kc_73 hκ, nc_73 hκ, kc_74 hκ, nc_74 hκ, kc_75 hκ, nc_75 hκ, kc_76 hκ, nc_76 hκ, kc_77 hκ, kc_78 hκ, nc_78 hκ, kc_79 hκ, nc_79 hκ, kc_80 hκ, nc_80 hκ, kc_81 hκ, nc_81 hκ, kc_82 hκ, nc_82 hκ, kc_83 hκ, nc_83 hκ, kc_84 hκ, nc_84 hκ, kc_85 hκ, nc_85 hκ, kc_86 hκ, nc_86 hκ, kc_87 hκ, nc_87 hκ, kc_88 hκ, nc_88 hκ, kc_89 hκ, nc_89 hκ, kc_90 hκ, nc_90 hκ, sk_0 hκ is53, sp_1 hc is53, sk_1 hκ is53, sn_1 hκ is53, sp_2 hc is53, sk_2 hκ is53, sn_2 hκ is53, sp_3 hc is53, sk_3 hκ is53, sn_3 hκ is53, sp_4 hc is53, sk_4 hκ is53, sn_4 hκ is53, sk_0 hκ is58, sp_1 hc is58, sk_1 hκ is58, sn_1 hκ is58, sp_2 hc is58, sk_2 hκ is58, sn_2 hκ is58, sp_3 hc is58, sk_3 hκ is58, sn_3 hκ is58, sp_4 hc is58, sk_4 hκ is58, sn_4 hκ is58, hT.1]
    rfl
  | succ m ih =>
    intro s v u6 h
    have fe := fits_eq xs d hκ hc hX hT (s := s) (by omega) hk o
    rw [q_71_6]
    unfold lgS
    by_cases hf : fitA X ord s (ob o) k = true
    · rw [if_pos hf] at fe ⊢
      have li := long_in xs (d + 2) hκ hc hX hT ho hord (s := s) (by omega) (k : Int) o v (xns X) 0 (by omega)
      simp (disch := omega) only [cond_true, cond_false, Bool.and_true, Bool.true_and, Bool.and_false, Bool.false_and, Int.toNat_natCast, Int.reduceToNat, bI_s, bJ_s, bV_s, bR_s, decide_true, decide_false, not_true_eq_false, not_false_eq_true, dT, dF, w_al, w_la, w_ab, w_sl, w_sb, w_dec, w_ml, w_lm, ol2i_n, aup_ne, aupE, aupJ, setc_self, setc_ne, pc_0_0 hc, pc_0_3 hc, pc_0_4 hc, pc_0_7 hc, pc_0_8 hc, pc_0_9 hc, pc_0_12 hc, pc_0_14 hc, pc_0_15 hc, pc_0_16 hc, pc_0_17 hc, pc_0_18 hc, pc_0_19 hc, pc_2_1 hc, pc_2_2 hc, pc_2_3 hc, pc_2_6 hc, pc_2_8 hc, pc_8_2 hc, pc_65_1 hc, pc_65_2 hc, pc_68_1 hc, pc_72_3 hc, pc_72_4 hc, pc_72_5 hc, pc_72_6 hc, pc_77_1 hc, pc_77_2 hc, pc_77_3 hc, pc_77_4 hc, pc_77_5 hc, pc_77_6 hc, kc_0 hκ, kc_1 hκ, nc_1 hκ, kc_2 hκ, kc_3 hκ, nc_3 hκ, kc_4 hκ, nc_4 hκ, kc_5 hκ, nc_5 hκ, kc_6 hκ, nc_6 hκ, kc_7 hκ, nc_7 hκ, kc_8 hκ, kc_63 hκ, nc_63 hκ, kc_64 hκ, nc_64 hκ, kc_65 hκ, kc_66 hκ, nc_66 hκ, kc_67 hκ, nc_67 hκ, kc_68 hκ, kc_69 hκ, nc_69 hκ, kc_70 hκ, nc_70 hκ, kc_71 hκ, nc_71 hκ, kc_72 hκ, kc_73 hκ, nc_73 hκ, kc_74 hκ, nc_74 hκ, kc_75 hκ, nc_75 hκ, kc_76 hκ, nc_76 hκ, kc_77 hκ, kc_78 hκ, nc_78 hκ, kc_79 hκ, nc_79 hκ, kc_80 hκ, nc_80 hκ, kc_81 hκ, nc_81 hκ, kc_82 hκ, nc_82 hκ, kc_83 hκ, nc_83 hκ, kc_84 hκ, nc_84 hκ, kc_85 hκ, nc_85 hκ, kc_86 hκ, nc_86 hκ, kc_87 hκ, nc_87 hκ, kc_88 hκ, nc_88 hκ, kc_89 hκ, nc_89 hκ, kc_90 hκ, nc_90 hκ, sk_0 hκ is53, sp_1 hc is53, sk_1 hκ is53, sn_1 hκ is53, sp_2 hc is53, sk_2 hκ is53, sn_2 hκ is53, sp_3 hc is53, sk_3 hκ is53, sn_3 hκ is53, sp_4 hc is53, sk_4 hκ is53, sn_4 hκ is53, sk_0 hκ is58, sp_1 hc is58, sk_1 hκ is58, sn_1 hκ is58, sp_2 hc is58, sk_2 hκ is58, sn_2 hκ is58, sp_3 hc is58, sk_3 hκ is58, sn_3 hκ is58, sp_4 hc is58, sk_4 hκ is58, sn_4 hκ is58, hT.1, fe]
      rw [show ev xs (d + 2) mm_71 29 [some (.inr (.inr ((72 : Nat) : Int))), some (.inl (k : Int)), some (.inl o), some (.inr (.inr ((54 : Nat) : Int))), some (.inl v), some (.inl (s : Int)), some (.inl 0)] [] (κ, D) = _ from li]
      exact ih (s + 1) _ _ (by omega)
    · rw [if_neg hf] at fe ⊢
      simp (disch := omega) only [cond_true, cond_false, Bool.and_true, Bool.true_and, Bool.and_false, Bool.false_and, Int.toNat_natCast, Int.reduceToNat, bI_s, bJ_s, bV_s, bR_s, decide_true, decide_false, not_true_eq_false, not_false_eq_true, dT, dF, w_al, w_la, w_ab, w_sl, w_sb, w_dec, w_ml, w_lm, ol2i_n, aup_ne, aupE, aupJ, setc_self, setc_ne, pc_0_0 hc, pc_0_3 hc, pc_0_4 hc, pc_0_7 hc, pc_0_8 hc, pc_0_9 hc, pc_0_12 hc, pc_0_14 hc, pc_0_15 hc, pc_0_16 hc, pc_0_17 hc, pc_0_18 hc, pc_0_19 hc, pc_2_1 hc, pc_2_2 hc, pc_2_3 hc, pc_2_6 hc, pc_2_8 hc, pc_8_2 hc, pc_65_1 hc, pc_65_2 hc, pc_68_1 hc, pc_72_3 hc, pc_72_4 hc, pc_72_5 hc, pc_72_6 hc, pc_77_1 hc, pc_77_2 hc, pc_77_3 hc, pc_77_4 hc, pc_77_5 hc, pc_77_6 hc, kc_0 hκ, kc_1 hκ, nc_1 hκ, kc_2 hκ, kc_3 hκ, nc_3 hκ, kc_4 hκ, nc_4 hκ, kc_5 hκ, nc_5 hκ, kc_6 hκ, nc_6 hκ, kc_7 hκ, nc_7 hκ, kc_8 hκ, kc_63 hκ, nc_63 hκ, kc_64 hκ, nc_64 hκ, kc_65 hκ, kc_66 hκ, nc_66 hκ, kc_67 hκ, nc_67 hκ, kc_68 hκ, kc_69 hκ, nc_69 hκ, kc_70 hκ, nc_70 hκ, kc_71 hκ, nc_71 hκ, kc_72 hκ, kc_73 hκ, nc_73 hκ, kc_74 hκ, nc_74 hκ, kc_75 hκ, nc_75 hκ, kc_76 hκ, nc_76 hκ, kc_77 hκ, kc_78 hκ, nc_78 hκ, kc_79 hκ, nc_79 hκ, kc_80 hκ, nc_80 hκ, kc_81 hκ, nc_81 hκ, kc_82 hκ, nc_82 hκ, kc_83 hκ, nc_83 hκ, kc_84 hκ, nc_84 hκ, kc_85 hκ, nc_85 hκ, kc_86 hκ, nc_86 hκ, kc_87 hκ, nc_87 hκ, kc_88 hκ, nc_88 hκ, kc_89 hκ, nc_89 hκ, kc_90 hκ, nc_90 hκ, sk_0 hκ is53, sp_1 hc is53, sk_1 hκ is53, sn_1 hκ is53, sp_2 hc is53, sk_2 hκ is53, sn_2 hκ is53, sp_3 hc is53, sk_3 hκ is53, sn_3 hκ is53, sp_4 hc is53, sk_4 hκ is53, sn_4 hκ is53, sk_0 hκ is58, sp_1 hc is58, sk_1 hκ is58, sn_1 hκ is58, sp_2 hc is58, sk_2 hκ is58, sn_2 hκ is58, sp_3 hc is58, sk_3 hκ is58, sn_3 hκ is58, sp_4 hc is58, sk_4 hκ is58, sn_4 hκ is58, hT.1, fe, ih (s + 1) v _ (by omega)]
/-- some set that fits has all the first p stones -/
def hasF (X : TX) (ord : Nat → Nat) (b : Bool) (k must : Nat) : Nat → Nat → Bool
  | 0, _ => false
  | m + 1, s => if anot must s = 0 ∧ fitA X ord s b k = true then true else hasF X ord b k must m (s + 1)
theorem hasF_iff (X : TX) (ord : Nat → Nat) (b : Bool) (k must : Nat) : ∀ m s, hasF X ord b k must m s = true ↔ ∃ r, s ≤ r ∧ r < s + m ∧ anot must r = 0 ∧ fitA X ord r b k = true
  | 0, s => ⟨(fun h => by cases h), (fun ⟨r, a, b, _⟩ => by omega)⟩
  | m + 1, s => by
    unfold hasF
    by_cases h : anot must s = 0 ∧ fitA X ord s b k = true
    · rw [if_pos h]
      exact ⟨fun _ => ⟨s, by omega, by omega, h.1, h.2⟩, fun _ => rfl⟩
    · rw [if_neg h, hasF_iff X ord b k must m (s + 1)]
      constructor
      · rintro ⟨r, a, b, c⟩; exact ⟨r, by omega, by omega, c⟩
      · rintro ⟨r, a, b, c⟩
        by_cases hr : r = s
        · rw [hr] at c; exact absurd c h
        · exact ⟨r, by omega, by omega, c⟩
theorem lgS_ge (X : TX) (ord : Nat → Nat) (b : Bool) (k : Nat) : ∀ m s v, v ≤ lgS X ord b k m s v ∧ (∀ r, s ≤ r → r < s + m → fitA X ord r b k = true → (stL ord r (xns X) 0 : Int) ≤ lgS X ord b k m s v) ∧ (lgS X ord b k m s v = v ∨ ∃ r, s ≤ r ∧ r < s + m ∧ fitA X ord r b k = true ∧ lgS X ord b k m s v = (stL ord r (xns X) 0 : Int))
  | 0, s, v => ⟨Int.le_refl _, fun r a b => by omega, Or.inl rfl⟩
  | m + 1, s, v => by
    unfold lgS
    by_cases hf : fitA X ord s b k = true
    · rw [if_pos hf]
      generalize hv : (if v < (stL ord s (xns X) 0 : Int) then (stL ord s (xns X) 0 : Int) else v) = v'
      have hv1 : v ≤ v' ∧ (stL ord s (xns X) 0 : Int) ≤ v' ∧ (v' = v ∨ v' = (stL ord s (xns X) 0 : Int)) := by rw [← hv]; split <;> omega
      obtain ⟨a, c, e⟩ := lgS_ge X ord b k m (s + 1) v'
      refine ⟨by omega, fun r h1 h2 h3 => ?_, ?_⟩
      · by_cases hr : r = s
        · rw [hr]; omega
        · exact c r (by omega) (by omega) h3
      · rcases e with e | ⟨r, r1, r2, r3, r4⟩
        · rcases hv1.2.2 with h | h
          · left; omega
          · right; exact ⟨s, by omega, by omega, hf, by omega⟩
        · right; exact ⟨r, by omega, by omega, r3, r4⟩
    · rw [if_neg hf]
      obtain ⟨a, c, e⟩ := lgS_ge X ord b k m (s + 1) v
      refine ⟨a, fun r h1 h2 h3 => ?_, ?_⟩
      · by_cases hr : r = s
        · rw [hr] at h3; exact absurd h3 hf
        · exact c r (by omega) (by omega) h3
      · rcases e with e | ⟨r, r1, r2, r3, r4⟩
        · left; exact e
        · right; exact ⟨r, by omega, by omega, r3, r4⟩
theorem hasF_lgS {X : TX} {ord : Nat → Nat} {b : Bool} {k p : Nat} (hp : p ≤ xns X) : hasF X ord b k (plc ord p) (2 ^ xns X) 0 = true ↔ (p : Int) ≤ lgS X ord b k (2 ^ xns X) 0 (-1) := by
  rw [hasF_iff]
  obtain ⟨l1, l2, l3⟩ := lgS_ge X ord b k (2 ^ xns X) 0 (-1)
  constructor
  · rintro ⟨r, _, hr, hz, hf⟩
    have h1 := l2 r (by omega) hr hf
    obtain ⟨_, s2, s3, s4⟩ := stL_spec ord r (xns X) 0 (fun j hj => by omega)
    have hall : ∀ j, j < p → r.testBit (ord j) = true := fun j hj => anot_zero.mp hz (ord j) ((plc_bit ord (ord j) p).mpr ⟨j, hj, rfl⟩)
    have : p ≤ stL ord r (xns X) 0 := by
      by_cases hc : stL ord r (xns X) 0 < p
      · have := s4 (by omega)
        rw [hall _ hc] at this
        cases this
      · omega
    omega
  · intro h
    rcases l3 with e | ⟨r, _, hr, hf, e⟩
    · omega
    · obtain ⟨_, s2, s3, s4⟩ := stL_spec ord r (xns X) 0 (fun j hj => by omega)
      refine ⟨r, by omega, hr, anot_zero.mpr (fun i hi => ?_), hf⟩
      obtain ⟨j, hj, ej⟩ := (plc_bit ord i p).mp hi
      rw [← ej]
      exact s3 j (by omega)
def ptL (X : TX) (ord : Nat → Nat) (k : Nat) : Nat → Int
  | 0 => if hasF X ord false k (plc ord 0) (2 ^ xns X) 0 = true ∧ hasF X ord true k (plc ord 0) (2 ^ xns X) 0 = true then 0 else -2
  | p + 1 => if hasF X ord false k (plc ord (p + 1)) (2 ^ xns X) 0 = true ∧ hasF X ord true k (plc ord (p + 1)) (2 ^ xns X) 0 = true then ((p + 1 : Nat) : Int) else ptL X ord k p
theorem ptL_eq {X : TX} {ord : Nat → Nat} {k : Nat} : ∀ p, p ≤ xns X → (lgS X ord false k (2 ^ xns X) 0 (-1) ≤ (p : Int) ∨ lgS X ord true k (2 ^ xns X) 0 (-1) ≤ (p : Int)) → ptL X ord k p = (if lgS X ord false k (2 ^ xns X) 0 (-1) < 0 ∨ lgS X ord true k (2 ^ xns X) 0 (-1) < 0 then -2 else omin (lgS X ord false k (2 ^ xns X) 0 (-1)) (lgS X ord true k (2 ^ xns X) 0 (-1)))
  | 0, h, hl => by
    unfold ptL
    have i1 := hasF_lgS (X := X) (ord := ord) (b := false) (k := k) h
    have i2 := hasF_lgS (X := X) (ord := ord) (b := true) (k := k) h
    by_cases hc : hasF X ord false k (plc ord 0) (2 ^ xns X) 0 = true ∧ hasF X ord true k (plc ord 0) (2 ^ xns X) 0 = true
    · rw [if_pos hc]
      have a := i1.mp hc.1
      have b := i2.mp hc.2
      rw [if_neg (by omega)]
      unfold omin
      split <;> omega
    · rw [if_neg hc, if_pos]
      by_cases c1 : hasF X ord false k (plc ord 0) (2 ^ xns X) 0 = true
      · right
        have : ¬ ((0 : Nat) : Int) ≤ lgS X ord true k (2 ^ xns X) 0 (-1) := fun q => hc ⟨c1, i2.mpr q⟩
        omega
      · left
        have : ¬ ((0 : Nat) : Int) ≤ lgS X ord false k (2 ^ xns X) 0 (-1) := fun q => c1 (i1.mpr q)
        omega
  | p + 1, h, hl => by
    unfold ptL
    have i1 := hasF_lgS (X := X) (ord := ord) (b := false) (k := k) h
    have i2 := hasF_lgS (X := X) (ord := ord) (b := true) (k := k) h
    by_cases hc : hasF X ord false k (plc ord (p + 1)) (2 ^ xns X) 0 = true ∧ hasF X ord true k (plc ord (p + 1)) (2 ^ xns X) 0 = true
    · rw [if_pos hc]
      have a := i1.mp hc.1
      have b := i2.mp hc.2
      rw [if_neg (by omega)]
      unfold omin
      split <;> omega
    · rw [if_neg hc]
      refine ptL_eq p (by omega) ?_
      by_cases c1 : hasF X ord false k (plc ord (p + 1)) (2 ^ xns X) 0 = true
      · right
        have : ¬ ((p + 1 : Nat) : Int) ≤ lgS X ord true k (2 ^ xns X) 0 (-1) := fun q => hc ⟨c1, i2.mpr q⟩
        omega
      · left
        have : ¬ ((p + 1 : Nat) : Int) ≤ lgS X ord false k (2 ^ xns X) 0 (-1) := fun q => c1 (i1.mpr q)
        omega
theorem lgS_le {X : TX} {ord : Nat → Nat} {b : Bool} {k : Nat} : lgS X ord b k (2 ^ xns X) 0 (-1) ≤ (xns X : Int) := by
  rcases (lgS_ge X ord b k (2 ^ xns X) 0 (-1)).2.2 with e | ⟨r, _, hr, hf, e⟩
  · omega
  · have := (stL_spec ord r (xns X) 0 (fun j hj => by omega)).2.1
    omega
def qPart (X : TX) (S : ST) (k : Int) : Int := if 0 ≤ k ∧ k ≤ (xpr X : Int) then ptL X (sord S) k.toNat (xns X) else -1
theorem cparted (xs : List Int) (d : Nat) {κ : aK} {D : Nat → Nat → Int} (hκ : Shp κ) (hc : CPtr D) {t : Nat} (ht : isT t) (h5 : D 0 5 = (t : Int)) {X : TX} (hX : TXok X) (hx : TxC D t X) {S : ST} (hS : STok X S) (hs : StC D 53 X S) (hok : SetsOK D X (sord S)) (k : Int) : ∃ D', SetQ D D' X (sord S) ∧ cl xs (d + 6) 172 [.inr (.inr 0), .inl k] (κ, D) = some (some (.inl (qPart X S k)), (κ, D')) := by
  have hk0 : aok κ 0 11 = true := kc_0 hκ
  have hh := hasPairs_eq xs (d + 4) hκ hc ht h5 hX hx k
  rw [c_172]
  unfold qPart
  by_cases h : 0 ≤ k ∧ k ≤ (xpr X : Int)
  · rw [if_pos h]
    rw [if_pos h] at hh
    obtain ⟨k, rfl⟩ := Int.eq_ofNat_of_zero_le h.1
    obtain ⟨D', a1, a2, a3, a4⟩ := filledSets_eq xs d hκ hc ht h5 hX hx hS hs hok
    refine ⟨D', ⟨a1, Or.inr ⟨a2, a3⟩⟩, ?_⟩
    have hs' := a1.st hs
    have hord : ∀ k, k < xns X → D' 54 k = (sord S k : Int) := hs'.2.1
    have l1 := long_loop xs (d + 2) hκ a1.2 hX a3 hS.2.1 hord (k := k) (by omega) 0 (2 ^ xns X) 0 (-1) none (by omega)
    have l2 := long_loop xs (d + 2) hκ a1.2 hX a3 hS.2.1 hord (k := k) (by omega) 1 (2 ^ xns X) 0 (-1) none (by omega)
    rw [show ob 0 = false from rfl] at l1
    rw [show ob 1 = true from rfl] at l2
    have c1 : cl xs (d + 5) 71 [.inr (.inr ((72 : Nat) : Int)), .inl (k : Int), .inl 0, .inr (.inr ((53 + 1 : Nat) : Int))] (κ, D') = some (some (.inl (lgS X (sord S) false k (2 ^ xns X) 0 (-1))), (κ, D')) := by rw [c_71]; exact l1
    have c2 : cl xs (d + 5) 71 [.inr (.inr ((72 : Nat) : Int)), .inl (k : Int), .inl 1, .inr (.inr ((53 + 1 : Nat) : Int))] (κ, D') = some (some (.inl (lgS X (sord S) true k (2 ^ xns X) 0 (-1))), (κ, D')) := by rw [c_71]; exact l2
    have p7 := pc_0_7 a1.2
    have p1 := sp_1 a1.2 is53
    rw [Int.toNat_natCast, ptL_eq (xns X) (Nat.le_refl _) (Or.inl lgS_le)]
    by_cases n1 : lgS X (sord S) false k (2 ^ xns X) 0 (-1) < 0
    · rw [if_pos (Or.inl n1)]
      simp (disch := omega) only [cond_true, cond_false, Bool.and_true, Bool.true_and, Bool.and_false, Bool.false_and, Int.toNat_natCast, Int.reduceToNat, bI_s, bJ_s, bV_s, bR_s, decide_true, decide_false, not_true_eq_false, not_false_eq_true, dT, dF, w_al, w_la, w_ab, w_sl, w_sb, w_dec, w_ml, w_lm, ol2i_n, aup_ne, aupE, aupJ, setc_self, setc_ne, sk_0 hκ is53, sp_1 hc is53, sk_1 hκ is53, sn_1 hκ is53, sp_2 hc is53, sk_2 hκ is53, sn_2 hκ is53, sp_3 hc is53, sk_3 hκ is53, sn_3 hκ is53, sp_4 hc is53, sk_4 hκ is53, sn_4 hκ is53, kc_72 hκ, hk0, hh, a4, p7, p1, c1, c2]
    · by_cases n2 : lgS X (sord S) true k (2 ^ xns X) 0 (-1) < 0
      · rw [if_pos (Or.inr n2)]
        simp (disch := omega) only [cond_true, cond_false, Bool.and_true, Bool.true_and, Bool.and_false, Bool.false_and, Int.toNat_natCast, Int.reduceToNat, bI_s, bJ_s, bV_s, bR_s, decide_true, decide_false, not_true_eq_false, not_false_eq_true, dT, dF, w_al, w_la, w_ab, w_sl, w_sb, w_dec, w_ml, w_lm, ol2i_n, aup_ne, aupE, aupJ, setc_self, setc_ne, sk_0 hκ is53, sp_1 hc is53, sk_1 hκ is53, sn_1 hκ is53, sp_2 hc is53, sk_2 hκ is53, sn_2 hκ is53, sp_3 hc is53, sk_3 hκ is53, sn_3 hκ is53, sp_4 hc is53, sk_4 hκ is53, sn_4 hκ is53, kc_72 hκ, hk0, hh, a4, p7, p1, c1, c2]
      · rw [if_neg (by omega)]
        simp (disch := omega) only [cond_true, cond_false, Bool.and_true, Bool.true_and, Bool.and_false, Bool.false_and, Int.toNat_natCast, Int.reduceToNat, bI_s, bJ_s, bV_s, bR_s, decide_true, decide_false, not_true_eq_false, not_false_eq_true, dT, dF, w_al, w_la, w_ab, w_sl, w_sb, w_dec, w_ml, w_lm, ol2i_n, aup_ne, aupE, aupJ, setc_self, setc_ne, sk_0 hκ is53, sp_1 hc is53, sk_1 hκ is53, sn_1 hκ is53, sp_2 hc is53, sk_2 hκ is53, sn_2 hκ is53, sp_3 hc is53, sk_3 hκ is53, sn_3 hκ is53, sp_4 hc is53, sk_4 hκ is53, sn_4 hκ is53, kc_72 hκ, hk0, hh, a4, p7, p1, c1, c2]
  · rw [if_neg h]
    rw [if_neg h] at hh
    refine ⟨D, ⟨CSt.rfl' hc, hok⟩, ?_⟩
    simp (disch := omega) only [cond_true, cond_false, Bool.and_true, Bool.true_and, Bool.and_false, Bool.false_and, Int.toNat_natCast, Int.reduceToNat, bI_s, bJ_s, bV_s, bR_s, decide_true, decide_false, not_true_eq_false, not_false_eq_true, dT, dF, w_al, w_la, w_ab, w_sl, w_sb, w_dec, w_ml, w_lm, ol2i_n, aup_ne, aupE, aupJ, setc_self, setc_ne, hk0, hh]
