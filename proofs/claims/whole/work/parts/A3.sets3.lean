/-! Sets: filled; fits; counts. -/
theorem card_lt {f : Nat → Nat} : ∀ (n : Nat), (∀ k, k < n + 1 → f k < n) → ∃ j k, j < k ∧ k < n + 1 ∧ f j = f k
  | 0, h => by have := h 0 (by omega); omega
  | n + 1, h => by
    by_cases he : ∃ j, j < n + 1 ∧ f j = f (n + 1)
    · obtain ⟨j, hj, e⟩ := he
      exact ⟨j, n + 1, by omega, by omega, e⟩
    · have hn : ∀ j, j < n + 1 → f j ≠ f (n + 1) := fun j hj e => he ⟨j, hj, e⟩
      obtain ⟨j, k, h1, h2, h3⟩ := card_lt (f := fun j => if f j = n then f (n + 1) else f j) n (fun k hk => by
        show (if f k = n then f (n + 1) else f k) < n
        have a := h k (by omega)
        have b := h (n + 1) (by omega)
        have c := hn k hk
        split <;> omega)
      refine ⟨j, k, h1, by omega, ?_⟩
      have h3' : (if f j = n then f (n + 1) else f j) = (if f k = n then f (n + 1) else f k) := h3
      have a := hn j (by omega)
      have b := hn k (by omega)
      by_cases hj : f j = n
      · rw [if_pos hj] at h3'
        by_cases hk : f k = n
        · omega
        · rw [if_neg hk] at h3'; exact absurd h3'.symm b
      · rw [if_neg hj] at h3'
        by_cases hk : f k = n
        · rw [if_pos hk] at h3'; exact absurd h3' a
        · rw [if_neg hk] at h3'; exact h3'
theorem ord_onto {ord : Nat → Nat} {n : Nat} (ho : ∀ k, k < n → ord k < n) (hi : ∀ j k, j < n → k < n → ord j = ord k → j = k) : ∀ i, i < n → ∃ j, j < n ∧ ord j = i := by
  intro i hin
  by_cases he : ∃ j, j < n ∧ ord j = i
  · exact he
  · exfalso
    obtain ⟨m, rfl⟩ : ∃ m, n = m + 1 := ⟨n - 1, by omega⟩
    have hn : ∀ j, j < m + 1 → ord j ≠ i := fun j hj e => he ⟨j, hj, e⟩
    obtain ⟨j, k, h1, h2, h3⟩ := card_lt (f := fun j => if ord j = m then i else ord j) m (fun k hk => by
      show (if ord k = m then i else ord k) < m
      have a := ho k hk
      have b := hn k hk
      by_cases hc : ord k = m
      · rw [if_pos hc]; omega
      · rw [if_neg hc]; omega)
    have h3' : (if ord j = m then i else ord j) = (if ord k = m then i else ord k) := h3
    have a := hn j (by omega)
    have b := hn k (by omega)
    have : ord j = ord k := by
      by_cases hj : ord j = m
      · rw [if_pos hj] at h3'
        by_cases hk : ord k = m
        · omega
        · rw [if_neg hk] at h3'; exact absurd h3'.symm b
      · rw [if_neg hj] at h3'
        by_cases hk : ord k = m
        · rw [if_pos hk] at h3'; exact absurd h3' a
        · rw [if_neg hk] at h3'; exact h3'
    have := hi j k (by omega) (by omega) this
    omega
theorem fill_st (xs : List Int) (d : Nat) {κ : aK} {D : Nat → Nat → Int} (hκ : Shp κ) (hc : CPtr D) {t : Nat} (ht : isT t) (h5 : D 0 5 = (t : Int)) {X : TX} (hX : TXok X) (hx : TxC D t X) {ord : Nat → Nat} (ho : ∀ k, k < xns X → ord k < xns X) (hi : ∀ j k, j < xns X → k < xns X → ord j = ord k → j = k) (h1 : D 72 1 = ((2 ^ xns X : Nat) : Int)) (h2 : D 72 2 = (xns X : Int)) (hord : ∀ k, k < xns X → D 54 k = (ord k : Int)) : ∀ (m k : Nat) (f : Nat → Int), k + m = xns X → (∀ r, r < 2 ^ xns X → subS r (plc ord k) → ∀ p, p < xpr X → f (8 * r + p) = (p32 (rk X ord r k (xPI X p)) : Int)) → ∃ f' : Nat → Int, (∀ r, r < 2 ^ xns X → ∀ p, p < xpr X → f' (8 * r + p) = (p32 (rk X ord r (xns X) (xPI X p)) : Int)) ∧ ev xs (d + 3) mm_61 41 [some (.inr (.inr ((72 : Nat) : Int))), some (.inr (.inr (t : Int))), some (.inr (.inr ((54 : Nat) : Int))), some (.inl (plc ord k : Int)), some (.inl (k : Int))] [] (κ, setc D 73 f) = ev xs (d + 3) mm_61 78 [some (.inr (.inr ((72 : Nat) : Int))), some (.inr (.inr (t : Int))), some (.inr (.inr ((54 : Nat) : Int))), some (.inl (plc ord (xns X) : Int)), some (.inl 0)] [] (κ, setc D 73 f') := by
  have hp2 := p2 hX
  have x1 := hX.1.1
  have n54 : ∀ i : Int, 0 ≤ i → i.toNat < 7 → ain κ ((54 : Nat) : Int) 100 i = true := fun i a b => sn_1 hκ is53 a b
  intro m
  induction m with
  | zero =>
    intro k f h hf
    refine ⟨f, fun r hr p hp => ?_, ?_⟩
    · have := hf r hr (fun i hi' => by
        have hlt := bitlt hr hi'
        rw [plc_bit]
        -- every stone stands somewhere: ord is onto
        have onto : ∀ i, i < xns X → ∃ j, j < xns X ∧ ord j = i := ord_onto ho hi
        obtain ⟨j, hj, ej⟩ := onto i hlt
        exact ⟨j, by omega, ej⟩) p hp
      rw [this, show k = xns X by omega]
    · rw [q_61_41, show k = xns X by omega]
      simp (disch := omega) only [cond_true, cond_false, Bool.and_true, Bool.true_and, Bool.and_false, Bool.false_and, Int.toNat_natCast, Int.reduceToNat, bI_s, bJ_s, bV_s, bR_s, decide_true, decide_false, not_true_eq_false, not_false_eq_true, dT, dF, w_al, w_la, w_ab, w_sl, w_sb, w_dec, w_ml, w_lm, ol2i_n, aup_ne, aupE, aupJ, setc_self, setc_ne, pc_0_0 hc, pc_0_3 hc, pc_0_4 hc, pc_0_7 hc, pc_0_8 hc, pc_0_9 hc, pc_0_12 hc, pc_0_14 hc, pc_0_15 hc, pc_0_16 hc, pc_0_17 hc, pc_0_18 hc, pc_0_19 hc, pc_2_1 hc, pc_2_2 hc, pc_2_3 hc, pc_2_6 hc, pc_2_8 hc, pc_8_2 hc, pc_65_1 hc, pc_65_2 hc, pc_68_1 hc, pc_72_3 hc, pc_72_4 hc, pc_72_5 hc, pc_72_6 hc, pc_77_1 hc, pc_77_2 hc, pc_77_3 hc, pc_77_4 hc, pc_77_5 hc, pc_77_6 hc, kc_0 hκ, kc_1 hκ, nc_1 hκ, kc_2 hκ, kc_3 hκ, nc_3 hκ, kc_4 hκ, nc_4 hκ, kc_5 hκ, nc_5 hκ, kc_6 hκ, nc_6 hκ, kc_7 hκ, nc_7 hκ, kc_8 hκ, kc_63 hκ, nc_63 hκ, kc_64 hκ, nc_64 hκ, kc_65 hκ, kc_66 hκ, nc_66 hκ, kc_67 hκ, nc_67 hκ, kc_68 hκ, kc_69 hκ, nc_69 hκ, kc_70 hκ, nc_70 hκ, kc_71 hκ, nc_71 hκ, kc_72 hκ, kc_73 hκ, nc_73 hκ, kc_74 hκ, nc_74 hκ, kc_75 hκ, nc_75 hκ, kc_76 hκ, nc_76 hκ, kc_77 hκ, kc_78 hκ, nc_78 hκ, kc_79 hκ, nc_79 hκ, kc_80 hκ, nc_80 hκ, kc_81 hκ, nc_81 hκ, kc_82 hκ, nc_82 hκ, kc_83 hκ, nc_83 hκ, kc_84 hκ, nc_84 hκ, kc_85 hκ, nc_85 hκ, kc_86 hκ, nc_86 hκ, kc_87 hκ, nc_87 hκ, kc_88 hκ, nc_88 hκ, kc_89 hκ, nc_89 hκ, kc_90 hκ, nc_90 hκ, sk_0 hκ is53, sp_1 hc is53, sk_1 hκ is53, sn_1 hκ is53, sp_2 hc is53, sk_2 hκ is53, sn_2 hκ is53, sp_3 hc is53, sk_3 hκ is53, sn_3 hκ is53, sp_4 hc is53, sk_4 hκ is53, sn_4 hκ is53, sk_0 hκ is58, sp_1 hc is58, sk_1 hκ is58, sn_1 hκ is58, sp_2 hc is58, sk_2 hκ is58, sn_2 hκ is58, sp_3 hc is58, sk_3 hκ is58, sn_3 hκ is58, sp_4 hc is58, sk_4 hκ is58, sn_4 hκ is58, h2]
  | succ m ih =>
    intro k f h hf
    obtain ⟨f1, a1, a2⟩ := addS_loop xs d hκ hc ht h5 hX hx h1 ho hi (k := k) (by omega) (2 ^ xns X) 0 f none none (by omega) hf (fun r hr => by omega)
    obtain ⟨f', b1, b2⟩ := ih (k + 1) f1 (by omega) a1
    refine ⟨f', b1, ?_⟩
    have hpl := plc_lt ho k (by omega)
    have hok := ho k (by omega)
    have hpk : 2 ^ ord k < 2 ^ xns X := Nat.pow_lt_pow_right (by decide) hok
    have e1 := hord k (by omega)
    rw [q_61_41]
    simp (disch := omega) only [cond_true, cond_false, Bool.and_true, Bool.true_and, Bool.and_false, Bool.false_and, Int.toNat_natCast, Int.reduceToNat, bI_s, bJ_s, bV_s, bR_s, decide_true, decide_false, not_true_eq_false, not_false_eq_true, dT, dF, w_al, w_la, w_ab, w_sl, w_sb, w_dec, w_ml, w_lm, ol2i_n, aup_ne, aupE, aupJ, setc_self, setc_ne, pc_0_0 hc, pc_0_3 hc, pc_0_4 hc, pc_0_7 hc, pc_0_8 hc, pc_0_9 hc, pc_0_12 hc, pc_0_14 hc, pc_0_15 hc, pc_0_16 hc, pc_0_17 hc, pc_0_18 hc, pc_0_19 hc, pc_2_1 hc, pc_2_2 hc, pc_2_3 hc, pc_2_6 hc, pc_2_8 hc, pc_8_2 hc, pc_65_1 hc, pc_65_2 hc, pc_68_1 hc, pc_72_3 hc, pc_72_4 hc, pc_72_5 hc, pc_72_6 hc, pc_77_1 hc, pc_77_2 hc, pc_77_3 hc, pc_77_4 hc, pc_77_5 hc, pc_77_6 hc, kc_0 hκ, kc_1 hκ, nc_1 hκ, kc_2 hκ, kc_3 hκ, nc_3 hκ, kc_4 hκ, nc_4 hκ, kc_5 hκ, nc_5 hκ, kc_6 hκ, nc_6 hκ, kc_7 hκ, nc_7 hκ, kc_8 hκ, kc_63 hκ, nc_63 hκ, kc_64 hκ, nc_64 hκ, kc_65 hκ, kc_66 hκ, nc_66 hκ, kc_67 hκ, nc_67 hκ, kc_68 hκ, kc_69 hκ, nc_69 hκ, kc_70 hκ, nc_70 hκ, kc_71 hκ, nc_71 hκ, kc_72 hκ, kc_73 hκ, nc_73 hκ, kc_74 hκ, nc_74 hκ, kc_75 hκ, nc_75 hκ, kc_76 hκ, nc_76 hκ, kc_77 hκ, kc_78 hκ, nc_78 hκ, kc_79 hκ, nc_79 hκ, kc_80 hκ, nc_80 hκ, kc_81 hκ, nc_81 hκ, kc_82 hκ, nc_82 hκ, kc_83 hκ, nc_83 hκ, kc_84 hκ, nc_84 hκ, kc_85 hκ, nc_85 hκ, kc_86 hκ, nc_86 hκ, kc_87 hκ, nc_87 hκ, kc_88 hκ, nc_88 hκ, kc_89 hκ, nc_89 hκ, kc_90 hκ, nc_90 hκ, sk_0 hκ is53, sp_1 hc is53, sk_1 hκ is53, sn_1 hκ is53, sp_2 hc is53, sk_2 hκ is53, sn_2 hκ is53, sp_3 hc is53, sk_3 hκ is53, sn_3 hκ is53, sp_4 hc is53, sk_4 hκ is53, sn_4 hκ is53, sk_0 hκ is58, sp_1 hc is58, sk_1 hκ is58, sn_1 hκ is58, sp_2 hc is58, sk_2 hκ is58, sn_2 hκ is58, sp_3 hc is58, sk_3 hκ is58, sn_3 hκ is58, sp_4 hc is58, sk_4 hκ is58, sn_4 hκ is58, h2, n54, e1, c_62]
    rw [show ev xs (d + 2) mm_62 3 [some (.inr (.inr ((72 : Nat) : Int))), some (.inr (.inr (t : Int))), some (.inl (plc ord k : Int)), some (.inl (ord k : Int)), some (.inl 0), none, none] [] (κ, setc D 73 f) = _ from a2]
    simp (disch := omega) only [cond_true, cond_false, Bool.and_true, Bool.true_and, Bool.and_false, Bool.false_and, Int.toNat_natCast, Int.reduceToNat, bI_s, bJ_s, bV_s, bR_s, decide_true, decide_false, not_true_eq_false, not_false_eq_true, dT, dF, w_al, w_la, w_ab, w_sl, w_sb, w_dec, w_ml, w_lm, ol2i_n, aup_ne, aupE, aupJ, setc_self, setc_ne, pc_0_0 hc, pc_0_3 hc, pc_0_4 hc, pc_0_7 hc, pc_0_8 hc, pc_0_9 hc, pc_0_12 hc, pc_0_14 hc, pc_0_15 hc, pc_0_16 hc, pc_0_17 hc, pc_0_18 hc, pc_0_19 hc, pc_2_1 hc, pc_2_2 hc, pc_2_3 hc, pc_2_6 hc, pc_2_8 hc, pc_8_2 hc, pc_65_1 hc, pc_65_2 hc, pc_68_1 hc, pc_72_3 hc, pc_72_4 hc, pc_72_5 hc, pc_72_6 hc, pc_77_1 hc, pc_77_2 hc, pc_77_3 hc, pc_77_4 hc, pc_77_5 hc, pc_77_6 hc, kc_0 hκ, kc_1 hκ, nc_1 hκ, kc_2 hκ, kc_3 hκ, nc_3 hκ, kc_4 hκ, nc_4 hκ, kc_5 hκ, nc_5 hκ, kc_6 hκ, nc_6 hκ, kc_7 hκ, nc_7 hκ, kc_8 hκ, kc_63 hκ, nc_63 hκ, kc_64 hκ, nc_64 hκ, kc_65 hκ, kc_66 hκ, nc_66 hκ, kc_67 hκ, nc_67 hκ, kc_68 hκ, kc_69 hκ, nc_69 hκ, kc_70 hκ, nc_70 hκ, kc_71 hκ, nc_71 hκ, kc_72 hκ, kc_73 hκ, nc_73 hκ, kc_74 hκ, nc_74 hκ, kc_75 hκ, nc_75 hκ, kc_76 hκ, nc_76 hκ, kc_77 hκ, kc_78 hκ, nc_78 hκ, kc_79 hκ, nc_79 hκ, kc_80 hκ, nc_80 hκ, kc_81 hκ, nc_81 hκ, kc_82 hκ, nc_82 hκ, kc_83 hκ, nc_83 hκ, kc_84 hκ, nc_84 hκ, kc_85 hκ, nc_85 hκ, kc_86 hκ, nc_86 hκ, kc_87 hκ, nc_87 hκ, kc_88 hκ, nc_88 hκ, kc_89 hκ, nc_89 hκ, kc_90 hκ, nc_90 hκ, sk_0 hκ is53, sp_1 hc is53, sk_1 hκ is53, sn_1 hκ is53, sp_2 hc is53, sk_2 hκ is53, sn_2 hκ is53, sp_3 hc is53, sk_3 hκ is53, sn_3 hκ is53, sp_4 hc is53, sk_4 hκ is53, sn_4 hκ is53, sk_0 hκ is58, sp_1 hc is58, sk_1 hκ is58, sn_1 hκ is58, sp_2 hc is58, sk_2 hκ is58, sn_2 hκ is58, sp_3 hc is58, sk_3 hκ is58, sn_3 hκ is58, sp_4 hc is58, sk_4 hκ is58, sn_4 hκ is58, n54, e1, oshl1, oor_nat]
    exact b2
theorem fill_judge (xs : List Int) (d : Nat) {κ : aK} {D : Nat → Nat → Int} (hκ : Shp κ) (hc : CPtr D) {t : Nat} (ht : isT t) (h5 : D 0 5 = (t : Int)) {X : TX} (hX : TXok X) (hx : TxC D t X) {ord : Nat → Nat} (ho : ∀ k, k < xns X → ord k < xns X) (h1 : D 72 1 = ((2 ^ xns X : Nat) : Int)) (hO : ∀ r, r < 2 ^ xns X → ∀ p, p < xpr X → D 73 (8 * r + p) = (p32 (rk X ord r (xns X) (xPI X p)) : Int)) (v2 v3 : Int) : ∀ (m s : Nat) (f g : Nat → Int), s + m = 2 ^ xns X → (∀ r, r < s → f r = (rgX X ord r false (xpr X) : Int) ∧ g r = (rgX X ord r true (xpr X) : Int)) → ∃ f' g' : Nat → Int, (∀ r, r < 2 ^ xns X → f' r = (rgX X ord r false (xpr X) : Int) ∧ g' r = (rgX X ord r true (xpr X) : Int)) ∧ ev xs (d + 1) mm_61 78 [some (.inr (.inr ((72 : Nat) : Int))), some (.inr (.inr (t : Int))), some (.inr (.inr v2)), some (.inl v3), some (.inl (s : Int))] [] (κ, setc (setc D 74 f) 75 g) = some (none, (κ, aup (setc (setc D 74 f') 75 g') 72 0 1)) := by
  have hp2 := p2 hX
  intro m
  induction m with
  | zero =>
    intro s f g h hf
    refine ⟨f, g, fun r hr => hf r (by omega), ?_⟩
    rw [q_61_78]
    simp (disch := omega) only [cond_true, cond_false, Bool.and_true, Bool.true_and, Bool.and_false, Bool.false_and, Int.toNat_natCast, Int.reduceToNat, bI_s, bJ_s, bV_s, bR_s, decide_true, decide_false, not_true_eq_false, not_false_eq_true, dT, dF, w_al, w_la, w_ab, w_sl, w_sb, w_dec, w_ml, w_lm, ol2i_n, aup_ne, aupE, aupJ, setc_self, setc_ne, pc_0_0 hc, pc_0_3 hc, pc_0_4 hc, pc_0_7 hc, pc_0_8 hc, pc_0_9 hc, pc_0_12 hc, pc_0_14 hc, pc_0_15 hc, pc_0_16 hc, pc_0_17 hc, pc_0_18 hc, pc_0_19 hc, pc_2_1 hc, pc_2_2 hc, pc_2_3 hc, pc_2_6 hc, pc_2_8 hc, pc_8_2 hc, pc_65_1 hc, pc_65_2 hc, pc_68_1 hc, pc_72_3 hc, pc_72_4 hc, pc_72_5 hc, pc_72_6 hc, pc_77_1 hc, pc_77_2 hc, pc_77_3 hc, pc_77_4 hc, pc_77_5 hc, pc_77_6 hc, kc_0 hκ, kc_1 hκ, nc_1 hκ, kc_2 hκ, kc_3 hκ, nc_3 hκ, kc_4 hκ, nc_4 hκ, kc_5 hκ, nc_5 hκ, kc_6 hκ, nc_6 hκ, kc_7 hκ, nc_7 hκ, kc_8 hκ, kc_63 hκ, nc_63 hκ, kc_64 hκ, nc_64 hκ, kc_65 hκ, kc_66 hκ, nc_66 hκ, kc_67 hκ, nc_67 hκ, kc_68 hκ, kc_69 hκ, nc_69 hκ, kc_70 hκ, nc_70 hκ, kc_71 hκ, nc_71 hκ, kc_72 hκ, kc_73 hκ, nc_73 hκ, kc_74 hκ, nc_74 hκ, kc_75 hκ, nc_75 hκ, kc_76 hκ, nc_76 hκ, kc_77 hκ, kc_78 hκ, nc_78 hκ, kc_79 hκ, nc_79 hκ, kc_80 hκ, nc_80 hκ, kc_81 hκ, nc_81 hκ, kc_82 hκ, nc_82 hκ, kc_83 hκ, nc_83 hκ, kc_84 hκ, nc_84 hκ, kc_85 hκ, nc_85 hκ, kc_86 hκ, nc_86 hκ, kc_87 hκ, nc_87 hκ, kc_88 hκ, nc_88 hκ, kc_89 hκ, nc_89 hκ, kc_90 hκ, nc_90 hκ, sk_0 hκ is53, sp_1 hc is53, sk_1 hκ is53, sn_1 hκ is53, sp_2 hc is53, sk_2 hκ is53, sn_2 hκ is53, sp_3 hc is53, sk_3 hκ is53, sn_3 hκ is53, sp_4 hc is53, sk_4 hκ is53, sn_4 hκ is53, sk_0 hκ is58, sp_1 hc is58, sk_1 hκ is58, sn_1 hκ is58, sp_2 hc is58, sk_2 hκ is58, sn_2 hκ is58, sp_3 hc is58, sk_3 hκ is58, sn_3 hκ is58, sp_4 hc is58, sk_4 hκ is58, sn_4 hκ is58, h1]
  | succ m ih =>
    intro s f g h hf
    obtain ⟨f1, g1, a1, a2, a3, a4, a5⟩ := judge_eq xs d hκ hc ht h5 hX hx ho (s := s) (by omega) (hO s (by omega)) f g
    obtain ⟨f', g', b1, b2⟩ := ih (s + 1) f1 g1 (by omega) (fun r hr => by
      by_cases hrs : r = s
      · rw [hrs]; exact ⟨a3, a4⟩
      · rw [a1 r hrs, a2 r hrs]; exact hf r (by omega))
    refine ⟨f', g', b1, ?_⟩
    rw [q_61_78]
    simp (disch := omega) only [cond_true, cond_false, Bool.and_true, Bool.true_and, Bool.and_false, Bool.false_and, Int.toNat_natCast, Int.reduceToNat, bI_s, bJ_s, bV_s, bR_s, decide_true, decide_false, not_true_eq_false, not_false_eq_true, dT, dF, w_al, w_la, w_ab, w_sl, w_sb, w_dec, w_ml, w_lm, ol2i_n, aup_ne, aupE, aupJ, setc_self, setc_ne, pc_0_0 hc, pc_0_3 hc, pc_0_4 hc, pc_0_7 hc, pc_0_8 hc, pc_0_9 hc, pc_0_12 hc, pc_0_14 hc, pc_0_15 hc, pc_0_16 hc, pc_0_17 hc, pc_0_18 hc, pc_0_19 hc, pc_2_1 hc, pc_2_2 hc, pc_2_3 hc, pc_2_6 hc, pc_2_8 hc, pc_8_2 hc, pc_65_1 hc, pc_65_2 hc, pc_68_1 hc, pc_72_3 hc, pc_72_4 hc, pc_72_5 hc, pc_72_6 hc, pc_77_1 hc, pc_77_2 hc, pc_77_3 hc, pc_77_4 hc, pc_77_5 hc, pc_77_6 hc, kc_0 hκ, kc_1 hκ, nc_1 hκ, kc_2 hκ, kc_3 hκ, nc_3 hκ, kc_4 hκ, nc_4 hκ, kc_5 hκ, nc_5 hκ, kc_6 hκ, nc_6 hκ, kc_7 hκ, nc_7 hκ, kc_8 hκ, kc_63 hκ, nc_63 hκ, kc_64 hκ, nc_64 hκ, kc_65 hκ, kc_66 hκ, nc_66 hκ, kc_67 hκ, nc_67 hκ, kc_68 hκ, kc_69 hκ, nc_69 hκ, kc_70 hκ, nc_70 hκ, kc_71 hκ, nc_71 hκ, kc_72 hκ, kc_73 hκ, nc_73 hκ, kc_74 hκ, nc_74 hκ, kc_75 hκ, nc_75 hκ, kc_76 hκ, nc_76 hκ, kc_77 hκ, kc_78 hκ, nc_78 hκ, kc_79 hκ, nc_79 hκ, kc_80 hκ, nc_80 hκ, kc_81 hκ, nc_81 hκ, kc_82 hκ, nc_82 hκ, kc_83 hκ, nc_83 hκ, kc_84 hκ, nc_84 hκ, kc_85 hκ, nc_85 hκ, kc_86 hκ, nc_86 hκ, kc_87 hκ, nc_87 hκ, kc_88 hκ, nc_88 hκ, kc_89 hκ, nc_89 hκ, kc_90 hκ, nc_90 hκ, sk_0 hκ is53, sp_1 hc is53, sk_1 hκ is53, sn_1 hκ is53, sp_2 hc is53, sk_2 hκ is53, sn_2 hκ is53, sp_3 hc is53, sk_3 hκ is53, sn_3 hκ is53, sp_4 hc is53, sk_4 hκ is53, sn_4 hκ is53, sk_0 hκ is58, sp_1 hc is58, sk_1 hκ is58, sn_1 hκ is58, sp_2 hc is58, sk_2 hκ is58, sn_2 hκ is58, sp_3 hc is58, sk_3 hκ is58, sn_3 hκ is58, sp_4 hc is58, sk_4 hκ is58, sn_4 hκ is58, h1, a5, b2]
