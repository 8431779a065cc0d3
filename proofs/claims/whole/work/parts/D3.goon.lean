/-! Orders: goOnFrom (23). -/
theorem and_sub {a b : Nat} : anot a b = 0 ↔ a &&& b = a := by
  rw [anot_zero]
  constructor
  · intro h
    apply Nat.eq_of_testBit_eq
    intro i
    rw [Nat.testBit_and]
    cases ha : a.testBit i with
    | false => rfl
    | true => rw [h i ha]; rfl
  · intro h i hi
    rw [← h, Nat.testBit_and, Bool.and_eq_true] at hi
    exact hi.2
theorem or_same {s j : Nat} (h : s.testBit j = true) : s ||| 2 ^ j = s := by
  apply Nat.eq_of_testBit_eq
  intro i
  rw [or_bit]
  by_cases hi : j = i
  · rw [← hi, h]; rfl
  · rw [decide_eq_false hi, Bool.or_false]
abbrev vX (X : TX) : List Nat → VV := vP (tkX X) (xPI X) (xpr X)
def OrG (κ : aK) (D : Nat → Nat → Int) (t : Nat) (X : TX) (ord : Nat → Nat) (B : Nat → List (List Nat)) (Q : List (List Nat)) (R m : Nat) (ow : Nat → Nat) (vv : Nat → VV) : Prop := Shp κ ∧ CPtr D ∧ D 0 5 = (t : Int) ∧ TxC D t X ∧ OrX κ D X (vX X) (psO ord (xns X)) B R m ow vv ∧ (∀ k, k ≤ xpr X → Rk1 D X (psO ord (xns X)) Q k) ∧ ∀ st, st < xns X → D 82 st = (sbO ord (xns X) st : Int)
theorem OrX.fol {κ : aK} {D : Nat → Nat → Int} {X : TX} {V : List Nat → VV} {ps : Nat → Nat} {B : Nat → List (List Nat)} {R m : Nat} {ow : Nat → Nat} {vv : Nat → VV} (h : OrX κ D X V ps B R m ow vv) {i : Nat} (hi : i < m) : ∃ a : Nat, D 77 8 = (a : Int) ∧ D a i = prv ow (ow i) i ∧ ain κ ((a : Nat) : Int) 100 (i : Int) = true := by
  obtain ⟨a, b, c, e, g, wy, fi, sp, hK, hH, hm, hR⟩ := h
  exact ⟨a, hH.1.2.1, (hH.2.2 i hi).1, ok_a hK (by omega) (by omega)⟩
theorem gs_loop (xs : List Int) (d : Nat) {t : Nat} (ht : isT t) {X : TX} (hX : TXok X) {ord : Nat → Nat} (ho : ∀ k, k < xns X → ord k < xns X) (hinj : ∀ j k, j < xns X → k < xns X → ord j = ord k → j = k) {all s : Nat} (hall : all < 2 ^ xns X) (hs : s < 128) {i known : Nat} {nn : Int} {vi : VV} {C0 : List (List Nat)} : ∀ (n j : Nat) (κ : aK) (D : Nat → Nat → Int) (B : Nat → List (List Nat)) (Q : List (List Nat)) (R m : Nat) (ow : Nat → Nat) (vv : Nat → VV) (u8 : Option aV), j + n = xns X → OrG κ D t X ord B Q R m ow vv → i < m → ow i = s → vv i = vi → bq (vX X) (B s) vi = C0 → (∀ l ∈ B s, List.Perm l (els s)) → (∀ w, w < 128 → w ≠ all → (B w).length + (nbR all s w (List.range' j (7 - j)) C0).length ≤ fb w) → Q.length + (nbR all s all (List.range' j (7 - j)) C0).length ≤ fb all → B all = [] → s ≠ all → ∃ κ' D' R' m' ow' vv' u8', ev xs (d + 5) mm_23 39 [some (.inr (.inr ((77 : Nat) : Int))), some (.inr (.inr (t : Int))), some (.inl (s : Int)), some (.inl (all : Int)), some (.inl (known : Int)), some (.inl (i : Int)), some (.inl nn), some (.inl (j : Int)), u8] [] (κ, D) = ev xs (d + 5) mm_23 39 [some (.inr (.inr ((77 : Nat) : Int))), some (.inr (.inr (t : Int))), some (.inl (s : Int)), some (.inl (all : Int)), some (.inl (known : Int)), some (.inl (i : Int)), some (.inl nn), some (.inl (xns X : Int)), u8'] [] (κ', D') ∧ KLe κ κ' ∧ OrG κ' D' t X ord (fun w => if w = all then B w else B w ++ nbR all s w (List.range' j (7 - j)) C0) (Q ++ nbR all s all (List.range' j (7 - j)) C0) R' m' ow' vv' ∧ m ≤ m' ∧ (∀ i, i < m → ow' i = ow i ∧ vv' i = vv i) ∧ OrFs D D' ∧ κ'.2.1 + 24 * (27400 - R') ≤ κ.2.1 + 24 * (27400 - R) := by
  have ht' : t = 9 ∨ t = 31 := ht
  have x7 := hX.1.1
  have hall7 : all < 128 := Nat.lt_of_lt_of_le hall (Nat.pow_le_pow_right (n := 2) (j := 7) (by decide) x7)
  intro n
  induction n with
  | zero =>
    intro j κ D B Q R m ow vv u8 hj hG hi how hvi hC0 hpm hb hq hba hsa
    have ej : j = xns X := by omega
    subst ej
    refine ⟨κ, D, R, m, ow, vv, u8, rfl, KLe.rfl' κ, ?_, Nat.le_refl _, fun _ _ => ⟨rfl, rfl⟩, OrFs.rfl' D, Nat.le_refl _⟩
    rw [range'_big hall, List.append_nil]
    have : (fun w => if w = all then B w else B w ++ nbR all s w (List.range' (xns X) (7 - xns X)) C0) = B := by
      funext w
      rw [range'_big hall, List.append_nil, ite_self]
    rw [this]
    exact hG
  | succ n ih =>
    intro j κ D B Q R m ow vv u8 hj hG hi how hvi hC0 hpm hb hq hba hsa
    obtain ⟨hκ, hc, h5, hx, hO, hr, h82⟩ := hG
    have k77 := kc_77 hκ
    have hns : D (t + 3) 0 = (xns X : Int) := hx.1.1
    have er : List.range' j (7 - j) = j :: List.range' (j + 1) (7 - (j + 1)) := by
      rw [show 7 - j = 7 - (j + 1) + 1 by omega, List.range'_succ]
    have hp7 : 2 ^ j < 128 := Nat.pow_lt_pow_right (n := 7) (by decide) (by omega)
    have es : oshl 1 (j : Int) = ((2 ^ j : Nat) : Int) := oshl1 (by omega)
    have eo : oor (s : Int) ((2 ^ j : Nat) : Int) = ((s ||| 2 ^ j : Nat) : Int) := oor_nat (by omega) (by omega)
    have hw7 : s ||| 2 ^ j < 128 := Nat.or_lt_two_pow (n := 7) hs hp7
    have en := oandnot (a := s ||| 2 ^ j) (b := all) (by omega) (by omega)
    by_cases hon : onto all s j (s ||| 2 ^ j) = true
    · obtain ⟨b1, _, b3⟩ := onto_iff.mp hon
      have hne : ¬ s ||| 2 ^ j = s := by rw [or_plus s hs j (by omega) b1]; have := Nat.two_pow_pos j; omega
      have hanot : anot (s ||| 2 ^ j) all = 0 := and_sub.mpr b3
      have hone : ∀ w, w ≠ s ||| 2 ^ j → onto all s j w = false := fun w hw => by
        cases h : onto all s j w with
        | false => rfl
        | true => exact absurd (onto_iff.mp h).2.1.symm hw
      have eC : (bq (vX X) (B s) (vv i)).map (fun l => l ++ [j]) = C0.map (fun l => l ++ [j]) := by rw [hvi, hC0]
      have hs1 : s ||| 2 ^ j ≠ all → sumN (fun s => (B s).length) 128 + (C0.map (fun l => l ++ [j])).length ≤ 13700 := fun hwa => by
        rw [← addB_sum hw7, ← fb_sum]
        refine sumN_le 128 (fun w hw => ?_)
        show (addB B (s ||| 2 ^ j) (C0.map (fun l => l ++ [j])) w).length ≤ fb w
        unfold addB
        by_cases h : w = s ||| 2 ^ j
        · rw [if_pos h, List.length_append]
          have := hb w hw (by rw [h]; exact hwa)
          rw [er, h, nbR_t hon, List.length_append, ← h] at this
          omega
        · rw [if_neg h]
          by_cases h2 : w = all
          · rw [h2, hba]; exact Nat.zero_le _
          · have := hb w hw h2
            omega
      have hs2 : s ||| 2 ^ j = all → Q.length + (C0.map (fun l => l ++ [j])).length ≤ 13700 := fun hwa => by
        have h1 := hq
        rw [er, nbR_t (by rw [← hwa]; rw [hwa] at hon ⊢; exact hon), List.length_append] at h1
        have h2 : fb all ≤ 13700 := by rw [← fb_sum]; exact sumN_mem (f := fb) hall7
        omega
      obtain ⟨κ1, D1, R1, m1, ow1, vv1, r1, r2, r3, r4, r5, r6, r7, r8⟩ := step_eq xs d hκ hc ht h5 hX hx hO hr hi how hs (st := j) (by omega) hall7 (h82 j (by omega)) (sbO_lt x7 ho j) (sbO_bit hinj (ord_onto ho hinj j (by omega))) hpm eC.symm hs1 hs2
      have hκ1 := r2.shp hκ
      have hG1 : OrG κ1 D1 t X ord (if s ||| 2 ^ j = all then B else addB B (s ||| 2 ^ j) (C0.map (fun l => l ++ [j]))) (if s ||| 2 ^ j = all then Q ++ C0.map (fun l => l ++ [j]) else Q) R1 m1 ow1 vv1 := ⟨hκ1, r7.ptr hc, by rw [r7.1 0 (by omega)]; exact h5, r7.tx ht hx, r3, r4, fun st hst => by rw [r7.1 82 (by omega)]; exact h82 st hst⟩
      have hBs : (if s ||| 2 ^ j = all then B else addB B (s ||| 2 ^ j) (C0.map (fun l => l ++ [j]))) s = B s := by
        by_cases h : s ||| 2 ^ j = all
        · rw [if_pos h]
        · rw [if_neg h]
          unfold addB
          rw [if_neg (fun q => hne q.symm)]
      have hBw : ∀ w, w ≠ all → (if s ||| 2 ^ j = all then B else addB B (s ||| 2 ^ j) (C0.map (fun l => l ++ [j]))) w ++ nbR all s w (List.range' (j + 1) (7 - (j + 1))) C0 = B w ++ nbR all s w (List.range' j (7 - j)) C0 := fun w hwa => by
        rw [er]
        by_cases h : s ||| 2 ^ j = all
        · rw [if_pos h, nbR_f (hone w (by rw [h]; exact hwa))]
        · rw [if_neg h]
          unfold addB
          by_cases hw : w = s ||| 2 ^ j
          · rw [if_pos hw, hw, nbR_t hon, List.append_assoc]
          · rw [if_neg hw, nbR_f (hone w hw)]
      have hQw : (if s ||| 2 ^ j = all then Q ++ C0.map (fun l => l ++ [j]) else Q) ++ nbR all s all (List.range' (j + 1) (7 - (j + 1))) C0 = Q ++ nbR all s all (List.range' j (7 - j)) C0 := by
        rw [er]
        by_cases h : s ||| 2 ^ j = all
        · rw [if_pos h, nbR_t (by rw [h] at hon; exact hon), List.append_assoc]
        · rw [if_neg h, nbR_f (hone all (fun q => h q.symm))]
      have hBa : (if s ||| 2 ^ j = all then B else addB B (s ||| 2 ^ j) (C0.map (fun l => l ++ [j]))) all = [] := by
        by_cases h : s ||| 2 ^ j = all
        · rw [if_pos h]; exact hba
        · rw [if_neg h]
          unfold addB
          rw [if_neg (fun q => h q.symm)]; exact hba
      obtain ⟨y1, y2⟩ := r6 i hi
      obtain ⟨κ', D', R', m', ow', vv', u8', q1, q2, q3, q4, q5, q6, q7⟩ := ih (j + 1) κ1 D1 _ _ R1 m1 ow1 vv1 (some (.inl ((s ||| 2 ^ j : Nat) : Int))) (by omega) hG1 (by omega) (y1.trans how) (y2.trans hvi) (by rw [hBs]; exact hC0) (by rw [hBs]; exact hpm) (fun w hw hwa => by
          have := hb w hw hwa
          rw [← List.length_append, ← hBw w hwa, List.length_append] at this
          exact this) (by
          have := hq
          rw [← List.length_append, ← hQw, List.length_append] at this
          exact this) hBa hsa
      refine ⟨κ', D', R', m', ow', vv', u8', ?_, r2.trans q2, ?_, by omega, fun i2 h2 => ?_, r7.trans q6, by omega⟩
      · rw [← q1, q_23_39]
        have hni : ¬ ((s ||| 2 ^ j : Nat) : Int) = (s : Int) := by omega
        have hz : ((anot (s ||| 2 ^ j) all : Nat) : Int) = 0 := by rw [hanot]; rfl
        simp (disch := omega) only [cond_true, cond_false, Bool.and_true, Bool.true_and, Bool.and_false, Bool.false_and, Int.toNat_natCast, Int.reduceToNat, bI_s, bJ_s, bV_s, bR_s, decide_true, decide_false, not_true_eq_false, not_false_eq_true, dT, dF, w_al, w_la, w_ab, w_sl, w_sb, w_dec, w_ml, w_lm, ol2i_n, aup_ne, aupE, aupJ, setc_self, setc_ne, tp_0_1 hc ht, tp_0_2 hc ht, tp_0_3 hc ht, tp_0_4 hc ht, tp_0_6 hc ht, tp_0_8 hc ht, tp_0_9 hc ht, tp_0_10 hc ht, tp_0_12 hc ht, tp_0_13 hc ht, tp_0_14 hc ht, tp_3_1 hc ht, tp_3_2 hc ht, tp_3_3 hc ht, tp_3_4 hc ht, tp_8_0 hc ht, tp_8_1 hc ht, tp_8_2 hc ht, tp_18_0 hc ht, tp_18_2 hc ht, tp_18_3 hc ht, tk_0 hκ ht, tk_1 hκ ht, tn_1 hκ ht, tk_2 hκ ht, tn_2 hκ ht, tk_3 hκ ht, tk_4 hκ ht, tn_4 hκ ht, tk_5 hκ ht, tn_5 hκ ht, tk_6 hκ ht, tn_6 hκ ht, tk_7 hκ ht, tn_7 hκ ht, tk_8 hκ ht, tk_9 hκ ht, tn_9 hκ ht, tk_10 hκ ht, tn_10 hκ ht, tk_11 hκ ht, tn_11 hκ ht, tk_12 hκ ht, tn_12 hκ ht, tk_13 hκ ht, tn_13 hκ ht, tk_14 hκ ht, tn_14 hκ ht, tk_15 hκ ht, tn_15 hκ ht, tk_16 hκ ht, tn_16 hκ ht, tk_17 hκ ht, tn_17 hκ ht, tk_18 hκ ht, tk_19 hκ ht, tn_19 hκ ht, tk_20 hκ ht, tn_20 hκ ht, tk_21 hκ ht, tn_21 hκ ht, hns, es, eo, hni, en, hz, k77, r1]
      · have e1 : (fun w => if w = all then (if s ||| 2 ^ j = all then B else addB B (s ||| 2 ^ j) (C0.map (fun l => l ++ [j]))) w else (if s ||| 2 ^ j = all then B else addB B (s ||| 2 ^ j) (C0.map (fun l => l ++ [j]))) w ++ nbR all s w (List.range' (j + 1) (7 - (j + 1))) C0) = (fun w => if w = all then B w else B w ++ nbR all s w (List.range' j (7 - j)) C0) := by
          funext w
          by_cases h : w = all
          · rw [if_pos h, if_pos h, h, hBa, hba]
          · rw [if_neg h, if_neg h]; exact hBw w h
        rw [e1, hQw] at q3
        exact q3
      · obtain ⟨z1, z2⟩ := q5 i2 (by omega)
        obtain ⟨z3, z4⟩ := r6 i2 h2
        exact ⟨z1.trans z3, z2.trans z4⟩
    · have hoff : ∀ w, onto all s j w = false := fun w => by
        cases h : onto all s j w with
        | false => rfl
        | true =>
          have := (onto_iff.mp h).2.1
          rw [← this] at h
          exact absurd h hon
      have erw : ∀ w, nbR all s w (List.range' j (7 - j)) C0 = nbR all s w (List.range' (j + 1) (7 - (j + 1))) C0 := fun w => by rw [er, nbR_f (hoff w)]
      obtain ⟨κ', D', R', m', ow', vv', u8', q1, q2, q3, q4, q5, q6, q7⟩ := ih (j + 1) κ D B Q R m ow vv (some (.inl ((s ||| 2 ^ j : Nat) : Int))) (by omega) ⟨hκ, hc, h5, hx, hO, hr, h82⟩ hi how hvi hC0 hpm (fun w hw hwa => by rw [← erw]; exact hb w hw hwa) (by rw [← erw]; exact hq) hba hsa
      refine ⟨κ', D', R', m', ow', vv', u8', ?_, q2, ?_, q4, q5, q6, q7⟩
      · rw [← q1, q_23_39]
        by_cases hb1 : s.testBit j = true
        · have hsm : ((s ||| 2 ^ j : Nat) : Int) = (s : Int) := by rw [or_same hb1]
          simp (disch := omega) only [cond_true, cond_false, Bool.and_true, Bool.true_and, Bool.and_false, Bool.false_and, Int.toNat_natCast, Int.reduceToNat, bI_s, bJ_s, bV_s, bR_s, decide_true, decide_false, not_true_eq_false, not_false_eq_true, dT, dF, w_al, w_la, w_ab, w_sl, w_sb, w_dec, w_ml, w_lm, ol2i_n, aup_ne, aupE, aupJ, setc_self, setc_ne, tp_0_1 hc ht, tp_0_2 hc ht, tp_0_3 hc ht, tp_0_4 hc ht, tp_0_6 hc ht, tp_0_8 hc ht, tp_0_9 hc ht, tp_0_10 hc ht, tp_0_12 hc ht, tp_0_13 hc ht, tp_0_14 hc ht, tp_3_1 hc ht, tp_3_2 hc ht, tp_3_3 hc ht, tp_3_4 hc ht, tp_8_0 hc ht, tp_8_1 hc ht, tp_8_2 hc ht, tp_18_0 hc ht, tp_18_2 hc ht, tp_18_3 hc ht, tk_0 hκ ht, tk_1 hκ ht, tn_1 hκ ht, tk_2 hκ ht, tn_2 hκ ht, tk_3 hκ ht, tk_4 hκ ht, tn_4 hκ ht, tk_5 hκ ht, tn_5 hκ ht, tk_6 hκ ht, tn_6 hκ ht, tk_7 hκ ht, tn_7 hκ ht, tk_8 hκ ht, tk_9 hκ ht, tn_9 hκ ht, tk_10 hκ ht, tn_10 hκ ht, tk_11 hκ ht, tn_11 hκ ht, tk_12 hκ ht, tn_12 hκ ht, tk_13 hκ ht, tn_13 hκ ht, tk_14 hκ ht, tn_14 hκ ht, tk_15 hκ ht, tn_15 hκ ht, tk_16 hκ ht, tn_16 hκ ht, tk_17 hκ ht, tn_17 hκ ht, tk_18 hκ ht, tk_19 hκ ht, tn_19 hκ ht, tk_20 hκ ht, tn_20 hκ ht, tk_21 hκ ht, tn_21 hκ ht, hns, es, eo, hsm]
        · have hb1' : s.testBit j = false := by simpa using hb1
          have hne : ¬ s ||| 2 ^ j = s := by rw [or_plus s hs j (by omega) hb1']; have := Nat.two_pow_pos j; omega
          have hni : ¬ ((s ||| 2 ^ j : Nat) : Int) = (s : Int) := by omega
          have hz : ¬ ((anot (s ||| 2 ^ j) all : Nat) : Int) = 0 := fun q => hon (onto_iff.mpr ⟨hb1', rfl, and_sub.mp (by omega)⟩)
          simp (disch := omega) only [cond_true, cond_false, Bool.and_true, Bool.true_and, Bool.and_false, Bool.false_and, Int.toNat_natCast, Int.reduceToNat, bI_s, bJ_s, bV_s, bR_s, decide_true, decide_false, not_true_eq_false, not_false_eq_true, dT, dF, w_al, w_la, w_ab, w_sl, w_sb, w_dec, w_ml, w_lm, ol2i_n, aup_ne, aupE, aupJ, setc_self, setc_ne, tp_0_1 hc ht, tp_0_2 hc ht, tp_0_3 hc ht, tp_0_4 hc ht, tp_0_6 hc ht, tp_0_8 hc ht, tp_0_9 hc ht, tp_0_10 hc ht, tp_0_12 hc ht, tp_0_13 hc ht, tp_0_14 hc ht, tp_3_1 hc ht, tp_3_2 hc ht, tp_3_3 hc ht, tp_3_4 hc ht, tp_8_0 hc ht, tp_8_1 hc ht, tp_8_2 hc ht, tp_18_0 hc ht, tp_18_2 hc ht, tp_18_3 hc ht, tk_0 hκ ht, tk_1 hκ ht, tn_1 hκ ht, tk_2 hκ ht, tn_2 hκ ht, tk_3 hκ ht, tk_4 hκ ht, tn_4 hκ ht, tk_5 hκ ht, tn_5 hκ ht, tk_6 hκ ht, tn_6 hκ ht, tk_7 hκ ht, tn_7 hκ ht, tk_8 hκ ht, tk_9 hκ ht, tn_9 hκ ht, tk_10 hκ ht, tn_10 hκ ht, tk_11 hκ ht, tn_11 hκ ht, tk_12 hκ ht, tn_12 hκ ht, tk_13 hκ ht, tn_13 hκ ht, tk_14 hκ ht, tn_14 hκ ht, tk_15 hκ ht, tn_15 hκ ht, tk_16 hκ ht, tn_16 hκ ht, tk_17 hκ ht, tn_17 hκ ht, tk_18 hκ ht, tk_19 hκ ht, tn_19 hκ ht, tk_20 hκ ht, tn_20 hκ ht, tk_21 hκ ht, tn_21 hκ ht, hns, es, eo, hni, en, hz]
      · have e1 : (fun w => if w = all then B w else B w ++ nbR all s w (List.range' j (7 - j)) C0) = (fun w => if w = all then B w else B w ++ nbR all s w (List.range' (j + 1) (7 - (j + 1))) C0) := by
          funext w
          rw [erw]
        rw [e1, erw]
        exact q3
