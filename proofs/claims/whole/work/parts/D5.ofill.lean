/-! Orders: noteWhoStandsBehind (22), fill (21). -/
theorem note_loop (xs : List Int) (d : Nat) {κ : aK} {D0 : Nat → Nat → Int} (hκ : Shp κ) (hc0 : CPtr D0) {t n : Nat} (hn : n ≤ 7) {ord : Nat → Nat} (ho : ∀ k, k < n → ord k < n) (hinj : ∀ j k, j < n → k < n → ord j = ord k → j = k) (h54 : ∀ k, k < n → D0 54 k = (ord k : Int)) : ∀ (k m : Nat) (D : Nat → Nat → Int) (u5 : Option aV), m + k = n → (∀ q, q ≠ 82 → D q = D0 q) → (∀ j, j < m → D 82 (ord (n - 1 - j)) = (bhO ord n j : Int)) → ∃ D', ev xs d mm_22 13 [some (.inr (.inr ((77 : Nat) : Int))), some (.inr (.inr (t : Int))), some (.inr (.inr ((53 : Nat) : Int))), some (.inl (bhO ord n m : Int)), some (.inl ((n : Int) - 1 - (m : Int))), u5] [] (κ, D) = some (none, (κ, D')) ∧ (∀ q, q ≠ 82 → D' q = D0 q) ∧ ∀ j, j < n → D' 82 (ord (n - 1 - j)) = (bhO ord n j : Int) := by
  intro k
  induction k with
  | zero =>
    intro m D u5 hm hD hj
    refine ⟨D, ?_, hD, fun j h => hj j (by omega)⟩
    rw [q_22_13]
    simp (disch := omega) only [cond_true, cond_false, Bool.and_true, Bool.true_and, Bool.and_false, Bool.false_and, Int.toNat_natCast, Int.reduceToNat, bI_s, bJ_s, bV_s, bR_s, decide_true, decide_false, not_true_eq_false, not_false_eq_true, dT, dF, w_al, w_la, w_ab, w_sl, w_sb, w_dec, w_ml, w_lm, ol2i_n, aup_ne, aupE, aupJ, setc_self, setc_ne]
  | succ k ih =>
    intro m D u5 hm hD hj
    have hc : CPtr D := ptr_or hc0 (fun q hq => hD q (by omega)) (fun j _ _ => by rw [hD 77 (by decide)])
    have e1 : D 54 (n - 1 - m) = (ord (n - 1 - m) : Int) := by rw [hD 54 (by decide)]; exact h54 _ (by omega)
    have hol := ho (n - 1 - m) (by omega)
    have ep : (n : Int) - 1 - (m : Int) = ((n - 1 - m : Nat) : Int) := by omega
    have eq : w32 (((n - 1 - m : Nat) : Int) + (-1)) = (n : Int) - 1 - ((m + 1 : Nat) : Int) := by rw [w32_id (by omega) (by omega)]; omega
    have hbl := bhO_lt hn ho m (by omega)
    have hp7 : 2 ^ ord (n - 1 - m) < 128 := Nat.pow_lt_pow_right (n := 7) (by decide) (by omega)
    have es : oshl 1 (ord (n - 1 - m) : Int) = ((2 ^ ord (n - 1 - m) : Nat) : Int) := oshl1 (by omega)
    have eo : oor (bhO ord n m : Int) ((2 ^ ord (n - 1 - m) : Nat) : Int) = (bhO ord n (m + 1) : Int) := oor_nat (by omega) (by omega)
    have k77 := kc_77 hκ
    have p5 := pc_77_5 hc
    obtain ⟨D', r1, r2, r3⟩ := ih (m + 1) (aup D 82 (ord (n - 1 - m)) (bhO ord n m : Int)) (some (.inl (ord (n - 1 - m) : Int))) (by omega) (fun q hq => by rw [aupN hq]; exact hD q hq) (fun j hj2 => by
      by_cases h : j = m
      · rw [h, aupE]
      · rw [aupJ (fun q => h (by have := hinj (n - 1 - j) (n - 1 - m) (by omega) (by omega) q; omega))]
        exact hj j (by omega))
    refine ⟨D', ?_, r2, r3⟩
    rw [← r1, ep, q_22_13]
    simp (disch := omega) only [cond_true, cond_false, Bool.and_true, Bool.true_and, Bool.and_false, Bool.false_and, Int.toNat_natCast, Int.reduceToNat, bI_s, bJ_s, bV_s, bR_s, decide_true, decide_false, not_true_eq_false, not_false_eq_true, dT, dF, w_al, w_la, w_ab, w_sl, w_sb, w_dec, w_ml, w_lm, ol2i_n, aup_ne, aupE, aupJ, setc_self, setc_ne, sk_0 hκ is53, sp_1 hc is53, sk_1 hκ is53, sn_1 hκ is53, sp_2 hc is53, sk_2 hκ is53, sn_2 hκ is53, sp_3 hc is53, sk_3 hκ is53, sn_3 hκ is53, sp_4 hc is53, sk_4 hκ is53, sn_4 hκ is53, e1, k77, p5, nc_82 hκ, es, eo, eq]
theorem note_eq (xs : List Int) (d : Nat) {κ : aK} {D : Nat → Nat → Int} (hκ : Shp κ) (hc : CPtr D) {t : Nat} (ht : isT t) {X : TX} (hX : TXok X) (hx : TxC D t X) {ord : Nat → Nat} (ho : ∀ k, k < xns X → ord k < xns X) (hinj : ∀ j k, j < xns X → k < xns X → ord j = ord k → j = k) (h54 : ∀ k, k < xns X → D 54 k = (ord k : Int)) : ∃ D', cl xs (d + 1) 22 [.inr (.inr ((77 : Nat) : Int)), .inr (.inr (t : Int)), .inr (.inr ((53 : Nat) : Int))] (κ, D) = some (none, (κ, D')) ∧ (∀ q, q ≠ 82 → D' q = D q) ∧ ∀ st, st < xns X → D' 82 st = (sbO ord (xns X) st : Int) := by
  have ht' : t = 9 ∨ t = 31 := ht
  have x7 := hX.1.1
  have hns : D (t + 3) 0 = (xns X : Int) := hx.1.1
  obtain ⟨D', r1, r2, r3⟩ := note_loop xs d hκ hc (t := t) x7 ho hinj h54 (xns X) 0 D none (by omega) (fun _ _ => rfl) (fun j hj => absurd hj (by omega))
  refine ⟨D', ?_, r2, fun st hst => ?_⟩
  · have ew : w32 ((xns X : Int) - 1) = (xns X : Int) - 1 - ((0 : Nat) : Int) := by rw [w32_id (by omega) (by omega)]; omega
    rw [c_22, ← r1]
    simp (disch := omega) only [cond_true, cond_false, Bool.and_true, Bool.true_and, Bool.and_false, Bool.false_and, Int.toNat_natCast, Int.reduceToNat, bI_s, bJ_s, bV_s, bR_s, decide_true, decide_false, not_true_eq_false, not_false_eq_true, dT, dF, w_al, w_la, w_ab, w_sl, w_sb, w_dec, w_ml, w_lm, ol2i_n, aup_ne, aupE, aupJ, setc_self, setc_ne, tp_0_1 hc ht, tp_0_2 hc ht, tp_0_3 hc ht, tp_0_4 hc ht, tp_0_6 hc ht, tp_0_8 hc ht, tp_0_9 hc ht, tp_0_10 hc ht, tp_0_12 hc ht, tp_0_13 hc ht, tp_0_14 hc ht, tp_3_1 hc ht, tp_3_2 hc ht, tp_3_3 hc ht, tp_3_4 hc ht, tp_8_0 hc ht, tp_8_1 hc ht, tp_8_2 hc ht, tp_18_0 hc ht, tp_18_2 hc ht, tp_18_3 hc ht, tk_0 hκ ht, tk_1 hκ ht, tn_1 hκ ht, tk_2 hκ ht, tn_2 hκ ht, tk_3 hκ ht, tk_4 hκ ht, tn_4 hκ ht, tk_5 hκ ht, tn_5 hκ ht, tk_6 hκ ht, tn_6 hκ ht, tk_7 hκ ht, tn_7 hκ ht, tk_8 hκ ht, tk_9 hκ ht, tn_9 hκ ht, tk_10 hκ ht, tn_10 hκ ht, tk_11 hκ ht, tn_11 hκ ht, tk_12 hκ ht, tn_12 hκ ht, tk_13 hκ ht, tn_13 hκ ht, tk_14 hκ ht, tn_14 hκ ht, tk_15 hκ ht, tn_15 hκ ht, tk_16 hκ ht, tn_16 hκ ht, tk_17 hκ ht, tn_17 hκ ht, tk_18 hκ ht, tk_19 hκ ht, tn_19 hκ ht, tk_20 hκ ht, tn_20 hκ ht, tk_21 hκ ht, tn_21 hκ ht, hns, ew]
    rfl
  · obtain ⟨p, hp, rfl⟩ := ord_onto ho hinj st hst
    have := r3 (xns X - 1 - p) (by omega)
    rw [show xns X - 1 - (xns X - 1 - p) = p by omega] at this
    unfold sbO
    rw [psO_eq hp hinj]
    exact this
theorem sub_grow {all s w st : Nat} (h : ¬ s &&& all = s) : onto all s st w = false := by
  cases ho : onto all s st w with
  | false => rfl
  | true =>
    obtain ⟨_, h2, h3⟩ := onto_iff.mp ho
    exfalso
    apply h
    apply Nat.eq_of_testBit_eq
    intro i
    rw [Nat.testBit_and]
    cases hi : s.testBit i with
    | false => rfl
    | true =>
      have : (w &&& all).testBit i = true := by rw [h3, ← h2, or_bit, hi]; rfl
      rw [Nat.testBit_and, Bool.and_eq_true] at this
      rw [this.2]; rfl
theorem of_loop (xs : List Int) (d : Nat) {t : Nat} (ht : isT t) {X : TX} (hX : TXok X) {ord : Nat → Nat} (ho : ∀ k, k < xns X → ord k < xns X) (hinj : ∀ j k, j < xns X → k < xns X → ord j = ord k → j = k) {all : Nat} (hall : all < 2 ^ xns X) : ∀ (n s : Nat) (κ : aK) (D : Nat → Nat → Int) (B : Nat → List (List Nat)) (Q : List (List Nat)) (R m : Nat) (ow : Nat → Nat) (vv : Nat → VV), s + n = all → OrG κ D t X ord B Q R m ow vv → D 53 0 = (all : Int) → (∀ w, w < 128 → w ≠ all → List.Perm (B w) (BG all s w)) → List.Perm Q (BG all s all) → B all = [] → ∃ κ' D' B' Q' R' m' ow' vv', ev xs (d + 6) mm_21 71 [some (.inr (.inr ((77 : Nat) : Int))), some (.inr (.inr (t : Int))), some (.inr (.inr ((53 : Nat) : Int))), some (.inl (s : Int))] [] (κ, D) = some (none, (κ', aup D' 77 0 1)) ∧ KLe κ κ' ∧ OrG κ' D' t X ord B' Q' R' m' ow' vv' ∧ List.Perm Q' (BG all all all) ∧ OrFs D D' ∧ κ'.2.1 + 24 * (27400 - R') ≤ κ.2.1 + 24 * (27400 - R) := by
  have ht' : t = 9 ∨ t = 31 := ht
  have x7 := hX.1.1
  have hall7 : all < 128 := Nat.lt_of_lt_of_le hall (Nat.pow_le_pow_right (n := 2) (j := 7) (by decide) x7)
  intro n
  induction n with
  | zero =>
    intro s κ D B Q R m ow vv hs hG h53 hB hQ hba
    have hκ := hG.1
    have hc := hG.2.1
    have k77 := kc_77 hκ
    refine ⟨κ, D, B, Q, R, m, ow, vv, ?_, KLe.rfl' κ, hG, by rw [show all = s by omega] at hQ ⊢; exact hQ, OrFs.rfl' D, Nat.le_refl _⟩
    rw [q_21_71]
    simp (disch := omega) only [cond_true, cond_false, Bool.and_true, Bool.true_and, Bool.and_false, Bool.false_and, Int.toNat_natCast, Int.reduceToNat, bI_s, bJ_s, bV_s, bR_s, decide_true, decide_false, not_true_eq_false, not_false_eq_true, dT, dF, w_al, w_la, w_ab, w_sl, w_sb, w_dec, w_ml, w_lm, ol2i_n, aup_ne, aupE, aupJ, setc_self, setc_ne, sk_0 hκ is53, sp_1 hc is53, sk_1 hκ is53, sn_1 hκ is53, sp_2 hc is53, sk_2 hκ is53, sn_2 hκ is53, sp_3 hc is53, sk_3 hκ is53, sn_3 hκ is53, sp_4 hc is53, sk_4 hκ is53, sn_4 hκ is53, h53, k77]
  | succ n ih =>
    intro s κ D B Q R m ow vv hs hG h53 hB hQ hba
    have hκ := hG.1
    have hc := hG.2.1
    have k77 := kc_77 hκ
    have en := oandnot (a := s) (b := all) (by omega) (by omega)
    by_cases hsub : s &&& all = s
    · obtain ⟨κ1, D1, B1, Q1, R1, m1, ow1, vv1, r1, r2, r3, r4, r5, r6, r7, r8⟩ := goOn_eq xs d ht hX ho hinj hall (s := s) (by omega) (by omega) hsub hG hB hQ hba
      obtain ⟨κ', D', B', Q', R', m', ow', vv', q1, q2, q3, q4, q5, q6⟩ := ih (s + 1) κ1 D1 B1 Q1 R1 m1 ow1 vv1 (by omega) r3 (by rw [r7.1 53 (by omega)]; exact h53) r4 r5 r6
      refine ⟨κ', D', B', Q', R', m', ow', vv', ?_, r2.trans q2, q3, q4, r7.trans q5, by omega⟩
      have hz : ((anot s all : Nat) : Int) = 0 := by rw [and_sub.mpr hsub]; rfl
      rw [← q1, q_21_71]
      simp (disch := omega) only [cond_true, cond_false, Bool.and_true, Bool.true_and, Bool.and_false, Bool.false_and, Int.toNat_natCast, Int.reduceToNat, bI_s, bJ_s, bV_s, bR_s, decide_true, decide_false, not_true_eq_false, not_false_eq_true, dT, dF, w_al, w_la, w_ab, w_sl, w_sb, w_dec, w_ml, w_lm, ol2i_n, aup_ne, aupE, aupJ, setc_self, setc_ne, sk_0 hκ is53, sp_1 hc is53, sk_1 hκ is53, sn_1 hκ is53, sp_2 hc is53, sk_2 hκ is53, sn_2 hκ is53, sp_3 hc is53, sk_3 hκ is53, sn_3 hκ is53, sp_4 hc is53, sk_4 hκ is53, sn_4 hκ is53, h53, en, hz, k77, r1]
    · have enb : ∀ w, BG all (s + 1) w = BG all s w := fun w => by
        rw [BG_nb, nbR_z (fun st _ => sub_grow hsub), List.append_nil]
      obtain ⟨κ', D', B', Q', R', m', ow', vv', q1, q2, q3, q4, q5, q6⟩ := ih (s + 1) κ D B Q R m ow vv (by omega) hG h53 (fun w hw hwa => by rw [enb]; exact hB w hw hwa) (by rw [enb]; exact hQ) hba
      refine ⟨κ', D', B', Q', R', m', ow', vv', ?_, q2, q3, q4, q5, q6⟩
      have hz : ¬ ((anot s all : Nat) : Int) = 0 := fun q => hsub (and_sub.mp (by omega))
      rw [← q1, q_21_71]
      simp (disch := omega) only [cond_true, cond_false, Bool.and_true, Bool.true_and, Bool.and_false, Bool.false_and, Int.toNat_natCast, Int.reduceToNat, bI_s, bJ_s, bV_s, bR_s, decide_true, decide_false, not_true_eq_false, not_false_eq_true, dT, dF, w_al, w_la, w_ab, w_sl, w_sb, w_dec, w_ml, w_lm, ol2i_n, aup_ne, aupE, aupJ, setc_self, setc_ne, sk_0 hκ is53, sp_1 hc is53, sk_1 hκ is53, sn_1 hκ is53, sp_2 hc is53, sk_2 hκ is53, sn_2 hκ is53, sp_3 hc is53, sk_3 hκ is53, sn_3 hκ is53, sp_4 hc is53, sk_4 hκ is53, sn_4 hκ is53, h53, en, hz]
def OrP (κ : aK) (D : Nat → Nat → Int) (R : Nat) : Prop := ∃ a b c e g m : Nat, OrK κ a b c e g R ∧ OrF D a b c e g m
theorem v0_sub (X : TX) (ps : Nat → Nat) : subB (vX X) ps [[]] (vX X []) 1 0 0 := by
  refine ⟨fun l hl => ?_, Nat.le_refl _, rfl, ⟨⟨[], List.mem_singleton.mpr rfl, rfl⟩, fun l _ => Nat.zero_le _⟩, ⟨⟨[], List.mem_singleton.mpr rfl, rfl⟩, fun l _ => Nat.zero_le _⟩⟩
  rw [List.mem_singleton.mp hl]
def b0N : Nat → List (List Nat) := fun _ => []
theorem sumN_zz {f : Nat → Nat} (h : ∀ i, f i = 0) : ∀ n, sumN f n = 0
  | 0 => rfl
  | n + 1 => by
    show sumN f n + f n = 0
    rw [sumN_zz h n, h n]
theorem b0_sum : sumN (fun s => (b0N s).length) 128 + [([] : List Nat)].length ≤ 13700 := by
  rw [sumN_zz (f := fun s => (b0N s).length) (fun i => rfl)]
  show 0 + 1 ≤ 13700
  omega
theorem ofill_eq (xs : List Int) (d : Nat) {κ : aK} {D : Nat → Nat → Int} (hκ : Shp κ) (hc : CPtr D) {t : Nat} (ht : isT t) (h5 : D 0 5 = (t : Int)) {X : TX} (hX : TXok X) (hx : TxC D t X) {S : ST} (hS : STok X S) (hs : StC D 53 X S) {R : Nat} (hP : OrP κ D R) : ∃ κ' D' R', cl xs (d + 7) 21 [.inr (.inr ((77 : Nat) : Int)), .inr (.inr (t : Int)), .inr (.inr ((53 : Nat) : Int))] (κ, D) = some (none, (κ', D')) ∧ KLe κ κ' ∧ OrP κ' D' R' ∧ CPtr D' ∧ D' 77 0 = 1 ∧ (∀ k, k ≤ xpr X → Rk1 D' X (psO (sord S) (xns X)) (BG (son S) (son S) (son S)) k) ∧ (∀ q, q < 77 ∨ (88 < q ∧ q < 315) → D' q = D q) ∧ κ'.2.1 + 24 * (27400 - R') ≤ κ.2.1 + 24 * (27400 - R) := by
  have ht' : t = 9 ∨ t = 31 := ht
  have x7 := hX.1.1
  have x8 := hX.2.2.2.1.1
  have hon := hS.1
  have k77 := kc_77 hκ
  obtain ⟨a, b, c, e, g, m, hK, f1, f2, f3, f4, f5, f6⟩ := hP
  have hall7 := on_lt hX hS
  have fA := fillI_eq xs (d + 5) (D := D) hκ 78 (n := 9) (by decide) rfl (by decide) 0
  generalize hD1 : setc D 78 (cpn 9 (fun _ => 0) (D 78)) = D1 at fA
  have fB := fillI_eq xs (d + 5) (D := D1) hκ 81 (n := 128) (by decide) rfl (by decide) (-1)
  generalize hD2 : setc D1 81 (cpn 128 (fun _ => -1) (D1 81)) = D2 at fB
  generalize hD3 : aup D2 77 7 0 = D3
  have d1 : ∀ q, q ≠ 78 → D1 q = D q := fun q h => by rw [← hD1, setc_ne h]
  have d2 : ∀ q, q ≠ 81 → D2 q = D1 q := fun q h => by rw [← hD2, setc_ne h]
  have d3 : ∀ q, q ≠ 77 → D3 q = D2 q := fun q h => by rw [← hD3, aupN h]
  have d77 : ∀ j, j ≠ 7 → D3 77 j = D 77 j := fun j h => by rw [← hD3, aupJ h, d2 77 (by decide), d1 77 (by decide)]
  have d777 : D3 77 7 = ((0 : Nat) : Int) := by rw [← hD3, aupE]; rfl
  have dq : ∀ q, q ≠ 77 → q ≠ 78 → q ≠ 81 → D3 q = D q := fun q h1 h2 h3 => by rw [d3 q h1, d2 q h3, d1 q h2]
  have d81 : ∀ j, j < 128 → D3 81 j = -1 := fun j hj => by rw [d3 81 (by decide), ← hD2, setc_self, cpn_at hj]
  have d78 : ∀ j, j < 9 → D3 78 j = ((0 : Nat) : Int) := fun j hj => by rw [d3 78 (by decide), d2 78 (by decide), ← hD1, setc_self, cpn_at hj]; rfl
  have hc3 : CPtr D3 := ptr_or hc (fun q hq => dq q (by omega) (by omega) (by omega)) (fun j _ _ => d77 j (by omega))
  have hx3 : TxC D3 t X := hx.congr (fun q h1 h2 => dq q (by omega) (by omega) (by omega))
  obtain ⟨D4, n1, n2, n3⟩ := note_eq xs (d + 5) hκ hc3 ht hX hx3 (ord := sord S) hS.2.1 hS.2.2.1 (fun k hk => by rw [dq 54 (by decide) (by decide) (by decide)]; exact hs.2.1 k hk)
  generalize hD5 : setc D4 83 (acpy (D4 (t + 13)) (D4 83) 0 0 8) = D5
  have d5 : ∀ q, q ≠ 83 → D5 q = D4 q := fun q h => by rw [← hD5, setc_ne h]
  have dA : ∀ q, q ≠ 77 → q ≠ 78 → q ≠ 81 → q ≠ 82 → q ≠ 83 → D5 q = D q := fun q h1 h2 h3 h4 h6 => by rw [d5 q h6, n2 q h4, dq q h1 h2 h3]
  have j77 : ∀ j, j ≠ 7 → D5 77 j = D 77 j := fun j h => by rw [d5 77 (by decide), n2 77 (by decide), d77 j h]
  have j777 : D5 77 7 = ((0 : Nat) : Int) := by rw [d5 77 (by decide), n2 77 (by decide)]; exact d777
  have hc5 : CPtr D5 := ptr_or hc (fun q hq => dA q (by omega) (by omega) (by omega) (by omega) (by omega)) (fun j _ _ => j77 j (by omega))
  have hx5 : TxC D5 t X := hx.congr (fun q h1 h2 => dA q (by omega) (by omega) (by omega) (by omega) (by omega))
  have h55 : D5 0 5 = (t : Int) := by rw [dA 0 (by decide) (by decide) (by decide) (by decide) (by decide)]; exact h5
  have h530 : D5 53 0 = (son S : Int) := by rw [dA 53 (by decide) (by decide) (by decide) (by decide) (by decide)]; exact hs.1
  have hfr : frC D5 X (vX X []) := by
    refine ⟨⟨vP_len .., fun p hp => ?_⟩, fun p hp => ?_⟩
    · rw [vP_get _ _ _ hp]
      exact (hX.2.2.2.1.2 p hp).1
    · rw [vP_get _ _ _ hp, ← hD5, setc_self, acpy_lo (by omega), n2 (t + 13) (by omega), dq (t + 13) (by omega) (by omega) (by omega)]
      exact (hx.2.2.2.1.2 p hp).1
  have hO5 : OrX κ D5 X (vX X) (psO (sord S) (xns X)) b0N R 0 (fun _ => 0) (fun _ => []) := by
    refine ⟨a, b, c, e, g, fun _ => 0, fun _ => 0, fun _ => 0, hK, ⟨⟨j777, ?_, ?_, ?_, ?_, ?_⟩, fun s hs' => ?_, fun i hi => absurd hi (by omega)⟩, Nat.zero_le _, fun i hi => absurd hi (by omega), fun i j hi => absurd hi (by omega), fun s hs' l hl => (by cases hl), Nat.zero_le _⟩
    · rw [j77 8 (by decide)]; exact f2
    · rw [j77 9 (by decide)]; exact f3
    · rw [j77 10 (by decide)]; exact f4
    · rw [j77 11 (by decide)]; exact f5
    · rw [j77 12 (by decide)]; exact f6
    · rw [d5 81 (by decide), n2 81 (by decide), d81 s hs']; rfl
  have hr5 : ∀ k, k ≤ xpr X → Rk1 D5 X (psO (sord S) (xns X)) [] k := fun k hk => ⟨0, 0, 0, by rw [d5 78 (by decide), n2 78 (by decide), d78 k (by omega)], fun h => absurd rfl h, rfl, fun h => absurd rfl h⟩
  have h825 : ∀ st, st < xns X → D5 82 st = (sbO (sord S) (xns X) st : Int) := fun st hst => by rw [d5 82 (by decide)]; exact n3 st hst
  have hsub := v0_sub X (psO (sord S) (xns X))
  have fin : ∀ (κ1 : aK) (D6 : Nat → Nat → Int) (B : Nat → List (List Nat)) (Q : List (List Nat)) (R1 m1 : Nat) (ow1 : Nat → Nat) (vv1 : Nat → VV), KLe κ κ1 → OrG κ1 D6 t X (sord S) B Q R1 m1 ow1 vv1 → OrFs D5 D6 → (∀ w, w < 128 → w ≠ son S → List.Perm (B w) (BG (son S) 0 w)) → List.Perm Q (BG (son S) 0 (son S)) → B (son S) = [] → κ1.2.1 + 24 * (27400 - R1) ≤ κ.2.1 + 24 * (27400 - R) → ∃ κ' D' R', ev xs (d + 6) mm_21 71 [some (.inr (.inr ((77 : Nat) : Int))), some (.inr (.inr (t : Int))), some (.inr (.inr ((53 : Nat) : Int))), some (.inl 0)] [] (κ1, D6) = some (none, (κ', D')) ∧ KLe κ κ' ∧ OrP κ' D' R' ∧ CPtr D' ∧ D' 77 0 = 1 ∧ (∀ k, k ≤ xpr X → Rk1 D' X (psO (sord S) (xns X)) (BG (son S) (son S) (son S)) k) ∧ (∀ q, q < 77 ∨ (88 < q ∧ q < 315) → D' q = D q) ∧ κ'.2.1 + 24 * (27400 - R') ≤ κ.2.1 + 24 * (27400 - R) := by
    intro κ1 D6 B Q R1 m1 ow1 vv1 hle hG hfs hB hQ hba hroom
    obtain ⟨κ', D', B', Q', R', m', ow', vv', q1, q2, q3, q4, q5, q6⟩ := of_loop xs d ht hX hS.2.1 hS.2.2.1 hon (son S) 0 κ1 D6 B Q R1 m1 ow1 vv1 (by omega) hG (by rw [hfs.1 53 (by omega)]; exact h530) hB hQ hba
    obtain ⟨g1, g2, g3, g4, g5, g6, g7⟩ := q3
    obtain ⟨a', b', c', e', g', _, _, _, gK, gH, _, _⟩ := g5
    have f7 : ∀ j, j ≠ 0 → aup D' 77 0 1 77 j = D' 77 j := fun j hj => aupJ hj
    have fo : ∀ q, q ≠ 77 → aup D' 77 0 1 q = D' q := fun q hq => aupN hq
    refine ⟨κ', aup D' 77 0 1, R', q1, hle.trans q2, ⟨a', b', c', e', g', m', gK, ?_⟩, g2.up pd_0.2.2.2.2.2.2.2.2.1 1, aupE .., fun k hk => ?_, fun q hq => ?_, by omega⟩
    · unfold OrF
      rw [f7 7 (by decide), f7 8 (by decide), f7 9 (by decide), f7 10 (by decide), f7 11 (by decide), f7 12 (by decide)]
      exact gH.1
    · have := (g6 k hk).congr (D' := aup D' 77 0 1) (by rw [fo 78 (by decide)]) (by rw [fo 79 (by decide)]) (by rw [fo 80 (by decide)])
      obtain ⟨a1, o1, w1, z1, z2, z3⟩ := this
      exact ⟨a1, o1, w1, z1, z2, rkOK_perm q4 z3⟩
    · rw [fo q (by omega), q5.1 q (by omega), hfs.1 q (by omega), dA q (by omega) (by omega) (by omega) (by omega) (by omega)]
  have c53 : D4 53 = D 53 := by rw [n2 53 (by decide), dq 53 (by decide) (by decide) (by decide)]
  have v53 : D5 53 0 = (son S : Int) := h530
  have hc4 : CPtr D4 := ptr_or hc (fun q hq => by rw [n2 q (by omega), dq q (by omega) (by omega) (by omega)]) (fun j _ _ => by rw [n2 77 (by decide), d77 j (by omega)])
  have p1 := pc_77_1 hc
  have hc1 : CPtr D1 := ptr_or hc (fun q hq => d1 q (by omega)) (fun j _ _ => by rw [d1 77 (by decide)])
  have p4 := pc_77_4 hc1
  have p6 := pc_77_6 hc4
  have p8 : D4 t 8 = ((t + 13 : Nat) : Int) := tp_0_8 hc4 ht
  have ak83 := kc_83 hκ
  have al83 : aln κ ((83 : Nat) : Int) = 8 := aln_s hκ 83 (by decide) rfl
  have akt : aok κ ((t + 13 : Nat) : Int) 101 = true := tk_13 hκ ht
  have alt : aln κ ((t + 13 : Nat) : Int) = 8 := by
    rcases ht' with rfl | rfl
    · exact aln_s hκ 22 (by decide) rfl
    · exact aln_s hκ 44 (by decide) rfl
  have ig : ∀ (x y : Int), (if (53 : Nat) = 83 then x else y) = y := fun x y => if_neg (by decide)
  have v53' : D4 53 0 = (son S : Int) := by rw [c53]; exact hs.1
  by_cases h0 : son S = 0
  · obtain ⟨D6, r1, r2, r3⟩ := reck_eq xs (d + 5) hκ hc5 ht hX hx5 hfr hsub (Q := []) (by show 0 + 1 ≤ 13700; decide) hr5
    obtain ⟨κ', D', R', q1, rest⟩ := fin κ D6 b0N ([] ++ [[]]) R 0 (fun _ => 0) (fun _ => []) (KLe.rfl' κ) ⟨hκ, ptr_or hc5 (fun q hq => r2 q (by omega) (by omega) (by omega)) (fun j _ _ => by rw [r2 77 (by decide) (by decide) (by decide)]), by rw [r2 0 (by decide) (by decide) (by decide)]; exact h55, hx5.congr (fun q h1 h2 => r2 q (by omega) (by omega) (by omega)), hO5.congr (fun q hq => r2 q (by omega) (by omega) (by omega)), r3, fun st hst => by rw [r2 82 (by decide) (by decide) (by decide)]; exact h825 st hst⟩ ⟨fun q hq => r2 q (by omega) (by omega) (by omega), fun j _ => by rw [r2 77 (by decide) (by decide) (by decide)]⟩ (fun w hw hwa => by rw [BG_z, if_neg (by omega)]; exact List.Perm.refl _) (by rw [BG_z, if_pos h0]; exact List.Perm.refl _) rfl (Nat.le_refl _)
    refine ⟨κ', D', R', ?_, rest⟩
    have r1' : cl xs (d + 6) 28 [.inr (.inr ((77 : Nat) : Int)), .inr (.inr (t : Int)), .inl 1, .inl 0, .inl 0] (κ, D5) = some (none, (κ, D6)) := r1
    have v0 : D4 53 0 = 0 := by rw [v53', h0]; rfl
    rw [← q1, c_21]
    simp (disch := omega) only [cond_true, cond_false, Bool.and_true, Bool.true_and, Int.toNat_natCast, Int.reduceToNat, bV_s, decide_true, decide_false, not_true_eq_false, Nat.zero_add, Nat.le_refl, Int.le_refl, dT, k77, p1, fA, p4, fB, hD3, n1, tp_0_1 hc ht, tp_0_2 hc ht, tp_0_3 hc ht, tp_0_4 hc ht, tp_0_6 hc ht, tp_0_8 hc ht, tp_0_9 hc ht, tp_0_10 hc ht, tp_0_12 hc ht, tp_0_13 hc ht, tp_0_14 hc ht, tp_3_1 hc ht, tp_3_2 hc ht, tp_3_3 hc ht, tp_3_4 hc ht, tp_8_0 hc ht, tp_8_1 hc ht, tp_8_2 hc ht, tp_18_0 hc ht, tp_18_2 hc ht, tp_18_3 hc ht, tk_0 hκ ht, tk_1 hκ ht, tn_1 hκ ht, tk_2 hκ ht, tn_2 hκ ht, tk_3 hκ ht, tk_4 hκ ht, tn_4 hκ ht, tk_5 hκ ht, tn_5 hκ ht, tk_6 hκ ht, tn_6 hκ ht, tk_7 hκ ht, tn_7 hκ ht, tk_8 hκ ht, tk_9 hκ ht, tn_9 hκ ht, tk_10 hκ ht, tn_10 hκ ht, tk_11 hκ ht, tn_11 hκ ht, tk_12 hκ ht, tn_12 hκ ht, tk_13 hκ ht, tn_13 hκ ht, tk_14 hκ ht, tn_14 hκ ht, tk_15 hκ ht, tn_15 hκ ht, tk_16 hκ ht, tn_16 hκ ht, tk_17 hκ ht, tn_17 hκ ht, tk_18 hκ ht, tk_19 hκ ht, tn_19 hκ ht, tk_20 hκ ht, tn_20 hκ ht, tk_21 hκ ht, tn_21 hκ ht, p8, p6, ak83, al83, akt, alt, setc_fold, hD5, ig, v0, sk_0 hκ is53, sp_1 hc is53, sk_1 hκ is53, sn_1 hκ is53, sp_2 hc is53, sk_2 hκ is53, sn_2 hκ is53, sp_3 hc is53, sk_3 hκ is53, sn_3 hκ is53, sp_4 hc is53, sk_4 hκ is53, sn_4 hκ is53, r1']
  · have hpos : 0 < son S := by omega
    obtain ⟨κ1, D6, R1, m1, ow1, vv1, r1, r2, r3, r4, r5, r6, r7⟩ := arrive_eq xs (d + 2) hκ hc5 ht h55 hX hx5 hO5 hfr (s := 0) (by decide) hsub b0_sum
    have hfs := r6.fs
    obtain ⟨κ', D', R', q1, rest⟩ := fin κ1 D6 _ [] R1 m1 ow1 vv1 r2 ⟨r2.shp hκ, r6.ptr hc5, by rw [r6.1 0 (by omega)]; exact h55, r6.tx ht hx5, r3, fun k hk => (hr5 k hk).congr (by rw [r6.1 78 (by omega)]) (by rw [r6.1 79 (by omega)]) (by rw [r6.1 80 (by omega)]), fun st hst => by rw [r6.1 82 (by omega)]; exact h825 st hst⟩ hfs (fun w hw hwa => by
      show List.Perm (if w = 0 then b0N w ++ [[]] else b0N w) _
      rw [BG_z]
      exact List.Perm.refl _) (by rw [BG_z, if_neg h0]) (by
      show (if son S = 0 then b0N (son S) ++ [[]] else b0N (son S)) = []
      rw [if_neg h0]
      rfl) r7
    refine ⟨κ', D', R', ?_, rest⟩
    have r1' : cl xs (d + 6) 25 [.inr (.inr ((77 : Nat) : Int)), .inr (.inr (t : Int)), .inl 0, .inl 1, .inl 0, .inl 0] (κ, D5) = some (none, (κ1, D6)) := r1
    have v1 : ¬ (son S : Int) = 0 := by omega
    rw [← q1, c_21]
    simp (disch := omega) only [cond_true, cond_false, Bool.and_true, Bool.true_and, Int.toNat_natCast, Int.reduceToNat, bV_s, decide_true, decide_false, not_false_eq_true, Nat.zero_add, Nat.le_refl, Int.le_refl, dT, k77, p1, fA, p4, fB, hD3, n1, tp_0_1 hc ht, tp_0_2 hc ht, tp_0_3 hc ht, tp_0_4 hc ht, tp_0_6 hc ht, tp_0_8 hc ht, tp_0_9 hc ht, tp_0_10 hc ht, tp_0_12 hc ht, tp_0_13 hc ht, tp_0_14 hc ht, tp_3_1 hc ht, tp_3_2 hc ht, tp_3_3 hc ht, tp_3_4 hc ht, tp_8_0 hc ht, tp_8_1 hc ht, tp_8_2 hc ht, tp_18_0 hc ht, tp_18_2 hc ht, tp_18_3 hc ht, tk_0 hκ ht, tk_1 hκ ht, tn_1 hκ ht, tk_2 hκ ht, tn_2 hκ ht, tk_3 hκ ht, tk_4 hκ ht, tn_4 hκ ht, tk_5 hκ ht, tn_5 hκ ht, tk_6 hκ ht, tn_6 hκ ht, tk_7 hκ ht, tn_7 hκ ht, tk_8 hκ ht, tk_9 hκ ht, tn_9 hκ ht, tk_10 hκ ht, tn_10 hκ ht, tk_11 hκ ht, tn_11 hκ ht, tk_12 hκ ht, tn_12 hκ ht, tk_13 hκ ht, tn_13 hκ ht, tk_14 hκ ht, tn_14 hκ ht, tk_15 hκ ht, tn_15 hκ ht, tk_16 hκ ht, tn_16 hκ ht, tk_17 hκ ht, tn_17 hκ ht, tk_18 hκ ht, tk_19 hκ ht, tn_19 hκ ht, tk_20 hκ ht, tn_20 hκ ht, tk_21 hκ ht, tn_21 hκ ht, p8, p6, ak83, al83, akt, alt, setc_fold, hD5, ig, v53', v1, sk_0 hκ is53, sp_1 hc is53, sk_1 hκ is53, sn_1 hκ is53, sp_2 hc is53, sk_2 hκ is53, sn_2 hκ is53, sp_3 hc is53, sk_3 hκ is53, sn_3 hκ is53, sp_4 hc is53, sk_4 hκ is53, sn_4 hκ is53, r1']
