/-! Orders: reckon (28). -/
def Rk1 (D : Nat → Nat → Int) (X : TX) (ps : Nat → Nat) (Q : List (List Nat)) (k : Nat) : Prop := ∃ a o w : Nat, D 78 k = (a : Int) ∧ (a ≠ 0 → D 79 k = (o : Int) ∧ D 80 k = (w : Int)) ∧ rkOK (tkX X) (xPI X) (xPO X) ps Q k a o w
theorem Rk1.congr {D D' : Nat → Nat → Int} {X : TX} {ps : Nat → Nat} {Q : List (List Nat)} {k : Nat} (h : Rk1 D X ps Q k) (h1 : D' 78 k = D 78 k) (h2 : D' 79 k = D 79 k) (h3 : D' 80 k = D 80 k) : Rk1 D' X ps Q k := by
  obtain ⟨a, o, w, e1, e2, e3⟩ := h
  exact ⟨a, o, w, h1.trans e1, fun q => ⟨h2.trans (e2 q).1, h3.trans (e2 q).2⟩, e3⟩
theorem nc_789 {κ : aK} (hκ : Shp κ) {i : Int} (h0 : 0 ≤ i) (h1 : i.toNat < 9) : ain κ ((78 : Nat) : Int) 100 i = true ∧ ain κ ((79 : Nat) : Int) 100 i = true ∧ ain κ ((80 : Nat) : Int) 100 i = true := ⟨nc_78 hκ h0 h1, nc_79 hκ h0 h1, nc_80 hκ h0 h1⟩
theorem all_range {k : Nat} {p : Nat → Bool} : (List.range k).all p = true ↔ ∀ j, j < k → p j = true := by
  rw [List.all_eq_true]
  exact ⟨fun h j hj => h j (List.mem_range.mpr hj), fun h j hj => h j (List.mem_range.mp hj)⟩
/-- one turn of the loop as far as 87 -/
theorem reck_one (xs : List Int) (d : Nat) {κ : aK} {D : Nat → Nat → Int} (hκ : Shp κ) (hc : CPtr D) {t : Nat} (ht : isT t) {X : TX} (hX : TXok X) (hx : TxC D t X) {k : Nat} (hk : k ≤ xpr X) {a o w A O W : Nat} (e78 : D 78 k = (a : Int)) (e79 : a ≠ 0 → D 79 k = (o : Int) ∧ D 80 k = (w : Int)) (ha : a ≤ 13700) (hA : A ≤ 13700) : ∃ D2, ev xs d mm_28 3 [some (.inr (.inr ((77 : Nat) : Int))), some (.inr (.inr (t : Int))), some (.inl (A : Int)), some (.inl (O : Int)), some (.inl (W : Int)), some (.inl (k : Int))] [] (κ, D) = ev xs d mm_28 87 [some (.inr (.inr ((77 : Nat) : Int))), some (.inr (.inr (t : Int))), some (.inl (A : Int)), some (.inl (O : Int)), some (.inl (W : Int)), some (.inl (k : Int))] [] (κ, D2) ∧ D2 78 k = ((a + A : Nat) : Int) ∧ D2 79 k = ((if a = 0 then O else min o O : Nat) : Int) ∧ D2 80 k = ((if a = 0 then W else min w W : Nat) : Int) ∧ (∀ q, q ≠ 78 → q ≠ 79 → q ≠ 80 → D2 q = D q) ∧ ∀ j, j ≠ k → D2 78 j = D 78 j ∧ D2 79 j = D 79 j ∧ D2 80 j = D 80 j := by
  have ht' : t = 9 ∨ t = 31 := ht
  have x8 := hX.2.2.2.1.1
  have h7 : D t 7 = (xpr X : Int) := hx.2.2.2.1.1
  have k77 := kc_77 hκ
  have p1 := pc_77_1 hc
  have p2 := pc_77_2 hc
  have p3 := pc_77_3 hc
  have eA : w32 ((a : Int) + (A : Int)) = ((a + A : Nat) : Int) := w_ab (by omega)
  by_cases h0 : a = 0
  · subst h0
    refine ⟨aup (aup (aup (aup (aup D 79 k (O : Int)) 80 k (W : Int)) 78 k ((0 + A : Nat) : Int)) 79 k (O : Int)) 80 k (W : Int), ?_, ?_, ?_, ?_, ?_, ?_⟩
    · have eO : omin (O : Int) (O : Int) = (O : Int) := omin_lt (Nat.le_refl _)
      have eW : omin (W : Int) (W : Int) = (W : Int) := omin_lt (Nat.le_refl _)
      rw [q_28_3]
      simp (disch := omega) only [cond_true, cond_false, Bool.and_true, Bool.true_and, Bool.and_false, Bool.false_and, Int.toNat_natCast, Int.reduceToNat, bI_s, bJ_s, bV_s, bR_s, decide_true, decide_false, not_true_eq_false, not_false_eq_true, dT, dF, w_al, w_la, w_ab, w_sl, w_sb, w_dec, w_ml, w_lm, ol2i_n, aup_ne, aupE, aupJ, setc_self, setc_ne, tp_0_1 hc ht, tp_0_2 hc ht, tp_0_3 hc ht, tp_0_4 hc ht, tp_0_6 hc ht, tp_0_8 hc ht, tp_0_9 hc ht, tp_0_10 hc ht, tp_0_12 hc ht, tp_0_13 hc ht, tp_0_14 hc ht, tp_3_1 hc ht, tp_3_2 hc ht, tp_3_3 hc ht, tp_3_4 hc ht, tp_8_0 hc ht, tp_8_1 hc ht, tp_8_2 hc ht, tp_18_0 hc ht, tp_18_2 hc ht, tp_18_3 hc ht, tk_0 hκ ht, tk_1 hκ ht, tn_1 hκ ht, tk_2 hκ ht, tn_2 hκ ht, tk_3 hκ ht, tk_4 hκ ht, tn_4 hκ ht, tk_5 hκ ht, tn_5 hκ ht, tk_6 hκ ht, tn_6 hκ ht, tk_7 hκ ht, tn_7 hκ ht, tk_8 hκ ht, tk_9 hκ ht, tn_9 hκ ht, tk_10 hκ ht, tn_10 hκ ht, tk_11 hκ ht, tn_11 hκ ht, tk_12 hκ ht, tn_12 hκ ht, tk_13 hκ ht, tn_13 hκ ht, tk_14 hκ ht, tn_14 hκ ht, tk_15 hκ ht, tn_15 hκ ht, tk_16 hκ ht, tn_16 hκ ht, tk_17 hκ ht, tn_17 hκ ht, tk_18 hκ ht, tk_19 hκ ht, tn_19 hκ ht, tk_20 hκ ht, tn_20 hκ ht, tk_21 hκ ht, tn_21 hκ ht, h7, k77, p1, p2, p3, nc_78 hκ, nc_79 hκ, nc_80 hκ, e78, Int.ofNat_zero]
      rw [q_28_39]
      simp (disch := omega) only [cond_true, cond_false, Bool.and_true, Bool.true_and, Bool.and_false, Bool.false_and, Int.toNat_natCast, Int.reduceToNat, bI_s, bJ_s, bV_s, bR_s, decide_true, decide_false, not_true_eq_false, not_false_eq_true, dT, dF, w_al, w_la, w_ab, w_sl, w_sb, w_dec, w_ml, w_lm, ol2i_n, aup_ne, aupE, aupJ, setc_self, setc_ne, k77, p1, p2, p3, nc_78 hκ, nc_79 hκ, nc_80 hκ, e78, eA, eO, eW]
    · rw [aupN (by decide), aupN (by decide), aupE]
    · rw [aupN (by decide), aupE, if_pos rfl]
    · rw [aupE, if_pos rfl]
    · intro q y1 y2 y3
      rw [aupN y3, aupN y2, aupN y1, aupN y3, aupN y2]
    · intro j hj
      refine ⟨?_, ?_, ?_⟩
      · rw [aupN (by decide), aupN (by decide), aupJ hj, aupN (by decide), aupN (by decide)]
      · rw [aupN (by decide), aupJ hj, aupN (by decide), aupN (by decide), aupJ hj]
      · rw [aupJ hj, aupN (by decide), aupN (by decide), aupJ hj, aupN (by decide)]
  · obtain ⟨f1, f2⟩ := e79 h0
    refine ⟨aup (aup (aup D 78 k ((a + A : Nat) : Int)) 79 k ((min o O : Nat) : Int)) 80 k ((min w W : Nat) : Int), ?_, ?_, ?_, ?_, ?_, ?_⟩
    · rw [q_28_3]
      simp (disch := omega) only [cond_true, cond_false, Bool.and_true, Bool.true_and, Bool.and_false, Bool.false_and, Int.toNat_natCast, Int.reduceToNat, bI_s, bJ_s, bV_s, bR_s, decide_true, decide_false, not_true_eq_false, not_false_eq_true, dT, dF, w_al, w_la, w_ab, w_sl, w_sb, w_dec, w_ml, w_lm, ol2i_n, aup_ne, aupE, aupJ, setc_self, setc_ne, tp_0_1 hc ht, tp_0_2 hc ht, tp_0_3 hc ht, tp_0_4 hc ht, tp_0_6 hc ht, tp_0_8 hc ht, tp_0_9 hc ht, tp_0_10 hc ht, tp_0_12 hc ht, tp_0_13 hc ht, tp_0_14 hc ht, tp_3_1 hc ht, tp_3_2 hc ht, tp_3_3 hc ht, tp_3_4 hc ht, tp_8_0 hc ht, tp_8_1 hc ht, tp_8_2 hc ht, tp_18_0 hc ht, tp_18_2 hc ht, tp_18_3 hc ht, tk_0 hκ ht, tk_1 hκ ht, tn_1 hκ ht, tk_2 hκ ht, tn_2 hκ ht, tk_3 hκ ht, tk_4 hκ ht, tn_4 hκ ht, tk_5 hκ ht, tn_5 hκ ht, tk_6 hκ ht, tn_6 hκ ht, tk_7 hκ ht, tn_7 hκ ht, tk_8 hκ ht, tk_9 hκ ht, tn_9 hκ ht, tk_10 hκ ht, tn_10 hκ ht, tk_11 hκ ht, tn_11 hκ ht, tk_12 hκ ht, tn_12 hκ ht, tk_13 hκ ht, tn_13 hκ ht, tk_14 hκ ht, tn_14 hκ ht, tk_15 hκ ht, tn_15 hκ ht, tk_16 hκ ht, tn_16 hκ ht, tk_17 hκ ht, tn_17 hκ ht, tk_18 hκ ht, tk_19 hκ ht, tn_19 hκ ht, tk_20 hκ ht, tn_20 hκ ht, tk_21 hκ ht, tn_21 hκ ht, h7, k77, p1, p2, p3, nc_78 hκ, nc_79 hκ, nc_80 hκ, e78]
      rw [q_28_39]
      simp (disch := omega) only [cond_true, cond_false, Bool.and_true, Bool.true_and, Bool.and_false, Bool.false_and, Int.toNat_natCast, Int.reduceToNat, bI_s, bJ_s, bV_s, bR_s, decide_true, decide_false, not_true_eq_false, not_false_eq_true, dT, dF, w_al, w_la, w_ab, w_sl, w_sb, w_dec, w_ml, w_lm, ol2i_n, aup_ne, aupE, aupJ, setc_self, setc_ne, k77, p1, p2, p3, nc_78 hκ, nc_79 hκ, nc_80 hκ, e78, eA, f1, f2, omin_nat]
    · rw [aupN (by decide), aupN (by decide), aupE]
    · rw [aupN (by decide), aupE, if_neg h0]
    · rw [aupE, if_neg h0]
    · intro q y1 y2 y3
      rw [aupN y3, aupN y2, aupN y1]
    · intro j hj
      refine ⟨?_, ?_, ?_⟩
      · rw [aupN (by decide), aupN (by decide), aupJ hj]
      · rw [aupN (by decide), aupJ hj, aupN (by decide)]
      · rw [aupJ hj, aupN (by decide), aupN (by decide)]
theorem reck_loop (xs : List Int) (d : Nat) {κ : aK} {D0 : Nat → Nat → Int} (hκ : Shp κ) (hc0 : CPtr D0) {t : Nat} (ht : isT t) {X : TX} (hX : TXok X) (hx0 : TxC D0 t X) {v : VV} (hf : frC D0 X v) {ps : Nat → Nat} {Q C : List (List Nat)} {A O W : Nat} (hC : subB (vP (tkX X) (xPI X) (xpr X)) ps C v A O W) (hQ : Q.length + C.length ≤ 13700) : ∀ (n k : Nat) (D : Nat → Nat → Int), k + n = xpr X + 1 → (∀ q, q ≠ 78 → q ≠ 79 → q ≠ 80 → D q = D0 q) → (∀ j, j < k → v.getD j [] = xPO X j) → (∀ k', k' < k → Rk1 D X ps (Q ++ C) k') → (∀ k', k ≤ k' → k' ≤ xpr X → Rk1 D X ps Q k') → ∃ D', ev xs d mm_28 3 [some (.inr (.inr ((77 : Nat) : Int))), some (.inr (.inr (t : Int))), some (.inl (A : Int)), some (.inl (O : Int)), some (.inl (W : Int)), some (.inl (k : Int))] [] (κ, D) = some (none, (κ, D')) ∧ (∀ q, q ≠ 78 → q ≠ 79 → q ≠ 80 → D' q = D0 q) ∧ ∀ k', k' ≤ xpr X → Rk1 D' X ps (Q ++ C) k' := by
  have ht' : t = 9 ∨ t = 31 := ht
  have x8 := hX.2.2.2.1.1
  obtain ⟨c1, c2, c3, c4, c5⟩ := hC
  intro n
  induction n with
  | zero =>
    intro k D hk hD hv hlo hhi
    have hc : CPtr D := ptr_or hc0 (fun q hq => hD q (by omega) (by omega) (by omega)) (fun j _ _ => by rw [hD 77 (by decide) (by decide) (by decide)])
    have hx : TxC D t X := hx0.congr (fun q h1 h2 => hD q (by omega) (by omega) (by omega))
    have h7 : D t 7 = (xpr X : Int) := hx.2.2.2.1.1
    refine ⟨D, ?_, hD, fun k' hk' => hlo k' (by omega)⟩
    rw [q_28_3]
    simp (disch := omega) only [cond_true, cond_false, Bool.and_true, Bool.true_and, Bool.and_false, Bool.false_and, Int.toNat_natCast, Int.reduceToNat, bI_s, bJ_s, bV_s, bR_s, decide_true, decide_false, not_true_eq_false, not_false_eq_true, dT, dF, w_al, w_la, w_ab, w_sl, w_sb, w_dec, w_ml, w_lm, ol2i_n, aup_ne, aupE, aupJ, setc_self, setc_ne, tp_0_1 hc ht, tp_0_2 hc ht, tp_0_3 hc ht, tp_0_4 hc ht, tp_0_6 hc ht, tp_0_8 hc ht, tp_0_9 hc ht, tp_0_10 hc ht, tp_0_12 hc ht, tp_0_13 hc ht, tp_0_14 hc ht, tp_3_1 hc ht, tp_3_2 hc ht, tp_3_3 hc ht, tp_3_4 hc ht, tp_8_0 hc ht, tp_8_1 hc ht, tp_8_2 hc ht, tp_18_0 hc ht, tp_18_2 hc ht, tp_18_3 hc ht, tk_0 hκ ht, tk_1 hκ ht, tn_1 hκ ht, tk_2 hκ ht, tn_2 hκ ht, tk_3 hκ ht, tk_4 hκ ht, tn_4 hκ ht, tk_5 hκ ht, tn_5 hκ ht, tk_6 hκ ht, tn_6 hκ ht, tk_7 hκ ht, tn_7 hκ ht, tk_8 hκ ht, tk_9 hκ ht, tn_9 hκ ht, tk_10 hκ ht, tn_10 hκ ht, tk_11 hκ ht, tn_11 hκ ht, tk_12 hκ ht, tn_12 hκ ht, tk_13 hκ ht, tn_13 hκ ht, tk_14 hκ ht, tn_14 hκ ht, tk_15 hκ ht, tn_15 hκ ht, tk_16 hκ ht, tn_16 hκ ht, tk_17 hκ ht, tn_17 hκ ht, tk_18 hκ ht, tk_19 hκ ht, tn_19 hκ ht, tk_20 hκ ht, tn_20 hκ ht, tk_21 hκ ht, tn_21 hκ ht, h7]
  | succ n ih =>
    intro k D hk hD hv hlo hhi
    have hc : CPtr D := ptr_or hc0 (fun q hq => hD q (by omega) (by omega) (by omega)) (fun j _ _ => by rw [hD 77 (by decide) (by decide) (by decide)])
    have hx : TxC D t X := hx0.congr (fun q h1 h2 => hD q (by omega) (by omega) (by omega))
    obtain ⟨a, o, w, e78, e79, rk⟩ := hhi k (Nat.le_refl _) (by omega)
    have ha : a ≤ Q.length := by rw [rk.1]; exact List.length_filter_le _ _
    have fits : ∀ l ∈ C, fitL (tkX X) (xPI X) (xPO X) k l = true := fun l hl => by
      rw [fitC_same (n := xpr X) (by omega) c1 l hl, all_range]
      exact fun j hj => decide_eq_true (hv j hj)
    obtain ⟨D2, s1, s2, s3, s4, s5, s6⟩ := reck_one xs d hκ hc ht hX hx (k := k) (by omega) (A := A) (O := O) (W := W) e78 e79 (by omega) (by omega)
    have rk2 : Rk1 D2 X ps (Q ++ C) k := ⟨_, _, _, s2, fun _ => ⟨s3, s4⟩, rk_hit rk fits ⟨c2, c3, c4, c5⟩⟩
    have hD2 : ∀ q, q ≠ 78 → q ≠ 79 → q ≠ 80 → D2 q = D0 q := fun q y1 y2 y3 => (s5 q y1 y2 y3).trans (hD q y1 y2 y3)
    have hlo2 : ∀ k', k' < k + 1 → Rk1 D2 X ps (Q ++ C) k' := fun k' hk' => by
      by_cases hkk : k' = k
      · subst hkk; exact rk2
      · obtain ⟨y1, y2, y3⟩ := s6 k' hkk
        exact (hlo k' (by omega)).congr y1 y2 y3
    have hhi2 : ∀ k', k + 1 ≤ k' → k' ≤ xpr X → Rk1 D2 X ps Q k' := fun k' h1 h2 => by
      obtain ⟨y1, y2, y3⟩ := s6 k' (by omega)
      exact (hhi k' (by omega) h2).congr y1 y2 y3
    have hc2 : CPtr D2 := ptr_or hc0 (fun q hq => hD2 q (by omega) (by omega) (by omega)) (fun j _ _ => by rw [hD2 77 (by decide) (by decide) (by decide)])
    have hx2 : TxC D2 t X := hx0.congr (fun q h1 h2 => hD2 q (by omega) (by omega) (by omega))
    have h7 : D2 t 7 = (xpr X : Int) := hx2.2.2.2.1.1
    have k77 := kc_77 hκ
    have p6 := pc_77_6 hc2
    have d83 : D2 83 = D0 83 := hD2 83 (by decide) (by decide) (by decide)
    rw [s1]
    by_cases hlast : k = xpr X
    · refine ⟨D2, ?_, hD2, fun k' hk' => hlo2 k' (by omega)⟩
      have step : ev xs d mm_28 87 [some (.inr (.inr ((77 : Nat) : Int))), some (.inr (.inr (t : Int))), some (.inl (A : Int)), some (.inl (O : Int)), some (.inl (W : Int)), some (.inl (k : Int))] [] (κ, D2) = ev xs d mm_28 3 [some (.inr (.inr ((77 : Nat) : Int))), some (.inr (.inr (t : Int))), some (.inl (A : Int)), some (.inl (O : Int)), some (.inl (W : Int)), some (.inl ((k + 1 : Nat) : Int))] [] (κ, D2) := by
        have hc := hc2
        rw [q_28_87]
        simp (disch := omega) only [cond_true, cond_false, Bool.and_true, Bool.true_and, Bool.and_false, Bool.false_and, Int.toNat_natCast, Int.reduceToNat, bI_s, bJ_s, bV_s, bR_s, decide_true, decide_false, not_true_eq_false, not_false_eq_true, dT, dF, w_al, w_la, w_ab, w_sl, w_sb, w_dec, w_ml, w_lm, ol2i_n, aup_ne, aupE, aupJ, setc_self, setc_ne, tp_0_1 hc ht, tp_0_2 hc ht, tp_0_3 hc ht, tp_0_4 hc ht, tp_0_6 hc ht, tp_0_8 hc ht, tp_0_9 hc ht, tp_0_10 hc ht, tp_0_12 hc ht, tp_0_13 hc ht, tp_0_14 hc ht, tp_3_1 hc ht, tp_3_2 hc ht, tp_3_3 hc ht, tp_3_4 hc ht, tp_8_0 hc ht, tp_8_1 hc ht, tp_8_2 hc ht, tp_18_0 hc ht, tp_18_2 hc ht, tp_18_3 hc ht, tk_0 hκ ht, tk_1 hκ ht, tn_1 hκ ht, tk_2 hκ ht, tn_2 hκ ht, tk_3 hκ ht, tk_4 hκ ht, tn_4 hκ ht, tk_5 hκ ht, tn_5 hκ ht, tk_6 hκ ht, tn_6 hκ ht, tk_7 hκ ht, tn_7 hκ ht, tk_8 hκ ht, tk_9 hκ ht, tn_9 hκ ht, tk_10 hκ ht, tn_10 hκ ht, tk_11 hκ ht, tn_11 hκ ht, tk_12 hκ ht, tn_12 hκ ht, tk_13 hκ ht, tn_13 hκ ht, tk_14 hκ ht, tn_14 hκ ht, tk_15 hκ ht, tn_15 hκ ht, tk_16 hκ ht, tn_16 hκ ht, tk_17 hκ ht, tn_17 hκ ht, tk_18 hκ ht, tk_19 hκ ht, tn_19 hκ ht, tk_20 hκ ht, tn_20 hκ ht, tk_21 hκ ht, tn_21 hκ ht, h7]
      rw [step, q_28_3]
      have hc := hc2
      simp (disch := omega) only [cond_true, cond_false, Bool.and_true, Bool.true_and, Bool.and_false, Bool.false_and, Int.toNat_natCast, Int.reduceToNat, bI_s, bJ_s, bV_s, bR_s, decide_true, decide_false, not_true_eq_false, not_false_eq_true, dT, dF, w_al, w_la, w_ab, w_sl, w_sb, w_dec, w_ml, w_lm, ol2i_n, aup_ne, aupE, aupJ, setc_self, setc_ne, tp_0_1 hc ht, tp_0_2 hc ht, tp_0_3 hc ht, tp_0_4 hc ht, tp_0_6 hc ht, tp_0_8 hc ht, tp_0_9 hc ht, tp_0_10 hc ht, tp_0_12 hc ht, tp_0_13 hc ht, tp_0_14 hc ht, tp_3_1 hc ht, tp_3_2 hc ht, tp_3_3 hc ht, tp_3_4 hc ht, tp_8_0 hc ht, tp_8_1 hc ht, tp_8_2 hc ht, tp_18_0 hc ht, tp_18_2 hc ht, tp_18_3 hc ht, tk_0 hκ ht, tk_1 hκ ht, tn_1 hκ ht, tk_2 hκ ht, tn_2 hκ ht, tk_3 hκ ht, tk_4 hκ ht, tn_4 hκ ht, tk_5 hκ ht, tn_5 hκ ht, tk_6 hκ ht, tn_6 hκ ht, tk_7 hκ ht, tn_7 hκ ht, tk_8 hκ ht, tk_9 hκ ht, tn_9 hκ ht, tk_10 hκ ht, tn_10 hκ ht, tk_11 hκ ht, tn_11 hκ ht, tk_12 hκ ht, tn_12 hκ ht, tk_13 hκ ht, tn_13 hκ ht, tk_14 hκ ht, tn_14 hκ ht, tk_15 hκ ht, tn_15 hκ ht, tk_16 hκ ht, tn_16 hκ ht, tk_17 hκ ht, tn_17 hκ ht, tk_18 hκ ht, tk_19 hκ ht, tn_19 hκ ht, tk_20 hκ ht, tn_20 hκ ht, tk_21 hκ ht, tn_21 hκ ht, h7]
    · have e1 : D2 83 k = (p32 (v.getD k []) : Int) := by rw [d83]; exact hf.2 k (by omega)
      have e2 : D2 (t + 14) k = (p32 (xPO X k) : Int) := (hx2.2.2.2.1.2 k (by omega)).2.1
      have w1 := (hf.1.2 k (by omega)).1
      have w2 := (hX.2.2.2.1.2 k (by omega)).2.1.1
      by_cases hq : v.getD k [] = xPO X k
      · obtain ⟨D', r1, r2, r3⟩ := ih (k + 1) D2 (by omega) hD2 (fun j hj => by
          by_cases hjk : j = k
          · rw [hjk]; exact hq
          · exact hv j (by omega)) hlo2 hhi2
        refine ⟨D', ?_, r2, r3⟩
        rw [← r1]
        have hc := hc2
        rw [hq] at e1
        rw [q_28_87]
        simp (disch := omega) only [cond_true, cond_false, Bool.and_true, Bool.true_and, Bool.and_false, Bool.false_and, Int.toNat_natCast, Int.reduceToNat, bI_s, bJ_s, bV_s, bR_s, decide_true, decide_false, not_true_eq_false, not_false_eq_true, dT, dF, w_al, w_la, w_ab, w_sl, w_sb, w_dec, w_ml, w_lm, ol2i_n, aup_ne, aupE, aupJ, setc_self, setc_ne, tp_0_1 hc ht, tp_0_2 hc ht, tp_0_3 hc ht, tp_0_4 hc ht, tp_0_6 hc ht, tp_0_8 hc ht, tp_0_9 hc ht, tp_0_10 hc ht, tp_0_12 hc ht, tp_0_13 hc ht, tp_0_14 hc ht, tp_3_1 hc ht, tp_3_2 hc ht, tp_3_3 hc ht, tp_3_4 hc ht, tp_8_0 hc ht, tp_8_1 hc ht, tp_8_2 hc ht, tp_18_0 hc ht, tp_18_2 hc ht, tp_18_3 hc ht, tk_0 hκ ht, tk_1 hκ ht, tn_1 hκ ht, tk_2 hκ ht, tn_2 hκ ht, tk_3 hκ ht, tk_4 hκ ht, tn_4 hκ ht, tk_5 hκ ht, tn_5 hκ ht, tk_6 hκ ht, tn_6 hκ ht, tk_7 hκ ht, tn_7 hκ ht, tk_8 hκ ht, tk_9 hκ ht, tn_9 hκ ht, tk_10 hκ ht, tn_10 hκ ht, tk_11 hκ ht, tn_11 hκ ht, tk_12 hκ ht, tn_12 hκ ht, tk_13 hκ ht, tn_13 hκ ht, tk_14 hκ ht, tn_14 hκ ht, tk_15 hκ ht, tn_15 hκ ht, tk_16 hκ ht, tn_16 hκ ht, tk_17 hκ ht, tn_17 hκ ht, tk_18 hκ ht, tk_19 hκ ht, tn_19 hκ ht, tk_20 hκ ht, tn_20 hκ ht, tk_21 hκ ht, tn_21 hκ ht, h7, k77, p6, nc_83 hκ, e1, e2, olcmp_eq]
      · refine ⟨D2, ?_, hD2, fun k' hk' => ?_⟩
        · have hp32 := p32_ne w1 w2 hq
          have hc := hc2
          rw [q_28_87]
          simp (disch := omega) only [cond_true, cond_false, Bool.and_true, Bool.true_and, Bool.and_false, Bool.false_and, Int.toNat_natCast, Int.reduceToNat, bI_s, bJ_s, bV_s, bR_s, decide_true, decide_false, not_true_eq_false, not_false_eq_true, dT, dF, w_al, w_la, w_ab, w_sl, w_sb, w_dec, w_ml, w_lm, ol2i_n, aup_ne, aupE, aupJ, setc_self, setc_ne, tp_0_1 hc ht, tp_0_2 hc ht, tp_0_3 hc ht, tp_0_4 hc ht, tp_0_6 hc ht, tp_0_8 hc ht, tp_0_9 hc ht, tp_0_10 hc ht, tp_0_12 hc ht, tp_0_13 hc ht, tp_0_14 hc ht, tp_3_1 hc ht, tp_3_2 hc ht, tp_3_3 hc ht, tp_3_4 hc ht, tp_8_0 hc ht, tp_8_1 hc ht, tp_8_2 hc ht, tp_18_0 hc ht, tp_18_2 hc ht, tp_18_3 hc ht, tk_0 hκ ht, tk_1 hκ ht, tn_1 hκ ht, tk_2 hκ ht, tn_2 hκ ht, tk_3 hκ ht, tk_4 hκ ht, tn_4 hκ ht, tk_5 hκ ht, tn_5 hκ ht, tk_6 hκ ht, tn_6 hκ ht, tk_7 hκ ht, tn_7 hκ ht, tk_8 hκ ht, tk_9 hκ ht, tn_9 hκ ht, tk_10 hκ ht, tn_10 hκ ht, tk_11 hκ ht, tn_11 hκ ht, tk_12 hκ ht, tn_12 hκ ht, tk_13 hκ ht, tn_13 hκ ht, tk_14 hκ ht, tn_14 hκ ht, tk_15 hκ ht, tn_15 hκ ht, tk_16 hκ ht, tn_16 hκ ht, tk_17 hκ ht, tn_17 hκ ht, tk_18 hκ ht, tk_19 hκ ht, tn_19 hκ ht, tk_20 hκ ht, tn_20 hκ ht, tk_21 hκ ht, tn_21 hκ ht, h7, k77, p6, nc_83 hκ, e1, e2, olcmp_eq]
        · by_cases hkk : k' < k + 1
          · exact hlo2 k' hkk
          · obtain ⟨a', o', w', g1, g2, g3⟩ := hhi2 k' (by omega) hk'
            refine ⟨a', o', w', g1, g2, rk_miss g3 (fun l hl => ?_)⟩
            rw [fitC_same (n := xpr X) hk' c1 l hl]
            cases hb : (List.range k').all (fun p => decide (v.getD p [] = xPO X p)) with
            | false => rfl
            | true =>
              exact absurd (of_decide_eq_true (all_range.mp hb k (by omega))) hq
theorem reck_eq (xs : List Int) (d : Nat) {κ : aK} {D : Nat → Nat → Int} (hκ : Shp κ) (hc : CPtr D) {t : Nat} (ht : isT t) {X : TX} (hX : TXok X) (hx : TxC D t X) {v : VV} (hf : frC D X v) {ps : Nat → Nat} {Q C : List (List Nat)} {A O W : Nat} (hC : subB (vP (tkX X) (xPI X) (xpr X)) ps C v A O W) (hQ : Q.length + C.length ≤ 13700) (hr : ∀ k, k ≤ xpr X → Rk1 D X ps Q k) : ∃ D', cl xs (d + 1) 28 [.inr (.inr ((77 : Nat) : Int)), .inr (.inr (t : Int)), .inl (A : Int), .inl (O : Int), .inl (W : Int)] (κ, D) = some (none, (κ, D')) ∧ (∀ q, q ≠ 78 → q ≠ 79 → q ≠ 80 → D' q = D q) ∧ ∀ k', k' ≤ xpr X → Rk1 D' X ps (Q ++ C) k' := by
  rw [c_28]
  exact reck_loop xs d hκ hc ht hX hx hf hC hQ (xpr X + 1) 0 D (by omega) (fun _ _ _ _ => rfl) (fun j hj => absurd hj (by omega)) (fun k' hk' => absurd hk' (by omega)) (fun k' _ h => hr k' h)
