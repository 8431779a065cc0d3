/-! Orders: goOnFrom, entry by entry. -/
def rsF (V : List Nat → VV) (ow : Nat → Nat) (vv : Nat → VV) (s k : Nat) (l : List Nat) : Bool := (List.range k).any (fun i => decide (ow i = s) && decide (vv i = V l))
theorem rsF_iff {V : List Nat → VV} {ow : Nat → Nat} {vv : Nat → VV} {s k : Nat} {l : List Nat} : rsF V ow vv s k l = true ↔ ∃ i, i < k ∧ ow i = s ∧ vv i = V l := by
  unfold rsF
  rw [List.any_eq_true]
  constructor
  · rintro ⟨i, hi, h⟩
    rw [Bool.and_eq_true] at h
    exact ⟨i, List.mem_range.mp hi, of_decide_eq_true h.1, of_decide_eq_true h.2⟩
  · rintro ⟨i, hi, h1, h2⟩
    exact ⟨i, List.mem_range.mpr hi, by rw [Bool.and_eq_true]; exact ⟨decide_eq_true h1, decide_eq_true h2⟩⟩
theorem nbR_e (all s w : Nat) (L : List Nat) : nbR all s w L [] = [] := by
  induction L with
  | nil => rfl
  | cons st L ih =>
    cases ho : onto all s st w with
    | true => rw [nbR_t ho, ih]; rfl
    | false => rw [nbR_f ho, ih]
theorem rest_step {V : List Nat → VV} {ow : Nat → Nat} {vv : Nat → VV} {s k i : Nat} (hik : i < k) (how : ow i = s) (hno : ∀ j, i < j → j < k → ow j ≠ s) (hd : ∀ j, j < i → ow j = s → vv j ≠ vv i) (Bs : List (List Nat)) : List.Perm (Bs.filter (rsF V ow vv s k)) (bq V Bs (vv i) ++ Bs.filter (rsF V ow vv s i)) := by
  have h := (List.filter_append_perm (fun l => decide (V l = vv i)) (Bs.filter (rsF V ow vv s k))).symm
  have e1 : (Bs.filter (rsF V ow vv s k)).filter (fun l => decide (V l = vv i)) = bq V Bs (vv i) := by
    unfold bq
    rw [List.filter_filter]
    apply List.filter_congr
    intro l _
    by_cases hl : V l = vv i
    · rw [decide_eq_true hl, rsF_iff.mpr ⟨i, hik, how, hl.symm⟩]; rfl
    · rw [decide_eq_false hl]; rfl
  have e2 : (Bs.filter (rsF V ow vv s k)).filter (fun l => !decide (V l = vv i)) = Bs.filter (rsF V ow vv s i) := by
    rw [List.filter_filter]
    apply List.filter_congr
    intro l _
    cases hr : rsF V ow vv s i l with
    | true =>
      obtain ⟨j, hj, h1, h2⟩ := rsF_iff.mp hr
      rw [rsF_iff.mpr ⟨j, by omega, h1, h2⟩, decide_eq_false (fun q => hd j hj h1 (h2.trans q))]
      rfl
    | false =>
      by_cases hl : V l = vv i
      · rw [decide_eq_true hl]; rfl
      · rw [decide_eq_false hl]
        cases hk : rsF V ow vv s k l with
        | false => rfl
        | true =>
          obtain ⟨j, hj, h1, h2⟩ := rsF_iff.mp hk
          have hji : j ≠ i := fun q => hl (by rw [← q, h2])
          have hlt : j < i := by
            by_cases h : i < j
            · exact absurd h1 (hno j h hj)
            · omega
          rw [rsF_iff.mpr ⟨j, hlt, h1, h2⟩] at hr
          cases hr
  rw [e1, e2] at h
  exact h
theorem ge_loop (xs : List Int) (d : Nat) {t : Nat} (ht : isT t) {X : TX} (hX : TXok X) {ord : Nat → Nat} (ho : ∀ k, k < xns X → ord k < xns X) (hinj : ∀ j k, j < xns X → k < xns X → ord j = ord k → j = k) {all s : Nat} (hall : all < 2 ^ xns X) (hs : s < 128) (hsa : s ≠ all) {known : Nat} (hkn : known ≤ 100000) {ow0 : Nat → Nat} {vv0 : Nat → VV} {Bs : List (List Nat)} (hpm : ∀ l ∈ Bs, List.Perm l (els s)) : ∀ (k n : Nat) (κ : aK) (D : Nat → Nat → Int) (B : Nat → List (List Nat)) (Q : List (List Nat)) (R m : Nat) (ow : Nat → Nat) (vv : Nat → VV) (u7 u8 : Option aV), n + k ≤ known → known ≤ m → OrG κ D t X ord B Q R m ow vv → (∀ i, i < known → ow i = ow0 i ∧ vv i = vv0 i) → B s = Bs → (∀ w, w < 128 → w ≠ all → (B w).length + (nbR all s w (List.range' 0 7) (Bs.filter (rsF (vX X) ow0 vv0 s k))).length ≤ fb w) → Q.length + (nbR all s all (List.range' 0 7) (Bs.filter (rsF (vX X) ow0 vv0 s k))).length ≤ fb all → B all = [] → ∃ κ' D' B' Q' R' m' ow' vv', ev xs (d + 5) mm_23 17 [some (.inr (.inr ((77 : Nat) : Int))), some (.inr (.inr (t : Int))), some (.inl (s : Int)), some (.inl (all : Int)), some (.inl (known : Int)), some (.inl (prv ow0 s k)), some (.inl (n : Int)), u7, u8] [] (κ, D) = some (none, (κ', D')) ∧ KLe κ κ' ∧ OrG κ' D' t X ord B' Q' R' m' ow' vv' ∧ (∀ w, w < 128 → w ≠ all → List.Perm (B' w) (B w ++ nbR all s w (List.range' 0 7) (Bs.filter (rsF (vX X) ow0 vv0 s k)))) ∧ List.Perm Q' (Q ++ nbR all s all (List.range' 0 7) (Bs.filter (rsF (vX X) ow0 vv0 s k))) ∧ B' all = [] ∧ OrFs D D' ∧ κ'.2.1 + 24 * (27400 - R') ≤ κ.2.1 + 24 * (27400 - R) := by
  have ht' : t = 9 ∨ t = 31 := ht
  have x7 := hX.1.1
  intro k
  induction k using Nat.strongRecOn with
  | ind k ih =>
    intro n κ D B Q R m ow vv u7 u8 hnk hkm hG hsame hBs hb hq hba
    rcases prv_spec ow0 s k with ⟨p1, p2⟩ | ⟨i, p1, p2, p3, p4⟩
    · have e0 : Bs.filter (rsF (vX X) ow0 vv0 s k) = [] := List.filter_eq_nil_iff.mpr (fun l _ q => by
        obtain ⟨i, hi, h1, _⟩ := rsF_iff.mp q
        exact p2 i hi h1)
      refine ⟨κ, D, B, Q, R, m, ow, vv, ?_, KLe.rfl' κ, hG, fun w _ _ => ?_, ?_, hba, OrFs.rfl' D, Nat.le_refl _⟩
      · rw [p1, q_23_17]
        by_cases hn : known ≤ n
        · simp (disch := omega) only [cond_true, cond_false, Bool.and_true, Bool.true_and, Bool.and_false, Bool.false_and, Int.toNat_natCast, Int.reduceToNat, bI_s, bJ_s, bV_s, bR_s, decide_true, decide_false, not_true_eq_false, not_false_eq_true, dT, dF, w_al, w_la, w_ab, w_sl, w_sb, w_dec, w_ml, w_lm, ol2i_n, aup_ne, aupE, aupJ, setc_self, setc_ne]
        · simp (disch := omega) only [cond_true, cond_false, Bool.and_true, Bool.true_and, Bool.and_false, Bool.false_and, Int.toNat_natCast, Int.reduceToNat, bI_s, bJ_s, bV_s, bR_s, decide_true, decide_false, not_true_eq_false, not_false_eq_true, dT, dF, w_al, w_la, w_ab, w_sl, w_sb, w_dec, w_ml, w_lm, ol2i_n, aup_ne, aupE, aupJ, setc_self, setc_ne]
      · rw [e0, nbR_e, List.append_nil]
      · rw [e0, nbR_e, List.append_nil]
    · obtain ⟨y1, y2⟩ := hsame i (by omega)
      have hG' := hG
      obtain ⟨hκ, hc, h5, hx, hO, hr, h82⟩ := hG
      have hO' := hO
      obtain ⟨_, _, _, _, _, _, _, _, _, _, _, hRep⟩ := hO'
      have hd : ∀ j, j < i → ow0 j = s → vv0 j ≠ vv0 i := fun j hj h1 h2 => by
        obtain ⟨z1, z2⟩ := hsame j (by omega)
        have := hRep.2.1 j i (by omega) (by omega) (by rw [z1, y1, h1, p3]) (by rw [z2, y2, h2])
        omega
      have hperm := rest_step (V := vX X) (vv := vv0) p1 p3 p4 hd Bs
      have hnb : ∀ w, List.Perm (nbR all s w (List.range' 0 7) (Bs.filter (rsF (vX X) ow0 vv0 s k))) (nbR all s w (List.range' 0 7) (bq (vX X) Bs (vv0 i)) ++ nbR all s w (List.range' 0 7) (Bs.filter (rsF (vX X) ow0 vv0 s i))) := fun w => (nbR_perm _ hperm).trans (nbR_app ..)
      have hb1 : ∀ w, w < 128 → w ≠ all → (B w).length + ((nbR all s w (List.range' 0 7) (bq (vX X) Bs (vv0 i))).length + (nbR all s w (List.range' 0 7) (Bs.filter (rsF (vX X) ow0 vv0 s i))).length) ≤ fb w := fun w hw hwa => by
        have := hb w hw hwa
        rw [(hnb w).length_eq, List.length_append] at this
        exact this
      have hq1 : Q.length + ((nbR all s all (List.range' 0 7) (bq (vX X) Bs (vv0 i))).length + (nbR all s all (List.range' 0 7) (Bs.filter (rsF (vX X) ow0 vv0 s i))).length) ≤ fb all := by
        have := hq
        rw [(hnb all).length_eq, List.length_append] at this
        exact this
      obtain ⟨κ1, D1, R1, m1, ow1, vv1, u8', r1, r2, r3, r4, r5, r6, r7⟩ := gs_loop xs d ht hX ho hinj hall hs (i := i) (known := known) (nn := (n : Int)) (vi := vv0 i) (C0 := bq (vX X) Bs (vv0 i)) (xns X) 0 κ D B Q R m ow vv u8 (by omega) hG' (by omega) (y1.trans p3) y2 (by rw [hBs]) (by rw [hBs]; exact hpm) (fun w hw hwa => by have := hb1 w hw hwa; show _ + (nbR all s w (List.range' 0 7) _).length ≤ _; omega) (by show _ + (nbR all s all (List.range' 0 7) _).length ≤ _; omega) hba hsa
      have r3' := r3
      obtain ⟨hκ1, hc1, h51, hx1, hO1, hr1, h821⟩ := r3'
      obtain ⟨f1, f2⟩ := r5 i (by omega)
      obtain ⟨a, g1, g2, g3⟩ := hO1.fol (i := i) (by omega)
      rw [f1, y1, p3] at g2
      have hns : D1 (t + 3) 0 = (xns X : Int) := hx1.1.1
      have eprv : prv ow1 s i = prv ow0 s i := by
        have key : ∀ q, q ≤ i → prv ow1 s q = prv ow0 s q := by
          intro q
          induction q with
          | zero => intro _; rfl
          | succ q ihq =>
            intro hqi
            unfold prv
            obtain ⟨z1, _⟩ := r5 q (by omega)
            obtain ⟨z2, _⟩ := hsame q (by omega)
            rw [z1, z2, ihq (by omega)]
        exact key i (Nat.le_refl _)
      rw [eprv] at g2
      have hsame1 : ∀ j, j < known → ow1 j = ow0 j ∧ vv1 j = vv0 j := fun j hj => by
        obtain ⟨z1, z2⟩ := r5 j (by omega)
        obtain ⟨z3, z4⟩ := hsame j hj
        exact ⟨z1.trans z3, z2.trans z4⟩
      obtain ⟨κ', D', B', Q', R', m', ow', vv', q1, q2, q3, q4, q5, q6, q7, q8⟩ := ih i p1 (n + 1) κ1 D1 _ _ R1 m1 ow1 vv1 (some (.inl (xns X : Int))) u8' (by omega) (by omega) r3 hsame1 (by
        show (if s = all then B s else B s ++ nbR all s s _ _) = Bs
        rw [if_neg hsa, nbR_self, List.append_nil, hBs]) (fun w hw hwa => by
        have := hb1 w hw hwa
        show (if w = all then B w else B w ++ nbR all s w (List.range' 0 7) (bq (vX X) Bs (vv0 i))).length + _ ≤ _
        rw [if_neg hwa, List.length_append]
        omega) (by
        show (Q ++ nbR all s all (List.range' 0 7) (bq (vX X) Bs (vv0 i))).length + _ ≤ _
        rw [List.length_append]
        omega) (by
        show (if all = all then B all else _) = []
        rw [if_pos rfl]; exact hba)
      refine ⟨κ', D', B', Q', R', m', ow', vv', ?_, r2.trans q2, q3, fun w hw hwa => ?_, ?_, q6, r6.trans q7, by omega⟩
      · rw [← q1, p2, q_23_17]
        have k77 := kc_77 hκ1
        have st : ev xs (d + 5) mm_23 39 [some (.inr (.inr ((77 : Nat) : Int))), some (.inr (.inr (t : Int))), some (.inl (s : Int)), some (.inl (all : Int)), some (.inl (known : Int)), some (.inl (i : Int)), some (.inl (n : Int)), some (.inl (xns X : Int)), u8'] [] (κ1, D1) = ev xs (d + 5) mm_23 17 [some (.inr (.inr ((77 : Nat) : Int))), some (.inr (.inr (t : Int))), some (.inl (s : Int)), some (.inl (all : Int)), some (.inl (known : Int)), some (.inl (prv ow0 s i)), some (.inl ((n + 1 : Nat) : Int)), some (.inl (xns X : Int)), u8'] [] (κ1, D1) := by
          have hc := hc1
          have hκ := hκ1
          rw [q_23_39]
          simp (disch := omega) only [cond_true, cond_false, Bool.and_true, Bool.true_and, Bool.and_false, Bool.false_and, Int.toNat_natCast, Int.reduceToNat, bI_s, bJ_s, bV_s, bR_s, decide_true, decide_false, not_true_eq_false, not_false_eq_true, dT, dF, w_al, w_la, w_ab, w_sl, w_sb, w_dec, w_ml, w_lm, ol2i_n, aup_ne, aupE, aupJ, setc_self, setc_ne, tp_0_1 hc ht, tp_0_2 hc ht, tp_0_3 hc ht, tp_0_4 hc ht, tp_0_6 hc ht, tp_0_8 hc ht, tp_0_9 hc ht, tp_0_10 hc ht, tp_0_12 hc ht, tp_0_13 hc ht, tp_0_14 hc ht, tp_3_1 hc ht, tp_3_2 hc ht, tp_3_3 hc ht, tp_3_4 hc ht, tp_8_0 hc ht, tp_8_1 hc ht, tp_8_2 hc ht, tp_18_0 hc ht, tp_18_2 hc ht, tp_18_3 hc ht, tk_0 hκ ht, tk_1 hκ ht, tn_1 hκ ht, tk_2 hκ ht, tn_2 hκ ht, tk_3 hκ ht, tk_4 hκ ht, tn_4 hκ ht, tk_5 hκ ht, tn_5 hκ ht, tk_6 hκ ht, tn_6 hκ ht, tk_7 hκ ht, tn_7 hκ ht, tk_8 hκ ht, tk_9 hκ ht, tn_9 hκ ht, tk_10 hκ ht, tn_10 hκ ht, tk_11 hκ ht, tn_11 hκ ht, tk_12 hκ ht, tn_12 hκ ht, tk_13 hκ ht, tn_13 hκ ht, tk_14 hκ ht, tn_14 hκ ht, tk_15 hκ ht, tn_15 hκ ht, tk_16 hκ ht, tn_16 hκ ht, tk_17 hκ ht, tn_17 hκ ht, tk_18 hκ ht, tk_19 hκ ht, tn_19 hκ ht, tk_20 hκ ht, tn_20 hκ ht, tk_21 hκ ht, tn_21 hκ ht, hns, k77, g1, g3, g2]
        rw [← st, ← r1]
        simp (disch := omega) only [cond_true, cond_false, Bool.and_true, Bool.true_and, Bool.and_false, Bool.false_and, Int.toNat_natCast, Int.reduceToNat, bI_s, bJ_s, bV_s, bR_s, decide_true, decide_false, not_true_eq_false, not_false_eq_true, dT, dF, w_al, w_la, w_ab, w_sl, w_sb, w_dec, w_ml, w_lm, ol2i_n, aup_ne, aupE, aupJ, setc_self, setc_ne]
        rfl
      · have := q4 w hw hwa
        rw [if_neg hwa, List.append_assoc] at this
        exact this.trans (List.Perm.append_left _ (hnb w).symm)
      · have := q5
        rw [List.append_assoc] at this
        exact this.trans (List.Perm.append_left _ (hnb all).symm)
theorem goOn_eq (xs : List Int) (d : Nat) {t : Nat} (ht : isT t) {X : TX} (hX : TXok X) {ord : Nat → Nat} (ho : ∀ k, k < xns X → ord k < xns X) (hinj : ∀ j k, j < xns X → k < xns X → ord j = ord k → j = k) {all s : Nat} (hall : all < 2 ^ xns X) (hs : s < 128) (hsa : s ≠ all) (hsub : s &&& all = s) {κ : aK} {D : Nat → Nat → Int} {B : Nat → List (List Nat)} {Q : List (List Nat)} {R m : Nat} {ow : Nat → Nat} {vv : Nat → VV} (hG : OrG κ D t X ord B Q R m ow vv) (hB : ∀ w, w < 128 → w ≠ all → List.Perm (B w) (BG all s w)) (hQ : List.Perm Q (BG all s all)) (hba : B all = []) : ∃ κ' D' B' Q' R' m' ow' vv', cl xs (d + 6) 23 [.inr (.inr ((77 : Nat) : Int)), .inr (.inr (t : Int)), .inl (s : Int), .inl (all : Int)] (κ, D) = some (none, (κ', D')) ∧ KLe κ κ' ∧ OrG κ' D' t X ord B' Q' R' m' ow' vv' ∧ (∀ w, w < 128 → w ≠ all → List.Perm (B' w) (BG all (s + 1) w)) ∧ List.Perm Q' (BG all (s + 1) all) ∧ B' all = [] ∧ OrFs D D' ∧ κ'.2.1 + 24 * (27400 - R') ≤ κ.2.1 + 24 * (27400 - R) := by
  have x7 := hX.1.1
  have hall7 : all < 128 := Nat.lt_of_lt_of_le hall (Nat.pow_le_pow_right (n := 2) (j := 7) (by decide) x7)
  have hG' := hG
  obtain ⟨hκ, hc, h5, hx, hO, hr, h82⟩ := hG'
  have hO' := hO
  obtain ⟨a, b, c, e, g, wy, fi, sp, hK, hH, hm, hRep⟩ := hO'
  have hfull : (B s).filter (rsF (vX X) ow vv s m) = B s := List.filter_eq_self.mpr (fun l hl => rsF_iff.mpr (hRep.2.2.1 s hs l hl))
  have hBs := hB s hs hsa
  have e7 : List.range 7 = List.range' 0 7 := List.range_eq_range' 
  have hnb : ∀ w, List.Perm (nbR all s w (List.range' 0 7) (B s)) (nbR all s w (List.range' 0 7) (BG all s s)) := fun w => nbR_perm _ hBs
  have hlen : ∀ w, w < 128 → (BG all (s + 1) w).length ≤ fb w := fun w hw => BG_fb (by omega) hw
  have hR2 := hK.2.2.2.2
  obtain ⟨κ', D', B', Q', R', m', ow', vv', q1, q2, q3, q4, q5, q6, q7, q8⟩ := ge_loop xs d ht hX ho hinj hall hs hsa (known := m) (by omega) (ow0 := ow) (vv0 := vv) (Bs := B s) (fun l hl => (BG_all s hs hsub l).mp (hBs.mem_iff.mp hl)) m 0 κ D B Q R m ow vv none none (by omega) (Nat.le_refl _) hG (fun _ _ => ⟨rfl, rfl⟩) rfl (fun w hw hwa => by
    have := hlen w hw
    rw [BG_nb, List.length_append, e7] at this
    rw [hfull, (hB w hw hwa).length_eq, (hnb w).length_eq]
    exact this) (by
    have := hlen all hall7
    rw [BG_nb, List.length_append, e7] at this
    rw [hfull, hQ.length_eq, (hnb all).length_eq]
    exact this) hba
  rw [hfull] at q5
  refine ⟨κ', D', B', Q', R', m', ow', vv', ?_, q2, q3, fun w hw hwa => ?_, ?_, q6, q7, q8⟩
  · have k77 := kc_77 hκ
    have p4 := pc_77_4 hc
    have f7 := hH.1.1
    have c81 := hH.2.1 s hs
    rw [c_23]
    simp (disch := omega) only [cond_true, cond_false, Bool.and_true, Bool.true_and, Bool.and_false, Bool.false_and, Int.toNat_natCast, Int.reduceToNat, bI_s, bJ_s, bV_s, bR_s, decide_true, decide_false, not_true_eq_false, not_false_eq_true, dT, dF, w_al, w_la, w_ab, w_sl, w_sb, w_dec, w_ml, w_lm, ol2i_n, aup_ne, aupE, aupJ, setc_self, setc_ne, k77, p4, f7, nc_81 hκ, c81]
    exact q1
  · have := q4 w hw hwa
    rw [hfull] at this
    rw [BG_nb, e7]
    exact this.trans ((hB w hw hwa).append (hnb w))
  · rw [BG_nb, e7]
    exact q5.trans (hQ.append (hnb all))
