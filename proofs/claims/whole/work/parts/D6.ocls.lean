/-! Orders: orders, orderAt, swaps by the class. -/
def lsM (f : List Nat → Nat) : List (List Nat) → Nat
  | [] => 0
  | [a] => f a
  | a :: b :: r => min (f a) (lsM f (b :: r))
theorem lsM_min (f : List Nat → Nat) : ∀ (C : List (List Nat)), C ≠ [] → isMin f C (lsM f C)
  | [], h => absurd rfl h
  | [a], _ => ⟨⟨a, List.mem_singleton.mpr rfl, rfl⟩, fun l hl => by rw [List.mem_singleton.mp hl]; exact Nat.le_refl _⟩
  | a :: b :: r, _ => by
    have h1 : isMin f [a] (f a) := ⟨⟨a, List.mem_singleton.mpr rfl, rfl⟩, fun l hl => by rw [List.mem_singleton.mp hl]; exact Nat.le_refl _⟩
    exact isMin_app h1 (lsM_min f (b :: r) (by simp))
def ftX (X : TX) (S : ST) (k : Nat) : List (List Nat) := fitC (tkX X) (xPI X) (xPO X) k (BG (son S) (son S) (son S))
abbrev psS (X : TX) (S : ST) : Nat → Nat := psO (sord S) (xns X)
def OrdOK (κ : aK) (D : Nat → Nat → Int) (X : TX) (S : ST) : Prop := (∃ R, OrP κ D R) ∧ (D 77 0 = 0 ∨ (D 77 0 = 1 ∧ ∀ k, k ≤ xpr X → Rk1 D X (psS X S) (BG (son S) (son S) (son S)) k))
def orR (κ : aK) (D : Nat → Nat → Int) : Nat := 24 * (27400 - aln κ (D 77 8))
theorem orP_R {κ : aK} {D : Nat → Nat → Int} {R : Nat} (h : OrP κ D R) : orR κ D = 24 * (27400 - R) := by
  obtain ⟨a, b, c, e, g, m, hK, hF⟩ := h
  unfold orR
  rw [hF.2.1, aln_g hK.1.1.2]
theorem KLe.orp {κ κ' : aK} (h : KLe κ κ') {D : Nat → Nat → Int} {R : Nat} (hP : OrP κ D R) : OrP κ' D R := by
  obtain ⟨a, b, c, e, g, m, ⟨⟨ka, kb, kc, ke, kg⟩, rest⟩, hF⟩ := hP
  exact ⟨a, b, c, e, g, m, ⟨⟨⟨Nat.lt_of_lt_of_le ka.1 h.1, (h.2.1 a ka.1).trans ka.2⟩, ⟨Nat.lt_of_lt_of_le kb.1 h.1, (h.2.1 b kb.1).trans kb.2⟩, ⟨Nat.lt_of_lt_of_le kc.1 h.1, (h.2.1 c kc.1).trans kc.2⟩, ⟨Nat.lt_of_lt_of_le ke.1 h.1, (h.2.1 e ke.1).trans ke.2⟩, ⟨Nat.lt_of_lt_of_le kg.1 h.1, (h.2.1 g kg.1).trans kg.2⟩⟩, rest⟩, hF⟩
/-- what asking for orders does to the class's heap -/
def OrdQ (κ κ' : aK) (D D' : Nat → Nat → Int) (X : TX) (S : ST) : Prop := KLe κ κ' ∧ OrdOK κ' D' X S ∧ CPtr D' ∧ (∀ q, q < 77 ∨ (88 < q ∧ q < 315) → D' q = D q) ∧ κ'.2.1 + orR κ' D' ≤ κ.2.1 + orR κ D
theorem OrdQ.rfl' {κ : aK} {D : Nat → Nat → Int} {X : TX} {S : ST} (h : OrdOK κ D X S) (hc : CPtr D) : OrdQ κ κ D D X S := ⟨KLe.rfl' κ, h, hc, fun _ _ => rfl, Nat.le_refl _⟩
theorem ord_164 (xs : List Int) (d : Nat) {κ : aK} {D : Nat → Nat → Int} (hκ : Shp κ) (hc : CPtr D) {t : Nat} (ht : isT t) (h5 : D 0 5 = (t : Int)) {X : TX} (hX : TXok X) (hx : TxC D t X) {S : ST} (hS : STok X S) (hs : StC D 53 X S) (hO : OrdOK κ D X S) : ∃ κ' D', cl xs (d + 8) 164 [.inr (.inr 0)] (κ, D) = some (some (.inr (.inr ((77 : Nat) : Int))), (κ', D')) ∧ OrdQ κ κ' D D' X S ∧ ∀ k, k ≤ xpr X → Rk1 D' X (psS X S) (BG (son S) (son S) (son S)) k := by
  have ht' : t = 9 ∨ t = 31 := ht
  have hk0 : aok κ 0 11 = true := kc_0 hκ
  have k77 := kc_77 hκ
  have hO' := hO
  obtain ⟨⟨R, hP⟩, h0 | ⟨h1, hr⟩⟩ := hO
  · obtain ⟨κ', D', R', q1, q2, q3, q4, q5, q6, q7, q8⟩ := ofill_eq xs d hκ hc ht h5 hX hx hS hs hP
    have hk0' : aok κ' 0 11 = true := kc_0 (q2.shp hκ)
    have p17 := pc_0_17 q4
    refine ⟨κ', D', ?_, ⟨q2, ⟨⟨R', q3⟩, Or.inr ⟨q5, q6⟩⟩, q4, q7, by rw [orP_R q3, orP_R hP]; exact q8⟩, q6⟩
    rw [c_164]
    simp (disch := omega) only [cond_true, cond_false, Bool.and_true, Bool.true_and, Bool.and_false, Bool.false_and, Int.toNat_natCast, Int.reduceToNat, bI_s, bJ_s, bV_s, bR_s, decide_true, decide_false, not_true_eq_false, not_false_eq_true, dT, dF, w_al, w_la, w_ab, w_sl, w_sb, w_dec, w_ml, w_lm, ol2i_n, aup_ne, aupE, aupJ, setc_self, setc_ne, hk0, pc_0_17 hc, k77, h0, h5, pc_0_7 hc, q1, hk0', p17]
  · refine ⟨κ, D, ?_, OrdQ.rfl' hO' hc, hr⟩
    rw [c_164]
    simp (disch := omega) only [cond_true, cond_false, Bool.and_true, Bool.true_and, Bool.and_false, Bool.false_and, Int.toNat_natCast, Int.reduceToNat, bI_s, bJ_s, bV_s, bR_s, decide_true, decide_false, not_true_eq_false, not_false_eq_true, dT, dF, w_al, w_la, w_ab, w_sl, w_sb, w_dec, w_ml, w_lm, ol2i_n, aup_ne, aupE, aupJ, setc_self, setc_ne, hk0, pc_0_17 hc, k77, h1]
theorem BG_in {X : TX} {S : ST} (hX : TXok X) (hS : STok X S) {k : Nat} {l : List Nat} (hl : l ∈ ftX X S k) : List.Perm l (els (son S)) := (BG_all (son S) (on_lt hX hS) (Nat.and_self _) l).mp (List.mem_filter.mp hl).1
def qOrders (X : TX) (S : ST) (k : Int) : Int := if 0 ≤ k ∧ k ≤ (xpr X : Int) then ((ftX X S k.toNat).length : Int) else -1
def qSwaps (X : TX) (S : ST) (k : Int) : Int := if 0 ≤ k ∧ k ≤ (xpr X : Int) then (if (ftX X S k.toNat).length = 0 then -2 else (lsM (inv (psS X S)) (ftX X S k.toNat) : Int)) else -1
def qOrderAt (X : TX) (S : ST) (k i : Int) : Int := if 0 ≤ k ∧ k ≤ (xpr X : Int) then (if 0 ≤ i then (if (ftX X S k.toNat).length = 0 then -2 else if (bcn (son S) 10 : Int) ≤ i then -1 else ((lsM cd8 (ftX X S k.toNat) / 2 ^ (3 * (bcn (son S) 10 - 1 - i.toNat)) % 8 : Nat) : Int)) else -1) else -1
theorem corders (xs : List Int) (d : Nat) {κ : aK} {D : Nat → Nat → Int} (hκ : Shp κ) (hc : CPtr D) {t : Nat} (ht : isT t) (h5 : D 0 5 = (t : Int)) {X : TX} (hX : TXok X) (hx : TxC D t X) {S : ST} (hS : STok X S) (hs : StC D 53 X S) (hO : OrdOK κ D X S) (k : Int) : ∃ κ' D', cl xs (d + 9) 166 [.inr (.inr 0), .inl k] (κ, D) = some (some (.inl (qOrders X S k)), (κ', D')) ∧ OrdQ κ κ' D D' X S := by
  have hk0 : aok κ 0 11 = true := kc_0 hκ
  have hp := hasPairs_eq xs (d + 7) hκ hc ht h5 hX hx k
  have x8 := hX.2.2.2.1.1
  unfold qOrders
  by_cases h : 0 ≤ k ∧ k ≤ (xpr X : Int)
  · rw [if_pos h]
    rw [if_pos h] at hp
    obtain ⟨K, rfl⟩ := Int.eq_ofNat_of_zero_le h.1
    obtain ⟨κ', D', q1, q2, q3⟩ := ord_164 xs d hκ hc ht h5 hX hx hS hs hO
    refine ⟨κ', D', ?_, q2⟩
    obtain ⟨a, o, w, e1, e2, e3⟩ := q3 K (by omega)
    have hκ' := q2.1.shp hκ
    have p1 := pc_77_1 q2.2.2.1
    have ea : D' 78 K = ((ftX X S K).length : Int) := by rw [e1, e3.1]; rfl
    rw [c_166]
    simp (disch := omega) only [cond_true, cond_false, Bool.and_true, Bool.true_and, Bool.and_false, Bool.false_and, Int.toNat_natCast, Int.reduceToNat, bI_s, bJ_s, bV_s, bR_s, decide_true, decide_false, not_true_eq_false, not_false_eq_true, dT, dF, w_al, w_la, w_ab, w_sl, w_sb, w_dec, w_ml, w_lm, ol2i_n, aup_ne, aupE, aupJ, setc_self, setc_ne, hk0, hp, q1, kc_77 hκ', p1, nc_78 hκ', ea]
  · rw [if_neg h]
    rw [if_neg h] at hp
    refine ⟨κ, D, ?_, OrdQ.rfl' hO hc⟩
    rw [c_166]
    simp (disch := omega) only [cond_true, cond_false, Bool.and_true, Bool.true_and, Bool.and_false, Bool.false_and, Int.toNat_natCast, Int.reduceToNat, bI_s, bJ_s, bV_s, bR_s, decide_true, decide_false, not_true_eq_false, not_false_eq_true, dT, dF, w_al, w_la, w_ab, w_sl, w_sb, w_dec, w_ml, w_lm, ol2i_n, aup_ne, aupE, aupJ, setc_self, setc_ne, hk0, hp]
theorem cswaps (xs : List Int) (d : Nat) {κ : aK} {D : Nat → Nat → Int} (hκ : Shp κ) (hc : CPtr D) {t : Nat} (ht : isT t) (h5 : D 0 5 = (t : Int)) {X : TX} (hX : TXok X) (hx : TxC D t X) {S : ST} (hS : STok X S) (hs : StC D 53 X S) (hO : OrdOK κ D X S) (k : Int) : ∃ κ' D', cl xs (d + 9) 168 [.inr (.inr 0), .inl k] (κ, D) = some (some (.inl (qSwaps X S k)), (κ', D')) ∧ OrdQ κ κ' D D' X S := by
  have hk0 : aok κ 0 11 = true := kc_0 hκ
  have hp := hasPairs_eq xs (d + 7) hκ hc ht h5 hX hx k
  have x8 := hX.2.2.2.1.1
  unfold qSwaps
  by_cases h : 0 ≤ k ∧ k ≤ (xpr X : Int)
  · rw [if_pos h]
    rw [if_pos h] at hp
    obtain ⟨K, rfl⟩ := Int.eq_ofNat_of_zero_le h.1
    obtain ⟨κ', D', q1, q2, q3⟩ := ord_164 xs d hκ hc ht h5 hX hx hS hs hO
    refine ⟨κ', D', ?_, q2⟩
    obtain ⟨a, o, w, e1, e2, e3⟩ := q3 K (by omega)
    have hκ' := q2.1.shp hκ
    have p1 := pc_77_1 q2.2.2.1
    have p3 := pc_77_3 q2.2.2.1
    have ea : a = (ftX X S K).length := e3.1
    rw [c_168]
    by_cases h0 : (ftX X S K).length = 0
    · have ez : D' 78 K = 0 := by rw [e1, ea, h0]; rfl
      simp (disch := omega) only [cond_true, cond_false, Bool.and_true, Bool.true_and, Bool.and_false, Bool.false_and, Int.toNat_natCast, Int.reduceToNat, bI_s, bJ_s, bV_s, bR_s, decide_true, decide_false, not_true_eq_false, not_false_eq_true, dT, dF, w_al, w_la, w_ab, w_sl, w_sb, w_dec, w_ml, w_lm, ol2i_n, aup_ne, aupE, aupJ, setc_self, setc_ne, hk0, hp, q1, kc_77 hκ', p1, nc_78 hκ', ez, h0, if_true]
    · have hne : ¬ (a : Int) = 0 := by omega
      have ew : w = lsM (inv (psS X S)) (ftX X S K) := isMin_uniq (e3.2 (by omega)).2 (lsM_min _ _ (fun q => h0 (congrArg List.length q)))
      have e80 : D' 80 K = (lsM (inv (psS X S)) (ftX X S K) : Int) := by rw [(e2 (by omega)).2, ew]
      rw [show ((K : Int)).toNat = K from Int.toNat_natCast K, if_neg h0]
      simp (disch := omega) only [cond_true, cond_false, Bool.and_true, Bool.true_and, Bool.and_false, Bool.false_and, Int.toNat_natCast, Int.reduceToNat, bI_s, bJ_s, bV_s, bR_s, decide_true, decide_false, not_true_eq_false, not_false_eq_true, dT, dF, w_al, w_la, w_ab, w_sl, w_sb, w_dec, w_ml, w_lm, ol2i_n, aup_ne, aupE, aupJ, setc_self, setc_ne, hk0, hp, q1, kc_77 hκ', p1, nc_78 hκ', e1, hne, p3, nc_80 hκ', e80]
  · rw [if_neg h]
    rw [if_neg h] at hp
    refine ⟨κ, D, ?_, OrdQ.rfl' hO hc⟩
    rw [c_168]
    simp (disch := omega) only [cond_true, cond_false, Bool.and_true, Bool.true_and, Bool.and_false, Bool.false_and, Int.toNat_natCast, Int.reduceToNat, bI_s, bJ_s, bV_s, bR_s, decide_true, decide_false, not_true_eq_false, not_false_eq_true, dT, dF, w_al, w_la, w_ab, w_sl, w_sb, w_dec, w_ml, w_lm, ol2i_n, aup_ne, aupE, aupJ, setc_self, setc_ne, hk0, hp]
theorem corderAt (xs : List Int) (d : Nat) {κ : aK} {D : Nat → Nat → Int} (hκ : Shp κ) (hc : CPtr D) {t : Nat} (ht : isT t) (h5 : D 0 5 = (t : Int)) {X : TX} (hX : TXok X) (hx : TxC D t X) {S : ST} (hS : STok X S) (hs : StC D 53 X S) (hO : OrdOK κ D X S) (k i : Int) : ∃ κ' D', cl xs (d + 9) 167 [.inr (.inr 0), .inl k, .inl i] (κ, D) = some (some (.inl (qOrderAt X S k i)), (κ', D')) ∧ OrdQ κ κ' D D' X S := by
  have hk0 : aok κ 0 11 = true := kc_0 hκ
  have hp := hasPairs_eq xs (d + 7) hκ hc ht h5 hX hx k
  have x8 := hX.2.2.2.1.1
  have hon := on_lt hX hS
  unfold qOrderAt
  by_cases h : 0 ≤ k ∧ k ≤ (xpr X : Int)
  · rw [if_pos h]
    rw [if_pos h] at hp
    obtain ⟨K, rfl⟩ := Int.eq_ofNat_of_zero_le h.1
    by_cases hi : 0 ≤ i
    · rw [if_pos hi]
      obtain ⟨I, rfl⟩ := Int.eq_ofNat_of_zero_le hi
      obtain ⟨κ', D', q1, q2, q3⟩ := ord_164 xs d hκ hc ht h5 hX hx hS hs hO
      refine ⟨κ', D', ?_, q2⟩
      obtain ⟨a, o, w, e1, e2, e3⟩ := q3 K (by omega)
      have hκ' := q2.1.shp hκ
      have hc' := q2.2.2.1
      have hk0' : aok κ' 0 11 = true := kc_0 hκ'
      have p1 := pc_77_1 hc'
      have p2 := pc_77_2 hc'
      have p07 := pc_0_7 hc'
      have ea : a = (ftX X S K).length := e3.1
      have e53 : D' 53 0 = (son S : Int) := by rw [q2.2.2.2.1 53 (by omega)]; exact hs.1
      have ebc := bitCount_eq xs (d + 7) (κ', D') (n := son S) (by omega)
      have hbl := bcn_le (son S) 10
      rw [c_167]
      by_cases h0 : (ftX X S K).length = 0
      · have ez : D' 78 K = 0 := by rw [e1, ea, h0]; rfl
        simp (disch := omega) only [cond_true, cond_false, Bool.and_true, Bool.true_and, Bool.and_false, Bool.false_and, Int.toNat_natCast, Int.reduceToNat, bI_s, bJ_s, bV_s, bR_s, decide_true, decide_false, not_true_eq_false, not_false_eq_true, dT, dF, w_al, w_la, w_ab, w_sl, w_sb, w_dec, w_ml, w_lm, ol2i_n, aup_ne, aupE, aupJ, setc_self, setc_ne, hk0, hp, q1, kc_77 hκ', p1, nc_78 hκ', ez, h0, if_true]
      · have hne : ¬ (a : Int) = 0 := by omega
        have eo : o = lsM cd8 (ftX X S K) := isMin_uniq (e3.2 (by omega)).1 (lsM_min _ _ (fun q => h0 (congrArg List.length q)))
        have e79 : D' 79 K = (lsM cd8 (ftX X S K) : Int) := by rw [(e2 (by omega)).1, eo]
        have hlt : lsM cd8 (ftX X S K) < 2097152 := by
          obtain ⟨⟨l, hl, el⟩, _⟩ := lsM_min cd8 (ftX X S K) (fun q => h0 (congrArg List.length q))
          have hpm := BG_in hX hS hl
          have y1 := cd8_lt (dg_perm (els_dg (son S)) hpm)
          have y2 : l.length ≤ 7 := by
            rw [hpm.length_eq]
            unfold els
            exact Nat.le_trans (List.length_filter_le _ _) (Nat.le_of_eq List.length_range)
          have y3 : 8 ^ l.length ≤ 8 ^ 7 := Nat.pow_le_pow_right (by decide) y2
          omega
        rw [show ((K : Int)).toNat = K from Int.toNat_natCast K, show ((I : Int)).toNat = I from Int.toNat_natCast I, if_neg h0]
        by_cases hb : (bcn (son S) 10 : Int) ≤ (I : Int)
        · rw [if_pos hb]
          simp (disch := omega) only [cond_true, cond_false, Bool.and_true, Bool.true_and, Bool.and_false, Bool.false_and, Int.toNat_natCast, Int.reduceToNat, bI_s, bJ_s, bV_s, bR_s, decide_true, decide_false, not_true_eq_false, not_false_eq_true, dT, dF, w_al, w_la, w_ab, w_sl, w_sb, w_dec, w_ml, w_lm, ol2i_n, aup_ne, aupE, aupJ, setc_self, setc_ne, hk0, hp, q1, kc_77 hκ', p1, nc_78 hκ', e1, hne, hk0', p07, sk_0 hκ is53, sp_1 hc is53, sk_1 hκ is53, sn_1 hκ is53, sp_2 hc is53, sk_2 hκ is53, sn_2 hκ is53, sp_3 hc is53, sk_3 hκ is53, sn_3 hκ is53, sp_4 hc is53, sk_4 hκ is53, sn_4 hκ is53, sk_0 hκ' is53, e53, ebc]
        · rw [if_neg hb]
          have e20 : cl xs (d + 8) 20 [.inl (lsM cd8 (ftX X S K) : Int), .inl ((bcn (son S) 10 : Nat) : Int), .inl (I : Int)] (κ', D') = some (some (.inl ((lsM cd8 (ftX X S K) / 2 ^ (3 * (bcn (son S) 10 - 1 - I)) % 8 : Nat) : Int)), (κ', D')) := by
            have b7 := bitsBelow_eq xs (d + 6) (κ', D') (n := 3) (by decide)
            have b7' : cl xs (d + 7) 126 [.inl 3] (κ', D') = some (some (.inl ((2 ^ 3 - 1 : Nat) : Int)), (κ', D')) := b7
            have w1 : w32 (3 * w32 (w32 (((bcn (son S) 10 : Nat) : Int) - 1) - (I : Int))) = ((3 * (bcn (son S) 10 - 1 - I) : Nat) : Int) := by
              rw [w32_id (x := ((bcn (son S) 10 : Nat) : Int) - 1) (by omega) (by omega), w32_id (x := ((bcn (son S) 10 : Nat) : Int) - 1 - (I : Int)) (by omega) (by omega), w32_id (by omega) (by omega)]
              omega
            rw [c_20, b7', bI_s, w1, oushr_nat (by omega) (by omega), oand_nat (Nat.lt_of_le_of_lt (Nat.div_le_self _ _) (by omega)) (by decide), Nat.and_two_pow_sub_one_eq_mod]
          simp (disch := omega) only [cond_true, cond_false, Bool.and_true, Bool.true_and, Bool.and_false, Bool.false_and, Int.toNat_natCast, Int.reduceToNat, bI_s, bJ_s, bV_s, bR_s, decide_true, decide_false, not_true_eq_false, not_false_eq_true, dT, dF, w_al, w_la, w_ab, w_sl, w_sb, w_dec, w_ml, w_lm, ol2i_n, aup_ne, aupE, aupJ, setc_self, setc_ne, hk0, hp, q1, kc_77 hκ', p1, nc_78 hκ', e1, hne, hk0', p07, sk_0 hκ' is53, e53, ebc, p2, nc_79 hκ', e79, e20]
    · rw [if_neg hi]
      refine ⟨κ, D, ?_, OrdQ.rfl' hO hc⟩
      rw [c_167]
      simp (disch := omega) only [cond_true, cond_false, Bool.and_true, Bool.true_and, Bool.and_false, Bool.false_and, Int.toNat_natCast, Int.reduceToNat, bI_s, bJ_s, bV_s, bR_s, decide_true, decide_false, not_true_eq_false, not_false_eq_true, dT, dF, w_al, w_la, w_ab, w_sl, w_sb, w_dec, w_ml, w_lm, ol2i_n, aup_ne, aupE, aupJ, setc_self, setc_ne, hk0, hp]
  · rw [if_neg h]
    rw [if_neg h] at hp
    refine ⟨κ, D, ?_, OrdQ.rfl' hO hc⟩
    rw [c_167]
    simp (disch := omega) only [cond_true, cond_false, Bool.and_true, Bool.true_and, Bool.and_false, Bool.false_and, Int.toNat_natCast, Int.reduceToNat, bI_s, bJ_s, bV_s, bR_s, decide_true, decide_false, not_true_eq_false, not_false_eq_true, dT, dF, w_al, w_la, w_ab, w_sl, w_sb, w_dec, w_ml, w_lm, ol2i_n, aup_ne, aupE, aupJ, setc_self, setc_ne, hk0, hp]
