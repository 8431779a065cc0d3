/-! Centuries: the class. -/
def mixd (h v : Int) : Int := oxor (w32 ((w32 ((oxor h v) * 1103515245)) + 12345)) (oushr (w32 ((w32 ((oxor h v) * 1103515245)) + 12345)) 15)
theorem oushr1_rng (x : Int) : 0 ≤ oushr x 1 ∧ oushr x 1 < 2147483648 := by
  have e : (((Int32.ofInt x).toUInt32 >>> ((Int32.ofInt 1).toUInt32 &&& Int32.toUInt32 31)).toInt32).toBitVec.toNat = (Int32.ofInt x).toUInt32.toNat / 2 := by
    show ((Int32.ofInt x).toUInt32 >>> ((Int32.ofNat 1).toUInt32 &&& Int32.toUInt32 31)).toNat = _
    rw [UInt32.toNat_shiftRight, sh_amtu32 (b := 1) (by decide), Nat.shiftRight_eq_div_pow]
  have hl := (Int32.ofInt x).toUInt32.toNat_lt
  have := i32_of_nat _ e (by omega)
  unfold oushr
  rw [this]
  omega
def lotX (X : TX) (c : Int) : Nat := (oushr (mixd (mixd (xseed X : Int) 31) c) 1).toNat % xns X
theorem lot_lt {X : TX} (h : 0 < xns X) (c : Int) : lotX X c < xns X := Nat.mod_lt _ h
theorem lot_eq {X : TX} (hX : TXok X) (h : 0 < xns X) (c : Int) : orem (oushr (mixd (mixd (xseed X : Int) 31) c) 1) (xns X : Int) = (lotX X c : Int) := by
  have hn := hX.1.1
  have := oushr1_rng (mixd (mixd (xseed X : Int) 31) c)
  unfold lotX
  rw [orem_i this.1 this.2 (by omega) (by omega)]
  revert this
  generalize oushr (mixd (mixd (xseed X : Int) 31) c) 1 = x
  intro this
  obtain ⟨n, rfl⟩ := Int.eq_ofNat_of_zero_le this.1
  rfl
def stoI (X : TX) (c : Int) : Int := if xns X = 0 then -1 else (lotX X c : Int)
theorem clot_eq (xs : List Int) (d : Nat) (h : aH) {X : TX} (hX : TXok X) (c : Int) : cl xs (d + 2) 82 [.inl (xns X : Int), .inl (xseed X : Int), .inl c] h = some (some (.inl (stoI X c)), h) := by
  have hn := hX.1.1
  have m : ∀ a b, cl xs (d + 1) 83 [.inl a, .inl b] h = some (some (.inl (mixd a b)), h) := fun a b => c_83 xs d a b h
  rw [c_82]
  unfold stoI
  by_cases h0 : xns X = 0
  · rw [if_pos h0]
    simp (disch := omega) only [cond_true, cond_false, Bool.and_true, Bool.true_and, Bool.and_false, Bool.false_and, Int.toNat_natCast, Int.reduceToNat, bI_s, bJ_s, bV_s, bR_s, decide_true, decide_false, not_true_eq_false, not_false_eq_true, dT, dF, w_al, w_la, w_ab, w_sl, w_sb, w_dec, w_ml, w_lm, ol2i_n, aup_ne, aupE, aupJ, setc_self, setc_ne, m]
  · rw [if_neg h0]
    simp (disch := omega) only [cond_true, cond_false, Bool.and_true, Bool.true_and, Bool.and_false, Bool.false_and, Int.toNat_natCast, Int.reduceToNat, bI_s, bJ_s, bV_s, bR_s, decide_true, decide_false, not_true_eq_false, not_false_eq_true, dT, dF, w_al, w_la, w_ab, w_sl, w_sb, w_dec, w_ml, w_lm, ol2i_n, aup_ne, aupE, aupJ, setc_self, setc_ne, m]
    rw [lot_eq hX (by omega)]
theorem rlot_eq (xs : List Int) (d : Nat) (h : aH) {X : TX} (hX : TXok X) (h0 : 0 < xns X) (c : Int) : cl xs (d + 2) 271 [.inl (xseed X : Int), .inl c, .inl (xns X : Int)] h = some (some (.inl (lotX X c : Int)), h) := by
  have hn := hX.1.1
  have m : ∀ a b, cl xs (d + 1) 270 [.inl a, .inl b] h = some (some (.inl (mixd a b)), h) := fun a b => c_270 xs d a b h
  rw [c_271]
  simp (disch := omega) only [cond_true, cond_false, Bool.and_true, Bool.true_and, Bool.and_false, Bool.false_and, Int.toNat_natCast, Int.reduceToNat, bI_s, bJ_s, bV_s, bR_s, decide_true, decide_false, not_true_eq_false, not_false_eq_true, dT, dF, w_al, w_la, w_ab, w_sl, w_sb, w_dec, w_ml, w_lm, ol2i_n, aup_ne, aupE, aupJ, setc_self, setc_ne, m]
  rw [lot_eq hX (by omega)]
theorem takeN (xs : List Int) (d : Nat) (h : aH) (r w : Int) : cl xs (d + 1) 86 [.inr (.inr r), .inl (-1), .inr (.inl w)] h = some (some (.inr (.inl w)), h) := by
  rw [c_86]
  simp (disch := omega) only [cond_true, cond_false, Bool.and_true, Bool.true_and, Bool.and_false, Bool.false_and, Int.toNat_natCast, Int.reduceToNat, bI_s, bJ_s, bV_s, bR_s, decide_true, decide_false, not_true_eq_false, not_false_eq_true, dT, dF, w_al, w_la, w_ab, w_sl, w_sb, w_dec, w_ml, w_lm, ol2i_n, aup_ne, aupE, aupJ, setc_self, setc_ne]
/-- a word that a century's lot takes -/
def lotW (X : TX) (c : Int) (l : List Nat) : List Nat := if xns X = 0 then l else tkX X (lotX X c) l
theorem lotW_wok {X : TX} (hX : TXok X) (c : Int) {l : List Nat} (hl : wok l) : wok (lotW X c l) := by
  unfold lotW
  split
  · exact hl
  · exact tkX_wok hX (lot_lt (by omega) c) hl
theorem takeLot (xs : List Int) (d : Nat) {κ : aK} {D : Nat → Nat → Int} (hκ : Shp κ) (hc : CPtr D) {t : Nat} (ht : isT t) (h5 : D 0 5 = (t : Int)) {X : TX} (hX : TXok X) (hx : TxC D t X) (c : Int) {l : List Nat} (hl : wok l) : cl xs (d + 2) 86 [.inr (.inr ((t + 3 : Nat) : Int)), .inl (stoI X c), .inr (.inl (p32 l : Int))] (κ, D) = some (some (.inr (.inl (p32 (lotW X c l) : Int))), (κ, D)) := by
  unfold stoI lotW
  by_cases h0 : xns X = 0
  · rw [if_pos h0, if_pos h0, takeN]
  · rw [if_neg h0, if_neg h0]
    exact takeX xs d hκ hc ht h5 hX hx (lot_lt (by omega) c) hl
def cenW (X : TX) (S : ST) (w : Nat) : List Nat := if sFt S w = 0 then lotW X (sCent S) (sW S w) else sW S w
def smA (W : Nat → List Nat) (F : Nat → Nat) (w : Nat) : Nat → Nat → Bool
  | 0, _ => false
  | m + 1, k => if F k = 0 ∧ W k = W w then true else smA W F w m (k + 1)
def dieF (W : Nat → List Nat) (F : Nat → Nat) : Nat → Nat → Nat
  | 0 => F
  | n + 1 => if dieF W F n n = 0 ∧ (W n = [] ∨ smA W (dieF W F n) n n 0 = true) then (fun i => if i = n then 2 else dieF W F n i) else dieF W F n
def cenS (X : TX) (S : ST) : ST := (son S, sord S, cenW X S, dieF (cenW X S) (sFt S) (xnw X), sStk S, sSold S, w32 (sCent S + 1), sCoin S, sDust S)
def cenN (X : TX) : Nat → ST → ST
  | 0, S => S
  | n + 1, S => cenN X n (cenS X S)
theorem dieF_cases (W : Nat → List Nat) (F : Nat → Nat) : ∀ n i, dieF W F n i = F i ∨ (F i = 0 ∧ dieF W F n i = 2)
  | 0, i => Or.inl rfl
  | n + 1, i => by
    have ih := dieF_cases W F n i
    unfold dieF
    split
    · rename_i hc
      show (if i = n then 2 else dieF W F n i) = F i ∨ (F i = 0 ∧ (if i = n then 2 else dieF W F n i) = 2)
      by_cases hi : i = n
      · subst hi
        rw [if_pos rfl]
        rcases ih with h | h
        · right; exact ⟨by omega, rfl⟩
        · right; exact ⟨h.1, rfl⟩
      · rw [if_neg hi]; exact ih
    · exact ih
theorem cntF_congr {F G : Nat → Nat} {f : Nat} : ∀ n, (∀ i, i < n → (F i = f ↔ G i = f)) → cntF F f n = cntF G f n
  | 0, _ => rfl
  | n + 1, h => by
    unfold cntF
    rw [cntF_congr n (fun i hi => h i (by omega))]
    have := h n (by omega)
    by_cases hf : F n = f
    · rw [if_pos hf, if_pos (this.mp hf)]
    · rw [if_neg hf, if_neg (fun q => hf (this.mpr q))]
theorem cen_ok {X : TX} {S : ST} (hX : TXok X) (hS : STok X S) : STok X (cenS X S) := by
  obtain ⟨s1, s2, s3, s4, s5, s6, s7, s8, s9, s10⟩ := hS
  have hd := dieF_cases (cenW X S) (sFt S) (xnw X)
  have hc : cntF (dieF (cenW X S) (sFt S) (xnw X)) 1 (xnw X) = cntF (sFt S) 1 (xnw X) := cntF_congr _ (fun i _ => by have := hd i; omega)
  refine ⟨s1, s2, s3, fun w hw => ⟨?_, ?_⟩, fun i hi => ?_, s6, w32_w32 _, s8, s9, s10⟩
  · show wok (cenW X S w)
    unfold cenW
    split
    · exact lotW_wok hX _ (s4 w hw).1
    · exact (s4 w hw).1
  · show dieF (cenW X S) (sFt S) (xnw X) w ≤ 2
    have := hd w
    have := (s4 w hw).2
    omega
  · show sStk S i ≤ 2 * cntF (dieF (cenW X S) (sFt S) (xnw X)) 1 (xnw X)
    rw [hc]
    exact s5 i hi
theorem cenN_ok {X : TX} (hX : TXok X) : ∀ (n : Nat) {S : ST}, STok X S → STok X (cenN X n S)
  | 0, _, h => h
  | n + 1, _, h => cenN_ok hX n (cen_ok hX h)
theorem asAhead_loop (xs : List Int) (d : Nat) {κ : aK} {D : Nat → Nat → Int} (hκ : Shp κ) (hc : CPtr D) {c : Nat} (hcs : isS c) {W : Nat → List Nat} {F : Nat → Nat} {w : Nat} (hw : w < 10) (hW : ∀ i, i ≤ w → D (c + 2) i = (p32 (W i) : Int) ∧ wok (W i)) (hF : ∀ i, i ≤ w → D (c + 3) i = (F i : Int)) : ∀ (m k : Nat), k + m = w → ev xs d mm_81 2 [some (.inr (.inr (c : Int))), some (.inl (w : Int)), some (.inl (k : Int))] [] (κ, D) = some (some (.inl (if smA W F w m k = true then 1 else 0)), (κ, D)) := by
  intro m
  induction m with
  | zero =>
    intro k h
    rw [q_81_2]
    simp (disch := omega) only [cond_true, cond_false, Bool.and_true, Bool.true_and, Bool.and_false, Bool.false_and, Int.toNat_natCast, Int.reduceToNat, bI_s, bJ_s, bV_s, bR_s, decide_true, decide_false, not_true_eq_false, not_false_eq_true, dT, dF, w_al, w_la, w_ab, w_sl, w_sb, w_dec, w_ml, w_lm, ol2i_n, aup_ne, aupE, aupJ, setc_self, setc_ne]
    rfl
  | succ m ih =>
    intro k h
    obtain ⟨e1, k1⟩ := hW k (by omega)
    obtain ⟨e2, k2⟩ := hW w (by omega)
    have e3 := hF k (by omega)
    rw [q_81_2]
    unfold smA
    by_cases he : W k = W w
    · by_cases hf : F k = 0
      · rw [if_pos (show F k = 0 ∧ W k = W w from ⟨hf, he⟩)]
        simp (disch := omega) only [cond_true, cond_false, Bool.and_true, Bool.true_and, Bool.and_false, Bool.false_and, Int.toNat_natCast, Int.reduceToNat, bI_s, bJ_s, bV_s, bR_s, decide_true, decide_false, not_true_eq_false, not_false_eq_true, dT, dF, w_al, w_la, w_ab, w_sl, w_sb, w_dec, w_ml, w_lm, ol2i_n, aup_ne, aupE, aupJ, setc_self, setc_ne, sk_0 hκ hcs, sp_1 hc hcs, sk_1 hκ hcs, sn_1 hκ hcs, sp_2 hc hcs, sk_2 hκ hcs, sn_2 hκ hcs, sp_3 hc hcs, sk_3 hκ hcs, sn_3 hκ hcs, sp_4 hc hcs, sk_4 hκ hcs, sn_4 hκ hcs, e1, e2, e3, olcmp_eq, he, hf]
        rfl
      · rw [if_neg (show ¬ (F k = 0 ∧ W k = W w) from fun q => hf q.1)]
        simp (disch := omega) only [cond_true, cond_false, Bool.and_true, Bool.true_and, Bool.and_false, Bool.false_and, Int.toNat_natCast, Int.reduceToNat, bI_s, bJ_s, bV_s, bR_s, decide_true, decide_false, not_true_eq_false, not_false_eq_true, dT, dF, w_al, w_la, w_ab, w_sl, w_sb, w_dec, w_ml, w_lm, ol2i_n, aup_ne, aupE, aupJ, setc_self, setc_ne, sk_0 hκ hcs, sp_1 hc hcs, sk_1 hκ hcs, sn_1 hκ hcs, sp_2 hc hcs, sk_2 hκ hcs, sn_2 hκ hcs, sp_3 hc hcs, sk_3 hκ hcs, sn_3 hκ hcs, sp_4 hc hcs, sk_4 hκ hcs, sn_4 hκ hcs, e1, e2, e3, olcmp_eq, he, ih (k + 1) (by omega)]
    · have hne := p32_ne k1.1 k2.1 he
      rw [if_neg (show ¬ (F k = 0 ∧ W k = W w) from fun q => he q.2)]
      simp (disch := omega) only [cond_true, cond_false, Bool.and_true, Bool.true_and, Bool.and_false, Bool.false_and, Int.toNat_natCast, Int.reduceToNat, bI_s, bJ_s, bV_s, bR_s, decide_true, decide_false, not_true_eq_false, not_false_eq_true, dT, dF, w_al, w_la, w_ab, w_sl, w_sb, w_dec, w_ml, w_lm, ol2i_n, aup_ne, aupE, aupJ, setc_self, setc_ne, sk_0 hκ hcs, sp_1 hc hcs, sk_1 hκ hcs, sn_1 hκ hcs, sp_2 hc hcs, sk_2 hκ hcs, sn_2 hκ hcs, sp_3 hc hcs, sk_3 hκ hcs, sn_3 hκ hcs, sp_4 hc hcs, sk_4 hκ hcs, sn_4 hκ hcs, e1, e2, e3, olcmp_eq, ih (k + 1) (by omega)]
theorem pass2_loop (xs : List Int) (d : Nat) {κ : aK} {D : Nat → Nat → Int} (hκ : Shp κ) (hc : CPtr D) {c : Nat} (hcs : isS c) {t : Nat} (ht : isT t) {nw : Nat} (h5 : D t 5 = (nw : Int)) (hn : nw ≤ 10) {W : Nat → List Nat} {F : Nat → Nat} (hW : ∀ i, i < nw → D (c + 2) i = (p32 (W i) : Int) ∧ wok (W i)) (v2 : Int) : ∀ (m k : Nat) (g : Nat → Int), k + m = nw → (∀ i, i < nw → g i = (dieF W F k i : Int)) → ∃ g' : Nat → Int, (∀ i, i < nw → g' i = (dieF W F nw i : Int)) ∧ ev xs (d + 1) mm_80 66 [some (.inr (.inr (c : Int))), some (.inr (.inr (t : Int))), some (.inl v2), some (.inl (k : Int))] [] (κ, setc D (c + 3) g) = some (none, (κ, aup (setc D (c + 3) g') c 7 (w32 (D c 7 + 1)))) := by
  have ht' : t = 9 ∨ t = 31 := ht
  have hlt := isS_lt hcs
  intro m
  induction m with
  | zero =>
    intro k g h hg
    refine ⟨g, fun i hi => by rw [hg i hi, show k = nw by omega], ?_⟩
    rw [q_80_66]
    simp (disch := omega) only [cond_true, cond_false, Bool.and_true, Bool.true_and, Bool.and_false, Bool.false_and, Int.toNat_natCast, Int.reduceToNat, bI_s, bJ_s, bV_s, bR_s, decide_true, decide_false, not_true_eq_false, not_false_eq_true, dT, dF, w_al, w_la, w_ab, w_sl, w_sb, w_dec, w_ml, w_lm, ol2i_n, aup_ne, aupE, aupJ, setc_self, setc_ne, sk_0 hκ hcs, sp_1 hc hcs, sk_1 hκ hcs, sn_1 hκ hcs, sp_2 hc hcs, sk_2 hκ hcs, sn_2 hκ hcs, sp_3 hc hcs, sk_3 hκ hcs, sn_3 hκ hcs, sp_4 hc hcs, sk_4 hκ hcs, sn_4 hκ hcs, tk_0 hκ ht, tk_1 hκ ht, tn_1 hκ ht, tk_2 hκ ht, tn_2 hκ ht, tk_3 hκ ht, tk_4 hκ ht, tn_4 hκ ht, tk_5 hκ ht, tn_5 hκ ht, tk_6 hκ ht, tn_6 hκ ht, tk_7 hκ ht, tn_7 hκ ht, tk_8 hκ ht, tk_9 hκ ht, tn_9 hκ ht, tk_10 hκ ht, tn_10 hκ ht, tk_11 hκ ht, tn_11 hκ ht, tk_12 hκ ht, tn_12 hκ ht, tk_13 hκ ht, tn_13 hκ ht, tk_14 hκ ht, tn_14 hκ ht, tk_15 hκ ht, tn_15 hκ ht, tk_16 hκ ht, tn_16 hκ ht, tk_17 hκ ht, tn_17 hκ ht, tk_18 hκ ht, tk_19 hκ ht, tn_19 hκ ht, tk_20 hκ ht, tn_20 hκ ht, tk_21 hκ ht, tn_21 hκ ht, h5]
  | succ m ih =>
    intro k g h hg
    have hgk := hg k (by omega)
    have e1 := (hW k (by omega))
    have hc' : CPtr (setc D (c + 3) g) := hc.setc (isS_c hcs).2.2.1 g
    have aa := asAhead_loop xs d hκ hc' hcs (W := W) (F := dieF W F k) (w := k) (by omega) (fun i hi => by rw [setc_ne (by omega)]; exact hW i (by omega)) (fun i hi => by rw [setc_self]; exact hg i (by omega)) k 0 (by omega)
    have keep : ¬ (dieF W F k k = 0 ∧ (W k = [] ∨ smA W (dieF W F k) k k 0 = true)) → (∀ i, i < nw → g i = (dieF W F (k + 1) i : Int)) := fun hp i hi => by
      rw [hg i hi]
      show _ = ((if dieF W F k k = 0 ∧ (W k = [] ∨ smA W (dieF W F k) k k 0 = true) then (fun i => if i = k then 2 else dieF W F k i) else dieF W F k) i : Int)
      rw [if_neg hp]
    have kill : (dieF W F k k = 0 ∧ (W k = [] ∨ smA W (dieF W F k) k k 0 = true)) → (∀ i, i < nw → (if i = k then (2 : Int) else g i) = (dieF W F (k + 1) i : Int)) := fun hp i hi => by
      rw [hg i hi]
      show _ = (((if dieF W F k k = 0 ∧ (W k = [] ∨ smA W (dieF W F k) k k 0 = true) then (fun i => if i = k then 2 else dieF W F k i) else dieF W F k) i : Nat) : Int)
      rw [if_pos hp]
      split <;> simp_all
    rw [q_80_66]
    by_cases hf : dieF W F k k = 0
    · by_cases hw0 : W k = []
      · have e0 : p32 (W k) = 0 := by rw [hw0]; rfl
        obtain ⟨g', hg', e⟩ := ih (k + 1) (fun j => if j = k then 2 else g j) (by omega) (kill ⟨hf, Or.inl hw0⟩)
        refine ⟨g', hg', ?_⟩
        simp (disch := omega) only [cond_true, cond_false, Bool.and_true, Bool.true_and, Bool.and_false, Bool.false_and, Int.toNat_natCast, Int.reduceToNat, bI_s, bJ_s, bV_s, bR_s, decide_true, decide_false, not_true_eq_false, not_false_eq_true, dT, dF, w_al, w_la, w_ab, w_sl, w_sb, w_dec, w_ml, w_lm, ol2i_n, aup_ne, aupE, aupJ, setc_self, setc_ne, sk_0 hκ hcs, sp_1 hc hcs, sk_1 hκ hcs, sn_1 hκ hcs, sp_2 hc hcs, sk_2 hκ hcs, sn_2 hκ hcs, sp_3 hc hcs, sk_3 hκ hcs, sn_3 hκ hcs, sp_4 hc hcs, sk_4 hκ hcs, sn_4 hκ hcs, tk_0 hκ ht, tk_1 hκ ht, tn_1 hκ ht, tk_2 hκ ht, tn_2 hκ ht, tk_3 hκ ht, tk_4 hκ ht, tn_4 hκ ht, tk_5 hκ ht, tn_5 hκ ht, tk_6 hκ ht, tn_6 hκ ht, tk_7 hκ ht, tn_7 hκ ht, tk_8 hκ ht, tk_9 hκ ht, tn_9 hκ ht, tk_10 hκ ht, tn_10 hκ ht, tk_11 hκ ht, tn_11 hκ ht, tk_12 hκ ht, tn_12 hκ ht, tk_13 hκ ht, tn_13 hκ ht, tk_14 hκ ht, tn_14 hκ ht, tk_15 hκ ht, tn_15 hκ ht, tk_16 hκ ht, tn_16 hκ ht, tk_17 hκ ht, tn_17 hκ ht, tk_18 hκ ht, tk_19 hκ ht, tn_19 hκ ht, tk_20 hκ ht, tn_20 hκ ht, tk_21 hκ ht, tn_21 hκ ht, h5, hgk, hf, e1.1, olcmp_eq, aup_setc, e]
      · have e0 := p32_nz e1.2.1 hw0
        by_cases hs : smA W (dieF W F k) k k 0 = true
        · obtain ⟨g', hg', e⟩ := ih (k + 1) (fun j => if j = k then 2 else g j) (by omega) (kill ⟨hf, Or.inr hs⟩)
          refine ⟨g', hg', ?_⟩
          rw [if_pos hs] at aa
          simp (disch := omega) only [cond_true, cond_false, Bool.and_true, Bool.true_and, Bool.and_false, Bool.false_and, Int.toNat_natCast, Int.reduceToNat, bI_s, bJ_s, bV_s, bR_s, decide_true, decide_false, not_true_eq_false, not_false_eq_true, dT, dF, w_al, w_la, w_ab, w_sl, w_sb, w_dec, w_ml, w_lm, ol2i_n, aup_ne, aupE, aupJ, setc_self, setc_ne, sk_0 hκ hcs, sp_1 hc hcs, sk_1 hκ hcs, sn_1 hκ hcs, sp_2 hc hcs, sk_2 hκ hcs, sn_2 hκ hcs, sp_3 hc hcs, sk_3 hκ hcs, sn_3 hκ hcs, sp_4 hc hcs, sk_4 hκ hcs, sn_4 hκ hcs, tk_0 hκ ht, tk_1 hκ ht, tn_1 hκ ht, tk_2 hκ ht, tn_2 hκ ht, tk_3 hκ ht, tk_4 hκ ht, tn_4 hκ ht, tk_5 hκ ht, tn_5 hκ ht, tk_6 hκ ht, tn_6 hκ ht, tk_7 hκ ht, tn_7 hκ ht, tk_8 hκ ht, tk_9 hκ ht, tn_9 hκ ht, tk_10 hκ ht, tn_10 hκ ht, tk_11 hκ ht, tn_11 hκ ht, tk_12 hκ ht, tn_12 hκ ht, tk_13 hκ ht, tn_13 hκ ht, tk_14 hκ ht, tn_14 hκ ht, tk_15 hκ ht, tn_15 hκ ht, tk_16 hκ ht, tn_16 hκ ht, tk_17 hκ ht, tn_17 hκ ht, tk_18 hκ ht, tk_19 hκ ht, tn_19 hκ ht, tk_20 hκ ht, tn_20 hκ ht, tk_21 hκ ht, tn_21 hκ ht, h5, hgk, hf, e1.1, olcmp_eq, c_81]
          simp (disch := omega) only [cond_true, cond_false, Bool.and_true, Bool.true_and, Bool.and_false, Bool.false_and, Int.toNat_natCast, Int.reduceToNat, bI_s, bJ_s, bV_s, bR_s, decide_true, decide_false, not_true_eq_false, not_false_eq_true, dT, dF, w_al, w_la, w_ab, w_sl, w_sb, w_dec, w_ml, w_lm, ol2i_n, aup_ne, aupE, aupJ, setc_self, setc_ne, sk_0 hκ hcs, sp_1 hc hcs, sk_1 hκ hcs, sn_1 hκ hcs, sp_2 hc hcs, sk_2 hκ hcs, sn_2 hκ hcs, sp_3 hc hcs, sk_3 hκ hcs, sn_3 hκ hcs, sp_4 hc hcs, sk_4 hκ hcs, sn_4 hκ hcs, (show ev xs d mm_81 2 [some (.inr (.inr (c : Int))), some (.inl (k : Int)), some (.inl 0)] [] (κ, setc D (c + 3) g) = _ from aa), aup_setc, e]
        · obtain ⟨g', hg', e⟩ := ih (k + 1) g (by omega) (keep (fun q => by rcases q.2 with h | h; exact hw0 h; exact hs h))
          refine ⟨g', hg', ?_⟩
          rw [if_neg hs] at aa
          simp (disch := omega) only [cond_true, cond_false, Bool.and_true, Bool.true_and, Bool.and_false, Bool.false_and, Int.toNat_natCast, Int.reduceToNat, bI_s, bJ_s, bV_s, bR_s, decide_true, decide_false, not_true_eq_false, not_false_eq_true, dT, dF, w_al, w_la, w_ab, w_sl, w_sb, w_dec, w_ml, w_lm, ol2i_n, aup_ne, aupE, aupJ, setc_self, setc_ne, sk_0 hκ hcs, sp_1 hc hcs, sk_1 hκ hcs, sn_1 hκ hcs, sp_2 hc hcs, sk_2 hκ hcs, sn_2 hκ hcs, sp_3 hc hcs, sk_3 hκ hcs, sn_3 hκ hcs, sp_4 hc hcs, sk_4 hκ hcs, sn_4 hκ hcs, tk_0 hκ ht, tk_1 hκ ht, tn_1 hκ ht, tk_2 hκ ht, tn_2 hκ ht, tk_3 hκ ht, tk_4 hκ ht, tn_4 hκ ht, tk_5 hκ ht, tn_5 hκ ht, tk_6 hκ ht, tn_6 hκ ht, tk_7 hκ ht, tn_7 hκ ht, tk_8 hκ ht, tk_9 hκ ht, tn_9 hκ ht, tk_10 hκ ht, tn_10 hκ ht, tk_11 hκ ht, tn_11 hκ ht, tk_12 hκ ht, tn_12 hκ ht, tk_13 hκ ht, tn_13 hκ ht, tk_14 hκ ht, tn_14 hκ ht, tk_15 hκ ht, tn_15 hκ ht, tk_16 hκ ht, tn_16 hκ ht, tk_17 hκ ht, tn_17 hκ ht, tk_18 hκ ht, tk_19 hκ ht, tn_19 hκ ht, tk_20 hκ ht, tn_20 hκ ht, tk_21 hκ ht, tn_21 hκ ht, h5, hgk, hf, e1.1, olcmp_eq, c_81]
          simp (disch := omega) only [cond_true, cond_false, Bool.and_true, Bool.true_and, Bool.and_false, Bool.false_and, Int.toNat_natCast, Int.reduceToNat, bI_s, bJ_s, bV_s, bR_s, decide_true, decide_false, not_true_eq_false, not_false_eq_true, dT, dF, w_al, w_la, w_ab, w_sl, w_sb, w_dec, w_ml, w_lm, ol2i_n, aup_ne, aupE, aupJ, setc_self, setc_ne, sk_0 hκ hcs, sp_1 hc hcs, sk_1 hκ hcs, sn_1 hκ hcs, sp_2 hc hcs, sk_2 hκ hcs, sn_2 hκ hcs, sp_3 hc hcs, sk_3 hκ hcs, sn_3 hκ hcs, sp_4 hc hcs, sk_4 hκ hcs, sn_4 hκ hcs, (show ev xs d mm_81 2 [some (.inr (.inr (c : Int))), some (.inl (k : Int)), some (.inl 0)] [] (κ, setc D (c + 3) g) = _ from aa), e]
    · obtain ⟨g', hg', e⟩ := ih (k + 1) g (by omega) (keep (fun q => hf q.1))
      refine ⟨g', hg', ?_⟩
      simp (disch := omega) only [cond_true, cond_false, Bool.and_true, Bool.true_and, Bool.and_false, Bool.false_and, Int.toNat_natCast, Int.reduceToNat, bI_s, bJ_s, bV_s, bR_s, decide_true, decide_false, not_true_eq_false, not_false_eq_true, dT, dF, w_al, w_la, w_ab, w_sl, w_sb, w_dec, w_ml, w_lm, ol2i_n, aup_ne, aupE, aupJ, setc_self, setc_ne, sk_0 hκ hcs, sp_1 hc hcs, sk_1 hκ hcs, sn_1 hκ hcs, sp_2 hc hcs, sk_2 hκ hcs, sn_2 hκ hcs, sp_3 hc hcs, sk_3 hκ hcs, sn_3 hκ hcs, sp_4 hc hcs, sk_4 hκ hcs, sn_4 hκ hcs, tk_0 hκ ht, tk_1 hκ ht, tn_1 hκ ht, tk_2 hκ ht, tn_2 hκ ht, tk_3 hκ ht, tk_4 hκ ht, tn_4 hκ ht, tk_5 hκ ht, tn_5 hκ ht, tk_6 hκ ht, tn_6 hκ ht, tk_7 hκ ht, tn_7 hκ ht, tk_8 hκ ht, tk_9 hκ ht, tn_9 hκ ht, tk_10 hκ ht, tn_10 hκ ht, tk_11 hκ ht, tn_11 hκ ht, tk_12 hκ ht, tn_12 hκ ht, tk_13 hκ ht, tn_13 hκ ht, tk_14 hκ ht, tn_14 hκ ht, tk_15 hκ ht, tn_15 hκ ht, tk_16 hκ ht, tn_16 hκ ht, tk_17 hκ ht, tn_17 hκ ht, tk_18 hκ ht, tk_19 hκ ht, tn_19 hκ ht, tk_20 hκ ht, tn_20 hκ ht, tk_21 hκ ht, tn_21 hκ ht, h5, hgk, e]
