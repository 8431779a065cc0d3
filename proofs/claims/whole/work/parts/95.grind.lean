/-! grind: by itself; the class takes a word apart. -/
def endsY (y : WY) : Nat := (if y.2.2.1 = 0 then 0 else 1) + (if y.2.2.2 = 0 then 0 else 1)
def headsY (y : WY) : Nat := if y.1 = 0 then 0 else 1
def tnP (X : TX) (s k : Nat) : Nat := if k = 0 then 0 else xPT X (8 * s + (k - 1))
def tonsY (X : TX) (y : WY) : Nat := tnP X 2 y.1 + tnP X 0 y.2.1 + tnP X 1 y.2.2.1 + tnP X 1 y.2.2.2
theorem tnP_le {X : TX} (hX : TXok X) {s k : Nat} (hs : s < 3) (hk : k ≤ xnp X s) : tnP X s k ≤ 9 := by
  unfold tnP
  split
  · omega
  · exact ((hX.2.2.1 s hs).2 (k - 1) (by omega)).2.2.2.1
def vV (X : TX) (S : ST) (a b c e : Nat) (i : Nat) : Int := if i = 0 then (a : Int) else if i = 1 then (b : Int) else if i = 2 then (c : Int) else if i = 3 then (e : Int) else if i = 4 then (cntF (sFt S) 1 (xnw X) : Int) else (cntF (sFt S) 0 (xnw X) : Int)
def gN (X : TX) (S : ST) (w : Nat) : List Nat := rbX X (sord S) (son S) 7 (sW S w)
def gY (X : TX) (S : ST) (w : Nat) : Option WY := (mkL X (gN X S w)).head?
def gVar (X : TX) (S : ST) (w : Nat) : Nat → Int := match gY X S w with
  | some y => vV X S (endsY y) (headsY y) (tonsY X y) 0
  | none => vV X S 0 0 0 (gN X S w).length
def clp (x : Int) : Int := if x < 0 then 0 else if 999 < x then 999 else x
def gCoin (X : TX) (S : ST) (w : Nat) : Int := clp (xlaw X (gVar X S w))
def gStk (X : TX) (S : ST) (w : Nat) (i : Nat) : Nat := match gY X S w with
  | some y => sStk S i + cY y i
  | none => sStk S i
def gDust (X : TX) (S : ST) (w : Nat) : Nat := match gY X S w with
  | some _ => 0
  | none => (gN X S w).length
def grS (X : TX) (S : ST) (w : Nat) : ST := (son S, sord S, sW S, (fun i => if i = w then 1 else sFt S i), gStk X S w, sSold S, sCent S, w32 (sCoin S + gCoin X S w), w32 (sDust S + (gDust X S w : Int)))
theorem gY_wvd {X : TX} {S : ST} {w : Nat} {y : WY} (h : gY X S w = some y) : wvd X y := mkL_wvd (List.mem_of_mem_head? h)
theorem cY_le2 {X : TX} (hX : TXok X) {y : WY} (hy : wvd X y) (i : Nat) : cY y i ≤ 2 := by
  obtain ⟨y1, ⟨y2, y2'⟩, y3, y4⟩ := hy
  have n0 := xnp_le hX (s := 0) (by decide)
  have n1 : xnp X 1 ≤ 6 := (hX.2.2.1 1 (by decide)).1
  unfold cY
  (repeat' split) <;> omega
theorem cY_zero {X : TX} (hX : TXok X) {y : WY} (hy : wvd X y) {s k : Nat} (hs : s < 3) (hk : k < 8) (hx : xnp X s ≤ k) : cY y (8 * s + k) = 0 := by
  obtain ⟨y1, ⟨y2, y2'⟩, y3, y4⟩ := hy
  have n0 := xnp_le hX (s := 0) (by decide)
  have n1 : xnp X 1 ≤ 6 := (hX.2.2.1 1 (by decide)).1
  have n2 : xnp X 2 ≤ 4 := (hX.2.2.1 2 (by decide)).1
  have hs' : s = 0 ∨ s = 1 ∨ s = 2 := by omega
  unfold cY
  rcases hs' with rfl | rfl | rfl <;> ((repeat' split) <;> omega)
theorem cntF_set {F : Nat → Nat} {w : Nat} (h0 : F w = 0) : ∀ n, cntF (fun i => if i = w then 1 else F i) 1 n = cntF F 1 n + (if w < n then 1 else 0)
  | 0 => rfl
  | n + 1 => by
    have ih := cntF_set h0 n
    show cntF (fun i => if i = w then 1 else F i) 1 n + (if (if n = w then 1 else F n) = 1 then 1 else 0) = cntF F 1 n + (if F n = 1 then 1 else 0) + _
    rw [ih]
    by_cases hw : n = w
    · subst hw
      rw [if_pos rfl, if_pos rfl, if_neg (show ¬ n < n by omega), if_neg (by omega), if_pos (by omega)]
    · rw [if_neg hw]
      by_cases h2 : w < n
      · rw [if_pos h2, if_pos (show w < n + 1 by omega)]
        omega
      · rw [if_neg h2, if_neg (show ¬ w < n + 1 by omega)]
        omega
theorem grnd_ok {X : TX} {S : ST} (hX : TXok X) (hS : STok X S) {w : Nat} (hw : w < xnw X) (h0 : sFt S w = 0) : STok X (grS X S w) := by
  obtain ⟨s1, s2, s3, s4, s5, s6, s7, s8, s9, s10⟩ := hS
  refine ⟨s1, s2, s3, fun i hi => ⟨(s4 i hi).1, ?_⟩, fun i hi => ?_, s6, s7, w32_w32 _, w32_w32 _, fun s hs k hk hx => ?_⟩
  · show (if i = w then 1 else sFt S i) ≤ 2
    have := (s4 i hi).2
    split <;> omega
  · show gStk X S w i ≤ 2 * cntF (fun i => if i = w then 1 else sFt S i) 1 (xnw X)
    rw [cntF_set h0, if_pos hw]
    have := s5 i hi
    unfold gStk
    split
    · rename_i y hy
      have := cY_le2 hX (gY_wvd hy) i
      omega
    · omega
  · show gStk X S w (8 * s + k) = 0
    have := s10 s hs k hk hx
    unfold gStk
    split
    · rename_i y hy
      rw [this, cY_zero hX (gY_wvd hy) hs hk hx]
    · exact this
/-- the class's law, by what it does -/
def LawC (κ : aK) (D : Nat → Nat → Int) (t : Nat) (X : TX) : Prop := ∀ (xs : List Int) (d : Nat) (D' : Nat → Nat → Int) (V : Nat → Int), CPtr D' → D' (t + 20) = D (t + 20) → D' (t + 21) = D (t + 21) → D' (t + 18) 1 = D (t + 18) 1 → (∀ i, i < 6 → D' (t + 19) i = V i ∧ 0 ≤ V i ∧ V i ≤ 1000) → ∃ D'', cl xs (d + 40) 3 [.inr (.inr ((t + 18 : Nat) : Int))] (κ, D') = some (some (.inl (xlaw X V)), (κ, D'')) ∧ CPtr D'' ∧ (∀ q, q ≠ t + 18 → D'' q = D' q) ∧ (∀ j, j ≠ 4 → j ≠ 5 → D'' (t + 18) j = D' (t + 18) j)
/-- the reference's law, by what it does -/
def LawR (κ : aK) (D : Nat → Nat → Int) (v : Nat) (X : TX) : Prop := ∀ (xs : List Int) (d : Nat) (D' : Nat → Nat → Int) (V : Nat → Int), PtrR D' → D' 256 18 = (v : Int) → (∀ q, 289 ≤ q → q ≤ 297 → D' q = D q) → (∀ i, i < 6 → D' 299 i = V i ∧ 0 ≤ V i ∧ V i ≤ 1000) → ∃ D'', cl xs (d + 40) 261 [.inr (.inr 256)] (κ, D') = some (some (.inl (xlaw X V)), (κ, D'')) ∧ (∀ q, q ≠ 256 → q ≠ 300 → D'' q = D' q) ∧ (∀ j, j ≠ 62 → D'' 256 j = D' 256 j)
set_option maxRecDepth 100000 in
theorem pd_law : ptrc 28 = false ∧ ptrc 50 = false ∧ ptrc 57 = false ∧ ptrc 56 = false := by decide
theorem pd_var {t : Nat} (ht : isT t) : ptrc (t + 19) = false := by
  rcases ht with rfl | rfl
  · exact pd_law.1
  · exact pd_law.2.1
/-- one figure of a code -/
theorem ta_digit (xs : List Int) (d : Nat) {κ : aK} {D : Nat → Nat → Int} (hκ : Shp κ) (hc : CPtr D) {t : Nat} (ht : isT t) (h5 : D 0 5 = (t : Int)) {X : TX} (hX : TXok X) (hP : PcC D t X) {y : WY} (hy : wvd X y) {k : Nat} (hk : k < 4) {s q : Nat → Int} {U : Nat → Nat} {a b c : Nat} (hs : ∀ j, j < 24 → s j = (U j : Int)) (hU : ∀ j, j < 24 → U j ≤ 100) (ha : q 0 = (a : Int)) (hb : q 1 = (b : Int)) (hcc : q 2 = (c : Int)) (hla : a ≤ 100) (hlb : b ≤ 100) (hlc : c ≤ 100) (u4 u5 : Option aV) : ∃ (s' q' : Nat → Int) (u4' u5' : Option aV), (∀ j, j < 24 → s' j = ((U j + dY y k j : Nat) : Int)) ∧ q' 0 = ((a + (if k < 2 ∧ ¬ pcI y k = -1 then 1 else 0) : Nat) : Int) ∧ q' 1 = ((b + (if k = 3 ∧ ¬ pcI y k = -1 then 1 else 0) : Nat) : Int) ∧ q' 2 = ((c + (if pcI y k = -1 then 0 else xPT X (pcI y k).toNat) : Nat) : Int) ∧ (∀ j, 3 ≤ j → q' j = q j) ∧ ev xs (d + 1) mm_151 2 [some (.inr (.inr 0)), some (.inl (cdW y : Int)), some (.inr (.inr ((t + 19 : Nat) : Int))), some (.inl (k : Int)), u4, u5] [] (κ, setc (setc D 57 s) (t + 19) q) = ev xs (d + 1) mm_151 2 [some (.inr (.inr 0)), some (.inl (cdW y : Int)), some (.inr (.inr ((t + 19 : Nat) : Int))), some (.inl ((k + 1 : Nat) : Int)), u4', u5'] [] (κ, setc (setc D 57 s') (t + 19) q') := by
  have hk0 : aok κ 0 11 = true := kc_0 hκ
  have ht' : t = 9 ∨ t = 31 := ht
  have hy' := hy
  obtain ⟨y1, ⟨y2, y2'⟩, y3, y4⟩ := hy
  have n0 := xnp_le hX (s := 0) (by decide)
  have n1 : xnp X 1 ≤ 6 := (hX.2.2.1 1 (by decide)).1
  have n2 : xnp X 2 ≤ 4 := (hX.2.2.1 2 (by decide)).1
  have pe := pieceIn_eq xs d (κ, setc (setc D 57 s) (t + 19) q) (y := y) (by omega) (by omega) (by omega) (by omega) hk
  rw [q_151_2]
  rcases pcI_rng hX hy' hk with h | ⟨p, hp, h⟩
  · refine ⟨s, q, some (.inl (-1)), u5, fun j hj => ?_, ?_, ?_, ?_, fun _ _ => rfl, ?_⟩
    · rw [hs j hj]
      unfold dY
      rw [h, if_neg (by omega), Nat.add_zero]
    · rw [ha, if_neg (fun z => z.2 h), Nat.add_zero]
    · rw [hb, if_neg (fun z => z.2 h), Nat.add_zero]
    · rw [hcc, if_pos h, Nat.add_zero]
    · rw [h] at pe
      simp (disch := omega) only [cond_true, cond_false, Bool.and_true, Bool.true_and, Bool.and_false, Bool.false_and, Int.toNat_natCast, Int.reduceToNat, bI_s, bJ_s, bV_s, bR_s, decide_true, decide_false, not_true_eq_false, not_false_eq_true, dT, dF, w_al, w_la, w_ab, w_sl, w_sb, w_dec, w_ml, w_lm, ol2i_n, aup_ne, aupE, aupJ, setc_self, setc_ne, pe]
  · -- the sort of the piece, and that it is told
    have hso : (k < 2 ∧ p / 8 = 1 ∨ k = 2 ∧ p / 8 = 0 ∨ k = 3 ∧ p / 8 = 2) ∧ p % 8 < xnp X (p / 8) := by
      have e0 : pcI y 0 = (if y.2.2.2 = 0 then -1 else ((7 + y.2.2.2 : Nat) : Int)) := rfl
      have e1 : pcI y 1 = (if y.2.2.1 = 0 then -1 else ((7 + y.2.2.1 : Nat) : Int)) := rfl
      have e2 : pcI y 2 = (if y.2.1 = 0 then -1 else ((y.2.1 - 1 : Nat) : Int)) := rfl
      have e3 : pcI y 3 = (if y.1 = 0 then -1 else ((15 + y.1 : Nat) : Int)) := rfl
      have hk4 : k = 0 ∨ k = 1 ∨ k = 2 ∨ k = 3 := by omega
      rcases hk4 with rfl | rfl | rfl | rfl
      · rw [e0] at h
        have : p = 7 + y.2.2.2 ∧ 1 ≤ y.2.2.2 := by split at h <;> omega
        have hd : p / 8 = 1 := by omega
        rw [hd]
        omega
      · rw [e1] at h
        have : p = 7 + y.2.2.1 ∧ 1 ≤ y.2.2.1 := by split at h <;> omega
        have hd : p / 8 = 1 := by omega
        rw [hd]
        omega
      · rw [e2] at h
        have : p = y.2.1 - 1 := by split at h <;> omega
        have hd : p / 8 = 0 := by omega
        rw [hd]
        omega
      · rw [e3] at h
        have : p = 15 + y.1 ∧ 1 ≤ y.1 := by split at h <;> omega
        have hd : p / 8 = 2 := by omega
        rw [hd]
        omega
    obtain ⟨hsort, hpm⟩ := hso
    have et := ((hP (p / 8) (by omega)).2 (p % 8) hpm).2
    have htn := ((hX.2.2.1 (p / 8) (by omega)).2 (p % 8) hpm).2.2.2.1
    rw [show 8 * (p / 8) + p % 8 = p by omega] at et htn
    have eu := hs p hp
    have hUp := hU p hp
    have od : odiv (p : Int) 8 = ((p / 8 : Nat) : Int) := odiv_nat (b := 8) (by omega) (by decide)
    rw [h] at pe
    refine ⟨fun j => if j = p then ((U p + 1 : Nat) : Int) else s j, fun j => if j = 1 then ((b + (if k = 3 then 1 else 0) : Nat) : Int) else if j = 0 then ((a + (if k < 2 then 1 else 0) : Nat) : Int) else if j = 2 then ((c + xPT X p : Nat) : Int) else q j, some (.inl (p : Int)), some (.inl ((p / 8 : Nat) : Int)), fun j hj => ?_, ?_, ?_, ?_, fun j hj => ?_, ?_⟩
    · show (if j = p then _ else s j) = _
      unfold dY
      rw [h]
      by_cases hjp : j = p
      · rw [if_pos hjp, if_pos (by omega), hjp]
      · rw [if_neg hjp, if_neg (by omega), hs j hj, Nat.add_zero]
    · show ((a + (if k < 2 then 1 else 0) : Nat) : Int) = _
      rw [h]
      by_cases hk2 : k < 2
      · rw [if_pos hk2, if_pos ⟨hk2, by omega⟩]
      · rw [if_neg hk2, if_neg (fun z => hk2 z.1)]
    · show ((b + (if k = 3 then 1 else 0) : Nat) : Int) = _
      rw [h]
      by_cases hk2 : k = 3
      · rw [if_pos hk2, if_pos ⟨hk2, by omega⟩]
      · rw [if_neg hk2, if_neg (fun z => hk2 z.1)]
    · show ((c + xPT X p : Nat) : Int) = _
      rw [h, if_neg (by omega), Int.toNat_natCast]
    · show (if j = 1 then _ else if j = 0 then _ else if j = 2 then _ else q j) = _
      rw [if_neg (by omega), if_neg (by omega), if_neg (by omega)]
    · rcases hsort with ⟨k1, k2⟩ | ⟨k1, k2⟩ | ⟨k1, k2⟩
      · rw [if_neg (show ¬ k = 3 by omega), if_pos k1]
        simp (disch := omega) only [cond_true, cond_false, Bool.and_true, Bool.true_and, Bool.and_false, Bool.false_and, Int.toNat_natCast, Int.reduceToNat, bI_s, bJ_s, bV_s, bR_s, decide_true, decide_false, not_true_eq_false, not_false_eq_true, dT, dF, w_al, w_la, w_ab, w_sl, w_sb, w_dec, w_ml, w_lm, ol2i_n, aup_ne, aupE, aupJ, setc_self, setc_ne, pc_0_0 hc, pc_0_3 hc, pc_0_4 hc, pc_0_7 hc, pc_0_8 hc, pc_0_9 hc, pc_0_12 hc, pc_0_14 hc, pc_0_15 hc, pc_0_16 hc, pc_0_17 hc, pc_0_18 hc, pc_0_19 hc, pc_2_1 hc, pc_2_2 hc, pc_2_3 hc, pc_2_6 hc, pc_2_8 hc, pc_8_2 hc, pc_65_1 hc, pc_65_2 hc, pc_68_1 hc, pc_72_3 hc, pc_72_4 hc, pc_72_5 hc, pc_72_6 hc, pc_77_1 hc, pc_77_2 hc, pc_77_3 hc, pc_77_4 hc, pc_77_5 hc, pc_77_6 hc, kc_0 hκ, kc_1 hκ, nc_1 hκ, kc_2 hκ, kc_3 hκ, nc_3 hκ, kc_4 hκ, nc_4 hκ, kc_5 hκ, nc_5 hκ, kc_6 hκ, nc_6 hκ, kc_7 hκ, nc_7 hκ, kc_8 hκ, kc_63 hκ, nc_63 hκ, kc_64 hκ, nc_64 hκ, kc_65 hκ, kc_66 hκ, nc_66 hκ, kc_67 hκ, nc_67 hκ, kc_68 hκ, kc_69 hκ, nc_69 hκ, kc_70 hκ, nc_70 hκ, kc_71 hκ, nc_71 hκ, kc_72 hκ, kc_73 hκ, nc_73 hκ, kc_74 hκ, nc_74 hκ, kc_75 hκ, nc_75 hκ, kc_76 hκ, nc_76 hκ, kc_77 hκ, kc_78 hκ, nc_78 hκ, kc_79 hκ, nc_79 hκ, kc_80 hκ, nc_80 hκ, kc_81 hκ, nc_81 hκ, kc_82 hκ, nc_82 hκ, kc_83 hκ, nc_83 hκ, kc_84 hκ, nc_84 hκ, kc_85 hκ, nc_85 hκ, kc_86 hκ, nc_86 hκ, kc_87 hκ, nc_87 hκ, kc_88 hκ, nc_88 hκ, kc_89 hκ, nc_89 hκ, kc_90 hκ, nc_90 hκ, tp_0_1 hc ht, tp_0_2 hc ht, tp_0_3 hc ht, tp_0_4 hc ht, tp_0_6 hc ht, tp_0_8 hc ht, tp_0_9 hc ht, tp_0_10 hc ht, tp_0_12 hc ht, tp_0_13 hc ht, tp_0_14 hc ht, tp_3_1 hc ht, tp_3_2 hc ht, tp_3_3 hc ht, tp_3_4 hc ht, tp_8_0 hc ht, tp_8_1 hc ht, tp_8_2 hc ht, tp_18_0 hc ht, tp_18_2 hc ht, tp_18_3 hc ht, tk_0 hκ ht, tk_1 hκ ht, tn_1 hκ ht, tk_2 hκ ht, tn_2 hκ ht, tk_3 hκ ht, tk_4 hκ ht, tn_4 hκ ht, tk_5 hκ ht, tn_5 hκ ht, tk_6 hκ ht, tn_6 hκ ht, tk_7 hκ ht, tn_7 hκ ht, tk_8 hκ ht, tk_9 hκ ht, tn_9 hκ ht, tk_10 hκ ht, tn_10 hκ ht, tk_11 hκ ht, tn_11 hκ ht, tk_12 hκ ht, tn_12 hκ ht, tk_13 hκ ht, tn_13 hκ ht, tk_14 hκ ht, tn_14 hκ ht, tk_15 hκ ht, tn_15 hκ ht, tk_16 hκ ht, tn_16 hκ ht, tk_17 hκ ht, tn_17 hκ ht, tk_18 hκ ht, tk_19 hκ ht, tn_19 hκ ht, tk_20 hκ ht, tn_20 hκ ht, tk_21 hκ ht, tn_21 hκ ht, sk_0 hκ is53, sp_1 hc is53, sk_1 hκ is53, sn_1 hκ is53, sp_2 hc is53, sk_2 hκ is53, sn_2 hκ is53, sp_3 hc is53, sk_3 hκ is53, sn_3 hκ is53, sp_4 hc is53, sk_4 hκ is53, sn_4 hκ is53, hk0, h5, pe, od, k2, eu, et, ha, hb, hcc, aup_s2, aup_setc]
        rw [q_151_81]
        simp (disch := omega) only [cond_true, cond_false, Bool.and_true, Bool.true_and, Bool.and_false, Bool.false_and, Int.toNat_natCast, Int.reduceToNat, bI_s, bJ_s, bV_s, bR_s, decide_true, decide_false, not_true_eq_false, not_false_eq_true, dT, dF, w_al, w_la, w_ab, w_sl, w_sb, w_dec, w_ml, w_lm, ol2i_n, aup_ne, aupE, aupJ, setc_self, setc_ne, tp_0_1 hc ht, tp_0_2 hc ht, tp_0_3 hc ht, tp_0_4 hc ht, tp_0_6 hc ht, tp_0_8 hc ht, tp_0_9 hc ht, tp_0_10 hc ht, tp_0_12 hc ht, tp_0_13 hc ht, tp_0_14 hc ht, tp_3_1 hc ht, tp_3_2 hc ht, tp_3_3 hc ht, tp_3_4 hc ht, tp_8_0 hc ht, tp_8_1 hc ht, tp_8_2 hc ht, tp_18_0 hc ht, tp_18_2 hc ht, tp_18_3 hc ht, tk_0 hκ ht, tk_1 hκ ht, tn_1 hκ ht, tk_2 hκ ht, tn_2 hκ ht, tk_3 hκ ht, tk_4 hκ ht, tn_4 hκ ht, tk_5 hκ ht, tn_5 hκ ht, tk_6 hκ ht, tn_6 hκ ht, tk_7 hκ ht, tn_7 hκ ht, tk_8 hκ ht, tk_9 hκ ht, tn_9 hκ ht, tk_10 hκ ht, tn_10 hκ ht, tk_11 hκ ht, tn_11 hκ ht, tk_12 hκ ht, tn_12 hκ ht, tk_13 hκ ht, tn_13 hκ ht, tk_14 hκ ht, tn_14 hκ ht, tk_15 hκ ht, tn_15 hκ ht, tk_16 hκ ht, tn_16 hκ ht, tk_17 hκ ht, tn_17 hκ ht, tk_18 hκ ht, tk_19 hκ ht, tn_19 hκ ht, tk_20 hκ ht, tn_20 hκ ht, tk_21 hκ ht, tn_21 hκ ht, iT, iF, hb, k2, aup_setc]
      · rw [if_neg (show ¬ k = 3 by omega), if_neg (show ¬ k < 2 by omega)]
        simp (disch := omega) only [cond_true, cond_false, Bool.and_true, Bool.true_and, Bool.and_false, Bool.false_and, Int.toNat_natCast, Int.reduceToNat, bI_s, bJ_s, bV_s, bR_s, decide_true, decide_false, not_true_eq_false, not_false_eq_true, dT, dF, w_al, w_la, w_ab, w_sl, w_sb, w_dec, w_ml, w_lm, ol2i_n, aup_ne, aupE, aupJ, setc_self, setc_ne, pc_0_0 hc, pc_0_3 hc, pc_0_4 hc, pc_0_7 hc, pc_0_8 hc, pc_0_9 hc, pc_0_12 hc, pc_0_14 hc, pc_0_15 hc, pc_0_16 hc, pc_0_17 hc, pc_0_18 hc, pc_0_19 hc, pc_2_1 hc, pc_2_2 hc, pc_2_3 hc, pc_2_6 hc, pc_2_8 hc, pc_8_2 hc, pc_65_1 hc, pc_65_2 hc, pc_68_1 hc, pc_72_3 hc, pc_72_4 hc, pc_72_5 hc, pc_72_6 hc, pc_77_1 hc, pc_77_2 hc, pc_77_3 hc, pc_77_4 hc, pc_77_5 hc, pc_77_6 hc, kc_0 hκ, kc_1 hκ, nc_1 hκ, kc_2 hκ, kc_3 hκ, nc_3 hκ, kc_4 hκ, nc_4 hκ, kc_5 hκ, nc_5 hκ, kc_6 hκ, nc_6 hκ, kc_7 hκ, nc_7 hκ, kc_8 hκ, kc_63 hκ, nc_63 hκ, kc_64 hκ, nc_64 hκ, kc_65 hκ, kc_66 hκ, nc_66 hκ, kc_67 hκ, nc_67 hκ, kc_68 hκ, kc_69 hκ, nc_69 hκ, kc_70 hκ, nc_70 hκ, kc_71 hκ, nc_71 hκ, kc_72 hκ, kc_73 hκ, nc_73 hκ, kc_74 hκ, nc_74 hκ, kc_75 hκ, nc_75 hκ, kc_76 hκ, nc_76 hκ, kc_77 hκ, kc_78 hκ, nc_78 hκ, kc_79 hκ, nc_79 hκ, kc_80 hκ, nc_80 hκ, kc_81 hκ, nc_81 hκ, kc_82 hκ, nc_82 hκ, kc_83 hκ, nc_83 hκ, kc_84 hκ, nc_84 hκ, kc_85 hκ, nc_85 hκ, kc_86 hκ, nc_86 hκ, kc_87 hκ, nc_87 hκ, kc_88 hκ, nc_88 hκ, kc_89 hκ, nc_89 hκ, kc_90 hκ, nc_90 hκ, tp_0_1 hc ht, tp_0_2 hc ht, tp_0_3 hc ht, tp_0_4 hc ht, tp_0_6 hc ht, tp_0_8 hc ht, tp_0_9 hc ht, tp_0_10 hc ht, tp_0_12 hc ht, tp_0_13 hc ht, tp_0_14 hc ht, tp_3_1 hc ht, tp_3_2 hc ht, tp_3_3 hc ht, tp_3_4 hc ht, tp_8_0 hc ht, tp_8_1 hc ht, tp_8_2 hc ht, tp_18_0 hc ht, tp_18_2 hc ht, tp_18_3 hc ht, tk_0 hκ ht, tk_1 hκ ht, tn_1 hκ ht, tk_2 hκ ht, tn_2 hκ ht, tk_3 hκ ht, tk_4 hκ ht, tn_4 hκ ht, tk_5 hκ ht, tn_5 hκ ht, tk_6 hκ ht, tn_6 hκ ht, tk_7 hκ ht, tn_7 hκ ht, tk_8 hκ ht, tk_9 hκ ht, tn_9 hκ ht, tk_10 hκ ht, tn_10 hκ ht, tk_11 hκ ht, tn_11 hκ ht, tk_12 hκ ht, tn_12 hκ ht, tk_13 hκ ht, tn_13 hκ ht, tk_14 hκ ht, tn_14 hκ ht, tk_15 hκ ht, tn_15 hκ ht, tk_16 hκ ht, tn_16 hκ ht, tk_17 hκ ht, tn_17 hκ ht, tk_18 hκ ht, tk_19 hκ ht, tn_19 hκ ht, tk_20 hκ ht, tn_20 hκ ht, tk_21 hκ ht, tn_21 hκ ht, sk_0 hκ is53, sp_1 hc is53, sk_1 hκ is53, sn_1 hκ is53, sp_2 hc is53, sk_2 hκ is53, sn_2 hκ is53, sp_3 hc is53, sk_3 hκ is53, sn_3 hκ is53, sp_4 hc is53, sk_4 hκ is53, sn_4 hκ is53, hk0, h5, pe, od, k2, eu, et, ha, hb, hcc, aup_s2, aup_setc]
        rw [q_151_81]
        simp (disch := omega) only [cond_true, cond_false, Bool.and_true, Bool.true_and, Bool.and_false, Bool.false_and, Int.toNat_natCast, Int.reduceToNat, bI_s, bJ_s, bV_s, bR_s, decide_true, decide_false, not_true_eq_false, not_false_eq_true, dT, dF, w_al, w_la, w_ab, w_sl, w_sb, w_dec, w_ml, w_lm, ol2i_n, aup_ne, aupE, aupJ, setc_self, setc_ne, tp_0_1 hc ht, tp_0_2 hc ht, tp_0_3 hc ht, tp_0_4 hc ht, tp_0_6 hc ht, tp_0_8 hc ht, tp_0_9 hc ht, tp_0_10 hc ht, tp_0_12 hc ht, tp_0_13 hc ht, tp_0_14 hc ht, tp_3_1 hc ht, tp_3_2 hc ht, tp_3_3 hc ht, tp_3_4 hc ht, tp_8_0 hc ht, tp_8_1 hc ht, tp_8_2 hc ht, tp_18_0 hc ht, tp_18_2 hc ht, tp_18_3 hc ht, tk_0 hκ ht, tk_1 hκ ht, tn_1 hκ ht, tk_2 hκ ht, tn_2 hκ ht, tk_3 hκ ht, tk_4 hκ ht, tn_4 hκ ht, tk_5 hκ ht, tn_5 hκ ht, tk_6 hκ ht, tn_6 hκ ht, tk_7 hκ ht, tn_7 hκ ht, tk_8 hκ ht, tk_9 hκ ht, tn_9 hκ ht, tk_10 hκ ht, tn_10 hκ ht, tk_11 hκ ht, tn_11 hκ ht, tk_12 hκ ht, tn_12 hκ ht, tk_13 hκ ht, tn_13 hκ ht, tk_14 hκ ht, tn_14 hκ ht, tk_15 hκ ht, tn_15 hκ ht, tk_16 hκ ht, tn_16 hκ ht, tk_17 hκ ht, tn_17 hκ ht, tk_18 hκ ht, tk_19 hκ ht, tn_19 hκ ht, tk_20 hκ ht, tn_20 hκ ht, tk_21 hκ ht, tn_21 hκ ht, iT, iF, hb, k2, aup_setc]
      · rw [if_pos (show k = 3 by omega), if_neg (show ¬ k < 2 by omega)]
        simp (disch := omega) only [cond_true, cond_false, Bool.and_true, Bool.true_and, Bool.and_false, Bool.false_and, Int.toNat_natCast, Int.reduceToNat, bI_s, bJ_s, bV_s, bR_s, decide_true, decide_false, not_true_eq_false, not_false_eq_true, dT, dF, w_al, w_la, w_ab, w_sl, w_sb, w_dec, w_ml, w_lm, ol2i_n, aup_ne, aupE, aupJ, setc_self, setc_ne, pc_0_0 hc, pc_0_3 hc, pc_0_4 hc, pc_0_7 hc, pc_0_8 hc, pc_0_9 hc, pc_0_12 hc, pc_0_14 hc, pc_0_15 hc, pc_0_16 hc, pc_0_17 hc, pc_0_18 hc, pc_0_19 hc, pc_2_1 hc, pc_2_2 hc, pc_2_3 hc, pc_2_6 hc, pc_2_8 hc, pc_8_2 hc, pc_65_1 hc, pc_65_2 hc, pc_68_1 hc, pc_72_3 hc, pc_72_4 hc, pc_72_5 hc, pc_72_6 hc, pc_77_1 hc, pc_77_2 hc, pc_77_3 hc, pc_77_4 hc, pc_77_5 hc, pc_77_6 hc, kc_0 hκ, kc_1 hκ, nc_1 hκ, kc_2 hκ, kc_3 hκ, nc_3 hκ, kc_4 hκ, nc_4 hκ, kc_5 hκ, nc_5 hκ, kc_6 hκ, nc_6 hκ, kc_7 hκ, nc_7 hκ, kc_8 hκ, kc_63 hκ, nc_63 hκ, kc_64 hκ, nc_64 hκ, kc_65 hκ, kc_66 hκ, nc_66 hκ, kc_67 hκ, nc_67 hκ, kc_68 hκ, kc_69 hκ, nc_69 hκ, kc_70 hκ, nc_70 hκ, kc_71 hκ, nc_71 hκ, kc_72 hκ, kc_73 hκ, nc_73 hκ, kc_74 hκ, nc_74 hκ, kc_75 hκ, nc_75 hκ, kc_76 hκ, nc_76 hκ, kc_77 hκ, kc_78 hκ, nc_78 hκ, kc_79 hκ, nc_79 hκ, kc_80 hκ, nc_80 hκ, kc_81 hκ, nc_81 hκ, kc_82 hκ, nc_82 hκ, kc_83 hκ, nc_83 hκ, kc_84 hκ, nc_84 hκ, kc_85 hκ, nc_85 hκ, kc_86 hκ, nc_86 hκ, kc_87 hκ, nc_87 hκ, kc_88 hκ, nc_88 hκ, kc_89 hκ, nc_89 hκ, kc_90 hκ, nc_90 hκ, tp_0_1 hc ht, tp_0_2 hc ht, tp_0_3 hc ht, tp_0_4 hc ht, tp_0_6 hc ht, tp_0_8 hc ht, tp_0_9 hc ht, tp_0_10 hc ht, tp_0_12 hc ht, tp_0_13 hc ht, tp_0_14 hc ht, tp_3_1 hc ht, tp_3_2 hc ht, tp_3_3 hc ht, tp_3_4 hc ht, tp_8_0 hc ht, tp_8_1 hc ht, tp_8_2 hc ht, tp_18_0 hc ht, tp_18_2 hc ht, tp_18_3 hc ht, tk_0 hκ ht, tk_1 hκ ht, tn_1 hκ ht, tk_2 hκ ht, tn_2 hκ ht, tk_3 hκ ht, tk_4 hκ ht, tn_4 hκ ht, tk_5 hκ ht, tn_5 hκ ht, tk_6 hκ ht, tn_6 hκ ht, tk_7 hκ ht, tn_7 hκ ht, tk_8 hκ ht, tk_9 hκ ht, tn_9 hκ ht, tk_10 hκ ht, tn_10 hκ ht, tk_11 hκ ht, tn_11 hκ ht, tk_12 hκ ht, tn_12 hκ ht, tk_13 hκ ht, tn_13 hκ ht, tk_14 hκ ht, tn_14 hκ ht, tk_15 hκ ht, tn_15 hκ ht, tk_16 hκ ht, tn_16 hκ ht, tk_17 hκ ht, tn_17 hκ ht, tk_18 hκ ht, tk_19 hκ ht, tn_19 hκ ht, tk_20 hκ ht, tn_20 hκ ht, tk_21 hκ ht, tn_21 hκ ht, sk_0 hκ is53, sp_1 hc is53, sk_1 hκ is53, sn_1 hκ is53, sp_2 hc is53, sk_2 hκ is53, sn_2 hκ is53, sp_3 hc is53, sk_3 hκ is53, sn_3 hκ is53, sp_4 hc is53, sk_4 hκ is53, sn_4 hκ is53, hk0, h5, pe, od, k2, eu, et, ha, hb, hcc, aup_s2, aup_setc]
        rw [q_151_81]
        simp (disch := omega) only [cond_true, cond_false, Bool.and_true, Bool.true_and, Bool.and_false, Bool.false_and, Int.toNat_natCast, Int.reduceToNat, bI_s, bJ_s, bV_s, bR_s, decide_true, decide_false, not_true_eq_false, not_false_eq_true, dT, dF, w_al, w_la, w_ab, w_sl, w_sb, w_dec, w_ml, w_lm, ol2i_n, aup_ne, aupE, aupJ, setc_self, setc_ne, tp_0_1 hc ht, tp_0_2 hc ht, tp_0_3 hc ht, tp_0_4 hc ht, tp_0_6 hc ht, tp_0_8 hc ht, tp_0_9 hc ht, tp_0_10 hc ht, tp_0_12 hc ht, tp_0_13 hc ht, tp_0_14 hc ht, tp_3_1 hc ht, tp_3_2 hc ht, tp_3_3 hc ht, tp_3_4 hc ht, tp_8_0 hc ht, tp_8_1 hc ht, tp_8_2 hc ht, tp_18_0 hc ht, tp_18_2 hc ht, tp_18_3 hc ht, tk_0 hκ ht, tk_1 hκ ht, tn_1 hκ ht, tk_2 hκ ht, tn_2 hκ ht, tk_3 hκ ht, tk_4 hκ ht, tn_4 hκ ht, tk_5 hκ ht, tn_5 hκ ht, tk_6 hκ ht, tn_6 hκ ht, tk_7 hκ ht, tn_7 hκ ht, tk_8 hκ ht, tk_9 hκ ht, tn_9 hκ ht, tk_10 hκ ht, tn_10 hκ ht, tk_11 hκ ht, tn_11 hκ ht, tk_12 hκ ht, tn_12 hκ ht, tk_13 hκ ht, tn_13 hκ ht, tk_14 hκ ht, tn_14 hκ ht, tk_15 hκ ht, tn_15 hκ ht, tk_16 hκ ht, tn_16 hκ ht, tk_17 hκ ht, tn_17 hκ ht, tk_18 hκ ht, tk_19 hκ ht, tn_19 hκ ht, tk_20 hκ ht, tn_20 hκ ht, tk_21 hκ ht, tn_21 hκ ht, iT, iF, hb, k2, aup_setc]
