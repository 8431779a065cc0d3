/-! derived. -/
def firstS (f : Nat → Option (List Nat)) : Nat → Nat → Option (List Nat)
  | 0, _ => none
  | m + 1, k => match f k with
    | some l => some (k :: l)
    | none => firstS f m (k + 1)
def dfs (X : TX) (o : List Nat) : Nat → List Nat → Option (List Nat)
  | 0, w => if w = o then some [] else none
  | n + 1, w => firstS (fun s => dfs X o n (tkX X s w)) (xns X) 0
def dfsP (X : TX) (o : List Nat) : Nat → List Nat → Option (List Nat)
  | 0, w => if w = o then some [] else none
  | n + 1, w => firstS (fun s => if tkX X s w = w then none else dfsP X o n (tkX X s w)) (xns X) 0
theorem firstS_none {f : Nat → Option (List Nat)} : ∀ {m k : Nat}, firstS f m k = none → ∀ s, k ≤ s → s < k + m → f s = none
  | 0, k, _, s, h1, h2 => by omega
  | m + 1, k, h, s, h1, h2 => by
    unfold firstS at h
    cases hf : f k with
    | some l => rw [hf] at h; cases h
    | none =>
      rw [hf] at h
      by_cases hs : s = k
      · rw [hs]; exact hf
      · exact firstS_none h s (by omega) (by omega)
theorem firstS_congr {f g : Nat → Option (List Nat)} : ∀ (m k : Nat), (∀ s, k ≤ s → s < k + m → f s = g s) → firstS f m k = firstS g m k
  | 0, k, _ => rfl
  | m + 1, k, h => by
    unfold firstS
    rw [h k (by omega) (by omega), firstS_congr m (k + 1) (fun s h1 h2 => h s (by omega) (by omega))]
theorem dfs_step {X : TX} {o w : List Nat} {n s : Nat} (h : dfs X o (n + 1) w = none) (hs : s < xns X) : dfs X o n (tkX X s w) = none := firstS_none h s (by omega) (by omega)
theorem dfs_P {X : TX} {o : List Nat} : ∀ (n : Nat) (w : List Nat), (∀ j, j < n → dfs X o j w = none) → dfsP X o n w = dfs X o n w
  | 0, w, _ => rfl
  | n + 1, w, h => by
    unfold dfs dfsP
    refine firstS_congr _ _ (fun s _ hs => ?_)
    by_cases he : tkX X s w = w
    · rw [if_pos he, he]; exact (h n (by omega)).symm
    · rw [if_neg he]
      exact dfs_P n (tkX X s w) (fun j hj => dfs_step (h (j + 1) (by omega)) (by omega))
theorem firstS_some {f : Nat → Option (List Nat)} {n c : Nat} (hf : ∀ s l, f s = some l → l.length = n ∧ ∀ a ∈ l, a < c) : ∀ (m k : Nat) (l : List Nat), firstS f m k = some l → k + m ≤ c → l.length = n + 1 ∧ ∀ a ∈ l, a < c
  | 0, k, l, h, _ => by cases h
  | m + 1, k, l, h, hc => by
    unfold firstS at h
    cases hfk : f k with
    | some l' =>
      rw [hfk] at h
      cases h
      obtain ⟨h1, h2⟩ := hf k l' hfk
      refine ⟨by rw [List.length_cons, h1], fun a ha => ?_⟩
      rcases List.mem_cons.mp ha with rfl | ha
      · omega
      · exact h2 a ha
    | none =>
      rw [hfk] at h
      exact firstS_some hf m (k + 1) l h (by omega)
theorem dfs_len {X : TX} {o : List Nat} : ∀ (n : Nat) (w l : List Nat), dfs X o n w = some l → l.length = n ∧ ∀ a ∈ l, a < xns X
  | 0, w, l, h => by
    unfold dfs at h
    split at h
    · cases h; exact ⟨rfl, fun a ha => by cases ha⟩
    · cases h
  | n + 1, w, l, h => firstS_some (fun s l' h' => dfs_len n (tkX X s w) l' h') (xns X) 0 l h (by omega)
def runL (X : TX) : List Nat → List Nat → List Nat
  | [], w => w
  | s :: l, w => runL X l (tkX X s w)
def sq (c : Nat) : Nat → Nat → List Nat
  | 0, _ => []
  | n + 1, y => (y / c ^ n % c) :: sq c n y
theorem sq_s (c n y : Nat) : sq c (n + 1) y = (y / c ^ n % c) :: sq c n y := rfl
theorem sq_add {c : Nat} (hc : 0 < c) : ∀ (n y z : Nat), sq c n (y + z * c ^ n) = sq c n y
  | 0, _, _ => rfl
  | n + 1, y, z => by
    rw [sq_s, sq_s]
    have hp : 0 < c ^ n := Nat.pow_pos hc
    have e : y + z * c ^ (n + 1) = y + (z * c) * c ^ n := by rw [Nat.pow_succ, Nat.mul_comm (c ^ n) c, Nat.mul_assoc]
    rw [e, sq_add hc n y (z * c), Nat.add_mul_div_right _ _ hp, Nat.add_mul_mod_self_right]
/-- the first of m ways from y on -/
def srch (X : TX) (o w : List Nat) (n : Nat) : Nat → Nat → Option (List Nat)
  | 0, _ => none
  | m + 1, y => if runL X (sq (xns X) n y) w = o then some (sq (xns X) n y) else srch X o w n m (y + 1)
theorem srch_s (X : TX) (o w : List Nat) (n m y : Nat) : srch X o w n (m + 1) y = if runL X (sq (xns X) n y) w = o then some (sq (xns X) n y) else srch X o w n m (y + 1) := rfl
theorem srch_app {X : TX} {o w : List Nat} {n : Nat} : ∀ (a b y : Nat), srch X o w n (a + b) y = (match srch X o w n a y with | some l => some l | none => srch X o w n b (y + a))
  | 0, b, y => by
    rw [Nat.zero_add]
    rfl
  | a + 1, b, y => by
    rw [show a + 1 + b = (a + b) + 1 by omega, srch_s, srch_s]
    by_cases h : runL X (sq (xns X) n y) w = o
    · rw [if_pos h, if_pos h]
    · rw [if_neg h, if_neg h, srch_app a b (y + 1), show y + 1 + a = y + (a + 1) by omega]
theorem srch_blk {X : TX} {o w : List Nat} {n s : Nat} (hs : s < xns X) : ∀ (m y : Nat), y + m ≤ xns X ^ n → srch X o w (n + 1) m (s * xns X ^ n + y) = (match srch X o (tkX X s w) n m y with | some l => some (s :: l) | none => none)
  | 0, _, _ => rfl
  | m + 1, y, h => by
    have hc : 0 < xns X := by omega
    have hp : 0 < xns X ^ n := Nat.pow_pos hc
    have e1 : sq (xns X) (n + 1) (s * xns X ^ n + y) = s :: sq (xns X) n y := by
      rw [sq_s, Nat.add_comm (s * xns X ^ n) y, Nat.add_mul_div_right _ _ hp, Nat.div_eq_of_lt (by omega), Nat.zero_add, Nat.mod_eq_of_lt hs, sq_add hc]
    rw [srch_s, srch_s, e1]
    show (if runL X (sq (xns X) n y) (tkX X s w) = o then _ else _) = _
    by_cases h1 : runL X (sq (xns X) n y) (tkX X s w) = o
    · rw [if_pos h1, if_pos h1]
    · rw [if_neg h1, if_neg h1]
      rw [show s * xns X ^ n + y + 1 = s * xns X ^ n + (y + 1) by omega]
      exact srch_blk hs m (y + 1) (by omega)
theorem srch_dfs {X : TX} {o : List Nat} : ∀ (n : Nat) (w : List Nat), srch X o w n (xns X ^ n) 0 = dfs X o n w
  | 0, w => by
    rw [Nat.pow_zero]
    show (if w = o then some [] else none) = _
    rfl
  | n + 1, w => by
    have key : ∀ (m s : Nat), s + m = xns X → srch X o w (n + 1) (m * xns X ^ n) (s * xns X ^ n) = firstS (fun s => dfs X o n (tkX X s w)) m s := by
      intro m
      induction m with
      | zero => intro s _; rw [Nat.zero_mul]; rfl
      | succ m ih =>
        intro s hs
        have hb := srch_blk (X := X) (o := o) (w := w) (n := n) (s := s) (by omega) (xns X ^ n) 0 (by omega)
        rw [Nat.add_zero (s * xns X ^ n), srch_dfs n] at hb
        rw [Nat.succ_mul, Nat.add_comm (m * xns X ^ n), srch_app, hb]
        unfold firstS
        cases dfs X o n (tkX X s w) with
        | some l => rfl
        | none =>
          show srch X o w (n + 1) (m * xns X ^ n) (s * xns X ^ n + xns X ^ n) = _
          rw [← Nat.succ_mul]
          exact ih (s + 1) (by omega)
    have := key (xns X) 0 (by omega)
    rw [Nat.zero_mul] at this
    rw [Nat.pow_succ, Nat.mul_comm]
    exact this
def derL (X : TX) (o w : List Nat) (i : Int) : Nat → Nat → Int
  | 0, _ => -2
  | m + 1, n => match dfs X o n w with
    | some l => if i = -1 then (n : Int) else if i < (n : Int) then ((l.getD i.toNat 0 : Nat) : Int) else -1
    | none => derL X o w i m (n + 1)
def qDer (X : TX) (S : ST) (w o i : Int) : Int := if ((0 ≤ w ∧ w < (xnw X : Int)) ∧ 0 ≤ o ∧ o < (xnw X : Int)) ∧ -1 ≤ i then derL X (sW S o.toNat) (sW S w.toNat) i 5 0 else -1
set_option maxRecDepth 100000 in
theorem pd_89 : ptrc 89 = false := by decide
theorem leads_eq (xs : List Int) (d : Nat) {κ : aK} {D : Nat → Nat → Int} (hκ : Shp κ) (hc : CPtr D) {t : Nat} (ht : isT t) (h5 : D 0 5 = (t : Int)) {X : TX} (hX : TXok X) (hx : TxC D t X) {o : List Nat} (ho : wok o) {sz : Nat} (hsz : sz ≤ 4) : ∀ (n st : Nat) (w : List Nat) (f : Nat → Int), st + n = sz → wok w → ∃ f' : Nat → Int, (∀ j, j < st → f' j = f j) ∧ (∀ l, dfsP X o n w = some l → (∀ j, j < l.length → f' (st + j) = ((l.getD j 0 : Nat) : Int)) ∧ cl xs (d + 3 + n) 175 [.inr (.inr ((t + 3 : Nat) : Int)), .inr (.inr ((89 : Nat) : Int)), .inr (.inl (p32 w : Int)), .inr (.inl (p32 o : Int)), .inl (st : Int), .inl (sz : Int)] (κ, setc D 89 f) = some (some (.inl 1), (κ, setc D 89 f'))) ∧ (dfsP X o n w = none → cl xs (d + 3 + n) 175 [.inr (.inr ((t + 3 : Nat) : Int)), .inr (.inr ((89 : Nat) : Int)), .inr (.inl (p32 w : Int)), .inr (.inl (p32 o : Int)), .inl (st : Int), .inl (sz : Int)] (κ, setc D 89 f) = some (some (.inl 0), (κ, setc D 89 f'))) := by
  have a0 : aoa κ ((89 : Nat) : Int) = true := aoa_s hκ 89 (n := 4) (by decide) rfl (by decide)
  have a1 : aln κ ((89 : Nat) : Int) = 4 := aln_s hκ 89 (by decide) rfl
  have ht' : t = 9 ∨ t = 31 := ht
  have x1 := hX.1.1
  intro n
  induction n with
  | zero =>
    intro st w f h hw
    refine ⟨f, fun _ _ => rfl, fun l hl => ?_, fun hl => ?_⟩
    · unfold dfsP at hl
      by_cases he : w = o
      · rw [if_pos he] at hl
        cases hl
        refine ⟨fun j hj => by simp at hj, ?_⟩
        rw [c_175, he]
        simp (disch := omega) only [cond_true, cond_false, Bool.and_true, Bool.true_and, Bool.and_false, Bool.false_and, Int.toNat_natCast, Int.reduceToNat, bI_s, bJ_s, bV_s, bR_s, decide_true, decide_false, not_true_eq_false, not_false_eq_true, dT, dF, w_al, w_la, w_ab, w_sl, w_sb, w_dec, w_ml, w_lm, ol2i_n, aup_ne, aupE, aupJ, setc_self, setc_ne, olcmp_eq]
      · rw [if_neg he] at hl
        cases hl
    · unfold dfsP at hl
      by_cases he : w = o
      · rw [if_pos he] at hl
        cases hl
      · have := p32_ne hw.1 ho.1 he
        rw [c_175]
        simp (disch := omega) only [cond_true, cond_false, Bool.and_true, Bool.true_and, Bool.and_false, Bool.false_and, Int.toNat_natCast, Int.reduceToNat, bI_s, bJ_s, bV_s, bR_s, decide_true, decide_false, not_true_eq_false, not_false_eq_true, dT, dF, w_al, w_la, w_ab, w_sl, w_sb, w_dec, w_ml, w_lm, ol2i_n, aup_ne, aupE, aupJ, setc_self, setc_ne, olcmp_eq]
  | succ n ih =>
    intro st w f h hw
    have loop : ∀ (m s : Nat) (f : Nat → Int) (u2 u4 u8 u9 : Option aV), s + m = xns X → ∃ f' : Nat → Int, (∀ j, j < st → f' j = f j) ∧ (∀ l, firstS (fun s => if tkX X s w = w then none else dfsP X o n (tkX X s w)) m s = some l → (∀ j, j < l.length → f' (st + j) = ((l.getD j 0 : Nat) : Int)) ∧ ev xs (d + 3 + n) mm_175 30 [some (.inr (.inr ((t + 3 : Nat) : Int))), some (.inr (.inr ((89 : Nat) : Int))), some (.inr (.inl (p32 w : Int))), u2, some (.inr (.inl (p32 o : Int))), u4, some (.inl (st : Int)), some (.inl (sz : Int)), some (.inl (s : Int)), u8, u9] [] (κ, setc D 89 f) = some (some (.inl 1), (κ, setc D 89 f'))) ∧ (firstS (fun s => if tkX X s w = w then none else dfsP X o n (tkX X s w)) m s = none → ev xs (d + 3 + n) mm_175 30 [some (.inr (.inr ((t + 3 : Nat) : Int))), some (.inr (.inr ((89 : Nat) : Int))), some (.inr (.inl (p32 w : Int))), u2, some (.inr (.inl (p32 o : Int))), u4, some (.inl (st : Int)), some (.inl (sz : Int)), some (.inl (s : Int)), u8, u9] [] (κ, setc D 89 f) = some (some (.inl 0), (κ, setc D 89 f'))) := by
      intro m
      induction m with
      | zero =>
        intro s f u2 u4 u8 u9 hs
        refine ⟨f, fun _ _ => rfl, fun l hl => (by cases hl), fun _ => ?_⟩
        rw [q_175_30]
        simp (disch := omega) only [cond_true, cond_false, Bool.and_true, Bool.true_and, Bool.and_false, Bool.false_and, Int.toNat_natCast, Int.reduceToNat, bI_s, bJ_s, bV_s, bR_s, decide_true, decide_false, not_true_eq_false, not_false_eq_true, dT, dF, w_al, w_la, w_ab, w_sl, w_sb, w_dec, w_ml, w_lm, ol2i_n, aup_ne, aupE, aupJ, setc_self, setc_ne, pc_0_0 hc, pc_0_3 hc, pc_0_4 hc, pc_0_7 hc, pc_0_8 hc, pc_0_9 hc, pc_0_12 hc, pc_0_14 hc, pc_0_15 hc, pc_0_16 hc, pc_0_17 hc, pc_0_18 hc, pc_0_19 hc, pc_2_1 hc, pc_2_2 hc, pc_2_3 hc, pc_2_6 hc, pc_2_8 hc, pc_8_2 hc, pc_65_1 hc, pc_65_2 hc, pc_68_1 hc, pc_72_3 hc, pc_72_4 hc, pc_72_5 hc, pc_72_6 hc, pc_77_1 hc, pc_77_2 hc, pc_77_3 hc, pc_77_4 hc, pc_77_5 hc, pc_77_6 hc, kc_0 hκ, kc_1 hκ, nc_1 hκ, kc_2 hκ, kc_3 hκ, nc_3 hκ, kc_4 hκ, nc_4 hκ, kc_5 hκ, nc_5 hκ, kc_6 hκ, nc_6 hκ, kc_7 hκ, nc_7 hκ, kc_8 hκ, kc_63 hκ, nc_63 hκ, kc_64 hκ, nc_64 hκ, kc_65 hκ, kc_66 hκ, nc_66 hκ, kc_67 hκ, nc_67 hκ, kc_68 hκ, kc_69 hκ, nc_69 hκ, kc_70 hκ, nc_70 hκ, kc_71 hκ, nc_71 hκ, kc_72 hκ, kc_73 hκ, nc_73 hκ, kc_74 hκ, nc_74 hκ, kc_75 hκ, nc_75 hκ, kc_76 hκ, nc_76 hκ, kc_77 hκ, kc_78 hκ, nc_78 hκ, kc_79 hκ, nc_79 hκ, kc_80 hκ, nc_80 hκ, kc_81 hκ, nc_81 hκ, kc_82 hκ, nc_82 hκ, kc_83 hκ, nc_83 hκ, kc_84 hκ, nc_84 hκ, kc_85 hκ, nc_85 hκ, kc_86 hκ, nc_86 hκ, kc_87 hκ, nc_87 hκ, kc_88 hκ, nc_88 hκ, kc_89 hκ, nc_89 hκ, kc_90 hκ, nc_90 hκ, tp_0_1 hc ht, tp_0_2 hc ht, tp_0_3 hc ht, tp_0_4 hc ht, tp_0_6 hc ht, tp_0_8 hc ht, tp_0_9 hc ht, tp_0_10 hc ht, tp_0_12 hc ht, tp_0_13 hc ht, tp_0_14 hc ht, tp_3_1 hc ht, tp_3_2 hc ht, tp_3_3 hc ht, tp_3_4 hc ht, tp_8_0 hc ht, tp_8_1 hc ht, tp_8_2 hc ht, tp_18_0 hc ht, tp_18_2 hc ht, tp_18_3 hc ht, tk_0 hκ ht, tk_1 hκ ht, tn_1 hκ ht, tk_2 hκ ht, tn_2 hκ ht, tk_3 hκ ht, tk_4 hκ ht, tn_4 hκ ht, tk_5 hκ ht, tn_5 hκ ht, tk_6 hκ ht, tn_6 hκ ht, tk_7 hκ ht, tn_7 hκ ht, tk_8 hκ ht, tk_9 hκ ht, tn_9 hκ ht, tk_10 hκ ht, tn_10 hκ ht, tk_11 hκ ht, tn_11 hκ ht, tk_12 hκ ht, tn_12 hκ ht, tk_13 hκ ht, tn_13 hκ ht, tk_14 hκ ht, tn_14 hκ ht, tk_15 hκ ht, tn_15 hκ ht, tk_16 hκ ht, tn_16 hκ ht, tk_17 hκ ht, tn_17 hκ ht, tk_18 hκ ht, tk_19 hκ ht, tn_19 hκ ht, tk_20 hκ ht, tn_20 hκ ht, tk_21 hκ ht, tn_21 hκ ht, sk_0 hκ is53, sp_1 hc is53, sk_1 hκ is53, sn_1 hκ is53, sp_2 hc is53, sk_2 hκ is53, sn_2 hκ is53, sp_3 hc is53, sk_3 hκ is53, sn_3 hκ is53, sp_4 hc is53, sk_4 hκ is53, sn_4 hκ is53, sk_0 hκ is58, sp_1 hc is58, sk_1 hκ is58, sn_1 hκ is58, sp_2 hc is58, sk_2 hκ is58, sn_2 hκ is58, sp_3 hc is58, sk_3 hκ is58, sn_3 hκ is58, sp_4 hc is58, sk_4 hκ is58, sn_4 hκ is58, hx.1.1]
      | succ m ihm =>
        intro s f u2 u4 u8 u9 hs
        have tk := takeX xs (d + 1 + n) hκ (hc.setc pd_89 f) ht (D := setc D 89 f) (by rw [setc_ne (by decide)]; exact h5) hX (hx.congr (fun q h1 h2 => setc_ne (by omega))) (show s < xns X by omega) hw
        rw [show d + 1 + n + 2 = d + 3 + n by omega] at tk
        have hw2 := tkX_wok hX (show s < xns X by omega) hw
        unfold firstS
        by_cases he : tkX X s w = w
        · obtain ⟨f', a1, a2, a3⟩ := ihm (s + 1) f u2 u4 (some (.inr (.inl (p32 (tkX X s w) : Int)))) none (by omega)
          rw [if_pos he]
          refine ⟨f', a1, fun l hl => ⟨(a2 l hl).1, ?_⟩, fun hl => ?_⟩
          · have e2 := (a2 l hl).2
            rw [he] at tk e2
            rw [q_175_30]
            simp (disch := omega) only [cond_true, cond_false, Bool.and_true, Bool.true_and, Bool.and_false, Bool.false_and, Int.toNat_natCast, Int.reduceToNat, bI_s, bJ_s, bV_s, bR_s, decide_true, decide_false, not_true_eq_false, not_false_eq_true, dT, dF, w_al, w_la, w_ab, w_sl, w_sb, w_dec, w_ml, w_lm, ol2i_n, aup_ne, aupE, aupJ, setc_self, setc_ne, pc_0_0 hc, pc_0_3 hc, pc_0_4 hc, pc_0_7 hc, pc_0_8 hc, pc_0_9 hc, pc_0_12 hc, pc_0_14 hc, pc_0_15 hc, pc_0_16 hc, pc_0_17 hc, pc_0_18 hc, pc_0_19 hc, pc_2_1 hc, pc_2_2 hc, pc_2_3 hc, pc_2_6 hc, pc_2_8 hc, pc_8_2 hc, pc_65_1 hc, pc_65_2 hc, pc_68_1 hc, pc_72_3 hc, pc_72_4 hc, pc_72_5 hc, pc_72_6 hc, pc_77_1 hc, pc_77_2 hc, pc_77_3 hc, pc_77_4 hc, pc_77_5 hc, pc_77_6 hc, kc_0 hκ, kc_1 hκ, nc_1 hκ, kc_2 hκ, kc_3 hκ, nc_3 hκ, kc_4 hκ, nc_4 hκ, kc_5 hκ, nc_5 hκ, kc_6 hκ, nc_6 hκ, kc_7 hκ, nc_7 hκ, kc_8 hκ, kc_63 hκ, nc_63 hκ, kc_64 hκ, nc_64 hκ, kc_65 hκ, kc_66 hκ, nc_66 hκ, kc_67 hκ, nc_67 hκ, kc_68 hκ, kc_69 hκ, nc_69 hκ, kc_70 hκ, nc_70 hκ, kc_71 hκ, nc_71 hκ, kc_72 hκ, kc_73 hκ, nc_73 hκ, kc_74 hκ, nc_74 hκ, kc_75 hκ, nc_75 hκ, kc_76 hκ, nc_76 hκ, kc_77 hκ, kc_78 hκ, nc_78 hκ, kc_79 hκ, nc_79 hκ, kc_80 hκ, nc_80 hκ, kc_81 hκ, nc_81 hκ, kc_82 hκ, nc_82 hκ, kc_83 hκ, nc_83 hκ, kc_84 hκ, nc_84 hκ, kc_85 hκ, nc_85 hκ, kc_86 hκ, nc_86 hκ, kc_87 hκ, nc_87 hκ, kc_88 hκ, nc_88 hκ, kc_89 hκ, nc_89 hκ, kc_90 hκ, nc_90 hκ, tp_0_1 hc ht, tp_0_2 hc ht, tp_0_3 hc ht, tp_0_4 hc ht, tp_0_6 hc ht, tp_0_8 hc ht, tp_0_9 hc ht, tp_0_10 hc ht, tp_0_12 hc ht, tp_0_13 hc ht, tp_0_14 hc ht, tp_3_1 hc ht, tp_3_2 hc ht, tp_3_3 hc ht, tp_3_4 hc ht, tp_8_0 hc ht, tp_8_1 hc ht, tp_8_2 hc ht, tp_18_0 hc ht, tp_18_2 hc ht, tp_18_3 hc ht, tk_0 hκ ht, tk_1 hκ ht, tn_1 hκ ht, tk_2 hκ ht, tn_2 hκ ht, tk_3 hκ ht, tk_4 hκ ht, tn_4 hκ ht, tk_5 hκ ht, tn_5 hκ ht, tk_6 hκ ht, tn_6 hκ ht, tk_7 hκ ht, tn_7 hκ ht, tk_8 hκ ht, tk_9 hκ ht, tn_9 hκ ht, tk_10 hκ ht, tn_10 hκ ht, tk_11 hκ ht, tn_11 hκ ht, tk_12 hκ ht, tn_12 hκ ht, tk_13 hκ ht, tn_13 hκ ht, tk_14 hκ ht, tn_14 hκ ht, tk_15 hκ ht, tn_15 hκ ht, tk_16 hκ ht, tn_16 hκ ht, tk_17 hκ ht, tn_17 hκ ht, tk_18 hκ ht, tk_19 hκ ht, tn_19 hκ ht, tk_20 hκ ht, tn_20 hκ ht, tk_21 hκ ht, tn_21 hκ ht, sk_0 hκ is53, sp_1 hc is53, sk_1 hκ is53, sn_1 hκ is53, sp_2 hc is53, sk_2 hκ is53, sn_2 hκ is53, sp_3 hc is53, sk_3 hκ is53, sn_3 hκ is53, sp_4 hc is53, sk_4 hκ is53, sn_4 hκ is53, sk_0 hκ is58, sp_1 hc is58, sk_1 hκ is58, sn_1 hκ is58, sp_2 hc is58, sk_2 hκ is58, sn_2 hκ is58, sp_3 hc is58, sk_3 hκ is58, sn_3 hκ is58, sp_4 hc is58, sk_4 hκ is58, sn_4 hκ is58, hx.1.1, tk, olcmp_eq, e2]
          · have e2 := a3 hl
            rw [he] at tk e2
            rw [q_175_30]
            simp (disch := omega) only [cond_true, cond_false, Bool.and_true, Bool.true_and, Bool.and_false, Bool.false_and, Int.toNat_natCast, Int.reduceToNat, bI_s, bJ_s, bV_s, bR_s, decide_true, decide_false, not_true_eq_false, not_false_eq_true, dT, dF, w_al, w_la, w_ab, w_sl, w_sb, w_dec, w_ml, w_lm, ol2i_n, aup_ne, aupE, aupJ, setc_self, setc_ne, pc_0_0 hc, pc_0_3 hc, pc_0_4 hc, pc_0_7 hc, pc_0_8 hc, pc_0_9 hc, pc_0_12 hc, pc_0_14 hc, pc_0_15 hc, pc_0_16 hc, pc_0_17 hc, pc_0_18 hc, pc_0_19 hc, pc_2_1 hc, pc_2_2 hc, pc_2_3 hc, pc_2_6 hc, pc_2_8 hc, pc_8_2 hc, pc_65_1 hc, pc_65_2 hc, pc_68_1 hc, pc_72_3 hc, pc_72_4 hc, pc_72_5 hc, pc_72_6 hc, pc_77_1 hc, pc_77_2 hc, pc_77_3 hc, pc_77_4 hc, pc_77_5 hc, pc_77_6 hc, kc_0 hκ, kc_1 hκ, nc_1 hκ, kc_2 hκ, kc_3 hκ, nc_3 hκ, kc_4 hκ, nc_4 hκ, kc_5 hκ, nc_5 hκ, kc_6 hκ, nc_6 hκ, kc_7 hκ, nc_7 hκ, kc_8 hκ, kc_63 hκ, nc_63 hκ, kc_64 hκ, nc_64 hκ, kc_65 hκ, kc_66 hκ, nc_66 hκ, kc_67 hκ, nc_67 hκ, kc_68 hκ, kc_69 hκ, nc_69 hκ, kc_70 hκ, nc_70 hκ, kc_71 hκ, nc_71 hκ, kc_72 hκ, kc_73 hκ, nc_73 hκ, kc_74 hκ, nc_74 hκ, kc_75 hκ, nc_75 hκ, kc_76 hκ, nc_76 hκ, kc_77 hκ, kc_78 hκ, nc_78 hκ, kc_79 hκ, nc_79 hκ, kc_80 hκ, nc_80 hκ, kc_81 hκ, nc_81 hκ, kc_82 hκ, nc_82 hκ, kc_83 hκ, nc_83 hκ, kc_84 hκ, nc_84 hκ, kc_85 hκ, nc_85 hκ, kc_86 hκ, nc_86 hκ, kc_87 hκ, nc_87 hκ, kc_88 hκ, nc_88 hκ, kc_89 hκ, nc_89 hκ, kc_90 hκ, nc_90 hκ, tp_0_1 hc ht, tp_0_2 hc ht, tp_0_3 hc ht, tp_0_4 hc ht, tp_0_6 hc ht, tp_0_8 hc ht, tp_0_9 hc ht, tp_0_10 hc ht, tp_0_12 hc ht, tp_0_13 hc ht, tp_0_14 hc ht, tp_3_1 hc ht, tp_3_2 hc ht, tp_3_3 hc ht, tp_3_4 hc ht, tp_8_0 hc ht, tp_8_1 hc ht, tp_8_2 hc ht, tp_18_0 hc ht, tp_18_2 hc ht, tp_18_3 hc ht, tk_0 hκ ht, tk_1 hκ ht, tn_1 hκ ht, tk_2 hκ ht, tn_2 hκ ht, tk_3 hκ ht, tk_4 hκ ht, tn_4 hκ ht, tk_5 hκ ht, tn_5 hκ ht, tk_6 hκ ht, tn_6 hκ ht, tk_7 hκ ht, tn_7 hκ ht, tk_8 hκ ht, tk_9 hκ ht, tn_9 hκ ht, tk_10 hκ ht, tn_10 hκ ht, tk_11 hκ ht, tn_11 hκ ht, tk_12 hκ ht, tn_12 hκ ht, tk_13 hκ ht, tn_13 hκ ht, tk_14 hκ ht, tn_14 hκ ht, tk_15 hκ ht, tn_15 hκ ht, tk_16 hκ ht, tn_16 hκ ht, tk_17 hκ ht, tn_17 hκ ht, tk_18 hκ ht, tk_19 hκ ht, tn_19 hκ ht, tk_20 hκ ht, tn_20 hκ ht, tk_21 hκ ht, tn_21 hκ ht, sk_0 hκ is53, sp_1 hc is53, sk_1 hκ is53, sn_1 hκ is53, sp_2 hc is53, sk_2 hκ is53, sn_2 hκ is53, sp_3 hc is53, sk_3 hκ is53, sn_3 hκ is53, sp_4 hc is53, sk_4 hκ is53, sn_4 hκ is53, sk_0 hκ is58, sp_1 hc is58, sk_1 hκ is58, sn_1 hκ is58, sp_2 hc is58, sk_2 hκ is58, sn_2 hκ is58, sp_3 hc is58, sk_3 hκ is58, sn_3 hκ is58, sp_4 hc is58, sk_4 hκ is58, sn_4 hκ is58, hx.1.1, tk, olcmp_eq, e2]
        · have hne := p32_ne hw2.1 hw.1 he
          rw [if_neg he]
          obtain ⟨f1, b1, b2, b3⟩ := ih (st + 1) (tkX X s w) (fun j => if j = st then (s : Int) else f j) (by omega) hw2
          cases hd : dfsP X o n (tkX X s w) with
          | some l' =>
            obtain ⟨b21, b22⟩ := b2 l' hd
            refine ⟨f1, fun j hj => (b1 j (by omega)).trans (if_neg (by omega)), fun l hl => ?_, fun hl => by cases hl⟩
            cases hl
            refine ⟨fun j hj => ?_, ?_⟩
            · cases j with
              | zero =>
                rw [Nat.add_zero, b1 st (by omega)]
                exact if_pos rfl
              | succ j =>
                rw [List.length_cons] at hj
                have := b21 j (by omega)
                rw [show st + (j + 1) = st + 1 + j by omega]
                exact this
            · rw [q_175_30]
              simp (disch := omega) only [cond_true, cond_false, Bool.and_true, Bool.true_and, Bool.and_false, Bool.false_and, Int.toNat_natCast, Int.reduceToNat, bI_s, bJ_s, bV_s, bR_s, decide_true, decide_false, not_true_eq_false, not_false_eq_true, dT, dF, w_al, w_la, w_ab, w_sl, w_sb, w_dec, w_ml, w_lm, ol2i_n, aup_ne, aupE, aupJ, setc_self, setc_ne, pc_0_0 hc, pc_0_3 hc, pc_0_4 hc, pc_0_7 hc, pc_0_8 hc, pc_0_9 hc, pc_0_12 hc, pc_0_14 hc, pc_0_15 hc, pc_0_16 hc, pc_0_17 hc, pc_0_18 hc, pc_0_19 hc, pc_2_1 hc, pc_2_2 hc, pc_2_3 hc, pc_2_6 hc, pc_2_8 hc, pc_8_2 hc, pc_65_1 hc, pc_65_2 hc, pc_68_1 hc, pc_72_3 hc, pc_72_4 hc, pc_72_5 hc, pc_72_6 hc, pc_77_1 hc, pc_77_2 hc, pc_77_3 hc, pc_77_4 hc, pc_77_5 hc, pc_77_6 hc, kc_0 hκ, kc_1 hκ, nc_1 hκ, kc_2 hκ, kc_3 hκ, nc_3 hκ, kc_4 hκ, nc_4 hκ, kc_5 hκ, nc_5 hκ, kc_6 hκ, nc_6 hκ, kc_7 hκ, nc_7 hκ, kc_8 hκ, kc_63 hκ, nc_63 hκ, kc_64 hκ, nc_64 hκ, kc_65 hκ, kc_66 hκ, nc_66 hκ, kc_67 hκ, nc_67 hκ, kc_68 hκ, kc_69 hκ, nc_69 hκ, kc_70 hκ, nc_70 hκ, kc_71 hκ, nc_71 hκ, kc_72 hκ, kc_73 hκ, nc_73 hκ, kc_74 hκ, nc_74 hκ, kc_75 hκ, nc_75 hκ, kc_76 hκ, nc_76 hκ, kc_77 hκ, kc_78 hκ, nc_78 hκ, kc_79 hκ, nc_79 hκ, kc_80 hκ, nc_80 hκ, kc_81 hκ, nc_81 hκ, kc_82 hκ, nc_82 hκ, kc_83 hκ, nc_83 hκ, kc_84 hκ, nc_84 hκ, kc_85 hκ, nc_85 hκ, kc_86 hκ, nc_86 hκ, kc_87 hκ, nc_87 hκ, kc_88 hκ, nc_88 hκ, kc_89 hκ, nc_89 hκ, kc_90 hκ, nc_90 hκ, tp_0_1 hc ht, tp_0_2 hc ht, tp_0_3 hc ht, tp_0_4 hc ht, tp_0_6 hc ht, tp_0_8 hc ht, tp_0_9 hc ht, tp_0_10 hc ht, tp_0_12 hc ht, tp_0_13 hc ht, tp_0_14 hc ht, tp_3_1 hc ht, tp_3_2 hc ht, tp_3_3 hc ht, tp_3_4 hc ht, tp_8_0 hc ht, tp_8_1 hc ht, tp_8_2 hc ht, tp_18_0 hc ht, tp_18_2 hc ht, tp_18_3 hc ht, tk_0 hκ ht, tk_1 hκ ht, tn_1 hκ ht, tk_2 hκ ht, tn_2 hκ ht, tk_3 hκ ht, tk_4 hκ ht, tn_4 hκ ht, tk_5 hκ ht, tn_5 hκ ht, tk_6 hκ ht, tn_6 hκ ht, tk_7 hκ ht, tn_7 hκ ht, tk_8 hκ ht, tk_9 hκ ht, tn_9 hκ ht, tk_10 hκ ht, tn_10 hκ ht, tk_11 hκ ht, tn_11 hκ ht, tk_12 hκ ht, tn_12 hκ ht, tk_13 hκ ht, tn_13 hκ ht, tk_14 hκ ht, tn_14 hκ ht, tk_15 hκ ht, tn_15 hκ ht, tk_16 hκ ht, tn_16 hκ ht, tk_17 hκ ht, tn_17 hκ ht, tk_18 hκ ht, tk_19 hκ ht, tn_19 hκ ht, tk_20 hκ ht, tn_20 hκ ht, tk_21 hκ ht, tn_21 hκ ht, sk_0 hκ is53, sp_1 hc is53, sk_1 hκ is53, sn_1 hκ is53, sp_2 hc is53, sk_2 hκ is53, sn_2 hκ is53, sp_3 hc is53, sk_3 hκ is53, sn_3 hκ is53, sp_4 hc is53, sk_4 hκ is53, sn_4 hκ is53, sk_0 hκ is58, sp_1 hc is58, sk_1 hκ is58, sn_1 hκ is58, sp_2 hc is58, sk_2 hκ is58, sn_2 hκ is58, sp_3 hc is58, sk_3 hκ is58, sn_3 hκ is58, sp_4 hc is58, sk_4 hκ is58, sn_4 hκ is58, hx.1.1, tk, olcmp_eq, aup_setc, b22]
          | none =>
            have b3' := b3 hd
            obtain ⟨f', a1, a2, a3⟩ := ihm (s + 1) f1 u2 u4 (some (.inr (.inl (p32 (tkX X s w) : Int)))) none (by omega)
            refine ⟨f', fun j hj => (a1 j hj).trans ((b1 j (by omega)).trans (if_neg (by omega))), fun l hl => ⟨(a2 l hl).1, ?_⟩, fun hl => ?_⟩
            · rw [q_175_30]
              simp (disch := omega) only [cond_true, cond_false, Bool.and_true, Bool.true_and, Bool.and_false, Bool.false_and, Int.toNat_natCast, Int.reduceToNat, bI_s, bJ_s, bV_s, bR_s, decide_true, decide_false, not_true_eq_false, not_false_eq_true, dT, dF, w_al, w_la, w_ab, w_sl, w_sb, w_dec, w_ml, w_lm, ol2i_n, aup_ne, aupE, aupJ, setc_self, setc_ne, pc_0_0 hc, pc_0_3 hc, pc_0_4 hc, pc_0_7 hc, pc_0_8 hc, pc_0_9 hc, pc_0_12 hc, pc_0_14 hc, pc_0_15 hc, pc_0_16 hc, pc_0_17 hc, pc_0_18 hc, pc_0_19 hc, pc_2_1 hc, pc_2_2 hc, pc_2_3 hc, pc_2_6 hc, pc_2_8 hc, pc_8_2 hc, pc_65_1 hc, pc_65_2 hc, pc_68_1 hc, pc_72_3 hc, pc_72_4 hc, pc_72_5 hc, pc_72_6 hc, pc_77_1 hc, pc_77_2 hc, pc_77_3 hc, pc_77_4 hc, pc_77_5 hc, pc_77_6 hc, kc_0 hκ, kc_1 hκ, nc_1 hκ, kc_2 hκ, kc_3 hκ, nc_3 hκ, kc_4 hκ, nc_4 hκ, kc_5 hκ, nc_5 hκ, kc_6 hκ, nc_6 hκ, kc_7 hκ, nc_7 hκ, kc_8 hκ, kc_63 hκ, nc_63 hκ, kc_64 hκ, nc_64 hκ, kc_65 hκ, kc_66 hκ, nc_66 hκ, kc_67 hκ, nc_67 hκ, kc_68 hκ, kc_69 hκ, nc_69 hκ, kc_70 hκ, nc_70 hκ, kc_71 hκ, nc_71 hκ, kc_72 hκ, kc_73 hκ, nc_73 hκ, kc_74 hκ, nc_74 hκ, kc_75 hκ, nc_75 hκ, kc_76 hκ, nc_76 hκ, kc_77 hκ, kc_78 hκ, nc_78 hκ, kc_79 hκ, nc_79 hκ, kc_80 hκ, nc_80 hκ, kc_81 hκ, nc_81 hκ, kc_82 hκ, nc_82 hκ, kc_83 hκ, nc_83 hκ, kc_84 hκ, nc_84 hκ, kc_85 hκ, nc_85 hκ, kc_86 hκ, nc_86 hκ, kc_87 hκ, nc_87 hκ, kc_88 hκ, nc_88 hκ, kc_89 hκ, nc_89 hκ, kc_90 hκ, nc_90 hκ, tp_0_1 hc ht, tp_0_2 hc ht, tp_0_3 hc ht, tp_0_4 hc ht, tp_0_6 hc ht, tp_0_8 hc ht, tp_0_9 hc ht, tp_0_10 hc ht, tp_0_12 hc ht, tp_0_13 hc ht, tp_0_14 hc ht, tp_3_1 hc ht, tp_3_2 hc ht, tp_3_3 hc ht, tp_3_4 hc ht, tp_8_0 hc ht, tp_8_1 hc ht, tp_8_2 hc ht, tp_18_0 hc ht, tp_18_2 hc ht, tp_18_3 hc ht, tk_0 hκ ht, tk_1 hκ ht, tn_1 hκ ht, tk_2 hκ ht, tn_2 hκ ht, tk_3 hκ ht, tk_4 hκ ht, tn_4 hκ ht, tk_5 hκ ht, tn_5 hκ ht, tk_6 hκ ht, tn_6 hκ ht, tk_7 hκ ht, tn_7 hκ ht, tk_8 hκ ht, tk_9 hκ ht, tn_9 hκ ht, tk_10 hκ ht, tn_10 hκ ht, tk_11 hκ ht, tn_11 hκ ht, tk_12 hκ ht, tn_12 hκ ht, tk_13 hκ ht, tn_13 hκ ht, tk_14 hκ ht, tn_14 hκ ht, tk_15 hκ ht, tn_15 hκ ht, tk_16 hκ ht, tn_16 hκ ht, tk_17 hκ ht, tn_17 hκ ht, tk_18 hκ ht, tk_19 hκ ht, tn_19 hκ ht, tk_20 hκ ht, tn_20 hκ ht, tk_21 hκ ht, tn_21 hκ ht, sk_0 hκ is53, sp_1 hc is53, sk_1 hκ is53, sn_1 hκ is53, sp_2 hc is53, sk_2 hκ is53, sn_2 hκ is53, sp_3 hc is53, sk_3 hκ is53, sn_3 hκ is53, sp_4 hc is53, sk_4 hκ is53, sn_4 hκ is53, sk_0 hκ is58, sp_1 hc is58, sk_1 hκ is58, sn_1 hκ is58, sp_2 hc is58, sk_2 hκ is58, sn_2 hκ is58, sp_3 hc is58, sk_3 hκ is58, sn_3 hκ is58, sp_4 hc is58, sk_4 hκ is58, sn_4 hκ is58, hx.1.1, tk, olcmp_eq, aup_setc, b3', (a2 l hl).2]
            · rw [q_175_30]
              simp (disch := omega) only [cond_true, cond_false, Bool.and_true, Bool.true_and, Bool.and_false, Bool.false_and, Int.toNat_natCast, Int.reduceToNat, bI_s, bJ_s, bV_s, bR_s, decide_true, decide_false, not_true_eq_false, not_false_eq_true, dT, dF, w_al, w_la, w_ab, w_sl, w_sb, w_dec, w_ml, w_lm, ol2i_n, aup_ne, aupE, aupJ, setc_self, setc_ne, pc_0_0 hc, pc_0_3 hc, pc_0_4 hc, pc_0_7 hc, pc_0_8 hc, pc_0_9 hc, pc_0_12 hc, pc_0_14 hc, pc_0_15 hc, pc_0_16 hc, pc_0_17 hc, pc_0_18 hc, pc_0_19 hc, pc_2_1 hc, pc_2_2 hc, pc_2_3 hc, pc_2_6 hc, pc_2_8 hc, pc_8_2 hc, pc_65_1 hc, pc_65_2 hc, pc_68_1 hc, pc_72_3 hc, pc_72_4 hc, pc_72_5 hc, pc_72_6 hc, pc_77_1 hc, pc_77_2 hc, pc_77_3 hc, pc_77_4 hc, pc_77_5 hc, pc_77_6 hc, kc_0 hκ, kc_1 hκ, nc_1 hκ, kc_2 hκ, kc_3 hκ, nc_3 hκ, kc_4 hκ, nc_4 hκ, kc_5 hκ, nc_5 hκ, kc_6 hκ, nc_6 hκ, kc_7 hκ, nc_7 hκ, kc_8 hκ, kc_63 hκ, nc_63 hκ, kc_64 hκ, nc_64 hκ, kc_65 hκ, kc_66 hκ, nc_66 hκ, kc_67 hκ, nc_67 hκ, kc_68 hκ, kc_69 hκ, nc_69 hκ, kc_70 hκ, nc_70 hκ, kc_71 hκ, nc_71 hκ, kc_72 hκ, kc_73 hκ, nc_73 hκ, kc_74 hκ, nc_74 hκ, kc_75 hκ, nc_75 hκ, kc_76 hκ, nc_76 hκ, kc_77 hκ, kc_78 hκ, nc_78 hκ, kc_79 hκ, nc_79 hκ, kc_80 hκ, nc_80 hκ, kc_81 hκ, nc_81 hκ, kc_82 hκ, nc_82 hκ, kc_83 hκ, nc_83 hκ, kc_84 hκ, nc_84 hκ, kc_85 hκ, nc_85 hκ, kc_86 hκ, nc_86 hκ, kc_87 hκ, nc_87 hκ, kc_88 hκ, nc_88 hκ, kc_89 hκ, nc_89 hκ, kc_90 hκ, nc_90 hκ, tp_0_1 hc ht, tp_0_2 hc ht, tp_0_3 hc ht, tp_0_4 hc ht, tp_0_6 hc ht, tp_0_8 hc ht, tp_0_9 hc ht, tp_0_10 hc ht, tp_0_12 hc ht, tp_0_13 hc ht, tp_0_14 hc ht, tp_3_1 hc ht, tp_3_2 hc ht, tp_3_3 hc ht, tp_3_4 hc ht, tp_8_0 hc ht, tp_8_1 hc ht, tp_8_2 hc ht, tp_18_0 hc ht, tp_18_2 hc ht, tp_18_3 hc ht, tk_0 hκ ht, tk_1 hκ ht, tn_1 hκ ht, tk_2 hκ ht, tn_2 hκ ht, tk_3 hκ ht, tk_4 hκ ht, tn_4 hκ ht, tk_5 hκ ht, tn_5 hκ ht, tk_6 hκ ht, tn_6 hκ ht, tk_7 hκ ht, tn_7 hκ ht, tk_8 hκ ht, tk_9 hκ ht, tn_9 hκ ht, tk_10 hκ ht, tn_10 hκ ht, tk_11 hκ ht, tn_11 hκ ht, tk_12 hκ ht, tn_12 hκ ht, tk_13 hκ ht, tn_13 hκ ht, tk_14 hκ ht, tn_14 hκ ht, tk_15 hκ ht, tn_15 hκ ht, tk_16 hκ ht, tn_16 hκ ht, tk_17 hκ ht, tn_17 hκ ht, tk_18 hκ ht, tk_19 hκ ht, tn_19 hκ ht, tk_20 hκ ht, tn_20 hκ ht, tk_21 hκ ht, tn_21 hκ ht, sk_0 hκ is53, sp_1 hc is53, sk_1 hκ is53, sn_1 hκ is53, sp_2 hc is53, sk_2 hκ is53, sn_2 hκ is53, sp_3 hc is53, sk_3 hκ is53, sn_3 hκ is53, sp_4 hc is53, sk_4 hκ is53, sn_4 hκ is53, sk_0 hκ is58, sp_1 hc is58, sk_1 hκ is58, sn_1 hκ is58, sp_2 hc is58, sk_2 hκ is58, sn_2 hκ is58, sp_3 hc is58, sk_3 hκ is58, sn_3 hκ is58, sp_4 hc is58, sk_4 hκ is58, sn_4 hκ is58, hx.1.1, tk, olcmp_eq, aup_setc, b3', a3 hl]
    obtain ⟨f', a1, a2, a3⟩ := loop (xns X) 0 f none none none none (by omega)
    refine ⟨f', a1, fun l hl => ⟨(a2 l hl).1, ?_⟩, fun hl => ?_⟩
    · rw [show d + 3 + (n + 1) = (d + 3 + n) + 1 by omega, c_175]
      simp (disch := omega) only [cond_true, cond_false, Bool.and_true, Bool.true_and, Bool.and_false, Bool.false_and, Int.toNat_natCast, Int.reduceToNat, bI_s, bJ_s, bV_s, bR_s, decide_true, decide_false, not_true_eq_false, not_false_eq_true, dT, dF, w_al, w_la, w_ab, w_sl, w_sb, w_dec, w_ml, w_lm, ol2i_n, aup_ne, aupE, aupJ, setc_self, setc_ne, a0, a1]
      exact (a2 l hl).2
    · rw [show d + 3 + (n + 1) = (d + 3 + n) + 1 by omega, c_175]
      simp (disch := omega) only [cond_true, cond_false, Bool.and_true, Bool.true_and, Bool.and_false, Bool.false_and, Int.toNat_natCast, Int.reduceToNat, bI_s, bJ_s, bV_s, bR_s, decide_true, decide_false, not_true_eq_false, not_false_eq_true, dT, dF, w_al, w_la, w_ab, w_sl, w_sb, w_dec, w_ml, w_lm, ol2i_n, aup_ne, aupE, aupJ, setc_self, setc_ne, a0, a1]
      exact a3 hl
