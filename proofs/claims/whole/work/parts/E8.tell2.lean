/-! The class's Teller: classes, stones, pieces. -/
theorem live_le {T : Nat → TK} {i j : Nat} (h : live T j) (hi : i ≤ j) : live T i := fun k hk => h k (by omega)
def lbn (l : List Nat) : Nat → Nat
  | 0 => 0
  | k + 1 => lbn l k ||| 2 ^ (l.getD k 0)
theorem lbn_lt {l : List Nat} (hl : wv l) : ∀ k, k ≤ l.length → lbn l k < 2 ^ 27
  | 0, _ => show 0 < 2 ^ 27 by decide
  | k + 1, hk => by
    have ih := lbn_lt hl k (by omega)
    have hb : l.getD k 0 ≤ 26 := by
      rw [List.getD_eq_getElem?_getD, List.getElem?_eq_getElem (by omega), Option.getD_some]
      exact (hl _ (List.getElem_mem _)).2
    exact Nat.or_lt_two_pow ih (Nat.pow_lt_pow_right (by decide) (by omega))
theorem lbn_bit {l : List Nat} (x : Nat) : ∀ k, k ≤ l.length → (lbn l k).testBit x = decide (x ∈ l.take k)
  | 0, _ => by
    rw [show lbn l 0 = 0 from rfl, Nat.zero_testBit, List.take_zero]
    exact (decide_eq_false List.not_mem_nil).symm
  | k + 1, hk => by
    have hk' : k < l.length := by omega
    rw [show lbn l (k + 1) = lbn l k ||| 2 ^ (l.getD k 0) from rfl, Nat.testBit_or, lbn_bit x k (by omega), Nat.testBit_two_pow]
    have e : l.take (k + 1) = l.take k ++ [l.getD k 0] := by
      rw [List.getD_eq_getElem?_getD, List.getElem?_eq_getElem hk', Option.getD_some]
      exact List.take_succ_eq_append_getElem hk'
    rw [e]
    by_cases h1 : x ∈ l.take k
    · rw [decide_eq_true h1, Bool.true_or, decide_eq_true (List.mem_append_left _ h1)]
    · rw [decide_eq_false h1, Bool.false_or]
      by_cases h2 : l.getD k 0 = x
      · rw [decide_eq_true h2, decide_eq_true (List.mem_append_right _ (by rw [h2]; exact List.mem_singleton_self x))]
      · rw [decide_eq_false h2, decide_eq_false (fun q => ?_)]
        rcases List.mem_append.mp q with q | q
        · exact h1 q
        · exact h2 (List.mem_singleton.mp q).symm
theorem mbit_nat {n x : Nat} (hn : n < 2147483648) (hx : x < 32) : mbit (n : Int) x = n.testBit x := by
  unfold mbit
  rw [obitu hn hx, Nat.testBit_eq_decide_div_mod_eq]
  have h2 : n / 2 ^ x % 2 = 0 ∨ n / 2 ^ x % 2 = 1 := by omega
  rcases h2 with h | h
  · simp [h]
  · simp [h]
theorem mbit_m1 : ∀ x, x ≤ 26 → mbit (-1) x = true := by
  have : ∀ x, x < 27 → mbit (-1) x = true := by decide +kernel
  exact fun x hx => this x (by omega)
theorem mbit_1 {x : Nat} (hx : x ≤ 26) : mbit 1 x = decide (x = 0) := by
  have := mbit_nat (n := 1) (x := x) (by decide) (by omega)
  rw [show ((1 : Nat) : Int) = 1 from rfl] at this
  rw [this, show (1 : Nat) = 2 ^ 0 from rfl, Nat.testBit_two_pow]
  by_cases h : x = 0
  · rw [h]
  · rw [decide_eq_false (Ne.symm h), decide_eq_false h]
theorem mbit_p {l x : Nat} (hl : l ≤ 26) (hx : x ≤ 26) : mbit ((2 ^ l : Nat) : Int) x = decide (x = l) := by
  have hp : 2 ^ l ≤ 2 ^ 26 := Nat.pow_le_pow_right (by decide) hl
  rw [mbit_nat (by omega) (by omega), Nat.testBit_two_pow]
  by_cases h : x = l
  · rw [h]
  · rw [decide_eq_false (Ne.symm h), decide_eq_false h]
theorem getD_le {l : List Nat} (hl : wv l) {k : Nat} (hk : k < l.length) : 1 ≤ l.getD k 0 ∧ l.getD k 0 ≤ 26 := by
  rw [List.getD_eq_getElem?_getD, List.getElem?_eq_getElem hk, Option.getD_some]
  exact hl _ (List.getElem_mem hk)
/-- the letters of a class -/
theorem tc_bits (xs : List Int) (d : Nat) (h : aH) {l : List Nat} (hl : wok l) (v0 v1 : Int) (n1 : Int) (u3 : Option aV) : ∀ (m k : Nat) (u5 : Option aV), k + m = l.length → ∃ u5', ev xs (d + 1) mm_97 47 [some (.inr (.inr v0)), some (.inr (.inr v1)), some (.inr (.inl n1)), u3, some (.inr (.inl (p32 l : Int))), u5, some (.inl (lbn l k : Int)), some (.inl (k : Int))] [] h = ev xs (d + 1) mm_97 47 [some (.inr (.inr v0)), some (.inr (.inr v1)), some (.inr (.inl n1)), u3, some (.inr (.inl (p32 l : Int))), u5', some (.inl (lbn l l.length : Int)), some (.inl (l.length : Int))] [] h
  | 0, k, u5, hm => by
    have : k = l.length := by omega
    subst this
    exact ⟨u5, rfl⟩
  | m + 1, k, u5, hm => by
    have h8 := hl.2
    obtain ⟨u', ih⟩ := tc_bits xs d h hl v0 v1 n1 u3 m (k + 1) (acl u5) (by omega)
    refine ⟨u', ?_⟩
    have sz := sizeOf_eq xs d h hl.1 (by omega)
    have la := letterAt_eq xs d h hl.1 (by omega) (i := k) (by omega)
    have hb := getD_le hl.1 (k := k) (by omega)
    have hlt := lbn_lt hl.1 k (by omega)
    have hp : 2 ^ (l.getD k 0) ≤ 2 ^ 26 := Nat.pow_le_pow_right (by decide) hb.2
    have eo : oor (lbn l k : Int) (oshl 1 ((l.getD k 0 : Nat) : Int)) = (lbn l (k + 1) : Int) := by
      rw [oshl1 (by omega), oor_nat (by omega) (by omega)]
      rfl
    rw [← ih, q_97_47]
    simp (disch := omega) only [cond_true, cond_false, Bool.and_true, Bool.true_and, Bool.and_false, Bool.false_and, Int.toNat_natCast, Int.reduceToNat, bI_s, bJ_s, bV_s, bR_s, decide_true, decide_false, not_true_eq_false, not_false_eq_true, dT, dF, w_al, w_la, w_ab, w_sl, w_sb, w_dec, w_ml, w_lm, ol2i_n, aup_ne, aupE, aupJ, setc_self, setc_ne, sz, la, eo]
theorem TcC_up {D D' : Nat → Nat → Int} {t : Nat} {Y Y' : PY} (h : TcC D t Y) (h1 : D' (t + 1) = D (t + 1)) (h2 : D' (t + 2) = D (t + 2)) (e1 : xnc Y'.1 = xnc Y.1) (e2 : Y'.2 = Y.2) : TcC D' t Y' := by
  unfold TcC at h ⊢
  rw [h1, h2, e1, e2]
  exact h
theorem LwC_up {D D' : Nat → Nat → Int} {t : Nat} {X X' : TX} (h : LwC D t X) (h1 : D' (t + 18) 1 = D (t + 18) 1) (h2 : D' (t + 20) = D (t + 20)) (h3 : D' (t + 21) = D (t + 21)) (e : xlaw X' = xlaw X) : LwC D' t X' := by
  unfold LwC at h ⊢
  rw [h1, h2, h3, e]
  exact h
theorem tClass (xs : List Int) (d : Nat) {κ : aK} {D E : Nat → Nat → Int} (hκ : Shp κ) {t : Nat} (ht : isT t) {T : Nat → TK} (hT : TKok T) (hk : TkC D T) {a : Nat} {w : SS} (h : TlS D E t a w) {Y : PY} (hY : YOk Y) (hx : TcY E t Y) (hw : w.1 = 0) (ha : a + 3 ≤ 400) (hl : live T (a + 3)) (h1 : tkK (T (a + 1)) = 2) (h2 : tkK (T (a + 2)) = 2) (hn : xnc Y.1 < 6) : ∃ E', cl xs (d + 5) 97 [.inr (.inr ((8 : Nat) : Int)), .inr (.inr (t : Int))] (κ, E) = some (none, (κ, E')) ∧ TlS D E' t (a + 2) (w1C T a Y w) ∧ ((w1C T a Y w).1 = 0 → TcY E' t (mkC Y (tkN (T (a + 1))) (tkN (T (a + 2))))) := by
  have k8 := kc_8 hκ
  have ht' : t = 9 ∨ t = 31 := ht
  have hN1 := hT.2.2.1 _ h1
  have hN2 := hT.2.2.1 _ h2
  have n18 := hN1.1.2
  have n28 := hN2.1.2
  obtain ⟨E1, a1, a2, a3⟩ := t_name xs (d + 1) hκ ht hT hk h (by omega) h1
  have hx1 := hx.c8 ht a3
  have sz := sizeOf_eq xs (d + 3) (κ, E1) hN1.1.1 (by omega)
  have fc := findClass_eq xs (d + 3) hκ a2.2.1 ht hY hx1 hN1.1
  -- behind the name, whatever its fault
  have fin : ∀ (E2 : Nat → Nat → Int) (w' : SS) (b3 b4 b5 b6 b7 : Option aV), TlS D E2 t (a + 1) w' → (∀ q, q ≠ 8 → E2 q = E1 q) → ∃ E', ev xs (d + 4) mm_97 35 [some (.inr (.inr ((8 : Nat) : Int))), some (.inr (.inr (t : Int))), some (.inr (.inl (p32 (tkN (T (a + 1))) : Int))), b3, b4, b5, b6, b7] [] (κ, E2) = some (none, (κ, E')) ∧ TlS D E' t (a + 2) w' ∧ TcY E' t (mkC Y (tkN (T (a + 1))) (tkN (T (a + 2)))) := fun E2 w' b3 b4 b5 b6 b7 s2 f2 => by
    obtain ⟨E3, c1, c2, c3⟩ := t_name xs (d + 1) hκ ht hT hk s2 (by omega) h2
    have hx3 := (hx1.c8 ht f2).c8 ht c3
    obtain ⟨u5', lp⟩ := tc_bits xs (d + 3) (κ, E3) hN2.1 ((8 : Nat) : Int) (t : Int) (p32 (tkN (T (a + 1))) : Int) (acl b3) (tkN (T (a + 2))).length 0 none (by omega)
    have sz2 := sizeOf_eq xs (d + 3) (κ, E3) hN2.1.1 (by omega)
    have hc := c2.2.1
    have e0 : E3 t 0 = (xnc Y.1 : Int) := hx3.1.2.2.2.2.2.2
    obtain ⟨p1, p2, p3, p4, p5, p6⟩ := pd_t ht
    have hlt := lbn_lt hN2.1.1 (tkN (T (a + 2))).length (Nat.le_refl _)
    refine ⟨aup (aup (aup E3 (t + 1) (xnc Y.1) (p32 (tkN (T (a + 1))) : Int)) (t + 2) (xnc Y.1) (lbn (tkN (T (a + 2))) (tkN (T (a + 2))).length : Int)) t 0 ((xnc Y.1 + 1 : Nat) : Int), ?_, c2.tx ht (((hc.upc p3.1 _ _).upc p3.2.1 _ _).up p1.1 _) (fun q hq => by rw [aupN (by omega), aupN (by omega), aupN (by omega)]), ?_⟩
    · rw [q_97_35]
      simp (disch := omega) only [cond_true, cond_false, Bool.and_true, Bool.true_and, Bool.and_false, Bool.false_and, Int.toNat_natCast, Int.reduceToNat, bI_s, bJ_s, bV_s, bR_s, decide_true, decide_false, not_true_eq_false, not_false_eq_true, dT, dF, w_al, w_la, w_ab, w_sl, w_sb, w_dec, w_ml, w_lm, ol2i_n, aup_ne, aupE, aupJ, setc_self, setc_ne, k8, c1]
      refine Eq.trans lp ?_
      rw [q_97_47]
      simp (disch := omega) only [cond_true, cond_false, Bool.and_true, Bool.true_and, Bool.and_false, Bool.false_and, Int.toNat_natCast, Int.reduceToNat, bI_s, bJ_s, bV_s, bR_s, decide_true, decide_false, not_true_eq_false, not_false_eq_true, dT, dF, w_al, w_la, w_ab, w_sl, w_sb, w_dec, w_ml, w_lm, ol2i_n, aup_ne, aupE, aupJ, setc_self, setc_ne, sz2, tp_0_1 hc ht, tp_0_2 hc ht, tp_0_3 hc ht, tp_0_4 hc ht, tp_0_6 hc ht, tp_0_8 hc ht, tp_0_9 hc ht, tp_0_10 hc ht, tp_0_12 hc ht, tp_0_13 hc ht, tp_0_14 hc ht, tp_3_1 hc ht, tp_3_2 hc ht, tp_3_3 hc ht, tp_3_4 hc ht, tp_8_0 hc ht, tp_8_1 hc ht, tp_8_2 hc ht, tp_18_0 hc ht, tp_18_2 hc ht, tp_18_3 hc ht, tk_0 hκ ht, tk_1 hκ ht, tn_1 hκ ht, tk_2 hκ ht, tn_2 hκ ht, tk_3 hκ ht, tk_4 hκ ht, tn_4 hκ ht, tk_5 hκ ht, tn_5 hκ ht, tk_6 hκ ht, tn_6 hκ ht, tk_7 hκ ht, tn_7 hκ ht, tk_8 hκ ht, tk_9 hκ ht, tn_9 hκ ht, tk_10 hκ ht, tn_10 hκ ht, tk_11 hκ ht, tn_11 hκ ht, tk_12 hκ ht, tn_12 hκ ht, tk_13 hκ ht, tn_13 hκ ht, tk_14 hκ ht, tn_14 hκ ht, tk_15 hκ ht, tn_15 hκ ht, tk_16 hκ ht, tn_16 hκ ht, tk_17 hκ ht, tn_17 hκ ht, tk_18 hκ ht, tk_19 hκ ht, tn_19 hκ ht, tk_20 hκ ht, tn_20 hκ ht, tk_21 hκ ht, tn_21 hκ ht, e0]
      rw [q_97_117]
    · obtain ⟨z1, z2, z3, z4⟩ := hx3
      obtain ⟨y1, y2, y3, y4, y5, y6, y7⟩ := z1
      refine ⟨⟨by simp (disch := omega) only [aup_ne]; exact y1, by simp (disch := omega) only [aup_ne, aupJ]; exact y2, by simp (disch := omega) only [aup_ne]; exact y3, by simp (disch := omega) only [aup_ne, aupJ]; exact y4, by simp (disch := omega) only [aup_ne, aupJ]; exact y5, by simp (disch := omega) only [aup_ne, aupJ]; exact y6, by rw [aupE]; rfl⟩, fun c hc' => ?_, ?_, ?_⟩
      · have hc' : c < xnc Y.1 + 1 := hc'
        show aup (aup (aup E3 (t + 1) _ _) (t + 2) _ _) t 0 _ (t + 1) c = (p32 (upf Y.2.1 (xnc Y.1) _ c) : Int) ∧ ∀ x, x ≤ 26 → mbit (aup (aup (aup E3 (t + 1) _ _) (t + 2) _ _) t 0 _ (t + 2) c) x = decide (x ∈ upf Y.2.2 (xnc Y.1) _ c)
        by_cases hcc : c = xnc Y.1
        · subst hcc
          rw [upf_s, upf_s]
          simp (disch := omega) only [aup_ne, aupE]
          refine ⟨trivial, fun x hx' => ?_⟩
          rw [mbit_nat (by omega) (by omega), lbn_bit x _ (Nat.le_refl _), List.take_length]
        · rw [upf_n hcc, upf_n hcc]
          simp (disch := omega) only [aup_ne, aupJ]
          exact z2 c (by omega)
      · simp (disch := omega) only [aup_ne]
        exact z3
      · exact LwC_up z4 (by simp (disch := omega) only [aup_ne]) (by simp (disch := omega) only [aup_ne]) (by simp (disch := omega) only [aup_ne]) rfl
  have e97 : ∀ (E2 : Nat → Nat → Int) (w' : SS) , w1C T a Y w = w' → TlS D E2 t (a + 1) w' → (∀ q, q ≠ 8 → E2 q = E1 q) → (cl xs (d + 5) 97 [.inr (.inr ((8 : Nat) : Int)), .inr (.inr (t : Int))] (κ, E) = ev xs (d + 4) mm_97 35 [some (.inr (.inr ((8 : Nat) : Int))), some (.inr (.inr (t : Int))), some (.inr (.inl (p32 (tkN (T (a + 1))) : Int))), none, none, none, none, none] [] (κ, E2)) → ∃ E', cl xs (d + 5) 97 [.inr (.inr ((8 : Nat) : Int)), .inr (.inr (t : Int))] (κ, E) = some (none, (κ, E')) ∧ TlS D E' t (a + 2) (w1C T a Y w) ∧ ((w1C T a Y w).1 = 0 → TcY E' t (mkC Y (tkN (T (a + 1))) (tkN (T (a + 2))))) := fun E2 w' ew s2 f2 e => by
    obtain ⟨E', g1, g2, g3⟩ := fin E2 w' none none none none none s2 f2
    rw [ew]
    exact ⟨E', e.trans g1, g2, fun _ => g3⟩
  by_cases hs : (tkN (T (a + 1))).length < 2
  · obtain ⟨E2, f1, f2, f3⟩ := t_fail xs (d + 2) hκ ht hT hk a2 (by omega) (live_le hl (by omega)) (k := 5) (by decide) (kk := 5) rfl
    refine e97 E2 _ (if_pos hs) f2 f3 ?_
    rw [c_97]
    simp (disch := omega) only [cond_true, cond_false, Bool.and_true, Bool.true_and, Bool.and_false, Bool.false_and, Int.toNat_natCast, Int.reduceToNat, bI_s, bJ_s, bV_s, bR_s, decide_true, decide_false, not_true_eq_false, not_false_eq_true, dT, dF, w_al, w_la, w_ab, w_sl, w_sb, w_dec, w_ml, w_lm, ol2i_n, aup_ne, aupE, aupJ, setc_self, setc_ne, k8, a1, sz, f1]
  · have ewc : w1C T a Y w = (if (ycl Y (tkN (T (a + 1)))).isSome = true then wrg w 3 (tkP (T (a + 1))) else w) := if_neg hs
    cases hyc : ycl Y (tkN (T (a + 1))) with
    | none =>
      rw [hyc] at fc ewc
      refine e97 E1 w (ewc.trans (if_neg (by decide))) a2 (fun _ _ => rfl) ?_
      have fc' : cl xs (d + 4) 110 [.inr (.inr (t : Int)), .inr (.inl (p32 (tkN (T (a + 1))) : Int))] (κ, E1) = some (some (.inl (-1)), (κ, E1)) := fc
      rw [c_97]
      simp (disch := omega) only [cond_true, cond_false, Bool.and_true, Bool.true_and, Bool.and_false, Bool.false_and, Int.toNat_natCast, Int.reduceToNat, bI_s, bJ_s, bV_s, bR_s, decide_true, decide_false, not_true_eq_false, not_false_eq_true, dT, dF, w_al, w_la, w_ab, w_sl, w_sb, w_dec, w_ml, w_lm, ol2i_n, aup_ne, aupE, aupJ, setc_self, setc_ne, k8, a1, sz, tk_0 hκ ht, fc']
    | some c =>
      rw [hyc] at fc ewc
      obtain ⟨E2, f1, f2, f3⟩ := t_fail xs (d + 2) hκ ht hT hk a2 (by omega) (live_le hl (by omega)) (k := 3) (by decide) (kk := 3) rfl
      refine e97 E2 _ (ewc.trans (if_pos rfl)) f2 f3 ?_
      have fc' : cl xs (d + 4) 110 [.inr (.inr (t : Int)), .inr (.inl (p32 (tkN (T (a + 1))) : Int))] (κ, E1) = some (some (.inl (c : Int)), (κ, E1)) := fc
      rw [c_97]
      simp (disch := omega) only [cond_true, cond_false, Bool.and_true, Bool.true_and, Bool.and_false, Bool.false_and, Int.toNat_natCast, Int.reduceToNat, bI_s, bJ_s, bV_s, bR_s, decide_true, decide_false, not_true_eq_false, not_false_eq_true, dT, dF, w_al, w_la, w_ab, w_sl, w_sb, w_dec, w_ml, w_lm, ol2i_n, aup_ne, aupE, aupJ, setc_self, setc_ne, k8, a1, sz, tk_0 hκ ht, fc', f1]
/-- a stone's letter -/
theorem t_letter (xs : List Int) (d : Nat) {κ : aK} {D E : Nat → Nat → Int} (hκ : Shp κ) {t : Nat} (ht : isT t) {T : Nat → TK} (hT : TKok T) (hk : TkC D T) {a : Nat} {w : SS} (h : TlS D E t a w) (ha : a + 1 ≤ 400) (hl : live T (a + 1)) (h1 : tkK (T (a + 1)) = 2) : ∃ E', cl xs (d + 4) 98 [.inr (.inr ((8 : Nat) : Int))] (κ, E) = some (some (.inl ((tkN (T (a + 1))).headD 0 : Int)), (κ, E')) ∧ TlS D E' t (a + 1) (w1L T (a + 1) w) ∧ (∀ q, q ≠ 8 → E' q = E q) := by
  have k8 := kc_8 hκ
  have hN1 := hT.2.2.1 _ h1
  have n18 := hN1.1.2
  obtain ⟨E1, a1, a2, a3⟩ := t_name xs d hκ ht hT hk h ha h1
  have sz := sizeOf_eq xs (d + 2) (κ, E1) hN1.1.1 (by omega)
  have hd : (tkN (T (a + 1))).getD 0 0 = (tkN (T (a + 1))).headD 0 := by cases tkN (T (a + 1)) <;> rfl
  have la : ∀ E' : Nat → Nat → Int, cl xs (d + 3) 122 [.inr (.inl (p32 (tkN (T (a + 1))) : Int)), .inl 0] (κ, E') = some (some (.inl ((tkN (T (a + 1))).headD 0 : Int)), (κ, E')) := fun E' => by
    have := letterAt_eq xs (d + 2) (κ, E') hN1.1.1 (by omega) (i := 0) (by omega)
    rw [hd] at this
    exact this
  rw [c_98]
  unfold w1L
  by_cases hs : 1 < (tkN (T (a + 1))).length
  · rw [if_pos hs]
    obtain ⟨E2, f1, f2, f3⟩ := t_fail xs (d + 1) hκ ht hT hk a2 ha hl (k := 5) (by decide) (kk := 5) rfl
    refine ⟨E2, ?_, f2, fun q hq => (f3 q hq).trans (a3 q hq)⟩
    simp (disch := omega) only [cond_true, cond_false, Bool.and_true, Bool.true_and, Bool.and_false, Bool.false_and, Int.toNat_natCast, Int.reduceToNat, bI_s, bJ_s, bV_s, bR_s, decide_true, decide_false, not_true_eq_false, not_false_eq_true, dT, dF, w_al, w_la, w_ab, w_sl, w_sb, w_dec, w_ml, w_lm, ol2i_n, aup_ne, aupE, aupJ, setc_self, setc_ne, k8, a1, sz, f1]
    rw [q_98_18]
    simp (disch := omega) only [cond_true, cond_false, Bool.and_true, Bool.true_and, Bool.and_false, Bool.false_and, Int.toNat_natCast, Int.reduceToNat, bI_s, bJ_s, bV_s, bR_s, decide_true, decide_false, not_true_eq_false, not_false_eq_true, dT, dF, w_al, w_la, w_ab, w_sl, w_sb, w_dec, w_ml, w_lm, ol2i_n, aup_ne, aupE, aupJ, setc_self, setc_ne, la]
  · rw [if_neg hs]
    refine ⟨E1, ?_, a2, a3⟩
    simp (disch := omega) only [cond_true, cond_false, Bool.and_true, Bool.true_and, Bool.and_false, Bool.false_and, Int.toNat_natCast, Int.reduceToNat, bI_s, bJ_s, bV_s, bR_s, decide_true, decide_false, not_true_eq_false, not_false_eq_true, dT, dF, w_al, w_la, w_ab, w_sl, w_sb, w_dec, w_ml, w_lm, ol2i_n, aup_ne, aupE, aupJ, setc_self, setc_ne, k8, a1, sz]
    rw [q_98_18]
    simp (disch := omega) only [cond_true, cond_false, Bool.and_true, Bool.true_and, Bool.and_false, Bool.false_and, Int.toNat_natCast, Int.reduceToNat, bI_s, bJ_s, bV_s, bR_s, decide_true, decide_false, not_true_eq_false, not_false_eq_true, dT, dF, w_al, w_la, w_ab, w_sl, w_sb, w_dec, w_ml, w_lm, ol2i_n, aup_ne, aupE, aupJ, setc_self, setc_ne, la]
theorem headD_ok {l : List Nat} (hl : wok l) (h1 : 1 ≤ l.length) : 1 ≤ l.headD 0 ∧ l.headD 0 ≤ 26 := by
  cases l with
  | nil => exact absurd h1 (by decide)
  | cons x r => exact hl.1 x List.mem_cons_self
/-- what stands beside -/
theorem t_nb (xs : List Int) (d : Nat) {κ : aK} {D E : Nat → Nat → Int} (hκ : Shp κ) {t : Nat} (ht : isT t) {T : Nat → TK} (hT : TKok T) (hk : TkC D T) {a : Nat} {w : SS} (h : TlS D E t a w) {Y : PY} (hY : YOk Y) (hx : TcY E t Y) {k : Nat} (hk2 : ¬ k = 0) {kk : Int} (hkk : kk = (k : Int)) (ha : a + 1 ≤ 400) (hl : tkK (T (a + 1)) = k → a + 2 ≤ 400 ∧ live T (a + 2) ∧ (tkK (T (a + 2)) = 142 ∨ tkK (T (a + 2)) = 2)) : ∃ (m : Int) (E' : Nat → Nat → Int), cl xs (d + 4) 101 [.inr (.inr ((8 : Nat) : Int)), .inr (.inr (t : Int)), .inl kk] (κ, E) = some (some (.inl m), (κ, E')) ∧ TlS D E' t (nbE T (a + 1) k - 1) (nbM T Y (a + 1) k w).2.2 ∧ (∀ q, q ≠ 8 → E' q = E q) ∧ ((nbM T Y (a + 1) k w).2.2.1 = 0 → ∀ x, x ≤ 26 → mbit m x = (nbM T Y (a + 1) k w).1 x) := by
  have k8 := kc_8 hκ
  subst hkk
  have kb := t_behind xs (d + 1) hκ ht hT hk h ha
  unfold nbM nbE
  by_cases hk1 : tkK (T (a + 1)) = k
  · rw [if_pos hk1, if_pos hk1]
    obtain ⟨l1, l2, l3⟩ := hl hk1
    have e : w32 (E 8 3 + 1) = ((a + 1 : Nat) : Int) := by rw [h.2.2.1, w32_id (by omega) (by omega)]; omega
    have h2 := h.at_ (b := a + 1) e
    obtain ⟨x, E1, a1, a2, a3, a4⟩ := t_nameX xs (d + 0) hκ ht hT hk h2 l1
    have a4' : ∀ q, q ≠ 8 → E1 q = E q := fun q hq => (a4 q hq).trans (aupN hq)
    have th := t_here xs (d + 1) hκ ht hT hk a3 l1
    rw [show a + 1 + 2 - 1 = a + 2 by omega]
    by_cases h142 : tkK (T (a + 1 + 1)) = 142
    · rw [if_pos h142]
      refine ⟨1, E1, ?_, a3, a4', fun _ x hx' => mbit_1 hx'⟩
      rw [c_101]
      simp (disch := omega) only [cond_true, cond_false, Bool.and_true, Bool.true_and, Bool.and_false, Bool.false_and, Int.toNat_natCast, Int.reduceToNat, bI_s, bJ_s, bV_s, bR_s, decide_true, decide_false, not_true_eq_false, not_false_eq_true, dT, dF, w_al, w_la, w_ab, w_sl, w_sb, w_dec, w_ml, w_lm, ol2i_n, aup_ne, aupE, aupJ, setc_self, setc_ne, k8, kb, hk1, a1, th, h142]
    · rw [if_neg h142]
      have h2n : tkK (T (a + 1 + 1)) = 2 := by rcases l3 with q | q; exact absurd q h142; exact q
      have hN := hT.2.2.1 _ h2n
      have n8 := hN.1.2
      have ex := a2 h2n
      subst ex
      have ne : ¬ ((tkK (T (a + 1 + 1)) : Nat) : Int) = 142 := by omega
      have sz := sizeOf_eq xs (d + 2) (κ, E1) hN.1.1 (by omega)
      by_cases hs : (tkN (T (a + 1 + 1))).length = 1
      · rw [if_pos hs]
        have hh := headD_ok hN.1 hN.2
        have hd : (tkN (T (a + 1 + 1))).getD 0 0 = (tkN (T (a + 1 + 1))).headD 0 := by cases tkN (T (a + 1 + 1)) <;> rfl
        have la := letterAt_eq xs (d + 2) (κ, E1) hN.1.1 (by omega) (i := 0) (by omega)
        rw [hd] at la
        have la' : cl xs (d + 3) 122 [.inr (.inl (p32 (tkN (T (a + 1 + 1))) : Int)), .inl 0] (κ, E1) = some (some (.inl ((tkN (T (a + 1 + 1))).headD 0 : Int)), (κ, E1)) := la
        refine ⟨((2 ^ ((tkN (T (a + 1 + 1))).headD 0) : Nat) : Int), E1, ?_, a3, a4', fun _ x hx' => mbit_p hh.2 hx'⟩
        rw [c_101]
        simp (disch := omega) only [cond_true, cond_false, Bool.and_true, Bool.true_and, Bool.and_false, Bool.false_and, Int.toNat_natCast, Int.reduceToNat, bI_s, bJ_s, bV_s, bR_s, decide_true, decide_false, not_true_eq_false, not_false_eq_true, dT, dF, w_al, w_la, w_ab, w_sl, w_sb, w_dec, w_ml, w_lm, ol2i_n, aup_ne, aupE, aupJ, setc_self, setc_ne, k8, kb, hk1, a1, th, ne, sz, hs, la', oshl1]
      · rw [if_neg hs]
        have hx1 := hx.c8 ht a4'
        have fc := findClass_eq xs (d + 2) hκ a3.2.1 ht hY hx1 hN.1
        have n6 := hY.1.2.2.2.2.2.2
        have nes : ¬ (((tkN (T (a + 1 + 1))).length : Nat) : Int) = 1 := by omega
        cases hyc : ycl Y (tkN (T (a + 1 + 1))) with
        | none =>
          rw [hyc] at fc
          have fc' : cl xs (d + 3) 110 [.inr (.inr (t : Int)), .inr (.inl (p32 (tkN (T (a + 1 + 1))) : Int))] (κ, E1) = some (some (.inl (-1)), (κ, E1)) := fc
          obtain ⟨E2, f1, f2, f3⟩ := t_fail xs (d + 1) hκ ht hT hk a3 l1 l2 (k := 4) (by decide) (kk := 4) rfl
          refine ⟨0, E2, ?_, f2, fun q hq => (f3 q hq).trans (a4' q hq), fun q => (wrg_z (by decide) q).elim⟩
          rw [c_101]
          simp (disch := omega) only [cond_true, cond_false, Bool.and_true, Bool.true_and, Bool.and_false, Bool.false_and, Int.toNat_natCast, Int.reduceToNat, bI_s, bJ_s, bV_s, bR_s, decide_true, decide_false, not_true_eq_false, not_false_eq_true, dT, dF, w_al, w_la, w_ab, w_sl, w_sb, w_dec, w_ml, w_lm, ol2i_n, aup_ne, aupE, aupJ, setc_self, setc_ne, k8, kb, hk1, a1, th, ne, sz, nes, tk_0 hκ ht, fc']
          rw [q_101_72]
          simp (disch := omega) only [cond_true, cond_false, Bool.and_true, Bool.true_and, Bool.and_false, Bool.false_and, Int.toNat_natCast, Int.reduceToNat, bI_s, bJ_s, bV_s, bR_s, decide_true, decide_false, not_true_eq_false, not_false_eq_true, dT, dF, w_al, w_la, w_ab, w_sl, w_sb, w_dec, w_ml, w_lm, ol2i_n, aup_ne, aupE, aupJ, setc_self, setc_ne, k8, f1]
        | some c =>
          rw [hyc] at fc
          have hlt := fndN_lt _ _ _ hyc
          have fc' : cl xs (d + 3) 110 [.inr (.inr (t : Int)), .inr (.inl (p32 (tkN (T (a + 1 + 1))) : Int))] (κ, E1) = some (some (.inl (c : Int)), (κ, E1)) := fc
          have hc := a3.2.1
          refine ⟨E1 (t + 2) c, E1, ?_, a3, a4', fun _ x hx' => (hx1.2.1 c (by omega)).2 x hx'⟩
          rw [c_101]
          simp (disch := omega) only [cond_true, cond_false, Bool.and_true, Bool.true_and, Bool.and_false, Bool.false_and, Int.toNat_natCast, Int.reduceToNat, bI_s, bJ_s, bV_s, bR_s, decide_true, decide_false, not_true_eq_false, not_false_eq_true, dT, dF, w_al, w_la, w_ab, w_sl, w_sb, w_dec, w_ml, w_lm, ol2i_n, aup_ne, aupE, aupJ, setc_self, setc_ne, k8, kb, hk1, a1, th, ne, sz, nes, tk_0 hκ ht, fc', tp_0_2 hc ht, tn_2 hκ ht]
  · rw [if_neg hk1, if_neg hk1]
    refine ⟨-1, E, ?_, by rw [show a + 1 - 1 = a by omega]; exact h, fun _ _ => rfl, fun _ x hx' => mbit_m1 x hx'⟩
    have ne : ¬ ((tkK (T (a + 1)) : Nat) : Int) = (k : Int) := by omega
    rw [c_101]
    simp (disch := omega) only [cond_true, cond_false, Bool.and_true, Bool.true_and, Bool.and_false, Bool.false_and, Int.toNat_natCast, Int.reduceToNat, bI_s, bJ_s, bV_s, bR_s, decide_true, decide_false, not_true_eq_false, not_false_eq_true, dT, dF, w_al, w_la, w_ab, w_sl, w_sb, w_dec, w_ml, w_lm, ol2i_n, aup_ne, aupE, aupJ, setc_self, setc_ne, k8, kb, ne]
theorem nbE_eq {T : Nat → TK} {Y : PY} {b k : Nat} {w : SS} : (nbM T Y b k w).2.1 = nbE T b k := by
  unfold nbM nbE
  split
  · split
    · rfl
    · split
      · rfl
      · split <;> rfl
  · rfl
theorem nbM_z {T : Nat → TK} {Y : PY} {b k : Nat} {w : SS} (h : (nbM T Y b k w).2.2.1 = 0) : w.1 = 0 := by
  by_cases hw : w.1 = 0
  · exact hw
  · rw [nbM_k hw] at h
    exact absurd h hw
theorem tStone (xs : List Int) (d : Nat) {κ : aK} {D E : Nat → Nat → Int} (hκ : Shp κ) {t : Nat} (ht : isT t) {T : Nat → TK} (hT : TKok T) (hk : TkC D T) {a : Nat} {w : SS} (h : TlS D E t a w) {Y : PY} (hY : YOk Y) (hx : TcY E t Y) (hn : xns Y.1 < 7) (ha : nbE T (nbE T (a + 4) 132) 133 < 400) (hl : live T (nbE T (nbE T (a + 4) 132) 133)) (h1 : tkK (T (a + 1)) = 2) (h3 : tkK (T (a + 3)) = 131 ∨ tkK (T (a + 3)) = 2) (h5 : tkK (T (a + 4)) = 132 → tkK (T (a + 5)) = 142 ∨ tkK (T (a + 5)) = 2) (h6 : tkK (T (nbE T (a + 4) 132)) = 133 → tkK (T (nbE T (a + 4) 132 + 1)) = 142 ∨ tkK (T (nbE T (a + 4) 132 + 1)) = 2) : ∃ E', cl xs (d + 6) 99 [.inr (.inr ((8 : Nat) : Int)), .inr (.inr (t : Int))] (κ, E) = some (none, (κ, E')) ∧ TlS D E' t (nbE T (nbE T (a + 4) 132) 133 - 1) (mtS T a Y w).2 ∧ ((mtS T a Y w).2.1 = 0 → TcY E' t (mtS T a Y w).1) := by
  have k8 := kc_8 hκ
  have ht' : t = 9 ∨ t = 31 := ht
  have g1 : a + 4 ≤ nbE T (a + 4) 132 := by unfold nbE; split <;> omega
  have g2 : nbE T (a + 4) 132 ≤ nbE T (nbE T (a + 4) 132) 133 := by
    generalize nbE T (a + 4) 132 = z
    unfold nbE; split <;> omega
  obtain ⟨E1, a1, a2, a3⟩ := t_letter xs (d + 1) hκ ht hT hk h (by omega) (live_le hl (by omega)) h1
  have e : w32 (E1 8 3 + 1) = ((a + 1 + 1 : Nat) : Int) := by rw [a2.2.2.1, w32_id (by omega) (by omega)]; omega
  have s2 := a2.at_ (b := a + 1 + 1) e
  -- what it comes to
  have hto : ∃ E2 : Nat → Nat → Int, cl xs (d + 5) 100 [.inr (.inr ((8 : Nat) : Int))] (κ, aup E1 8 3 (w32 (E1 8 3 + 1))) = some (some (.inl ((if tkK (T (a + 3)) = 131 then 0 else (tkN (T (a + 3))).headD 0 : Nat) : Int)), (κ, E2)) ∧ TlS D E2 t (a + 3) (if tkK (T (a + 3)) = 131 then w1L T (a + 1) w else w1L T (a + 3) (w1L T (a + 1) w)) ∧ (∀ q, q ≠ 8 → E2 q = E1 q) := by
    have kb := t_behind xs (d + 2) hκ ht hT hk s2 (by omega)
    rw [c_100]
    by_cases h131 : tkK (T (a + 1 + 1 + 1)) = 131
    · have e' : w32 (aup E1 8 3 (w32 (E1 8 3 + 1)) 8 3 + 1) = ((a + 3 : Nat) : Int) := by rw [aupE, e, w32_id (by omega) (by omega)]; omega
      refine ⟨aup (aup E1 8 3 (w32 (E1 8 3 + 1))) 8 3 (w32 (aup E1 8 3 (w32 (E1 8 3 + 1)) 8 3 + 1)), ?_, ?_, fun q hq => (aupN hq).trans (aupN hq)⟩
      · rw [if_pos h131]
        simp (disch := omega) only [cond_true, cond_false, Bool.and_true, Bool.true_and, Bool.and_false, Bool.false_and, Int.toNat_natCast, Int.reduceToNat, bI_s, bJ_s, bV_s, bR_s, decide_true, decide_false, not_true_eq_false, not_false_eq_true, dT, dF, w_al, w_la, w_ab, w_sl, w_sb, w_dec, w_ml, w_lm, ol2i_n, aup_ne, aupE, aupJ, setc_self, setc_ne, k8, kb, h131]
        rfl
      · rw [if_pos h131]
        exact s2.at_ (b := a + 3) e'
    · rw [if_neg h131, if_neg h131]
      have h2n : tkK (T (a + 1 + 1 + 1)) = 2 := by rcases h3 with q | q; exact absurd q h131; exact q
      obtain ⟨E2, b1, b2, b3⟩ := t_letter xs d hκ ht hT hk s2 (by omega) (live_le hl (by omega)) h2n
      refine ⟨E2, ?_, b2, fun q hq => (b3 q hq).trans (aupN hq)⟩
      have ne : ¬ ((tkK (T (a + 1 + 1 + 1)) : Nat) : Int) = 131 := by omega
      simp (disch := omega) only [cond_true, cond_false, Bool.and_true, Bool.true_and, Bool.and_false, Bool.false_and, Int.toNat_natCast, Int.reduceToNat, bI_s, bJ_s, bV_s, bR_s, decide_true, decide_false, not_true_eq_false, not_false_eq_true, dT, dF, w_al, w_la, w_ab, w_sl, w_sb, w_dec, w_ml, w_lm, ol2i_n, aup_ne, aupE, aupJ, setc_self, setc_ne, k8, kb, ne, b1]
  obtain ⟨E2, b1, b2, b3⟩ := hto
  have hx2 := (hx.c8 ht a3).c8 ht b3
  obtain ⟨m1, E3, c1, c2, c3, c4⟩ := t_nb xs (d + 1) hκ ht hT hk b2 hY hx2 (k := 132) (by decide) (kk := 132) rfl (by omega) (fun q => by
    have en : nbE T (a + 4) 132 = a + 6 := if_pos q
    exact ⟨by omega, live_le hl (by omega), h5 q⟩)
  have hx3 := hx2.c8 ht c3
  rw [show a + 3 + 1 = a + 4 from rfl] at c2 c4
  obtain ⟨m2, E4, d1, d2, d3, d4⟩ := t_nb xs (d + 1) hκ ht hT hk c2 hY hx3 (k := 133) (by decide) (kk := 133) rfl (by omega) (fun q => by
    rw [show nbE T (a + 4) 132 - 1 + 1 = nbE T (a + 4) 132 by omega] at q
    have en : nbE T (nbE T (a + 4) 132) 133 = nbE T (a + 4) 132 + 2 := if_pos q
    rw [show nbE T (a + 4) 132 - 1 + 2 = nbE T (a + 4) 132 + 1 by omega]
    exact ⟨by omega, live_le hl (by omega), h6 q⟩)
  have hx4 := hx3.c8 ht d3
  have hc := d2.2.1
  rw [show nbE T (a + 4) 132 - 1 + 1 = nbE T (a + 4) 132 by omega] at d2 d4
  have e0 : E4 (t + 3) 0 = (xns Y.1 : Int) := hx4.1.1.1
  obtain ⟨p1, p2, p3, p4, p5, p6⟩ := pd_t ht
  have ew : (mtS T a Y w).2 = (nbM T Y (nbE T (a + 4) 132) 133 (nbM T Y (a + 4) 132 (if tkK (T (a + 3)) = 131 then w1L T (a + 1) w else w1L T (a + 3) (w1L T (a + 1) w))).2.2).2.2 := by
    unfold mtS
    dsimp only
    rw [nbE_eq]
  refine ⟨aup (aup (aup (aup (aup E4 (t + 4) (xns Y.1) ((tkN (T (a + 1))).headD 0 : Int)) (t + 5) (xns Y.1) ((if tkK (T (a + 3)) = 131 then 0 else (tkN (T (a + 3))).headD 0 : Nat) : Int)) (t + 6) (xns Y.1) m1) (t + 7) (xns Y.1) m2) (t + 3) 0 ((xns Y.1 + 1 : Nat) : Int), ?_, ?_, fun hz => ?_⟩
  · rw [c_99]
    simp (disch := omega) only [cond_true, cond_false, Bool.and_true, Bool.true_and, Bool.and_false, Bool.false_and, Int.toNat_natCast, Int.reduceToNat, bI_s, bJ_s, bV_s, bR_s, decide_true, decide_false, not_true_eq_false, not_false_eq_true, dT, dF, w_al, w_la, w_ab, w_sl, w_sb, w_dec, w_ml, w_lm, ol2i_n, aup_ne, aupE, aupJ, setc_self, setc_ne, k8, a1, b1, c1, d1, tk_0 hκ ht, tp_0_3 hc ht, tk_3 hκ ht]
    rw [c_85]
    simp (disch := omega) only [cond_true, cond_false, Bool.and_true, Bool.true_and, Bool.and_false, Bool.false_and, Int.toNat_natCast, Int.reduceToNat, bI_s, bJ_s, bV_s, bR_s, decide_true, decide_false, not_true_eq_false, not_false_eq_true, dT, dF, w_al, w_la, w_ab, w_sl, w_sb, w_dec, w_ml, w_lm, ol2i_n, aup_ne, aupE, aupJ, setc_self, setc_ne, tp_0_1 hc ht, tp_0_2 hc ht, tp_0_3 hc ht, tp_0_4 hc ht, tp_0_6 hc ht, tp_0_8 hc ht, tp_0_9 hc ht, tp_0_10 hc ht, tp_0_12 hc ht, tp_0_13 hc ht, tp_0_14 hc ht, tp_3_1 hc ht, tp_3_2 hc ht, tp_3_3 hc ht, tp_3_4 hc ht, tp_8_0 hc ht, tp_8_1 hc ht, tp_8_2 hc ht, tp_18_0 hc ht, tp_18_2 hc ht, tp_18_3 hc ht, tk_0 hκ ht, tk_1 hκ ht, tn_1 hκ ht, tk_2 hκ ht, tn_2 hκ ht, tk_3 hκ ht, tk_4 hκ ht, tn_4 hκ ht, tk_5 hκ ht, tn_5 hκ ht, tk_6 hκ ht, tn_6 hκ ht, tk_7 hκ ht, tn_7 hκ ht, tk_8 hκ ht, tk_9 hκ ht, tn_9 hκ ht, tk_10 hκ ht, tn_10 hκ ht, tk_11 hκ ht, tn_11 hκ ht, tk_12 hκ ht, tn_12 hκ ht, tk_13 hκ ht, tn_13 hκ ht, tk_14 hκ ht, tn_14 hκ ht, tk_15 hκ ht, tn_15 hκ ht, tk_16 hκ ht, tn_16 hκ ht, tk_17 hκ ht, tn_17 hκ ht, tk_18 hκ ht, tk_19 hκ ht, tn_19 hκ ht, tk_20 hκ ht, tn_20 hκ ht, tk_21 hκ ht, tn_21 hκ ht, e0]
    rw [q_85_39]
    simp (disch := omega) only [cond_true, cond_false, Bool.and_true, Bool.true_and, Bool.and_false, Bool.false_and, Int.toNat_natCast, Int.reduceToNat, bI_s, bJ_s, bV_s, bR_s, decide_true, decide_false, not_true_eq_false, not_false_eq_true, dT, dF, w_al, w_la, w_ab, w_sl, w_sb, w_dec, w_ml, w_lm, ol2i_n, aup_ne, aupE, aupJ, setc_self, setc_ne, tp_0_1 hc ht, tp_0_2 hc ht, tp_0_3 hc ht, tp_0_4 hc ht, tp_0_6 hc ht, tp_0_8 hc ht, tp_0_9 hc ht, tp_0_10 hc ht, tp_0_12 hc ht, tp_0_13 hc ht, tp_0_14 hc ht, tp_3_1 hc ht, tp_3_2 hc ht, tp_3_3 hc ht, tp_3_4 hc ht, tp_8_0 hc ht, tp_8_1 hc ht, tp_8_2 hc ht, tp_18_0 hc ht, tp_18_2 hc ht, tp_18_3 hc ht, tk_0 hκ ht, tk_1 hκ ht, tn_1 hκ ht, tk_2 hκ ht, tn_2 hκ ht, tk_3 hκ ht, tk_4 hκ ht, tn_4 hκ ht, tk_5 hκ ht, tn_5 hκ ht, tk_6 hκ ht, tn_6 hκ ht, tk_7 hκ ht, tn_7 hκ ht, tk_8 hκ ht, tk_9 hκ ht, tn_9 hκ ht, tk_10 hκ ht, tn_10 hκ ht, tk_11 hκ ht, tn_11 hκ ht, tk_12 hκ ht, tn_12 hκ ht, tk_13 hκ ht, tn_13 hκ ht, tk_14 hκ ht, tn_14 hκ ht, tk_15 hκ ht, tn_15 hκ ht, tk_16 hκ ht, tn_16 hκ ht, tk_17 hκ ht, tn_17 hκ ht, tk_18 hκ ht, tk_19 hκ ht, tn_19 hκ ht, tk_20 hκ ht, tn_20 hκ ht, tk_21 hκ ht, tn_21 hκ ht, e0]
  · rw [ew]
    exact d2.tx ht (((((hc.upc p3.2.2.1 _ _).upc p3.2.2.2.1 _ _).upc p3.2.2.2.2.1 _ _).upc p3.2.2.2.2.2 _ _).up p2.1 _) (fun q hq => by rw [aupN (by omega), aupN (by omega), aupN (by omega), aupN (by omega), aupN (by omega)])
  · rw [ew] at hz
    have cz := c4 (nbM_z hz)
    have dz := d4 hz
    obtain ⟨z1, z2, z3, z4⟩ := hx4
    obtain ⟨y1, y2, y3, y4, y5, y6, y7⟩ := z1
    have eY : (mtS T a Y w).1 = mkS Y ((tkN (T (a + 1))).headD 0) (if tkK (T (a + 3)) = 131 then 0 else (tkN (T (a + 3))).headD 0) (nbM T Y (a + 4) 132 (if tkK (T (a + 3)) = 131 then w1L T (a + 1) w else w1L T (a + 3) (w1L T (a + 1) w))).1 (nbM T Y (nbE T (a + 4) 132) 133 (nbM T Y (a + 4) 132 (if tkK (T (a + 3)) = 131 then w1L T (a + 1) w else w1L T (a + 3) (w1L T (a + 1) w))).2.2).1 := by
      unfold mtS
      dsimp only
      rw [nbE_eq]
    rw [eY]
    refine ⟨⟨⟨by rw [aupE]; rfl, fun s hs => ?_⟩, by simp (disch := omega) only [aup_ne]; exact y2, by simp (disch := omega) only [aup_ne]; exact y3, by simp (disch := omega) only [aup_ne]; exact y4, by simp (disch := omega) only [aup_ne]; exact y5, by simp (disch := omega) only [aup_ne]; exact y6, by simp (disch := omega) only [aup_ne]; exact y7⟩, TcC_up z2 (by simp (disch := omega) only [aup_ne]) (by simp (disch := omega) only [aup_ne]) rfl rfl, by simp (disch := omega) only [aup_ne]; exact z3, LwC_up z4 (by simp (disch := omega) only [aup_ne]) (by simp (disch := omega) only [aup_ne]) (by simp (disch := omega) only [aup_ne]) rfl⟩
    have hs : s < xns Y.1 + 1 := hs
    show _ = ((upf (xF Y.1) (xns Y.1) _ s : Nat) : Int) ∧ _ = ((upf (xT Y.1) (xns Y.1) _ s : Nat) : Int) ∧ (∀ x, x ≤ 26 → mbit _ x = upf (xA Y.1) (xns Y.1) _ s x) ∧ (∀ x, x ≤ 26 → mbit _ x = upf (xB Y.1) (xns Y.1) _ s x)
    by_cases hss : s = xns Y.1
    · subst hss
      rw [upf_s, upf_s, upf_s, upf_s]
      simp (disch := omega) only [aup_ne, aupE]
      exact ⟨trivial, trivial, cz, dz⟩
    · rw [upf_n hss, upf_n hss, upf_n hss, upf_n hss]
      simp (disch := omega) only [aup_ne, aupJ]
      exact y1.2 s (by omega)
