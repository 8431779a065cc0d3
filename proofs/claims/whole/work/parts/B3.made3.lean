/-! Made: the class walks all ways. -/
def entP (X : TX) (w : List Nat) (b : Nat) (p : Nat × Nat) : ENT := (w ++ tlW X p, b + 10 * p.1 + p.2)
def okE (X : TX) (n : Nat) (w : List Nat) (p : Nat × Nat) : Bool := decide (w.length + (tlW X p).length = n)
def ms (X : TX) (n : Nat) (w : List Nat) (b : Nat) (L : List (Nat × Nat)) : List ENT := (L.filter (okE X n w)).map (entP X w b)
theorem ms_app (X : TX) (n : Nat) (w : List Nat) (b : Nat) (L M : List (Nat × Nat)) : ms X n w b (L ++ M) = ms X n w b L ++ ms X n w b M := by
  unfold ms
  rw [List.filter_append, List.map_append]
theorem ms_pos {X : TX} {n : Nat} {w : List Nat} {b : Nat} {p : Nat × Nat} {L : List (Nat × Nat)} (h : w.length + (tlW X p).length = n) : ms X n w b (p :: L) = entP X w b p :: ms X n w b L := by
  unfold ms
  rw [List.filter_cons_of_pos (by unfold okE; exact decide_eq_true h), List.map_cons]
theorem ms_neg {X : TX} {n : Nat} {w : List Nat} {b : Nat} {p : Nat × Nat} {L : List (Nat × Nat)} (h : ¬ w.length + (tlW X p).length = n) : ms X n w b (p :: L) = ms X n w b L := by
  unfold ms
  rw [List.filter_cons_of_neg (by unfold okE; rw [decide_eq_false h]; decide)]
theorem ms_len (X : TX) (n : Nat) (w : List Nat) (b : Nat) (L : List (Nat × Nat)) : (ms X n w b L).length ≤ L.length := by
  unfold ms
  rw [List.length_map]
  exact List.length_filter_le _ _
theorem p32_app : ∀ (l r : List Nat), p32 (l ++ r) = p32 l + 32 ^ l.length * p32 r
  | [], r => by
    show p32 r = 0 + 32 ^ 0 * p32 r
    rw [Nat.pow_zero]
    omega
  | a :: l, r => by
    show a + 32 * p32 (l ++ r) = a + 32 * p32 l + 32 ^ (l.length + 1) * p32 r
    rw [p32_app l r, Nat.mul_add, Nat.pow_succ, ← Nat.mul_assoc, Nat.mul_comm 32 (32 ^ l.length)]
    omega
theorem join_eq (xs : List Int) (d : Nat) (h : aH) {l r : List Nat} (hl : wv l) (hr : wv r) (hlr : l.length + r.length ≤ 12) : cl xs (d + 2) 15 [.inr (.inl (p32 l : Int)), .inr (.inl (p32 r : Int))] h = some (some (.inr (.inl (p32 (l ++ r) : Int))), h) := by
  have h1 := p32_lt l hl
  have h2 := p32_lt r hr
  have h3 : p32 r * 32 ^ l.length < 32 ^ (l.length + r.length) := by
    rw [Nat.pow_add, Nat.mul_comm]
    exact Nat.mul_lt_mul_of_pos_left h2 (Nat.pow_pos (by decide))
  have h4 := pow32_12 hlr
  have h5 := pow32_12 (show l.length ≤ 12 by omega)
  have e1 : olshl (p32 r : Int) ((5 * l.length : Nat) : Int) = ((p32 r * 32 ^ l.length : Nat) : Int) := by
    have := olshl_nat (a := p32 r) (b := 5 * l.length) (by omega) (by rw [pow32_2]; omega)
    rw [pow32_2] at this
    exact this
  have e2 : olor (p32 l : Int) ((p32 r * 32 ^ l.length : Nat) : Int) = (p32 (l ++ r) : Int) := by
    rw [olor_nat (by omega) (by omega), p32_app]
    have hlt : p32 l < 2 ^ (5 * l.length) := by rw [pow32_2]; exact h1
    have := Nat.two_pow_add_eq_or_of_lt hlt (p32 r)
    rw [pow32_2] at this
    rw [Nat.mul_comm (p32 r), Nat.or_comm, ← this, Nat.add_comm]
  rw [c_15]
  simp (disch := omega) only [cond_true, cond_false, Bool.and_true, Bool.true_and, Bool.and_false, Bool.false_and, Int.toNat_natCast, Int.reduceToNat, bI_s, bJ_s, bV_s, bR_s, decide_true, decide_false, not_true_eq_false, not_false_eq_true, dT, dF, w_al, w_la, w_ab, w_sl, w_sb, w_dec, w_ml, w_lm, ol2i_n, aup_ne, aupE, aupJ, setc_self, setc_ne, sizeOf_eq xs d h hl (show l.length ≤ 12 by omega), e1, e2]
theorem wk_app {l r : List Nat} (hl : wv l) (hr : wv r) (h : l.length + r.length ≤ 12) : wk12 (l ++ r) := ⟨wv_app hl hr, by rw [List.length_append]; exact h⟩
set_option maxRecDepth 100000 in
theorem pd_68 : ptrd 68 4 = false ∧ ptrd 68 5 = false ∧ ptrd 68 6 = false := by decide
set_option maxRecDepth 100000 in
theorem ppl_lt : ∀ p ∈ ppl, p.1 < 315 := by decide
theorem ptrd_lt {r k : Nat} (h : ptrd r k = true) : r < 315 := by
  unfold ptrd at h
  rw [List.any_eq_true] at h
  obtain ⟨p, hp, hq⟩ := h
  rw [Bool.and_eq_true] at hq
  have := Nat.eq_of_beq_eq_true hq.1
  have := ppl_lt p hp
  omega
/-- what the walk needs of the heap -/
def MdP (κ : aK) (D : Nat → Nat → Int) (t : Nat) (X : TX) : Prop := Shp κ ∧ CPtr D ∧ PcC D t X
theorem MdFr.p {κ : aK} {D D' : Nat → Nat → Int} {a b t : Nat} {X : TX} (ht : isT t) (ha : 315 ≤ a) (hb : 315 ≤ b) (h : MdFr a b D D') (hP : MdP κ D t X) : MdP κ D' t X := by
  have ht' : t = 9 ∨ t = 31 := ht
  obtain ⟨p1, p2, p3⟩ := hP
  refine ⟨p1, p2.congr (fun r k hr => ?_), ?_⟩
  · by_cases h68 : r = 68
    · subst h68
      refine h.2 k ?_
      by_cases hk : k < 4 ∨ 6 < k
      · exact hk
      · exfalso
        have hk3 : k = 4 ∨ k = 5 ∨ k = 6 := by omega
        rcases hk3 with rfl | rfl | rfl
        · rw [pd_68.1] at hr; cases hr
        · rw [pd_68.2.1] at hr; cases hr
        · rw [pd_68.2.2] at hr; cases hr
    · have hlt := ptrd_lt hr
      rw [h.1 r h68 (by omega) (by omega)]
  · unfold PcC
    rw [h.1 (t + 9) (by omega) (by omega) (by omega), h.1 (t + 10) (by omega) (by omega) (by omega), h.1 (t + 11) (by omega) (by omega) (by omega)]
    exact p3
theorem mf_loop (xs : List Int) (d : Nat) {κ : aK} {a b t : Nat} {X : TX} (hX : TXok X) (ht : isT t) (hK : MdK κ a b) {n : Nat} (hn : n ≤ 12) {w : List Nat} (hw : wv w) {c : Nat} (hc1 : 1 ≤ c) (hc2 : c < 10000) {e : Nat} (he1 : 1 ≤ e) (he : e ≤ xnp X 1) (hle : w.length + (nmX X 1 e).length ≤ 30) : ∀ (m k : Nat) (D : Nat → Nat → Int) (R : List ENT) (T : Nat → List Nat) (G : Nat → Int) (u3 u9 u12 u13 : Option aV) (v4 v6 : Int), k + m = xnp X 1 → MdP κ D t X → MdH D a b R T G → R.length + m < 4000 → ∃ D' T' G' u12' u13', MdH D' a b ((ms X n w c ((List.range' (k + 1) m).map (fun f => (e, f)))).reverse ++ R) T' G' ∧ MdFr a b D D' ∧ ev xs (d + 2) mm_16 86 [some (.inr (.inr ((68 : Nat) : Int))), some (.inr (.inr ((t + 8 : Nat) : Int))), some (.inr (.inl (p32 w : Int))), u3, some (.inl v4), some (.inl (c : Int)), some (.inl v6), some (.inl ((e - 1 : Nat) : Int)), some (.inr (.inl (p32 (nmX X 1 e) : Int))), u9, some (.inl ((n : Int) - (w.length : Int) - ((nmX X 1 e).length : Int))), some (.inl (k : Int)), u12, u13] [] (κ, D) = ev xs (d + 2) mm_16 25 [some (.inr (.inr ((68 : Nat) : Int))), some (.inr (.inr ((t + 8 : Nat) : Int))), some (.inr (.inl (p32 w : Int))), u3, some (.inl v4), some (.inl (c : Int)), some (.inl v6), some (.inl (e : Int)), some (.inr (.inl (p32 (nmX X 1 e) : Int))), u9, some (.inl ((n : Int) - (w.length : Int) - ((nmX X 1 e).length : Int))), some (.inl (xnp X 1 : Int)), u12', u13'] [] (κ, D') := by
  have ht' : t = 9 ∨ t = 31 := ht
  have n1 := xnp_le hX (s := 1) (by decide)
  have hE := nmX_ok hX (s := 1) (by decide) he
  intro m
  induction m with
  | zero =>
    intro k D R T G u3 u9 u12 u13 v4 v6 h hP hM hl
    obtain ⟨hκ, hc, hpc⟩ := hP
    have hp1 := (hpc 1 (by decide)).1
    refine ⟨D, T, G, u12, u13, hM, MdFr.rfl' a b D, ?_⟩
    rw [q_16_86, show k = xnp X 1 by omega]
    simp (disch := omega) only [cond_true, cond_false, Bool.and_true, Bool.true_and, Bool.and_false, Bool.false_and, Int.toNat_natCast, Int.reduceToNat, bI_s, bJ_s, bV_s, bR_s, decide_true, decide_false, not_true_eq_false, not_false_eq_true, dT, dF, w_al, w_la, w_ab, w_sl, w_sb, w_dec, w_ml, w_lm, ol2i_n, aup_ne, aupE, aupJ, setc_self, setc_ne, tp_0_1 hc ht, tp_0_2 hc ht, tp_0_3 hc ht, tp_0_4 hc ht, tp_0_6 hc ht, tp_0_8 hc ht, tp_0_9 hc ht, tp_0_10 hc ht, tp_0_12 hc ht, tp_0_13 hc ht, tp_0_14 hc ht, tp_3_1 hc ht, tp_3_2 hc ht, tp_3_3 hc ht, tp_3_4 hc ht, tp_8_0 hc ht, tp_8_1 hc ht, tp_8_2 hc ht, tp_18_0 hc ht, tp_18_2 hc ht, tp_18_3 hc ht, tk_0 hκ ht, tk_1 hκ ht, tn_1 hκ ht, tk_2 hκ ht, tn_2 hκ ht, tk_3 hκ ht, tk_4 hκ ht, tn_4 hκ ht, tk_5 hκ ht, tn_5 hκ ht, tk_6 hκ ht, tn_6 hκ ht, tk_7 hκ ht, tn_7 hκ ht, tk_8 hκ ht, tk_9 hκ ht, tn_9 hκ ht, tk_10 hκ ht, tn_10 hκ ht, tk_11 hκ ht, tn_11 hκ ht, tk_12 hκ ht, tn_12 hκ ht, tk_13 hκ ht, tn_13 hκ ht, tk_14 hκ ht, tn_14 hκ ht, tk_15 hκ ht, tn_15 hκ ht, tk_16 hκ ht, tn_16 hκ ht, tk_17 hκ ht, tn_17 hκ ht, tk_18 hκ ht, tk_19 hκ ht, tn_19 hκ ht, tk_20 hκ ht, tn_20 hκ ht, tk_21 hκ ht, tn_21 hκ ht, hp1]
    rw [show e - 1 + 1 = e by omega]
  | succ m ih =>
    intro k D R T G u3 u9 u12 u13 v4 v6 h hP hM hl
    have hP' := hP
    obtain ⟨hκ, hc, hpc⟩ := hP
    have hp1 := (hpc 1 (by decide)).1
    have ee := ((hpc 1 (by decide)).2 k (by omega)).1
    have hF := nmX_ok hX (s := 1) (by decide) (show k + 1 ≤ xnp X 1 by omega)
    have en : nmX X 1 (k + 1) = xPN X (8 * 1 + k) := by unfold nmX; rw [if_neg (by omega), Nat.add_sub_cancel]
    rw [← en, Nat.mul_one] at ee
    have hf8 := hF.2
    have htl : (tlW X (e, k + 1)).length = (nmX X 1 e).length + (nmX X 1 (k + 1)).length := by unfold tlW; rw [List.length_append]
    rw [List.range'_succ, List.map_cons, q_16_86]
    by_cases hlen : w.length + (tlW X (e, k + 1)).length = n
    · rw [ms_pos hlen]
      rw [htl] at hlen
      have hj1 := join_eq xs d (κ, D) hw hE.1 (by omega)
      have hj2 := join_eq xs d (κ, D) (wv_app hw hE.1) hF.1 (by rw [List.length_append]; omega)
      have ea : w ++ nmX X 1 e ++ nmX X 1 (k + 1) = w ++ tlW X (e, k + 1) := by unfold tlW; rw [List.append_assoc]
      rw [ea] at hj2
      have hne : w ++ tlW X (e, k + 1) ≠ [] := by
        intro q
        have := congrArg List.length q
        rw [List.length_append, htl, List.length_nil] at this
        have h0 := nmX_ne hX (s := 1) (by decide) he1 he
        have : (nmX X 1 e).length = 0 := by omega
        exact h0 (List.length_eq_zero_iff.mp this)
      obtain ⟨D1, T1, G1, q1, q2, q3⟩ := add_eq xs d hκ hK hM (by omega) (w := w ++ tlW X (e, k + 1)) ⟨by rw [← ea]; exact wv_app (wv_app hw hE.1) hF.1, by rw [List.length_append, htl]; omega⟩ hne (c := c + 10 * e + (k + 1)) (by omega) (by omega)
      obtain ⟨D', T', G', w12, w13, r1, r2, r3⟩ := ih (k + 1) D1 _ T1 G1 u3 u9 (some (.inr (.inl (p32 (nmX X 1 (k + 1)) : Int)))) none v4 v6 (by omega) (q2.p ht hK.2.2.1 hK.2.2.2.1 hP') q1 (by rw [List.length_cons]; omega)
      refine ⟨D', T', G', w12, w13, ?_, q2.trans r2, ?_⟩
      · rw [List.reverse_cons, List.append_assoc]
        exact r1
      · have ec : w32 (w32 (w32 ((c : Int) + w32 (10 * w32 (((e - 1 : Nat) : Int) + 1))) + (k : Int)) + 1) = ((c + 10 * e + (k + 1) : Nat) : Int) := by
          rw [w32_id (x := ((e - 1 : Nat) : Int) + 1) (by omega) (by omega), w32_id (x := 10 * (((e - 1 : Nat) : Int) + 1)) (by omega) (by omega), w32_id (x := (c : Int) + 10 * (((e - 1 : Nat) : Int) + 1)) (by omega) (by omega), w32_id (x := (c : Int) + 10 * (((e - 1 : Nat) : Int) + 1) + (k : Int)) (by omega) (by omega), w32_id (by omega) (by omega)]
          omega
        rw [ec]
        simp (disch := omega) only [cond_true, cond_false, decide_true, decide_false, Bool.and_true, Int.toNat_natCast, Int.reduceToNat, bI_s, bJ_s, bV_s, dT, dF, w_la, w_al, tp_0_1 hc ht, tp_0_2 hc ht, tp_0_3 hc ht, tp_0_4 hc ht, tp_0_6 hc ht, tp_0_8 hc ht, tp_0_9 hc ht, tp_0_10 hc ht, tp_0_12 hc ht, tp_0_13 hc ht, tp_0_14 hc ht, tp_3_1 hc ht, tp_3_2 hc ht, tp_3_3 hc ht, tp_3_4 hc ht, tp_8_0 hc ht, tp_8_1 hc ht, tp_8_2 hc ht, tp_18_0 hc ht, tp_18_2 hc ht, tp_18_3 hc ht, tk_0 hκ ht, tk_1 hκ ht, tn_1 hκ ht, tk_2 hκ ht, tn_2 hκ ht, tk_3 hκ ht, tk_4 hκ ht, tn_4 hκ ht, tk_5 hκ ht, tn_5 hκ ht, tk_6 hκ ht, tn_6 hκ ht, tk_7 hκ ht, tn_7 hκ ht, tk_8 hκ ht, tk_9 hκ ht, tn_9 hκ ht, tk_10 hκ ht, tn_10 hκ ht, tk_11 hκ ht, tn_11 hκ ht, tk_12 hκ ht, tn_12 hκ ht, tk_13 hκ ht, tn_13 hκ ht, tk_14 hκ ht, tn_14 hκ ht, tk_15 hκ ht, tn_15 hκ ht, tk_16 hκ ht, tn_16 hκ ht, tk_17 hκ ht, tn_17 hκ ht, tk_18 hκ ht, tk_19 hκ ht, tn_19 hκ ht, tk_20 hκ ht, tn_20 hκ ht, tk_21 hκ ht, tn_21 hκ ht, kc_68 hκ, hp1, ee, sizeOf_eq xs (d + 1) _ hF.1 (show (nmX X 1 (k + 1)).length ≤ 12 by omega), hj1, hj2, q3]
        exact r3
    · rw [ms_neg hlen]
      rw [htl] at hlen
      obtain ⟨D', T', G', w12, w13, r1, r2, r3⟩ := ih (k + 1) D R T G u3 u9 (some (.inr (.inl (p32 (nmX X 1 (k + 1)) : Int)))) none v4 v6 (by omega) hP' hM (by omega)
      refine ⟨D', T', G', w12, w13, r1, r2, ?_⟩
      simp (disch := omega) only [cond_true, cond_false, decide_true, decide_false, Bool.and_true, Int.toNat_natCast, Int.reduceToNat, bI_s, bJ_s, bV_s, dT, dF, w_la, w_al, tp_0_1 hc ht, tp_0_2 hc ht, tp_0_3 hc ht, tp_0_4 hc ht, tp_0_6 hc ht, tp_0_8 hc ht, tp_0_9 hc ht, tp_0_10 hc ht, tp_0_12 hc ht, tp_0_13 hc ht, tp_0_14 hc ht, tp_3_1 hc ht, tp_3_2 hc ht, tp_3_3 hc ht, tp_3_4 hc ht, tp_8_0 hc ht, tp_8_1 hc ht, tp_8_2 hc ht, tp_18_0 hc ht, tp_18_2 hc ht, tp_18_3 hc ht, tk_0 hκ ht, tk_1 hκ ht, tn_1 hκ ht, tk_2 hκ ht, tn_2 hκ ht, tk_3 hκ ht, tk_4 hκ ht, tn_4 hκ ht, tk_5 hκ ht, tn_5 hκ ht, tk_6 hκ ht, tn_6 hκ ht, tk_7 hκ ht, tn_7 hκ ht, tk_8 hκ ht, tk_9 hκ ht, tn_9 hκ ht, tk_10 hκ ht, tn_10 hκ ht, tk_11 hκ ht, tn_11 hκ ht, tk_12 hκ ht, tn_12 hκ ht, tk_13 hκ ht, tn_13 hκ ht, tk_14 hκ ht, tn_14 hκ ht, tk_15 hκ ht, tn_15 hκ ht, tk_16 hκ ht, tn_16 hκ ht, tk_17 hκ ht, tn_17 hκ ht, tk_18 hκ ht, tk_19 hκ ht, tn_19 hκ ht, tk_20 hκ ht, tn_20 hκ ht, tk_21 hκ ht, tn_21 hκ ht, kc_68 hκ, hp1, ee, sizeOf_eq xs (d + 1) _ hF.1 (show (nmX X 1 (k + 1)).length ≤ 12 by omega)]
      exact r3
