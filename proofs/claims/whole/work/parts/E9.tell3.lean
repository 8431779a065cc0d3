/-! The class's Teller: pieces, words, pairs, lands, laws, seeds; all of them. -/
theorem tPiece (xs : List Int) (d : Nat) {κ : aK} {D E : Nat → Nat → Int} (hκ : Shp κ) {t : Nat} (ht : isT t) {T : Nat → TK} (hT : TKok T) (hk : TkC D T) {a : Nat} {w : SS} (h : TlS D E t a w) {Y : PY} (hY : YOk Y) (hx : TcY E t Y) {s : Nat} (hs : s < 3) {ss : Int} (hss : ss = (s : Int)) (hn : xnp Y.1 s < mostO s) (ha : a + 3 ≤ 400) (hl : live T (a + 3)) (h1 : tkK (T (a + 1)) = 2) (h2 : tkK (T (a + 2)) = 3) : ∃ E', cl xs (d + 5) 102 [.inr (.inr ((8 : Nat) : Int)), .inr (.inr (t : Int)), .inl ss] (κ, E) = some (none, (κ, E')) ∧ TlS D E' t (a + 2) (mtP T s a Y w).2 ∧ ((mtP T s a Y w).2.1 = 0 → TcY E' t (mtP T s a Y w).1) := by
  subst hss
  have k8 := kc_8 hκ
  have ht' : t = 9 ∨ t = 31 := ht
  have hN1 := hT.2.2.1 _ h1
  have hV := hT.2.2.2.1 _ h2
  obtain ⟨E1, a1, a2, a3⟩ := t_name xs (d + 1) hκ ht hT hk h (by omega) h1
  have hx1 := hx.c8 ht a3
  have fp := findP_eq xs (d + 3) hκ a2.2.1 ht hY.1 hx1.1.2.2.1 hs hN1.1
  have hc1 := a2.2.1
  have n8 := xnp_le hY.1 hs
  have m8 : mostO s ≤ 8 := by unfold mostO; split; omega; split <;> omega
  have ro : ∀ E' : Nat → Nat → Int, cl xs (d + 3) 30 [.inl (s : Int)] (κ, E') = some (some (.inl (mostO s : Int)), (κ, E')) := fun E' => by
    have hs3 : s = 0 ∨ s = 1 ∨ s = 2 := by omega
    rcases hs3 with rfl | rfl | rfl
    · exact (roomOf_eq xs (d + 2) (κ, E')).1
    · exact (roomOf_eq xs (d + 2) (κ, E')).2.1
    · exact (roomOf_eq xs (d + 2) (κ, E')).2.2
  obtain ⟨p1, p2, p3, p4, p5, p6⟩ := pd_t ht
  have fin : ∀ (E2 : Nat → Nat → Int) (w' : SS) (b4 b5 : Option aV), TlS D E2 t (a + 1) w' → (∀ q, q ≠ 8 → E2 q = E1 q) → ∃ E', ev xs (d + 4) mm_102 23 [some (.inr (.inr ((8 : Nat) : Int))), some (.inr (.inr (t : Int))), some (.inl (s : Int)), some (.inr (.inl (p32 (tkN (T (a + 1))) : Int))), b4, b5] [] (κ, E2) = some (none, (κ, E')) ∧ TlS D E' t (a + 2) (w1N T (a + 2) 1 9 w') ∧ TcY E' t (mkP Y s (tkN (T (a + 1))) (tkV (T (a + 2)))) := fun E2 w' b4 b5 s2 f2 => by
    obtain ⟨E3, c1, c2, c3⟩ := t_num xs (d + 1) hκ ht hT hk s2 (by omega) (live_le hl (by omega)) h2 (lo := 1) (hi := 9) (l' := 1) (h' := 9) rfl rfl
    have hx3 := (hx1.c8 ht f2).c8 ht c3
    have hc := c2.2.1
    have e0 := (hx3.1.2.2.1 s hs).1
    have ew : w32 (((s * 8 : Nat) : Int) + (xnp Y.1 s : Int)) = ((8 * s + xnp Y.1 s : Nat) : Int) := by rw [w32_id (by omega) (by omega)]; omega
    refine ⟨aup (aup (aup E3 (t + 10) (8 * s + xnp Y.1 s) (p32 (tkN (T (a + 1))) : Int)) (t + 11) (8 * s + xnp Y.1 s) (tkV (T (a + 2)) : Int)) (t + 9) s ((xnp Y.1 s + 1 : Nat) : Int), ?_, c2.tx ht (((hc.upc p4.2.1 _ _).upc p4.2.2 _ _).upc p4.1 _ _) (fun q hq => by rw [aupN (by omega), aupN (by omega), aupN (by omega)]), ?_⟩
    · rw [q_102_23]
      simp (disch := omega) only [cond_true, cond_false, Bool.and_true, Bool.true_and, Bool.and_false, Bool.false_and, Int.toNat_natCast, Int.reduceToNat, bI_s, bJ_s, bV_s, bR_s, decide_true, decide_false, not_true_eq_false, not_false_eq_true, dT, dF, w_al, w_la, w_ab, w_sl, w_sb, w_dec, w_ml, w_lm, ol2i_n, aup_ne, aupE, aupJ, setc_self, setc_ne, k8, c1, tp_0_1 hc ht, tp_0_2 hc ht, tp_0_3 hc ht, tp_0_4 hc ht, tp_0_6 hc ht, tp_0_8 hc ht, tp_0_9 hc ht, tp_0_10 hc ht, tp_0_12 hc ht, tp_0_13 hc ht, tp_0_14 hc ht, tp_3_1 hc ht, tp_3_2 hc ht, tp_3_3 hc ht, tp_3_4 hc ht, tp_8_0 hc ht, tp_8_1 hc ht, tp_8_2 hc ht, tp_18_0 hc ht, tp_18_2 hc ht, tp_18_3 hc ht, tk_0 hκ ht, tk_1 hκ ht, tn_1 hκ ht, tk_2 hκ ht, tn_2 hκ ht, tk_3 hκ ht, tk_4 hκ ht, tn_4 hκ ht, tk_5 hκ ht, tn_5 hκ ht, tk_6 hκ ht, tn_6 hκ ht, tk_7 hκ ht, tn_7 hκ ht, tk_8 hκ ht, tk_9 hκ ht, tn_9 hκ ht, tk_10 hκ ht, tn_10 hκ ht, tk_11 hκ ht, tn_11 hκ ht, tk_12 hκ ht, tn_12 hκ ht, tk_13 hκ ht, tn_13 hκ ht, tk_14 hκ ht, tn_14 hκ ht, tk_15 hκ ht, tn_15 hκ ht, tk_16 hκ ht, tn_16 hκ ht, tk_17 hκ ht, tn_17 hκ ht, tk_18 hκ ht, tk_19 hκ ht, tn_19 hκ ht, tk_20 hκ ht, tn_20 hκ ht, tk_21 hκ ht, tn_21 hκ ht]
      rw [c_32]
      simp (disch := omega) only [cond_true, cond_false, Bool.and_true, Bool.true_and, Bool.and_false, Bool.false_and, Int.toNat_natCast, Int.reduceToNat, bI_s, bJ_s, bV_s, bR_s, decide_true, decide_false, not_true_eq_false, not_false_eq_true, dT, dF, w_al, w_la, w_ab, w_sl, w_sb, w_dec, w_ml, w_lm, ol2i_n, aup_ne, aupE, aupJ, setc_self, setc_ne, ro, tp_0_1 hc ht, tp_0_2 hc ht, tp_0_3 hc ht, tp_0_4 hc ht, tp_0_6 hc ht, tp_0_8 hc ht, tp_0_9 hc ht, tp_0_10 hc ht, tp_0_12 hc ht, tp_0_13 hc ht, tp_0_14 hc ht, tp_3_1 hc ht, tp_3_2 hc ht, tp_3_3 hc ht, tp_3_4 hc ht, tp_8_0 hc ht, tp_8_1 hc ht, tp_8_2 hc ht, tp_18_0 hc ht, tp_18_2 hc ht, tp_18_3 hc ht, tk_0 hκ ht, tk_1 hκ ht, tn_1 hκ ht, tk_2 hκ ht, tn_2 hκ ht, tk_3 hκ ht, tk_4 hκ ht, tn_4 hκ ht, tk_5 hκ ht, tn_5 hκ ht, tk_6 hκ ht, tn_6 hκ ht, tk_7 hκ ht, tn_7 hκ ht, tk_8 hκ ht, tk_9 hκ ht, tn_9 hκ ht, tk_10 hκ ht, tn_10 hκ ht, tk_11 hκ ht, tn_11 hκ ht, tk_12 hκ ht, tn_12 hκ ht, tk_13 hκ ht, tn_13 hκ ht, tk_14 hκ ht, tn_14 hκ ht, tk_15 hκ ht, tn_15 hκ ht, tk_16 hκ ht, tn_16 hκ ht, tk_17 hκ ht, tn_17 hκ ht, tk_18 hκ ht, tk_19 hκ ht, tn_19 hκ ht, tk_20 hκ ht, tn_20 hκ ht, tk_21 hκ ht, tn_21 hκ ht, e0, ew]
      rw [q_32_62]
      rfl
    · obtain ⟨z1, z2, z3, z4⟩ := hx3
      obtain ⟨y1, y2, y3, y4, y5, y6, y7⟩ := z1
      refine ⟨⟨by simp (disch := omega) only [aup_ne]; exact y1, by simp (disch := omega) only [aup_ne]; exact y2, fun s' hs' => ?_, by simp (disch := omega) only [aup_ne]; exact y4, by simp (disch := omega) only [aup_ne]; exact y5, by simp (disch := omega) only [aup_ne]; exact y6, by simp (disch := omega) only [aup_ne]; exact y7⟩, TcC_up z2 (by simp (disch := omega) only [aup_ne]) (by simp (disch := omega) only [aup_ne]) rfl rfl, by simp (disch := omega) only [aup_ne]; exact z3, LwC_up z4 (by simp (disch := omega) only [aup_ne]) (by simp (disch := omega) only [aup_ne]) (by simp (disch := omega) only [aup_ne]) rfl⟩
      show _ = ((upf (xnp Y.1) s (xnp Y.1 s + 1) s' : Nat) : Int) ∧ ∀ k, k < upf (xnp Y.1) s (xnp Y.1 s + 1) s' → _ = ((p32 (upf (xPN Y.1) (8 * s + xnp Y.1 s) (tkN (T (a + 1))) (8 * s' + k)) : Nat) : Int) ∧ _ = ((upf (xPT Y.1) (8 * s + xnp Y.1 s) (tkV (T (a + 2))) (8 * s' + k) : Nat) : Int)
      have n8' := xnp_le hY.1 hs'
      by_cases e : s' = s
      · subst e
        rw [upf_s]
        simp (disch := omega) only [aup_ne, aupE]
        refine ⟨trivial, fun k hk' => ?_⟩
        by_cases ek : k = xnp Y.1 s'
        · subst ek
          rw [upf_s, upf_s]
          simp (disch := omega) only [aup_ne, aupE]
          exact ⟨trivial, trivial⟩
        · rw [upf_n (by omega), upf_n (by omega)]
          simp (disch := omega) only [aup_ne, aupJ]
          exact (y3 s' hs).2 k (by omega)
      · rw [upf_n e]
        simp (disch := omega) only [aup_ne, aupJ]
        refine ⟨(y3 s' hs').1, fun k hk' => ?_⟩
        have hne : 8 * s' + k ≠ 8 * s + xnp Y.1 s := by omega
        rw [upf_n hne, upf_n hne]
        simp (disch := omega) only [aup_ne, aupJ]
        exact (y3 s' hs').2 k hk'
  unfold mtP
  dsimp only
  rw [c_102]
  cases hyc : pfd Y.1 s (tkN (T (a + 1))) with
  | none =>
    rw [hyc] at fp
    have fp' : cl xs (d + 4) 33 [.inr (.inr ((t + 8 : Nat) : Int)), .inl (s : Int), .inr (.inl (p32 (tkN (T (a + 1))) : Int))] (κ, E1) = some (some (.inl (-1)), (κ, E1)) := fp
    obtain ⟨E', g1, g2, g3⟩ := fin E1 w none none a2 (fun _ _ => rfl)
    rw [if_neg (by decide)]
    refine ⟨E', ?_, g2, fun _ => g3⟩
    rw [← g1]
    simp (disch := omega) only [cond_true, cond_false, Bool.and_true, Bool.true_and, Bool.and_false, Bool.false_and, Int.toNat_natCast, Int.reduceToNat, bI_s, bJ_s, bV_s, bR_s, decide_true, decide_false, not_true_eq_false, not_false_eq_true, dT, dF, w_al, w_la, w_ab, w_sl, w_sb, w_dec, w_ml, w_lm, ol2i_n, aup_ne, aupE, aupJ, setc_self, setc_ne, k8, a1, tk_0 hκ ht, tp_0_4 hc1 ht, tk_8 hκ ht, fp']
  | some c =>
    rw [hyc] at fp
    have fp' : cl xs (d + 4) 33 [.inr (.inr ((t + 8 : Nat) : Int)), .inl (s : Int), .inr (.inl (p32 (tkN (T (a + 1))) : Int))] (κ, E1) = some (some (.inl ((8 * s + c : Nat) : Int)), (κ, E1)) := fp
    obtain ⟨E2, f1, f2, f3⟩ := t_fail xs (d + 2) hκ ht hT hk a2 (by omega) (live_le hl (by omega)) (k := 3) (by decide) (kk := 3) rfl
    obtain ⟨E', g1, g2, g3⟩ := fin E2 _ none none f2 f3
    rw [if_pos (show (some c).isSome = true from rfl)]
    refine ⟨E', ?_, g2, fun _ => g3⟩
    rw [← g1]
    simp (disch := omega) only [cond_true, cond_false, Bool.and_true, Bool.true_and, Bool.and_false, Bool.false_and, Int.toNat_natCast, Int.reduceToNat, bI_s, bJ_s, bV_s, bR_s, decide_true, decide_false, not_true_eq_false, not_false_eq_true, dT, dF, w_al, w_la, w_ab, w_sl, w_sb, w_dec, w_ml, w_lm, ol2i_n, aup_ne, aupE, aupJ, setc_self, setc_ne, k8, a1, tk_0 hκ ht, tp_0_4 hc1 ht, tk_8 hκ ht, fp', f1]
theorem tWord (xs : List Int) (d : Nat) {κ : aK} {D E : Nat → Nat → Int} (hκ : Shp κ) {t : Nat} (ht : isT t) {T : Nat → TK} (hT : TKok T) (hk : TkC D T) {a : Nat} {w : SS} (h : TlS D E t a w) {Y : PY} (hx : TcY E t Y) (hn : xnw Y.1 < 10) (ha : a + 2 ≤ 400) (h1 : tkK (T (a + 1)) = 2) : ∃ E', cl xs (d + 4) 103 [.inr (.inr ((8 : Nat) : Int)), .inr (.inr (t : Int))] (κ, E) = some (none, (κ, E')) ∧ TlS D E' t (a + 1) w ∧ TcY E' t (mkW Y (tkN (T (a + 1)))) := by
  have k8 := kc_8 hκ
  obtain ⟨E1, a1, a2, a3⟩ := t_name xs d hκ ht hT hk h (by omega) h1
  have hx1 := hx.c8 ht a3
  have hc := a2.2.1
  have e0 : E1 t 5 = (xnw Y.1 : Int) := hx1.1.2.1.1
  obtain ⟨p1, p2, p3, p4, p5, p6⟩ := pd_t ht
  refine ⟨aup (aup E1 (t + 12) (xnw Y.1) (p32 (tkN (T (a + 1))) : Int)) t 5 ((xnw Y.1 + 1 : Nat) : Int), ?_, a2.tx ht ((hc.upc p5.1 _ _).up p1.2.1 _) (fun q hq => by rw [aupN (by omega), aupN (by omega)]), ?_⟩
  · rw [c_103]
    simp (disch := omega) only [cond_true, cond_false, Bool.and_true, Bool.true_and, Bool.and_false, Bool.false_and, Int.toNat_natCast, Int.reduceToNat, bI_s, bJ_s, bV_s, bR_s, decide_true, decide_false, not_true_eq_false, not_false_eq_true, dT, dF, w_al, w_la, w_ab, w_sl, w_sb, w_dec, w_ml, w_lm, ol2i_n, aup_ne, aupE, aupJ, setc_self, setc_ne, k8, a1, tp_0_1 hc ht, tp_0_2 hc ht, tp_0_3 hc ht, tp_0_4 hc ht, tp_0_6 hc ht, tp_0_8 hc ht, tp_0_9 hc ht, tp_0_10 hc ht, tp_0_12 hc ht, tp_0_13 hc ht, tp_0_14 hc ht, tp_3_1 hc ht, tp_3_2 hc ht, tp_3_3 hc ht, tp_3_4 hc ht, tp_8_0 hc ht, tp_8_1 hc ht, tp_8_2 hc ht, tp_18_0 hc ht, tp_18_2 hc ht, tp_18_3 hc ht, tk_0 hκ ht, tk_1 hκ ht, tn_1 hκ ht, tk_2 hκ ht, tn_2 hκ ht, tk_3 hκ ht, tk_4 hκ ht, tn_4 hκ ht, tk_5 hκ ht, tn_5 hκ ht, tk_6 hκ ht, tn_6 hκ ht, tk_7 hκ ht, tn_7 hκ ht, tk_8 hκ ht, tk_9 hκ ht, tn_9 hκ ht, tk_10 hκ ht, tn_10 hκ ht, tk_11 hκ ht, tn_11 hκ ht, tk_12 hκ ht, tn_12 hκ ht, tk_13 hκ ht, tn_13 hκ ht, tk_14 hκ ht, tn_14 hκ ht, tk_15 hκ ht, tn_15 hκ ht, tk_16 hκ ht, tn_16 hκ ht, tk_17 hκ ht, tn_17 hκ ht, tk_18 hκ ht, tk_19 hκ ht, tn_19 hκ ht, tk_20 hκ ht, tn_20 hκ ht, tk_21 hκ ht, tn_21 hκ ht, e0]
  · obtain ⟨z1, z2, z3, z4⟩ := hx1
    obtain ⟨y1, y2, y3, y4, y5, y6, y7⟩ := z1
    refine ⟨⟨by simp (disch := omega) only [aup_ne]; exact y1, ⟨by rw [aupE]; rfl, fun w' hw' => ?_⟩, by simp (disch := omega) only [aup_ne]; exact y3, by simp (disch := omega) only [aup_ne, aupJ]; exact y4, by simp (disch := omega) only [aup_ne, aupJ]; exact y5, by simp (disch := omega) only [aup_ne, aupJ]; exact y6, by simp (disch := omega) only [aup_ne, aupJ]; exact y7⟩, TcC_up z2 (by simp (disch := omega) only [aup_ne]) (by simp (disch := omega) only [aup_ne]) rfl rfl, by simp (disch := omega) only [aup_ne]; exact z3, LwC_up z4 (by simp (disch := omega) only [aup_ne]) (by simp (disch := omega) only [aup_ne]) (by simp (disch := omega) only [aup_ne]) rfl⟩
    have hw' : w' < xnw Y.1 + 1 := hw'
    show _ = ((p32 (upf (xWd Y.1) (xnw Y.1) _ w') : Nat) : Int)
    by_cases e : w' = xnw Y.1
    · subst e
      rw [upf_s]
      simp (disch := omega) only [aup_ne, aupE]
    · rw [upf_n e]
      simp (disch := omega) only [aup_ne, aupJ]
      exact y2.2 w' (by omega)
theorem tPair (xs : List Int) (d : Nat) {κ : aK} {D E : Nat → Nat → Int} (hκ : Shp κ) {t : Nat} (ht : isT t) {T : Nat → TK} (hT : TKok T) (hk : TkC D T) {a : Nat} {w : SS} (h : TlS D E t a w) {Y : PY} (hx : TcY E t Y) (hn : xpr Y.1 < 8) (ha : a + 4 ≤ 400) (h1 : tkK (T (a + 1)) = 2) (h2 : tkK (T (a + 2)) = 2) : ∃ E', cl xs (d + 4) 104 [.inr (.inr ((8 : Nat) : Int)), .inr (.inr (t : Int))] (κ, E) = some (none, (κ, E')) ∧ TlS D E' t (if tkK (T (a + 3)) = 2 then a + 3 else a + 2) w ∧ TcY E' t (mkR Y (tkN (T (a + 1))) (tkN (T (a + 2))) (if tkK (T (a + 3)) = 2 then tkN (T (a + 3)) else [])) := by
  have k8 := kc_8 hκ
  obtain ⟨E1, a1, a2, a3⟩ := t_name xs d hκ ht hT hk h (by omega) h1
  obtain ⟨E2, b1, b2, b3⟩ := t_name xs d hκ ht hT hk a2 (by omega) h2
  have kb := t_behind xs (d + 1) hκ ht hT hk b2 (by omega)
  obtain ⟨p1, p2, p3, p4, p5, p6⟩ := pd_t ht
  have fin : ∀ (E3 : Nat → Nat → Int) (b : Nat) (l : List Nat) (u3 u5 u6 u7 : Option aV), TlS D E3 t b w → (∀ q, q ≠ 8 → E3 q = E2 q) → ∃ E', ev xs (d + 3) mm_104 27 [some (.inr (.inr ((8 : Nat) : Int))), some (.inr (.inr (t : Int))), some (.inr (.inl (p32 (tkN (T (a + 1))) : Int))), u3, some (.inr (.inl (p32 (tkN (T (a + 2))) : Int))), u5, u6, u7] [.inr (.inl (p32 l : Int))] (κ, E3) = some (none, (κ, E')) ∧ TlS D E' t b w ∧ TcY E' t (mkR Y (tkN (T (a + 1))) (tkN (T (a + 2))) l) := fun E3 b l u3 u5 u6 u7 s3 f3 => by
    have hx3 := ((hx.c8 ht a3).c8 ht b3).c8 ht f3
    have hc := s3.2.1
    have e0 : E3 t 7 = (xpr Y.1 : Int) := hx3.1.2.2.2.1.1
    refine ⟨aup (aup (aup (aup E3 (t + 13) (xpr Y.1) (p32 (tkN (T (a + 1))) : Int)) (t + 14) (xpr Y.1) (p32 (tkN (T (a + 2))) : Int)) (t + 15) (xpr Y.1) (p32 l : Int)) t 7 ((xpr Y.1 + 1 : Nat) : Int), ?_, s3.tx ht ((((hc.upc p5.2.1 _ _).upc p5.2.2.1 _ _).upc p5.2.2.2.1 _ _).up p1.2.2.1 _) (fun q hq => by rw [aupN (by omega), aupN (by omega), aupN (by omega), aupN (by omega)]), ?_⟩
    · rw [q_104_27]
      simp (disch := omega) only [cond_true, cond_false, Bool.and_true, Bool.true_and, Bool.and_false, Bool.false_and, Int.toNat_natCast, Int.reduceToNat, bI_s, bJ_s, bV_s, bR_s, decide_true, decide_false, not_true_eq_false, not_false_eq_true, dT, dF, w_al, w_la, w_ab, w_sl, w_sb, w_dec, w_ml, w_lm, ol2i_n, aup_ne, aupE, aupJ, setc_self, setc_ne, k8, tp_0_1 hc ht, tp_0_2 hc ht, tp_0_3 hc ht, tp_0_4 hc ht, tp_0_6 hc ht, tp_0_8 hc ht, tp_0_9 hc ht, tp_0_10 hc ht, tp_0_12 hc ht, tp_0_13 hc ht, tp_0_14 hc ht, tp_3_1 hc ht, tp_3_2 hc ht, tp_3_3 hc ht, tp_3_4 hc ht, tp_8_0 hc ht, tp_8_1 hc ht, tp_8_2 hc ht, tp_18_0 hc ht, tp_18_2 hc ht, tp_18_3 hc ht, tk_0 hκ ht, tk_1 hκ ht, tn_1 hκ ht, tk_2 hκ ht, tn_2 hκ ht, tk_3 hκ ht, tk_4 hκ ht, tn_4 hκ ht, tk_5 hκ ht, tn_5 hκ ht, tk_6 hκ ht, tn_6 hκ ht, tk_7 hκ ht, tn_7 hκ ht, tk_8 hκ ht, tk_9 hκ ht, tn_9 hκ ht, tk_10 hκ ht, tn_10 hκ ht, tk_11 hκ ht, tn_11 hκ ht, tk_12 hκ ht, tn_12 hκ ht, tk_13 hκ ht, tn_13 hκ ht, tk_14 hκ ht, tn_14 hκ ht, tk_15 hκ ht, tn_15 hκ ht, tk_16 hκ ht, tn_16 hκ ht, tk_17 hκ ht, tn_17 hκ ht, tk_18 hκ ht, tk_19 hκ ht, tn_19 hκ ht, tk_20 hκ ht, tn_20 hκ ht, tk_21 hκ ht, tn_21 hκ ht, e0]
      rw [q_104_70]
      simp (disch := omega) only [cond_true, cond_false, Bool.and_true, Bool.true_and, Bool.and_false, Bool.false_and, Int.toNat_natCast, Int.reduceToNat, bI_s, bJ_s, bV_s, bR_s, decide_true, decide_false, not_true_eq_false, not_false_eq_true, dT, dF, w_al, w_la, w_ab, w_sl, w_sb, w_dec, w_ml, w_lm, ol2i_n, aup_ne, aupE, aupJ, setc_self, setc_ne, k8, tp_0_1 hc ht, tp_0_2 hc ht, tp_0_3 hc ht, tp_0_4 hc ht, tp_0_6 hc ht, tp_0_8 hc ht, tp_0_9 hc ht, tp_0_10 hc ht, tp_0_12 hc ht, tp_0_13 hc ht, tp_0_14 hc ht, tp_3_1 hc ht, tp_3_2 hc ht, tp_3_3 hc ht, tp_3_4 hc ht, tp_8_0 hc ht, tp_8_1 hc ht, tp_8_2 hc ht, tp_18_0 hc ht, tp_18_2 hc ht, tp_18_3 hc ht, tk_0 hκ ht, tk_1 hκ ht, tn_1 hκ ht, tk_2 hκ ht, tn_2 hκ ht, tk_3 hκ ht, tk_4 hκ ht, tn_4 hκ ht, tk_5 hκ ht, tn_5 hκ ht, tk_6 hκ ht, tn_6 hκ ht, tk_7 hκ ht, tn_7 hκ ht, tk_8 hκ ht, tk_9 hκ ht, tn_9 hκ ht, tk_10 hκ ht, tn_10 hκ ht, tk_11 hκ ht, tn_11 hκ ht, tk_12 hκ ht, tn_12 hκ ht, tk_13 hκ ht, tn_13 hκ ht, tk_14 hκ ht, tn_14 hκ ht, tk_15 hκ ht, tn_15 hκ ht, tk_16 hκ ht, tn_16 hκ ht, tk_17 hκ ht, tn_17 hκ ht, tk_18 hκ ht, tk_19 hκ ht, tn_19 hκ ht, tk_20 hκ ht, tn_20 hκ ht, tk_21 hκ ht, tn_21 hκ ht, e0]
    · obtain ⟨z1, z2, z3, z4⟩ := hx3
      obtain ⟨y1, y2, y3, y4, y5, y6, y7⟩ := z1
      refine ⟨⟨by simp (disch := omega) only [aup_ne]; exact y1, by simp (disch := omega) only [aup_ne, aupJ]; exact y2, by simp (disch := omega) only [aup_ne]; exact y3, ⟨by rw [aupE]; rfl, fun p hp => ?_⟩, by simp (disch := omega) only [aup_ne, aupJ]; exact y5, by simp (disch := omega) only [aup_ne, aupJ]; exact y6, by simp (disch := omega) only [aup_ne, aupJ]; exact y7⟩, TcC_up z2 (by simp (disch := omega) only [aup_ne]) (by simp (disch := omega) only [aup_ne]) rfl rfl, by simp (disch := omega) only [aup_ne]; exact z3, LwC_up z4 (by simp (disch := omega) only [aup_ne]) (by simp (disch := omega) only [aup_ne]) (by simp (disch := omega) only [aup_ne]) rfl⟩
      have hp : p < xpr Y.1 + 1 := hp
      show _ = ((p32 (upf (xPI Y.1) (xpr Y.1) _ p) : Nat) : Int) ∧ _ = ((p32 (upf (xPO Y.1) (xpr Y.1) _ p) : Nat) : Int) ∧ _ = ((p32 (upf (xPX Y.1) (xpr Y.1) _ p) : Nat) : Int)
      by_cases e : p = xpr Y.1
      · subst e
        rw [upf_s, upf_s, upf_s]
        simp (disch := omega) only [aup_ne, aupE]
        exact ⟨trivial, trivial, trivial⟩
      · rw [upf_n e, upf_n e, upf_n e]
        simp (disch := omega) only [aup_ne, aupJ]
        exact y4.2 p (by omega)
  rw [c_104]
  by_cases h3 : tkK (T (a + 3)) = 2
  · rw [if_pos h3, if_pos h3]
    obtain ⟨E3, c1, c2, c3⟩ := t_name xs d hκ ht hT hk b2 (by omega) h3
    obtain ⟨E', g1, g2, g3⟩ := fin E3 (a + 3) (tkN (T (a + 3))) none none none none c2 c3
    refine ⟨E', ?_, g2, g3⟩
    rw [← g1]
    have h3' : tkK (T (a + 2 + 1)) = 2 := h3
    simp (disch := omega) only [cond_true, cond_false, Bool.and_true, Bool.true_and, Bool.and_false, Bool.false_and, Int.toNat_natCast, Int.reduceToNat, bI_s, bJ_s, bV_s, bR_s, decide_true, decide_false, not_true_eq_false, not_false_eq_true, dT, dF, w_al, w_la, w_ab, w_sl, w_sb, w_dec, w_ml, w_lm, ol2i_n, aup_ne, aupE, aupJ, setc_self, setc_ne, k8, a1, b1, kb, h3', c1]
  · rw [if_neg h3, if_neg h3]
    obtain ⟨E', g1, g2, g3⟩ := fin E2 (a + 2) [] none none none none b2 (fun _ _ => rfl)
    refine ⟨E', ?_, g2, g3⟩
    rw [← g1]
    have ne : ¬ ((tkK (T (a + 1 + 1 + 1)) : Nat) : Int) = 2 := by
      rw [show a + 1 + 1 + 1 = a + 3 from rfl]
      omega
    simp (disch := omega) only [cond_true, cond_false, Bool.and_true, Bool.true_and, Bool.and_false, Bool.false_and, Int.toNat_natCast, Int.reduceToNat, bI_s, bJ_s, bV_s, bR_s, decide_true, decide_false, not_true_eq_false, not_false_eq_true, dT, dF, w_al, w_la, w_ab, w_sl, w_sb, w_dec, w_ml, w_lm, ol2i_n, aup_ne, aupE, aupJ, setc_self, setc_ne, k8, a1, b1, kb, ne]
    try rfl
theorem tSeed (xs : List Int) (d : Nat) {κ : aK} {D E : Nat → Nat → Int} (hκ : Shp κ) {t : Nat} (ht : isT t) {T : Nat → TK} (hT : TKok T) (hk : TkC D T) {a : Nat} {w : SS} (h : TlS D E t a w) {Y : PY} (hx : TcY E t Y) (ha : a + 2 ≤ 400) (hl : live T (a + 1)) (h1 : tkK (T (a + 1)) = 3) : ∃ E', ev xs (d + 3) mm_96 147 [some (.inr (.inr ((8 : Nat) : Int))), some (.inr (.inr (t : Int)))] [] (κ, E) = some (none, (κ, E')) ∧ TlS D E' t (a + 2) w ∧ TcY E' t (mkD Y (tkV (T (a + 1)))) := by
  have k8 := kc_8 hκ
  have ht' : t = 9 ∨ t = 31 := ht
  have hV := hT.2.2.2.1 _ h1
  obtain ⟨E1, a1, a2, a3⟩ := t_num xs d hκ ht hT hk h (by omega) hl h1 (lo := 0) (hi := 9999) (l' := 0) (h' := 9999) rfl rfl
  have hx1 := hx.c8 ht a3
  have hc := a2.2.1
  have ew : w1N T (a + 1) 0 9999 w = w := if_neg (by omega)
  rw [ew] at a2
  obtain ⟨p1, p2, p3, p4, p5, p6⟩ := pd_t ht
  have a2' := a2.tx (E' := aup E1 t 15 (tkV (T (a + 1)) : Int)) ht (hc.up p1.2.2.2.2 _) (fun q hq => aupN (by omega))
  have e : w32 (aup E1 t 15 (tkV (T (a + 1)) : Int) 8 3 + 1) = ((a + 2 : Nat) : Int) := by rw [a2'.2.2.1, w32_id (by omega) (by omega)]; omega
  refine ⟨aup (aup E1 t 15 (tkV (T (a + 1)) : Int)) 8 3 (w32 (aup E1 t 15 (tkV (T (a + 1)) : Int) 8 3 + 1)), ?_, a2'.at_ e, ?_⟩
  · rw [q_96_147]
    simp (disch := omega) only [cond_true, cond_false, Bool.and_true, Bool.true_and, Bool.and_false, Bool.false_and, Int.toNat_natCast, Int.reduceToNat, bI_s, bJ_s, bV_s, bR_s, decide_true, decide_false, not_true_eq_false, not_false_eq_true, dT, dF, w_al, w_la, w_ab, w_sl, w_sb, w_dec, w_ml, w_lm, ol2i_n, aup_ne, aupE, aupJ, setc_self, setc_ne, k8, a1, tk_0 hκ ht]
  · refine TcY.c8 ?_ ht (fun q hq => aupN hq)
    obtain ⟨z1, z2, z3, z4⟩ := hx1
    obtain ⟨y1, y2, y3, y4, y5, y6, y7⟩ := z1
    exact ⟨⟨by simp (disch := omega) only [aup_ne]; exact y1, by simp (disch := omega) only [aup_ne, aupJ]; exact y2, by simp (disch := omega) only [aup_ne]; exact y3, by simp (disch := omega) only [aup_ne, aupJ]; exact y4, by simp (disch := omega) only [aup_ne, aupJ]; exact y5, by rw [aupE]; rfl, by simp (disch := omega) only [aup_ne, aupJ]; exact y7⟩, TcC_up z2 (by simp (disch := omega) only [aup_ne]) (by simp (disch := omega) only [aup_ne]) rfl rfl, by simp (disch := omega) only [aup_ne]; exact z3, LwC_up z4 (by simp (disch := omega) only [aup_ne]) (by simp (disch := omega) only [aup_ne]) (by simp (disch := omega) only [aup_ne]) rfl⟩
/-- how many wants there are -/
def wnN (T : Nat → TK) : Nat → Nat → Nat
  | 0, _ => 0
  | r + 1, b => if tkK (T b) = 2 then wnN T r (b + 2) + 1 else 0
theorem wnN_eq {T : Nat → TK} : ∀ (r n b : Nat), n ≤ r → (∀ i, i < n → tkK (T (b + 2 * i)) = 2) → (n < r → ¬ tkK (T (b + 2 * n)) = 2) → wnN T r b = n
  | 0, n, b, h, _, _ => by
    have : n = 0 := by omega
    rw [this]; rfl
  | r + 1, 0, b, h, h1, h2 => if_neg (h2 (by omega))
  | r + 1, n + 1, b, h, h1, h2 => by
    have e : wnN T (r + 1) b = wnN T r (b + 2) + 1 := if_pos (h1 0 (by omega))
    rw [e, wnN_eq r n (b + 2) (by omega) (fun i hi => by
      have := h1 (i + 1) (by omega)
      rw [show b + 2 * (i + 1) = b + 2 + 2 * i by omega] at this
      exact this) (fun hn => by
      have := h2 (by omega)
      rw [show b + 2 * (n + 1) = b + 2 + 2 * n by omega] at this
      exact this)]
theorem pAll_lt {X : TX} (hX : TXok X) {l : List Nat} {q : Nat} (h : pAll X l = some q) : q < 24 := by
  unfold pAll at h
  have n0 := xnp_le hX (s := 0) (by decide)
  have n1 := xnp_le hX (s := 1) (by decide)
  have n2 := xnp_le hX (s := 2) (by decide)
  cases h0 : pfd X 0 l with
  | some k =>
    rw [h0] at h
    have := fndN_lt _ _ _ h0
    cases h
    omega
  | none =>
    rw [h0] at h
    cases h1 : pfd X 1 l with
    | some k =>
      rw [h1] at h
      have := fndN_lt _ _ _ h1
      cases h
      omega
    | none =>
      rw [h1] at h
      cases h2 : pfd X 2 l with
      | some k =>
        rw [h2] at h
        have := fndN_lt _ _ _ h2
        cases h
        omega
      | none =>
        rw [h2] at h
        cases h
/-- while a land is told: its wants so far -/
def TlL (E : Nat → Nat → Int) (t n : Nat) (wf : Nat → Nat) : Prop := ∀ i, i < 24 → E (t + 17) (24 * n + i) = (wf i : Int) ∧ wf i ≤ 9999
theorem tWants (xs : List Int) (d : Nat) {κ : aK} {D : Nat → Nat → Int} (hκ : Shp κ) {t : Nat} (ht : isT t) {T : Nat → TK} (hT : TKok T) (hk : TkC D T) {X : TX} (hX : TXok X) {nl : Nat} (hn : nl < 5) (v2 : Int) : ∀ (r n a : Nat) (w : SS) (wf : Nat → Nat) (E : Nat → Nat → Int) (u5 u6 : Option aV), n + r = 4 → TlS D E t a w → a + 2 * (wnN T r (a + 1)) + 1 ≤ 400 → live T (a + 2 * (wnN T r (a + 1)) + 1) → (∀ i, i < wnN T r (a + 1) → tkK (T (a + 1 + 2 * i + 1)) = 3) → PcC E t X → TlL E t nl wf → ∃ E', ev xs (d + 5) mm_105 40 [some (.inr (.inr ((8 : Nat) : Int))), some (.inr (.inr (t : Int))), some (.inl v2), some (.inl (nl : Int)), some (.inl (n : Int)), u5, u6] [] (κ, E) = some (none, (κ, E')) ∧ TlS D E' t (a + 2 * (wnN T r (a + 1))) (wnM T X r (a + 1) wf w).2 ∧ (∀ q, q ≠ 8 → q ≠ t + 17 → E' q = E q) ∧ (∀ j, j < 24 * nl ∨ 24 * nl + 24 ≤ j → E' (t + 17) j = E (t + 17) j) ∧ TlL E' t nl (wnM T X r (a + 1) wf w).1
  | 0, n, a, w, wf, E, u5, u6, hr, h, ha, hl, h3, hp, hL => by
    refine ⟨E, ?_, h, fun _ _ _ => rfl, fun _ _ => rfl, hL⟩
    rw [q_105_40]
    simp (disch := omega) only [cond_true, cond_false, Bool.and_true, Bool.true_and, Bool.and_false, Bool.false_and, Int.toNat_natCast, Int.reduceToNat, bI_s, bJ_s, bV_s, bR_s, decide_true, decide_false, not_true_eq_false, not_false_eq_true, dT, dF, w_al, w_la, w_ab, w_sl, w_sb, w_dec, w_ml, w_lm, ol2i_n, aup_ne, aupE, aupJ, setc_self, setc_ne]
  | r + 1, n, a, w, wf, E, u5, u6, hr, h, ha, hl, h3, hp, hL => by
    have k8 := kc_8 hκ
    have ht' : t = 9 ∨ t = 31 := ht
    by_cases h2 : tkK (T (a + 1)) = 2
    · have en : wnN T (r + 1) (a + 1) = wnN T r (a + 1 + 2) + 1 := if_pos h2
      have em : wnM T X (r + 1) (a + 1) wf w = wnM T X r (a + 1 + 2) (wfU T X (a + 1) wf) (w1N T (a + 1 + 1) 1 99 (w1W T X (a + 1) wf w)) := if_pos h2
      rw [en] at ha hl h3 ⊢
      rw [em]
      have hN := hT.2.2.1 _ h2
      have h3' : tkK (T (a + 1 + 1)) = 3 := h3 0 (by omega)
      have hV := hT.2.2.2.1 _ h3'
      have kb := t_behind xs (d + 3) hκ ht hT hk h (by omega)
      -- the piece that is wanted
      have hpc : ∃ E2 : Nat → Nat → Int, cl xs (d + 5) 106 [.inr (.inr ((8 : Nat) : Int)), .inr (.inr (t : Int)), .inl (nl : Int)] (κ, E) = some (some (.inl (oI (pAll X (tkN (T (a + 1)))))), (κ, E2)) ∧ TlS D E2 t (a + 1) (w1W T X (a + 1) wf w) ∧ (∀ q, q ≠ 8 → E2 q = E q) := by
        obtain ⟨E1, a1, a2, a3⟩ := t_name xs (d + 1) hκ ht hT hk h (by omega) h2
        have hp1 : PcC E1 t X := fun s hs => by
          rw [a3 (t + 9) (by omega), a3 (t + 10) (by omega), a3 (t + 11) (by omega)]
          exact hp s hs
        have fa := findAll_eq xs (d + 2) hκ a2.2.1 ht hX hp1 hN.1
        have hc := a2.2.1
        have tp4 := tp_0_4 h.2.1 ht
        rw [c_106]
        cases hpa : pAll X (tkN (T (a + 1))) with
        | none =>
          rw [hpa] at fa
          have fa' : cl xs (d + 4) 34 [.inr (.inr ((t + 8 : Nat) : Int)), .inr (.inl (p32 (tkN (T (a + 1))) : Int))] (κ, E1) = some (some (.inl (-1)), (κ, E1)) := fa
          obtain ⟨E2, f1, f2, f3⟩ := t_fail xs (d + 2) hκ ht hT hk a2 (by omega) (live_le hl (by omega)) (k := 4) (by decide) (kk := 4) rfl
          have ew1 : w1W T X (a + 1) wf w = wrg w 4 (tkP (T (a + 1))) := by unfold w1W; rw [hpa]
          rw [ew1]
          refine ⟨E2, ?_, f2, fun q hq => (f3 q hq).trans (a3 q hq)⟩
          simp (disch := omega) only [cond_true, cond_false, Bool.and_true, Bool.true_and, Bool.and_false, Bool.false_and, Int.toNat_natCast, Int.reduceToNat, bI_s, bJ_s, bV_s, bR_s, decide_true, decide_false, not_true_eq_false, not_false_eq_true, dT, dF, w_al, w_la, w_ab, w_sl, w_sb, w_dec, w_ml, w_lm, ol2i_n, aup_ne, aupE, aupJ, setc_self, setc_ne, k8, a1, tk_0 hκ ht, tp4, tk_8 hκ ht, fa']
          rw [q_106_22]
          simp (disch := omega) only [cond_true, cond_false, Bool.and_true, Bool.true_and, Bool.and_false, Bool.false_and, Int.toNat_natCast, Int.reduceToNat, bI_s, bJ_s, bV_s, bR_s, decide_true, decide_false, not_true_eq_false, not_false_eq_true, dT, dF, w_al, w_la, w_ab, w_sl, w_sb, w_dec, w_ml, w_lm, ol2i_n, aup_ne, aupE, aupJ, setc_self, setc_ne, k8, f1]
          rfl
        | some q =>
          rw [hpa] at fa
          have hq := pAll_lt hX hpa
          have fa' : cl xs (d + 4) 34 [.inr (.inr ((t + 8 : Nat) : Int)), .inr (.inl (p32 (tkN (T (a + 1))) : Int))] (κ, E1) = some (some (.inl (q : Int)), (κ, E1)) := fa
          have eL : E1 (t + 17) (24 * nl + q) = (wf q : Int) := by rw [a3 _ (by omega)]; exact (hL q hq).1
          have ew : w32 (((nl * 24 : Nat) : Int) + (q : Int)) = ((24 * nl + q : Nat) : Int) := by rw [w32_id (by omega) (by omega)]; omega
          have ew1 : w1W T X (a + 1) wf w = (if wf q = 0 then w else wrg w 3 (tkP (T (a + 1)))) := by unfold w1W; rw [hpa]
          rw [ew1]
          by_cases hz : wf q = 0
          · rw [if_pos hz]
            rw [hz] at eL
            refine ⟨E1, ?_, a2, a3⟩
            simp (disch := omega) only [k8, a1, tk_0 hκ ht, tp4, tk_8 hκ ht, fa', tp_0_13 hc ht, tn_17 hκ ht, ew, eL, cond_true, cond_false, Bool.and_true, Bool.true_and, Bool.and_false, Bool.false_and, Int.toNat_natCast, Int.reduceToNat, bI_s, bJ_s, bV_s, bR_s, decide_true, decide_false, not_true_eq_false, not_false_eq_true, dT, dF, w_al, w_la, w_ab, w_sl, w_sb, w_dec, w_ml, w_lm, ol2i_n, aup_ne, aupE, aupJ, setc_self, setc_ne]
            rfl
          · rw [if_neg hz]
            obtain ⟨E2, f1, f2, f3⟩ := t_fail xs (d + 2) hκ ht hT hk a2 (by omega) (live_le hl (by omega)) (k := 3) (by decide) (kk := 3) rfl
            refine ⟨E2, ?_, f2, fun q hq => (f3 q hq).trans (a3 q hq)⟩
            have nz : ¬ ((wf q : Nat) : Int) = 0 := by omega
            simp (disch := omega) only [k8, a1, tk_0 hκ ht, tp4, tk_8 hκ ht, fa', tp_0_13 hc ht, tn_17 hκ ht, ew, eL, nz, f1, cond_true, cond_false, Bool.and_true, Bool.true_and, Bool.and_false, Bool.false_and, Int.toNat_natCast, Int.reduceToNat, bI_s, bJ_s, bV_s, bR_s, decide_true, decide_false, not_true_eq_false, not_false_eq_true, dT, dF, w_al, w_la, w_ab, w_sl, w_sb, w_dec, w_ml, w_lm, ol2i_n, aup_ne, aupE, aupJ, setc_self, setc_ne]
            try rfl
      obtain ⟨E2, b1, b2, b3⟩ := hpc
      obtain ⟨E3, c1, c2, c3⟩ := t_num xs (d + 2) hκ ht hT hk b2 (by omega) (live_le hl (by omega)) h3' (lo := 1) (hi := 99) (l' := 1) (h' := 99) rfl rfl
      have hc := c2.2.1
      have f13 : ∀ q, q ≠ 8 → E3 q = E q := fun q hq => (c3 q hq).trans (b3 q hq)
      -- what goes on
      have go : ∀ E4 : Nat → Nat → Int, TlS D E4 t (a + 1 + 1) (w1N T (a + 1 + 1) 1 99 (w1W T X (a + 1) wf w)) → (∀ q, q ≠ 8 → q ≠ t + 17 → E4 q = E q) → (∀ j, j < 24 * nl ∨ 24 * nl + 24 ≤ j → E4 (t + 17) j = E (t + 17) j) → TlL E4 t nl (wfU T X (a + 1) wf) → ev xs (d + 5) mm_105 40 [some (.inr (.inr ((8 : Nat) : Int))), some (.inr (.inr (t : Int))), some (.inl v2), some (.inl (nl : Int)), some (.inl (n : Int)), u5, u6] [] (κ, E) = ev xs (d + 5) mm_105 40 [some (.inr (.inr ((8 : Nat) : Int))), some (.inr (.inr (t : Int))), some (.inl v2), some (.inl (nl : Int)), some (.inl ((n + 1 : Nat) : Int)), some (.inl (oI (pAll X (tkN (T (a + 1)))))), some (.inl (tkV (T (a + 1 + 1)) : Int))] [] (κ, E4) → ∃ E', ev xs (d + 5) mm_105 40 [some (.inr (.inr ((8 : Nat) : Int))), some (.inr (.inr (t : Int))), some (.inl v2), some (.inl (nl : Int)), some (.inl (n : Int)), u5, u6] [] (κ, E) = some (none, (κ, E')) ∧ TlS D E' t (a + 2 * (wnN T r (a + 1 + 2) + 1)) (wnM T X r (a + 1 + 2) (wfU T X (a + 1) wf) (w1N T (a + 1 + 1) 1 99 (w1W T X (a + 1) wf w))).2 ∧ (∀ q, q ≠ 8 → q ≠ t + 17 → E' q = E q) ∧ (∀ j, j < 24 * nl ∨ 24 * nl + 24 ≤ j → E' (t + 17) j = E (t + 17) j) ∧ TlL E' t nl (wnM T X r (a + 1 + 2) (wfU T X (a + 1) wf) (w1N T (a + 1 + 1) 1 99 (w1W T X (a + 1) wf w))).1 := fun E4 s4 f4 g4 L4 e4 => by
        have ee : a + 1 + 1 + 2 * wnN T r (a + 1 + 1 + 1) = a + 2 * (wnN T r (a + 1 + 2) + 1) := by
          rw [show a + 1 + 1 + 1 = a + 1 + 2 by omega]; omega
        obtain ⟨E', i1, i2, i3, i4, i5⟩ := tWants xs d hκ ht hT hk hX hn v2 r (n + 1) (a + 1 + 1) _ _ E4 _ _ (by omega) s4 (by rw [ee]; omega) (by rw [ee]; exact live_le hl (by omega)) (fun i hi => by
          have := h3 (i + 1) (by rw [show a + 1 + 1 + 1 = a + 1 + 2 by omega] at hi; omega)
          rw [show a + 1 + 2 * (i + 1) + 1 = a + 1 + 1 + 1 + 2 * i + 1 by omega] at this
          exact this) (fun s hs => by
          rw [f4 (t + 9) (by omega) (by omega), f4 (t + 10) (by omega) (by omega), f4 (t + 11) (by omega) (by omega)]
          exact hp s hs) L4
        rw [ee] at i2
        exact ⟨E', e4.trans i1, i2, fun q h1 h2 => (i3 q h1 h2).trans (f4 q h1 h2), fun j hj => (i4 j hj).trans (g4 j hj), i5⟩
      have k2e : ((tkK (T (a + 1)) : Nat) : Int) = 2 := by omega
      cases hpa : pAll X (tkN (T (a + 1))) with
      | none =>
        rw [hpa] at b1
        have b1' : cl xs (d + 5) 106 [.inr (.inr ((8 : Nat) : Int)), .inr (.inr (t : Int)), .inl (nl : Int)] (κ, E) = some (some (.inl (-1)), (κ, E2)) := b1
        refine go E3 c2 (fun q h1 _ => f13 q h1) (fun j hj => by rw [f13 _ (by omega)]) (fun i hi => ?_) ?_
        · rw [show wfU T X (a + 1) wf = wf from by unfold wfU; rw [hpa], f13 _ (by omega)]
          exact hL i hi
        · rw [hpa, q_105_40]
          simp (disch := omega) only [cond_true, cond_false, Bool.and_true, Bool.true_and, Bool.and_false, Bool.false_and, Int.toNat_natCast, Int.reduceToNat, bI_s, bJ_s, bV_s, bR_s, decide_true, decide_false, not_true_eq_false, not_false_eq_true, dT, dF, w_al, w_la, w_ab, w_sl, w_sb, w_dec, w_ml, w_lm, ol2i_n, aup_ne, aupE, aupJ, setc_self, setc_ne, k8, kb, k2e, b1', c1]
          rfl
      | some q =>
        rw [hpa] at b1
        have hq := pAll_lt hX hpa
        have b1' : cl xs (d + 5) 106 [.inr (.inr ((8 : Nat) : Int)), .inr (.inr (t : Int)), .inl (nl : Int)] (κ, E) = some (some (.inl (q : Int)), (κ, E2)) := b1
        have ew : w32 (((nl * 24 : Nat) : Int) + (q : Int)) = ((24 * nl + q : Nat) : Int) := by rw [w32_id (by omega) (by omega)]; omega
        refine go (aup E3 (t + 17) (24 * nl + q) (tkV (T (a + 1 + 1)) : Int)) (c2.tx ht (hc.upc (pd_t ht).2.2.2.2.1.2.2.2.2.2 _ _) (fun z hz => aupN (by omega))) (fun z h1 h2 => by rw [aupN h2]; exact f13 z h1) (fun j hj => by rw [aupJ (by omega), f13 _ (by omega)]) (fun i hi => ?_) ?_
        · have eu : wfU T X (a + 1) wf = upf wf q (tkV (T (a + 1 + 1))) := by unfold wfU; rw [hpa]
          rw [eu]
          by_cases e : i = q
          · subst e
            rw [aupE, upf_s]
            exact ⟨rfl, hV⟩
          · rw [aupJ (by omega), upf_n e, f13 _ (by omega)]
            exact hL i hi
        · rw [hpa, q_105_40]
          simp (disch := omega) only [k8, kb, k2e, b1', c1, tk_0 hκ ht, tp_0_13 hc ht, tn_17 hκ ht, ew, cond_true, cond_false, Bool.and_true, Bool.true_and, Bool.and_false, Bool.false_and, Int.toNat_natCast, Int.reduceToNat, bI_s, bJ_s, bV_s, bR_s, decide_true, decide_false, not_true_eq_false, not_false_eq_true, dT, dF, w_al, w_la, w_ab, w_sl, w_sb, w_dec, w_ml, w_lm, ol2i_n, aup_ne, aupE, aupJ, setc_self, setc_ne]
          rfl
    · have en : wnN T (r + 1) (a + 1) = 0 := if_neg h2
      have em : wnM T X (r + 1) (a + 1) wf w = (wf, w) := if_neg h2
      rw [en] at ha ⊢
      rw [em]
      have kb := t_behind xs (d + 3) hκ ht hT hk h (by omega)
      refine ⟨E, ?_, h, fun _ _ _ => rfl, fun _ _ => rfl, hL⟩
      have ne : ¬ ((tkK (T (a + 1)) : Nat) : Int) = 2 := by omega
      rw [q_105_40]
      simp (disch := omega) only [cond_true, cond_false, Bool.and_true, Bool.true_and, Bool.and_false, Bool.false_and, Int.toNat_natCast, Int.reduceToNat, bI_s, bJ_s, bV_s, bR_s, decide_true, decide_false, not_true_eq_false, not_false_eq_true, dT, dF, w_al, w_la, w_ab, w_sl, w_sb, w_dec, w_ml, w_lm, ol2i_n, aup_ne, aupE, aupJ, setc_self, setc_ne, k8, kb, ne]
theorem tLand (xs : List Int) (d : Nat) {κ : aK} {D E : Nat → Nat → Int} (hκ : Shp κ) {t : Nat} (ht : isT t) {T : Nat → TK} (hT : TKok T) (hk : TkC D T) {a : Nat} {w : SS} (h : TlS D E t a w) {Y : PY} (hY : YOk Y) (hx : TcY E t Y) (hn : xnl Y.1 < 5) (h1 : tkK (T (a + 1)) = 3) {n : Nat} (hn4 : n ≤ 4) (hw : ∀ i, i < n → tkK (T (a + 2 + 2 * i)) = 2 ∧ tkK (T (a + 2 + 2 * i + 1)) = 3) (he : tkK (T (a + 2 + 2 * n)) = 59) (ha : a + 2 + 2 * n < 400) (hl : live T (a + 2 + 2 * n)) : ∃ E', cl xs (d + 6) 105 [.inr (.inr ((8 : Nat) : Int)), .inr (.inr (t : Int))] (κ, E) = some (none, (κ, E')) ∧ TlS D E' t (a + 1 + 2 * n) (wnM T Y.1 4 (a + 2) (fun _ => 0) (w1N T (a + 1) 0 999 w)).2 ∧ ((wnM T Y.1 4 (a + 2) (fun _ => 0) (w1N T (a + 1) 0 999 w)).2.1 = 0 → TcY E' t (mkL' Y (tkV (T (a + 1))) (wnM T Y.1 4 (a + 2) (fun _ => 0) (w1N T (a + 1) 0 999 w)).1)) := by
  have k8 := kc_8 hκ
  have ht' : t = 9 ∨ t = 31 := ht
  have hV := hT.2.2.2.1 _ h1
  obtain ⟨E1, a1, a2, a3⟩ := t_num xs (d + 2) hκ ht hT hk h (by omega) (live_le hl (by omega)) h1 (lo := 0) (hi := 999) (l' := 0) (h' := 999) rfl rfl
  have hx1 := hx.c8 ht a3
  have hc := a2.2.1
  have e0 : E1 t 11 = (xnl Y.1 : Int) := hx1.1.2.2.2.2.1.1
  obtain ⟨p1, p2, p3, p4, p5, p6⟩ := pd_t ht
  have en : wnN T 4 (a + 1 + 1) = n := wnN_eq 4 n (a + 2) hn4 (fun i hi => (hw i hi).1) (fun _ => by omega)
  have s2 := a2.tx (E' := aup (aup E1 (t + 16) (xnl Y.1) (tkV (T (a + 1)) : Int)) t 11 ((xnl Y.1 + 1 : Nat) : Int)) ht ((hc.upc p5.2.2.2.2.1 _ _).up p1.2.2.2.1 _) (fun q hq => by rw [aupN (by omega), aupN (by omega)])
  have hp1 : PcC E1 t Y.1 := hx1.1.2.2.1
  obtain ⟨E', i1, i2, i3, i4, i5⟩ := tWants xs d hκ ht hT hk hY.1 hn (tkV (T (a + 1)) : Int) 4 0 (a + 1) _ (fun _ => 0) _ none none rfl s2 (by rw [en]; omega) (by rw [en]; exact live_le hl (by omega)) (fun i hi => by
    rw [en] at hi
    exact (hw i hi).2) (fun s hs => by simp (disch := omega) only [aup_ne]; exact hp1 s hs) (fun i hi => ⟨by simp (disch := omega) only [aup_ne]; exact hx1.2.2.1 _ (Nat.le_refl _) hn i hi, Nat.zero_le _⟩)
  rw [en] at i2
  refine ⟨E', ?_, i2, fun _ => ?_⟩
  · rw [c_105]
    refine Eq.trans ?_ i1
    simp (disch := omega) only [cond_true, cond_false, Bool.and_true, Bool.true_and, Bool.and_false, Bool.false_and, Int.toNat_natCast, Int.reduceToNat, bI_s, bJ_s, bV_s, bR_s, decide_true, decide_false, not_true_eq_false, not_false_eq_true, dT, dF, w_al, w_la, w_ab, w_sl, w_sb, w_dec, w_ml, w_lm, ol2i_n, aup_ne, aupE, aupJ, setc_self, setc_ne, k8, a1, tp_0_1 hc ht, tp_0_2 hc ht, tp_0_3 hc ht, tp_0_4 hc ht, tp_0_6 hc ht, tp_0_8 hc ht, tp_0_9 hc ht, tp_0_10 hc ht, tp_0_12 hc ht, tp_0_13 hc ht, tp_0_14 hc ht, tp_3_1 hc ht, tp_3_2 hc ht, tp_3_3 hc ht, tp_3_4 hc ht, tp_8_0 hc ht, tp_8_1 hc ht, tp_8_2 hc ht, tp_18_0 hc ht, tp_18_2 hc ht, tp_18_3 hc ht, tk_0 hκ ht, tk_1 hκ ht, tn_1 hκ ht, tk_2 hκ ht, tn_2 hκ ht, tk_3 hκ ht, tk_4 hκ ht, tn_4 hκ ht, tk_5 hκ ht, tn_5 hκ ht, tk_6 hκ ht, tn_6 hκ ht, tk_7 hκ ht, tn_7 hκ ht, tk_8 hκ ht, tk_9 hκ ht, tn_9 hκ ht, tk_10 hκ ht, tn_10 hκ ht, tk_11 hκ ht, tn_11 hκ ht, tk_12 hκ ht, tn_12 hκ ht, tk_13 hκ ht, tn_13 hκ ht, tk_14 hκ ht, tn_14 hκ ht, tk_15 hκ ht, tn_15 hκ ht, tk_16 hκ ht, tn_16 hκ ht, tk_17 hκ ht, tn_17 hκ ht, tk_18 hκ ht, tk_19 hκ ht, tn_19 hκ ht, tk_20 hκ ht, tn_20 hκ ht, tk_21 hκ ht, tn_21 hκ ht, e0]
    rfl
  · obtain ⟨z1, z2, z3, z4⟩ := hx1
    obtain ⟨y1, y2, y3, y4, y5, y6, y7⟩ := z1
    have fr : ∀ q, q ≠ 8 → q ≠ t + 17 → q ≠ t + 16 → q ≠ t → E' q = E1 q := fun q q1 q2 q3 q4 => by rw [i3 q q1 q2, aupN q4, aupN q3]
    have f0 : ∀ j, j ≠ 11 → E' t j = E1 t j := fun j hj => by rw [i3 t (by omega) (by omega), aupJ hj, aupN (by omega)]
    refine ⟨⟨?_, ?_, ?_, ?_, ⟨?_, fun l hl' => ?_⟩, ?_, ?_⟩, TcC_up z2 (fr _ (by omega) (by omega) (by omega) (by omega)) (fr _ (by omega) (by omega) (by omega) (by omega)) rfl rfl, fun l h1 h2 i hi => ?_, LwC_up z4 (by rw [fr _ (by omega) (by omega) (by omega) (by omega)]) (fr _ (by omega) (by omega) (by omega) (by omega)) (fr _ (by omega) (by omega) (by omega) (by omega)) rfl⟩
    · rw [fr (t + 3) (by omega) (by omega) (by omega) (by omega), fr (t + 4) (by omega) (by omega) (by omega) (by omega), fr (t + 5) (by omega) (by omega) (by omega) (by omega), fr (t + 6) (by omega) (by omega) (by omega) (by omega), fr (t + 7) (by omega) (by omega) (by omega) (by omega)]
      exact y1
    · rw [f0 5 (by decide), fr (t + 12) (by omega) (by omega) (by omega) (by omega)]
      exact y2
    · rw [fr (t + 9) (by omega) (by omega) (by omega) (by omega), fr (t + 10) (by omega) (by omega) (by omega) (by omega), fr (t + 11) (by omega) (by omega) (by omega) (by omega)]
      exact y3
    · rw [f0 7 (by decide), fr (t + 13) (by omega) (by omega) (by omega) (by omega), fr (t + 14) (by omega) (by omega) (by omega) (by omega), fr (t + 15) (by omega) (by omega) (by omega) (by omega)]
      exact y4
    · rw [i3 t (by omega) (by omega), aupE]
      rfl
    · have hl' : l < xnl Y.1 + 1 := hl'
      show _ = ((upf (xpay Y.1) (xnl Y.1) _ l : Nat) : Int) ∧ ∀ i, i < 24 → _ = ((upf (xwant Y.1) (xnl Y.1) _ l i : Nat) : Int)
      rw [i3 (t + 16) (by omega) (by omega)]
      by_cases e : l = xnl Y.1
      · subst e
        rw [upf_s, upf_s]
        refine ⟨by simp (disch := omega) only [aup_ne, aupE], fun i hi => (i5 i hi).1⟩
      · rw [upf_n e, upf_n e]
        refine ⟨by simp (disch := omega) only [aup_ne, aupJ]; exact (y5.2 l (by omega)).1, fun i hi => ?_⟩
        rw [i4 _ (by omega)]
        simp (disch := omega) only [aup_ne]
        exact (y5.2 l (by omega)).2 i hi
    · rw [f0 15 (by decide)]
      exact y6
    · rw [f0 0 (by decide)]
      exact y7
    · have h1 : xnl Y.1 + 1 ≤ l := h1
      rw [i4 _ (by omega)]
      simp (disch := omega) only [aup_ne]
      exact z3 l (by omega) h2 i hi
