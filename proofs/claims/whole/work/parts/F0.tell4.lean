/-! The class's Teller: laws; a tell; all tells. -/
def okr (T : Nat → TK) (a b : Nat) : Prop := ∀ i, a ≤ i → i < b → ¬ tkK (T i) = 59 ∧ ¬ tkK (T i) = 0
theorem okr_t {T : Nat → TK} {a b c : Nat} (h1 : okr T a b) (h2 : okr T b c) : okr T a c := fun i hi hj => by
  by_cases h : i < b
  · exact h1 i hi h
  · exact h2 i (by omega) hj
theorem okr_1 {T : Nat → TK} {a : Nat} (h : ¬ tkK (T a) = 59 ∧ ¬ tkK (T a) = 0) : okr T a (a + 1) := fun i hi hj => by
  rw [show i = a by omega]
  exact h
theorem okr_k {T : Nat → TK} {a k : Nat} (h : tkK (T a) = k) (hk : ¬ k = 59 ∧ ¬ k = 0) : okr T a (a + 1) := okr_1 (by rw [h]; exact hk)
theorem okr_0 {T : Nat → TK} {a : Nat} : okr T a a := fun i hi hj => by omega
theorem exA_tok {T : Nat → TK} : ∀ (m a : Nat) (lv : List LV) (due : Bool) (c : VF), (exA T m a lv due c).2.1 = 0 → okr T a (exA T m a lv due c).1 ∧ (due = true → a < (exA T m a lv due c).1)
  | 0, a, _, _, c, h => absurd h (show ¬ 2 = 0 by decide)
  | m + 1, a, lv, true, c, h => by
    unfold exA at h ⊢
    by_cases h1 : tkK (T a) = 40
    · rw [if_pos h1] at h ⊢
      by_cases h2 : 6 < lv.length
      · rw [if_pos h2] at h
        exact absurd h (show ¬ 2 = 0 by decide)
      · rw [if_neg h2] at h ⊢
        by_cases h3 : 400 ≤ a
        · rw [if_pos h3] at h
          exact absurd h (show ¬ 2 = 0 by decide)
        · rw [if_neg h3] at h ⊢
          have ih := exA_tok m (a + 1) _ _ _ h
          exact ⟨okr_t (okr_1 (by omega)) ih.1, fun _ => Nat.lt_of_lt_of_le (Nat.lt_succ_self a) (exA_ge _ _ _ _ _)⟩
    · rw [if_neg h1] at h ⊢
      by_cases h2 : tkK (T a) = 3 ∨ isv (tkK (T a)) = true
      · rw [if_pos h2] at h ⊢
        by_cases h3 : 400 ≤ a
        · rw [if_pos h3] at h
          exact absurd h (show ¬ 2 = 0 by decide)
        · rw [if_neg h3] at h ⊢
          have ih := exA_tok m (a + 1) _ _ _ h
          have hv : tkK (T a) = 3 ∨ (146 ≤ tkK (T a) ∧ tkK (T a) ≤ 151) := by
            rcases h2 with q | q
            · exact Or.inl q
            · exact Or.inr (isv_iff.mp q)
          exact ⟨okr_t (okr_1 (by omega)) ih.1, fun _ => Nat.lt_of_lt_of_le (Nat.lt_succ_self a) (exA_ge _ _ _ _ _)⟩
      · rw [if_neg h2] at h
        exact absurd h (show ¬ 1 = 0 by decide)
  | m + 1, a, [], false, c, h => ⟨okr_0, fun q => by cases q⟩
  | m + 1, a, l :: r, false, c, h => by
    refine ⟨?_, fun q => by cases q⟩
    unfold exA at h ⊢
    by_cases h1 : tkK (T a) = 42 ∨ tkK (T a) = 47
    · rw [if_pos h1] at h ⊢
      by_cases h3 : 400 ≤ a
      · rw [if_pos h3] at h
        exact absurd h (show ¬ 2 = 0 by decide)
      · rw [if_neg h3] at h ⊢
        exact okr_t (okr_1 (by omega)) (exA_tok m (a + 1) _ _ _ h).1
    · rw [if_neg h1] at h ⊢
      by_cases h2 : tkK (T a) = 43 ∨ tkK (T a) = 45
      · rw [if_pos h2] at h ⊢
        by_cases h3 : 400 ≤ a
        · rw [if_pos h3] at h
          exact absurd h (show ¬ 2 = 0 by decide)
        · rw [if_neg h3] at h ⊢
          exact okr_t (okr_1 (by omega)) (exA_tok m (a + 1) _ _ _ h).1
      · rw [if_neg h2] at h ⊢
        by_cases h4 : r.isEmpty = true
        · rw [if_pos h4]
          exact okr_0
        · rw [if_neg h4] at h ⊢
          by_cases h5 : tkK (T a) = 41
          · rw [if_pos h5] at h ⊢
            by_cases h3 : 400 ≤ a
            · rw [if_pos h3] at h
              exact absurd h (show ¬ 2 = 0 by decide)
            · rw [if_neg h3] at h ⊢
              exact okr_t (okr_1 (by omega)) (exA_tok m (a + 1) _ _ _ h).1
          · rw [if_neg h5] at h
            exact absurd h (show ¬ 1 = 0 by decide)
theorem sm_ok {T : Nat → TK} {s : SS} (h : (sm T s).2 = 0) : s.2 = 0 ∧ (smE T s.1).2.1 = 0 ∧ sm T s = ((smE T s.1).1, 0) ∧ okr T s.1 (smE T s.1).1 ∧ s.1 < (smE T s.1).1 := by
  by_cases h0 : s.2 = 0
  · have e : sm T s = ((smE T s.1).1, (smE T s.1).2.1) := if_pos h0
    rw [e] at h ⊢
    have h : (smE T s.1).2.1 = 0 := h
    have := exA_tok _ _ _ _ _ h
    exact ⟨h0, h, by rw [h], this.1, this.2 rfl⟩
  · rw [sm_f h0] at h
    exact absurd h h0
/-- an if of a law -/
theorem ifG_ok {T : Nat → TK} {b : Nat} (h : (ifG T (b, 0)).2 = 0) : tkK (T b) = 143 ∧ (smE T (b + 1)).2.1 = 0 ∧ tkK (T (smE T (b + 1)).1) = 60 ∧ (smE T ((smE T (b + 1)).1 + 1)).2.1 = 0 ∧ tkK (T (smE T ((smE T (b + 1)).1 + 1)).1) = 144 ∧ (smE T ((smE T ((smE T (b + 1)).1 + 1)).1 + 1)).2.1 = 0 ∧ tkK (T (smE T ((smE T ((smE T (b + 1)).1 + 1)).1 + 1)).1) = 145 ∧ (smE T ((smE T ((smE T (b + 1)).1 + 1)).1 + 1)).1 < 400 ∧ ifG T (b, 0) = ((smE T ((smE T ((smE T (b + 1)).1 + 1)).1 + 1)).1 + 1, 0) ∧ okr T b ((smE T ((smE T ((smE T (b + 1)).1 + 1)).1 + 1)).1 + 1) := by
  unfold ifG at h ⊢
  obtain ⟨a1, a2, a3, a4⟩ := mu_ok h
  obtain ⟨b1, b2, b3, b4, b5⟩ := sm_ok a1
  obtain ⟨c1, c2, c3, c4⟩ := mu_ok b1
  obtain ⟨d1, d2, d3, d4, d5⟩ := sm_ok c1
  obtain ⟨e1, e2, e3, e4⟩ := mu_ok d1
  obtain ⟨f1, f2, f3, f4, f5⟩ := sm_ok e1
  obtain ⟨g1, g2, g3, g4⟩ := mu_ok f1
  rw [g4] at f2 f3 f4 f5
  rw [g4, f3] at e2 e3 e4
  rw [g4, f3, e4] at d2 d3 d4 d5
  rw [g4, f3, e4, d3] at c2 c3 c4
  rw [g4, f3, e4, d3, c4] at b2 b3 b4 b5
  rw [g4, f3, e4, d3, c4, b3] at a2 a3 a4
  rw [g4, f3, e4, d3, c4, b3, a4]
  have o1 : okr T b (b + 1) := okr_k (k := 143) g2 (by decide)
  have o2 := okr_t o1 f4
  have e2' : tkK (T (smE T (b + 1)).1) = 60 := e2
  have o3 := okr_t (okr_t o2 (okr_k e2' (by decide))) d4
  have c2' : tkK (T (smE T ((smE T (b + 1)).1 + 1)).1) = 144 := c2
  have o4 := okr_t (okr_t o3 (okr_k c2' (by decide))) b4
  have a2' : tkK (T (smE T ((smE T ((smE T (b + 1)).1 + 1)).1 + 1)).1) = 145 := a2
  exact ⟨g2, f2, e2, d2, c2, b2, a2, a3, rfl, okr_t o4 (okr_k a2' (by decide))⟩
theorem lawL_0 {T : Nat → TK} {r b : Nat} (hk : ¬ tkK (T b) = 143) : lawL T r (b, 0) = sm T (b, 0) := by
  cases r with
  | zero => exact (ifk_0 (T := T)).trans (if_neg hk)
  | succ r => exact (ifk_0 (T := T)).trans (if_neg hk)
theorem lawL_s {T : Nat → TK} {r b : Nat} (hk : tkK (T b) = 143) : lawL T (r + 1) (b, 0) = lawL T r (ifG T (b, 0)) := (ifk_0 (T := T)).trans (if_pos hk)
theorem lawL_z {T : Nat → TK} {b : Nat} (h : (lawL T 0 (b, 0)).2 = 0) : ¬ tkK (T b) = 143 := fun hk => by
  have e : lawL T 0 (b, 0) = fl 2 (b, 0) := (ifk_0 (T := T)).trans (if_pos hk)
  rw [e] at h
  exact absurd h (show ¬ 2 = 0 by decide)
theorem lawL_if {T : Nat → TK} {r b : Nat} (hk : tkK (T b) = 143) (h : (lawL T (r + 1) (b, 0)).2 = 0) : (ifG T (b, 0)).2 = 0 := by
  rw [lawL_s hk] at h
  by_cases q : (ifG T (b, 0)).2 = 0
  · exact q
  · rw [lawL_f q] at h
    exact absurd h q
theorem lawL_tok {T : Nat → TK} : ∀ (r b : Nat), (lawL T r (b, 0)).2 = 0 → okr T b (lawL T r (b, 0)).1 ∧ b < (lawL T r (b, 0)).1
  | 0, b, h => by
    have hk := lawL_z h
    rw [lawL_0 hk] at h ⊢
    obtain ⟨a1, a2, a3, a4, a5⟩ := sm_ok h
    rw [a3]
    exact ⟨a4, a5⟩
  | r + 1, b, h => by
    by_cases hk : tkK (T b) = 143
    · have hi := lawL_if hk h
      rw [lawL_s hk] at h ⊢
      obtain ⟨_, _, _, _, _, _, _, _, e, o⟩ := ifG_ok hi
      have hge := ifG_ge (T := T) (b, 0)
      rw [e] at h ⊢
      have ih := lawL_tok r _ h
      refine ⟨okr_t o ih.1, Nat.lt_of_le_of_lt ?_ ih.2⟩
      rw [e] at hge
      exact hge
    · rw [lawL_0 hk] at h ⊢
      obtain ⟨a1, a2, a3, a4, a5⟩ := sm_ok h
      rw [a3]
      exact ⟨a4, a5⟩
/-- the law's tokens are copied -/
theorem tLaw_loop (xs : List Int) (d : Nat) {κ : aK} {D : Nat → Nat → Int} (hκ : Shp κ) {t : Nat} (ht : isT t) {T : Nat → TK} (hT : TKok T) (hk : TkC D T) {b e : Nat} (hb : 1 ≤ b) (he : tkK (T e) = 59) (he4 : e < 400) (ho : okr T b e) {w : SS} (E0 : Nat → Nat → Int) : ∀ (m n : Nat) (E : Nat → Nat → Int), n + m = e - b → b ≤ e → TlS D E t (b + n - 1) w → (∀ q, q ≠ 8 → q ≠ t + 18 → q ≠ t + 20 → q ≠ t + 21 → E q = E0 q) → (∀ j, j ≠ 1 → E (t + 18) j = E0 (t + 18) j) → E (t + 18) 1 = (n : Int) → (∀ i, i < n → E (t + 20) i = (tkK (T (b + i)) : Int) ∧ (tkK (T (b + i)) = 3 → E (t + 21) i = (tkV (T (b + i)) : Int))) → ∃ E', ev xs (d + 4) mm_107 19 [some (.inr (.inr ((8 : Nat) : Int))), some (.inr (.inr (t : Int))), some (.inl (n : Int))] [] (κ, E) = some (none, (κ, E')) ∧ TlS D E' t (e - 1) w ∧ (∀ q, q ≠ 8 → q ≠ t + 18 → q ≠ t + 20 → q ≠ t + 21 → E' q = E0 q) ∧ (∀ j, j ≠ 1 → E' (t + 18) j = E0 (t + 18) j) ∧ E' (t + 18) 1 = ((e - b : Nat) : Int) ∧ (∀ i, i < e - b → E' (t + 20) i = (tkK (T (b + i)) : Int) ∧ (tkK (T (b + i)) = 3 → E' (t + 21) i = (tkV (T (b + i)) : Int)))
  | 0, n, E, hm, hbe, h, f1, f2, f3, f4 => by
    have hn : n = e - b := by omega
    have k8 := kc_8 hκ
    have kb := t_behind xs (d + 2) hκ ht hT hk h (by omega)
    rw [show b + n - 1 + 1 = e by omega] at kb
    refine ⟨E, ?_, by rw [show e - 1 = b + n - 1 by omega]; exact h, f1, f2, by rw [← hn]; exact f3, by rw [← hn]; exact f4⟩
    rw [q_107_19]
    simp (disch := omega) only [cond_true, cond_false, Bool.and_true, Bool.true_and, Bool.and_false, Bool.false_and, Int.toNat_natCast, Int.reduceToNat, bI_s, bJ_s, bV_s, bR_s, decide_true, decide_false, not_true_eq_false, not_false_eq_true, dT, dF, w_al, w_la, w_ab, w_sl, w_sb, w_dec, w_ml, w_lm, ol2i_n, aup_ne, aupE, aupJ, setc_self, setc_ne, k8, kb, he]
  | m + 1, n, E, hm, hbe, h, f1, f2, f3, f4 => by
    have k8 := kc_8 hκ
    have ht' : t = 9 ∨ t = 31 := ht
    have kb := t_behind xs (d + 2) hκ ht hT hk h (by omega)
    rw [show b + n - 1 + 1 = b + n by omega] at kb
    obtain ⟨n59, n0⟩ := ho (b + n) (by omega) (by omega)
    have hc0 := h.2.1
    have e1 : w32 (E 8 3 + 1) = ((b + n : Nat) : Int) := by rw [h.2.2.1, w32_id (by omega) (by omega)]; omega
    have s1 := h.at_ (b := b + n) e1
    generalize hE1 : aup E 8 3 (w32 (E 8 3 + 1)) = E1 at s1
    have f81 : ∀ q, q ≠ 8 → E1 q = E q := fun q hq => by rw [← hE1]; exact aupN hq
    have th := t_here xs (d + 2) hκ ht hT hk s1 (by omega)
    obtain ⟨x, v1, v2, v3⟩ := t_value xs (d + 2) hκ ht hT hk s1 (by omega)
    have hc := s1.2.1
    obtain ⟨p1, p2, p3, p4, p5, p6⟩ := pd_t ht
    have g3 : E1 (t + 18) 1 = (n : Int) := by rw [f81 _ (by omega)]; exact f3
    have add : cl xs (d + 4) 2 [.inr (.inr ((t + 18 : Nat) : Int)), .inl (tkK (T (b + n)) : Int), .inl (ol2i x)] (κ, E1) = some (none, (κ, aup (aup (aup E1 (t + 20) n (tkK (T (b + n)) : Int)) (t + 21) n (ol2i x)) (t + 18) 1 ((n + 1 : Nat) : Int))) := by
      rw [c_2]
      simp (disch := omega) only [cond_true, cond_false, Bool.and_true, Bool.true_and, Bool.and_false, Bool.false_and, Int.toNat_natCast, Int.reduceToNat, bI_s, bJ_s, bV_s, bR_s, decide_true, decide_false, not_true_eq_false, not_false_eq_true, dT, dF, w_al, w_la, w_ab, w_sl, w_sb, w_dec, w_ml, w_lm, ol2i_n, aup_ne, aupE, aupJ, setc_self, setc_ne, tp_0_1 hc ht, tp_0_2 hc ht, tp_0_3 hc ht, tp_0_4 hc ht, tp_0_6 hc ht, tp_0_8 hc ht, tp_0_9 hc ht, tp_0_10 hc ht, tp_0_12 hc ht, tp_0_13 hc ht, tp_0_14 hc ht, tp_3_1 hc ht, tp_3_2 hc ht, tp_3_3 hc ht, tp_3_4 hc ht, tp_8_0 hc ht, tp_8_1 hc ht, tp_8_2 hc ht, tp_18_0 hc ht, tp_18_2 hc ht, tp_18_3 hc ht, tk_0 hκ ht, tk_1 hκ ht, tn_1 hκ ht, tk_2 hκ ht, tn_2 hκ ht, tk_3 hκ ht, tk_4 hκ ht, tn_4 hκ ht, tk_5 hκ ht, tn_5 hκ ht, tk_6 hκ ht, tn_6 hκ ht, tk_7 hκ ht, tn_7 hκ ht, tk_8 hκ ht, tk_9 hκ ht, tn_9 hκ ht, tk_10 hκ ht, tn_10 hκ ht, tk_11 hκ ht, tn_11 hκ ht, tk_12 hκ ht, tn_12 hκ ht, tk_13 hκ ht, tn_13 hκ ht, tk_14 hκ ht, tn_14 hκ ht, tk_15 hκ ht, tn_15 hκ ht, tk_16 hκ ht, tn_16 hκ ht, tk_17 hκ ht, tn_17 hκ ht, tk_18 hκ ht, tk_19 hκ ht, tn_19 hκ ht, tk_20 hκ ht, tn_20 hκ ht, tk_21 hκ ht, tn_21 hκ ht, g3]
      rw [q_2_40]
    have hxv : tkK (T (b + n)) = 3 → ol2i x = (tkV (T (b + n)) : Int) := fun q => by
      have := hT.2.2.2.1 _ q
      rw [v3 q, ol2i_id (by omega) (by omega)]
    obtain ⟨E', i1, i2⟩ := tLaw_loop xs d hκ ht hT hk hb he he4 ho E0 m (n + 1) (aup (aup (aup E1 (t + 20) n (tkK (T (b + n)) : Int)) (t + 21) n (ol2i x)) (t + 18) 1 ((n + 1 : Nat) : Int)) (by omega) hbe (by
      rw [show b + (n + 1) - 1 = b + n by omega]
      exact s1.tx ht (((hc.upc p6.1 _ _).upc p6.2 _ _).up p2.2 _) (fun q hq => by rw [aupN (by omega), aupN (by omega), aupN (by omega)])) (fun q q1 q2 q3 q4 => by rw [aupN q2, aupN q4, aupN q3, f81 q q1]; exact f1 q q1 q2 q3 q4) (fun j hj => by rw [aupJ hj, aupN (by omega), aupN (by omega), f81 _ (by omega)]; exact f2 j hj) (by rw [aupE]) (fun i hi => by
      by_cases ei : i = n
      · subst ei
        simp (disch := omega) only [aup_ne, aupE]
        exact ⟨trivial, hxv⟩
      · simp (disch := omega) only [aup_ne, aupJ]
        rw [f81 _ (by omega), f81 _ (by omega)]
        exact f4 i (by omega))
    refine ⟨E', ?_, i2⟩
    rw [← i1, q_107_19]
    have m59 : ¬ ((tkK (T (b + n)) : Nat) : Int) = 59 := by omega
    have m0 : ¬ ((tkK (T (b + n)) : Nat) : Int) = 0 := by omega
    have tp14 : E t 14 = ((t + 18 : Nat) : Int) := tp_0_14 hc0 ht
    simp (disch := omega) only [cond_true, cond_false, Bool.and_true, Bool.true_and, Bool.and_false, Bool.false_and, Int.toNat_natCast, Int.reduceToNat, bI_s, bJ_s, bV_s, bR_s, decide_true, decide_false, not_true_eq_false, not_false_eq_true, dT, dF, w_al, w_la, w_ab, w_sl, w_sb, w_dec, w_ml, w_lm, ol2i_n, aup_ne, aupE, aupJ, setc_self, setc_ne, k8, kb, m59, m0]
    rw [show w32 (E 8 3 + 1) = ((b + n : Nat) : Int) from e1] at hE1
    simp (disch := omega) only [cond_true, cond_false, Bool.and_true, Bool.true_and, Bool.and_false, Bool.false_and, Int.toNat_natCast, Int.reduceToNat, bI_s, bJ_s, bV_s, bR_s, decide_true, decide_false, not_true_eq_false, not_false_eq_true, dT, dF, w_al, w_la, w_ab, w_sl, w_sb, w_dec, w_ml, w_lm, ol2i_n, aup_ne, aupE, aupJ, setc_self, setc_ne, k8, e1, hE1, th, kc_2 hκ, pc_8_2 hc, v1, tk_0 hκ ht, tp14, tk_18 hκ ht, add]
theorem tLaw (xs : List Int) (d : Nat) {κ : aK} {D E : Nat → Nat → Int} (hκ : Shp κ) {t : Nat} (ht : isT t) {T : Nat → TK} (hT : TKok T) (hk : TkC D T) {a : Nat} {w : SS} (h : TlS D E t a w) {Y : PY} (hx : TcY E t Y) {e : Nat} (hL : lawL T 4 (a + 2, 0) = (e, 0)) (he : tkK (T e) = 59) (he4 : e < 400) : ∃ E', cl xs (d + 5) 107 [.inr (.inr ((8 : Nat) : Int)), .inr (.inr (t : Int))] (κ, E) = some (none, (κ, E')) ∧ TlS D E' t (e - 1) w ∧ TcY E' t (mkB Y (lwF T (a + 2))) := by
  have k8 := kc_8 hκ
  have ht' : t = 9 ∨ t = 31 := ht
  have hc := h.2.1
  have tok := lawL_tok (T := T) 4 (a + 2) (by rw [hL])
  rw [hL] at tok
  obtain ⟨ho, hlt⟩ := tok
  have hlt : a + 2 < e := hlt
  obtain ⟨p1, p2, p3, p4, p5, p6⟩ := pd_t ht
  have s1 := h.tx (E' := aup E (t + 18) 1 0) ht (hc.up p2.2 _) (fun q hq => aupN (by omega))
  have e1 : w32 (aup E (t + 18) 1 0 8 3 + 1) = ((a + 2 + 0 - 1 : Nat) : Int) := by rw [s1.2.2.1, w32_id (by omega) (by omega)]; omega
  have s2 := s1.at_ e1
  have f8 : ∀ q, q ≠ 8 → aup (aup E (t + 18) 1 0) 8 3 (w32 (aup E (t + 18) 1 0 8 3 + 1)) q = aup E (t + 18) 1 0 q := fun q hq => aupN hq
  generalize hE2 : aup (aup E (t + 18) 1 0) 8 3 (w32 (aup E (t + 18) 1 0 8 3 + 1)) = E2 at s2 f8
  obtain ⟨E', i1, i2, i3, i4, i5, i6⟩ := tLaw_loop xs d hκ ht hT hk (b := a + 2) (by omega) he he4 ho (w := w) E2 (e - (a + 2)) 0 E2 (by omega) (by omega) s2 (fun _ _ _ _ _ => rfl) (fun _ _ => rfl) (by rw [f8 _ (by omega), aupE]; rfl) (fun i hi => absurd hi (Nat.not_lt_zero i))
  refine ⟨E', ?_, i2, ?_⟩
  · have c1 : cl xs (d + 4) 1 [.inr (.inr ((t + 18 : Nat) : Int))] (κ, E) = some (none, (κ, aup E (t + 18) 1 0)) := by
      rw [c_1]
      simp (disch := omega) only [cond_true, cond_false, Bool.and_true, Bool.true_and, Bool.and_false, Bool.false_and, Int.toNat_natCast, Int.reduceToNat, bI_s, bJ_s, bV_s, bR_s, decide_true, decide_false, not_true_eq_false, not_false_eq_true, dT, dF, w_al, w_la, w_ab, w_sl, w_sb, w_dec, w_ml, w_lm, ol2i_n, aup_ne, aupE, aupJ, setc_self, setc_ne, tp_0_1 hc ht, tp_0_2 hc ht, tp_0_3 hc ht, tp_0_4 hc ht, tp_0_6 hc ht, tp_0_8 hc ht, tp_0_9 hc ht, tp_0_10 hc ht, tp_0_12 hc ht, tp_0_13 hc ht, tp_0_14 hc ht, tp_3_1 hc ht, tp_3_2 hc ht, tp_3_3 hc ht, tp_3_4 hc ht, tp_8_0 hc ht, tp_8_1 hc ht, tp_8_2 hc ht, tp_18_0 hc ht, tp_18_2 hc ht, tp_18_3 hc ht, tk_0 hκ ht, tk_1 hκ ht, tn_1 hκ ht, tk_2 hκ ht, tn_2 hκ ht, tk_3 hκ ht, tk_4 hκ ht, tn_4 hκ ht, tk_5 hκ ht, tn_5 hκ ht, tk_6 hκ ht, tn_6 hκ ht, tk_7 hκ ht, tn_7 hκ ht, tk_8 hκ ht, tk_9 hκ ht, tn_9 hκ ht, tk_10 hκ ht, tn_10 hκ ht, tk_11 hκ ht, tn_11 hκ ht, tk_12 hκ ht, tn_12 hκ ht, tk_13 hκ ht, tn_13 hκ ht, tk_14 hκ ht, tn_14 hκ ht, tk_15 hκ ht, tn_15 hκ ht, tk_16 hκ ht, tn_16 hκ ht, tk_17 hκ ht, tn_17 hκ ht, tk_18 hκ ht, tk_19 hκ ht, tn_19 hκ ht, tk_20 hκ ht, tn_20 hκ ht, tk_21 hκ ht, tn_21 hκ ht]
    rw [c_107]
    simp (disch := omega) only [k8, tk_0 hκ ht, tp_0_14 hc ht, tk_18 hκ ht, c1, cond_true, Bool.and_true, bV_s, Int.toNat_natCast]
    rw [hE2]
    exact i1
  · have fr : ∀ q, q ≠ 8 → q ≠ t + 18 → q ≠ t + 20 → q ≠ t + 21 → E' q = E q := fun q q1 q2 q3 q4 => by rw [i3 q q1 q2 q3 q4, f8 q q1, aupN q2]
    obtain ⟨z1, z2, z3, z4⟩ := hx
    refine ⟨?_, TcC_up z2 (fr _ (by omega) (by omega) (by omega) (by omega)) (fr _ (by omega) (by omega) (by omega) (by omega)) rfl rfl, fun l h1 h2 i hi => by rw [fr _ (by omega) (by omega) (by omega) (by omega)]; exact z3 l h1 h2 i hi, Or.inr ⟨T, a + 2, e, hT, hlt, he4, i5, i6, hL, he, rfl⟩⟩
    exact z1.congr (fun q h1 h2 => fr q (by omega) (by omega) (by omega) (by omega))
theorem rt_live {T : Nat → TK} {c : Nat → Nat} {a : Nat} (hl : live T a) (h : (rtG T c a).2 = 0) : live T (rtG T c a).1 := by
  have st : ∀ i k, live T i → tkK (T i) = k → ¬ k = 0 → live T (i + 1) := fun i k h1 h2 h3 => live_s h1 (by rw [h2]; exact h3)
  have nb : ∀ b k, ¬ k = 0 → live T b → (tkK (T b) = k → tkK (T (b + 1)) = 142 ∨ tkK (T (b + 1)) = 2) → live T (nbE T b k) := fun b k hk0 hb hx => by
    unfold nbE
    by_cases q : tkK (T b) = k
    · rw [if_pos q]
      refine live_s (st b k hb q hk0) ?_
      rcases hx q with z | z <;> omega
    · rw [if_neg q]; exact hb
  rcases shK h with q | q | q | q | q | q | q | q | q | q
  · obtain ⟨_, h1, h2, h3, _, e⟩ := sh128 q h
    rw [e]
    exact st _ _ (st _ _ (st _ _ (st _ _ hl q (by decide)) h1 (by decide)) h2 (by decide)) h3 (by decide)
  · obtain ⟨_, h1, h2, h3, h4, h5, h6, _, e⟩ := sh129 q h
    rw [e]
    have l4 : live T (a + 3 + 1) := live_s (st _ _ (st _ _ (st _ _ hl q (by decide)) h1 (by decide)) h2 (by decide)) (by rcases h3 with z | z <;> omega)
    exact st _ _ (nb _ 133 (by decide) (nb _ 132 (by decide) l4 h4) h5) h6 (by decide)
  · obtain ⟨_, h1, h2, h3, _, e⟩ := shPc (rt134 q) h
    rw [e]
    exact st _ _ (st _ _ (st _ _ (st _ _ hl q (by decide)) h1 (by decide)) h2 (by decide)) h3 (by decide)
  · obtain ⟨_, h1, h2, h3, _, e⟩ := shPc (rt135 q) h
    rw [e]
    exact st _ _ (st _ _ (st _ _ (st _ _ hl q (by decide)) h1 (by decide)) h2 (by decide)) h3 (by decide)
  · obtain ⟨_, h1, h2, h3, _, e⟩ := shPc (rt136 q) h
    rw [e]
    exact st _ _ (st _ _ (st _ _ (st _ _ hl q (by decide)) h1 (by decide)) h2 (by decide)) h3 (by decide)
  · obtain ⟨_, h1, h2, _, e⟩ := sh137 q h
    rw [e]
    exact st _ _ (st _ _ (st _ _ hl q (by decide)) h1 (by decide)) h2 (by decide)
  · obtain ⟨_, h1, h2, h3⟩ := sh138 q h
    have l3 := st _ _ (st _ _ (st _ _ hl q (by decide)) h1 (by decide)) h2 (by decide)
    by_cases z : tkK (T (a + 3)) = 2
    · rw [if_pos z] at h3
      rw [h3.2.2]
      exact st _ _ (st _ _ l3 z (by decide)) h3.1 (by decide)
    · rw [if_neg z] at h3
      rw [h3.2.2]
      exact st _ _ l3 h3.1 (by decide)
  · obtain ⟨_, h1, n, _, h2, h3, _, e⟩ := sh139 q h
    rw [e]
    have l2 := st _ _ (st _ _ hl q (by decide)) h1 (by decide)
    have ln : ∀ i, i ≤ n → live T (a + 2 + 2 * i) := fun i => by
      induction i with
      | zero => exact fun _ => l2
      | succ i ih =>
        intro hi
        have := st _ _ (st _ _ (ih (by omega)) (h2 i (by omega)).1 (by decide)) (h2 i (by omega)).2 (by decide)
        rw [show a + 2 + 2 * (i + 1) = a + 2 + 2 * i + 1 + 1 by omega]
        exact this
    exact st _ _ (ln n (Nat.le_refl _)) h3 (by decide)
  · obtain ⟨h1, _, e', hL, h2, _, e⟩ := sh140 q h
    rw [e]
    have l2 := st _ _ (st _ _ hl q (by decide)) h1 (by decide)
    have tok := lawL_tok (T := T) 4 (a + 2) (by rw [hL])
    rw [hL] at tok
    refine st _ _ (fun i hi => ?_) h2 (by decide)
    by_cases z : i < a + 2
    · exact l2 i z
    · exact (tok.1 i (by omega) hi).2
  · obtain ⟨h1, h2, _, e⟩ := sh141 q h
    rw [e]
    exact st _ _ (st _ _ (st _ _ hl q (by decide)) h1 (by decide)) h2 (by decide)
