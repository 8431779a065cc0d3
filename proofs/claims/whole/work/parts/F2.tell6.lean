/-! The class clears a text, and tells all. -/
set_option maxRecDepth 100000 in
theorem pd_t2 {t : Nat} (ht : isT t) : ptrd (t + 3) 0 = false ∧ ptrc (t + 9) = false ∧ ptrc (t + 17) = false := by
  rcases ht with rfl | rfl <;> decide
theorem kt_9 {t : Nat} (ht : isT t) : t + 9 < 315 ∧ KT (t + 9) = (100, 3) ∧ t + 17 < 315 ∧ KT (t + 17) = (100, 120) := by
  rcases ht with rfl | rfl <;> exact ⟨by decide, rfl, by decide, rfl⟩
theorem t_clear (xs : List Int) (d : Nat) {κ : aK} {D E : Nat → Nat → Int} (hκ : Shp κ) {t : Nat} (ht : isT t) {w : SS} {a : Nat} (h : TlS D E t a w) : ∃ E', cl xs (d + 3) 109 [.inr (.inr (t : Int))] (κ, E) = some (none, (κ, E')) ∧ TlS D E' t a w ∧ TcY E' t Y0 := by
  have hc0 := h.2.1
  obtain ⟨p1, p2, p3, p4, p5, p6⟩ := pd_t ht
  obtain ⟨k1, k2, k3, k4⟩ := kt_9 ht
  generalize hE1 : aup (aup E t 0 0) (t + 3) 0 0 = E1
  have c1 : CPtr E1 := by rw [← hE1]; exact (hc0.up p1.1 _).up p2.1 _
  have f9 := fillI_eq xs (d + 0) (D := E1) hκ (t + 9) k1 k2 (by decide) 0
  generalize hE2 : setc E1 (t + 9) (cpn 3 (fun _ => 0) (E1 (t + 9))) = E2 at f9
  have c2 : CPtr E2 := by rw [← hE2]; exact c1.setc p4.1 _
  have cl35 : cl xs (d + 2) 35 [.inr (.inr ((t + 8 : Nat) : Int))] (κ, E1) = some (none, (κ, E2)) := by
    have hc := c1
    rw [c_35]
    simp (disch := omega) only [cond_true, cond_false, Bool.and_true, Bool.true_and, Bool.and_false, Bool.false_and, Int.toNat_natCast, Int.reduceToNat, bI_s, bJ_s, bV_s, bR_s, decide_true, decide_false, not_true_eq_false, not_false_eq_true, dT, dF, w_al, w_la, w_ab, w_sl, w_sb, w_dec, w_ml, w_lm, ol2i_n, aup_ne, aupE, aupJ, setc_self, setc_ne, tp_0_1 hc ht, tp_0_2 hc ht, tp_0_3 hc ht, tp_0_4 hc ht, tp_0_6 hc ht, tp_0_8 hc ht, tp_0_9 hc ht, tp_0_10 hc ht, tp_0_12 hc ht, tp_0_13 hc ht, tp_0_14 hc ht, tp_3_1 hc ht, tp_3_2 hc ht, tp_3_3 hc ht, tp_3_4 hc ht, tp_8_0 hc ht, tp_8_1 hc ht, tp_8_2 hc ht, tp_18_0 hc ht, tp_18_2 hc ht, tp_18_3 hc ht, tk_0 hκ ht, tk_1 hκ ht, tn_1 hκ ht, tk_2 hκ ht, tn_2 hκ ht, tk_3 hκ ht, tk_4 hκ ht, tn_4 hκ ht, tk_5 hκ ht, tn_5 hκ ht, tk_6 hκ ht, tn_6 hκ ht, tk_7 hκ ht, tn_7 hκ ht, tk_8 hκ ht, tk_9 hκ ht, tn_9 hκ ht, tk_10 hκ ht, tn_10 hκ ht, tk_11 hκ ht, tn_11 hκ ht, tk_12 hκ ht, tn_12 hκ ht, tk_13 hκ ht, tn_13 hκ ht, tk_14 hκ ht, tn_14 hκ ht, tk_15 hκ ht, tn_15 hκ ht, tk_16 hκ ht, tn_16 hκ ht, tk_17 hκ ht, tn_17 hκ ht, tk_18 hκ ht, tk_19 hκ ht, tn_19 hκ ht, tk_20 hκ ht, tn_20 hκ ht, tk_21 hκ ht, tn_21 hκ ht, f9]
  generalize hE3 : aup (aup (aup E2 t 5 0) t 7 0) t 11 0 = E3
  have c3 : CPtr E3 := by rw [← hE3]; exact ((c2.up p1.2.1 _).up p1.2.2.1 _).up p1.2.2.2.1 _
  have f17 := fillI_eq xs (d + 1) (D := E3) hκ (t + 17) k3 k4 (by decide) 0
  generalize hE4 : setc E3 (t + 17) (cpn 120 (fun _ => 0) (E3 (t + 17))) = E4 at f17
  have c4 : CPtr E4 := by rw [← hE4]; exact c3.setc p5.2.2.2.2.2 _
  have cl1 : cl xs (d + 2) 1 [.inr (.inr ((t + 18 : Nat) : Int))] (κ, E4) = some (none, (κ, aup E4 (t + 18) 1 0)) := by
    rw [c_1]
    simp (disch := omega) only [cond_true, cond_false, Bool.and_true, Bool.true_and, Bool.and_false, Bool.false_and, Int.toNat_natCast, Int.reduceToNat, bI_s, bJ_s, bV_s, bR_s, decide_true, decide_false, not_true_eq_false, not_false_eq_true, dT, dF, w_al, w_la, w_ab, w_sl, w_sb, w_dec, w_ml, w_lm, ol2i_n, aup_ne, aupE, aupJ, setc_self, setc_ne, tk_18 hκ ht]
  have tp3 : aup E t 0 0 t 3 = ((t + 3 : Nat) : Int) := tp_0_3 (hc0.up p1.1 _) ht
  have tp4 : E1 t 4 = ((t + 8 : Nat) : Int) := tp_0_4 c1 ht
  have tp13 : E3 t 13 = ((t + 17 : Nat) : Int) := tp_0_13 c3 ht
  have tp14 : E4 t 14 = ((t + 18 : Nat) : Int) := tp_0_14 c4 ht
  have v : ∀ q j, aup (aup E4 (t + 18) 1 0) t 15 0 q j = (if q = t then (if j = 0 ∨ j = 5 ∨ j = 7 ∨ j = 11 ∨ j = 15 then 0 else E t j) else if q = t + 3 then (if j = 0 then 0 else E (t + 3) j) else if q = t + 18 then (if j = 1 then 0 else E (t + 18) j) else if q = t + 9 then cpn 3 (fun _ => 0) (E (t + 9)) j else if q = t + 17 then cpn 120 (fun _ => 0) (E (t + 17)) j else E q j) := fun q j => by
    rw [← hE4, ← hE3, ← hE2, ← hE1]
    unfold aup setc
    by_cases q1 : q = t
    · subst q1
      simp
      (repeat' split) <;> first | rfl | omega
    · by_cases q2 : q = t + 3
      · subst q2; simp
      · by_cases q3 : q = t + 18
        · subst q3; simp
        · by_cases q4 : q = t + 9
          · subst q4; simp
          · by_cases q5 : q = t + 17
            · subst q5; simp
            · simp [q1, q2, q3, q4, q5]
  refine ⟨aup (aup E4 (t + 18) 1 0) t 15 0, ?_, h.tx ht ((c4.up p2.2 _).up p1.2.2.2.2 _) (fun q hq => by funext j; rw [v, if_neg (by omega), if_neg (by omega), if_neg (by omega), if_neg (by omega), if_neg (by omega)]), ?_⟩
  · rw [c_109]
    simp (disch := omega) only [tk_0 hκ ht, tk_3 hκ ht, tk_8 hκ ht, tp3, Int.toNat_natCast, cond_true, Bool.and_true]
    rw [hE1]
    simp (disch := omega) only [tp4, tk_8 hκ ht, cl35, tk_0 hκ ht, bV_s, Int.toNat_natCast, cond_true, Bool.and_true]
    rw [q_109_25]
    simp (disch := omega) only [tk_0 hκ ht, Int.toNat_natCast, cond_true, Bool.and_true]
    rw [hE3]
    simp (disch := omega) only [tp13, f17, bV_s, tk_0 hκ ht, tp14, tk_18 hκ ht, cl1, Int.toNat_natCast, cond_true, Bool.and_true]
    rw [q_109_55]
  · have z : ∀ q j, (q = t ∧ (j = 0 ∨ j = 5 ∨ j = 7 ∨ j = 11 ∨ j = 15)) → aup (aup E4 (t + 18) 1 0) t 15 0 q j = 0 := fun q j hj => by rw [v, if_pos hj.1, if_pos hj.2]
    refine ⟨⟨⟨?_, fun s hs => absurd hs (Nat.not_lt_zero s)⟩, ⟨z t 5 (by omega), fun s hs => absurd hs (Nat.not_lt_zero s)⟩, fun s hs => ⟨?_, fun k hk => absurd hk (Nat.not_lt_zero k)⟩, ⟨z t 7 (by omega), fun s hs => absurd hs (Nat.not_lt_zero s)⟩, ⟨z t 11 (by omega), fun s hs => absurd hs (Nat.not_lt_zero s)⟩, z t 15 (by omega), z t 0 (by omega)⟩, fun c hc => absurd hc (Nat.not_lt_zero c), fun l _ hl i hi => ?_, Or.inl ⟨?_, rfl⟩⟩
    · rw [v, if_neg (by omega), if_pos rfl, if_pos rfl]; rfl
    · rw [v, if_neg (by omega), if_neg (by omega), if_neg (by omega), if_pos rfl, cpn_at hs]; rfl
    · rw [v, if_neg (by omega), if_neg (by omega), if_neg (by omega), if_neg (by omega), if_pos rfl, cpn_at (by omega)]
    · rw [v, if_neg (by omega), if_neg (by omega), if_pos rfl, if_pos rfl]
theorem rcG_ok {T : Nat → TK} {m a : Nat} {c : Nat → Nat} (hz : ¬ tkK (T a) = 0) (h : (rcG T (m + 1) c a).2 = 0) : (rtG T c a).2 = 0 ∧ (rcG T m (cnU c (tkK (T a))) (rtG T c a).1).2 = 0 := by
  have e : rcG T (m + 1) c a = (if (rtG T c a).2 = 0 then rcG T m (cnU c (tkK (T a))) (rtG T c a).1 else rtG T c a) := if_neg hz
  rw [e] at h
  by_cases q : (rtG T c a).2 = 0
  · rw [if_pos q] at h
    exact ⟨q, h⟩
  · rw [if_neg q] at h
    exact absurd h q
theorem rt_le {T : Nat → TK} {c : Nat → Nat} {a : Nat} (h : (rtG T c a).2 = 0) : (rtG T c a).1 ≤ 400 := by
  rcases shK h with q | q | q | q | q | q | q | q | q | q
  · obtain ⟨_, _, _, _, z, e⟩ := sh128 q h
    rw [e]; show a + 4 ≤ 400; omega
  · obtain ⟨_, _, _, _, _, _, _, z, e⟩ := sh129 q h
    rw [e]; exact z
  · obtain ⟨_, _, _, _, z, e⟩ := shPc (rt134 q) h
    rw [e]; show a + 4 ≤ 400; omega
  · obtain ⟨_, _, _, _, z, e⟩ := shPc (rt135 q) h
    rw [e]; show a + 4 ≤ 400; omega
  · obtain ⟨_, _, _, _, z, e⟩ := shPc (rt136 q) h
    rw [e]; show a + 4 ≤ 400; omega
  · obtain ⟨_, _, _, z, e⟩ := sh137 q h
    rw [e]; show a + 3 ≤ 400; omega
  · obtain ⟨_, _, _, z⟩ := sh138 q h
    by_cases y : tkK (T (a + 3)) = 2
    · rw [if_pos y] at z; rw [z.2.2]; show a + 5 ≤ 400; omega
    · rw [if_neg y] at z; rw [z.2.2]; show a + 4 ≤ 400; omega
  · obtain ⟨_, _, n, _, _, _, z, e⟩ := sh139 q h
    rw [e]; exact z
  · obtain ⟨_, _, e', _, _, z, e⟩ := sh140 q h
    rw [e]; exact z
  · obtain ⟨_, _, z, e⟩ := sh141 q h
    rw [e]; show a + 3 ≤ 400; omega
/-- what the teller leaves behind -/
def TlE (D E : Nat → Nat → Int) (t : Nat) (r : PY × SS) : Prop := (∀ q, q ≠ 8 → q < t ∨ t + 21 < q → E q = D q) ∧ CPtr E ∧ E 8 1 = (if r.2.1 = 0 then -1 else (r.2.2 : Int)) ∧ (r.2.1 = 0 → TcY E t r.1 ∧ YOk r.1)
theorem tell_loop (xs : List Int) (d : Nat) {κ : aK} {D : Nat → Nat → Int} (hκ : Shp κ) {t : Nat} (ht : isT t) {T : Nat → TK} (hT : TKok T) (hk : TkC D T) : ∀ (m a n : Nat) (c : Nat → Nat) (Y : PY) (w : SS) (E : Nat → Nat → Int), 401 ≤ a + m → n ≤ a → a ≤ 400 → live T a → w.1 = 0 → TlS D E t a w → YOk Y → YCn c Y → TcY E t Y → (rcG T m c a).2 = 0 → ∃ E', ev xs (d + 8) mm_89 21 [some (.inr (.inr ((8 : Nat) : Int))), some (.inr (.inr (t : Int))), some (.inl (n : Int))] [] (κ, E) = some (some (.inl ((mlG T m c a Y w).2.1 : Int)), (κ, E')) ∧ TlE D E' t (mlG T m c a Y w)
  | 0, a, n, c, Y, w, E, hm, hn, ha, hl, hw, h, hY, hcn, hx, hr => by omega
  | m + 1, a, n, c, Y, w, E, hm, hn, ha, hl, hw, h, hY, hcn, hx, hr => by
    have k8 := kc_8 hκ
    have th := t_here xs (d + 6) hκ ht hT hk h ha
    have h0 : E 8 0 = 0 := by rw [h.2.2.2.1, hw]; rfl
    rw [q_89_21]
    by_cases hz : tkK (T a) = 0
    · have em : mlG T (m + 1) c a Y w = (Y, w) := if_pos hz
      rw [em]
      refine ⟨E, ?_, h.1, h.2.1, h.2.2.2.2, fun _ => ⟨hx, hY⟩⟩
      show _ = some (some (Sum.inl ((w.1 : Nat) : Int)), (κ, E))
      rw [hw]
      simp (disch := omega) only [cond_true, cond_false, Bool.and_true, Bool.true_and, Bool.and_false, Bool.false_and, Int.toNat_natCast, Int.reduceToNat, bI_s, bJ_s, bV_s, bR_s, decide_true, decide_false, not_true_eq_false, not_false_eq_true, dT, dF, w_al, w_la, w_ab, w_sl, w_sb, w_dec, w_ml, w_lm, ol2i_n, aup_ne, aupE, aupJ, setc_self, setc_ne, k8, h0, th, hz]
      rfl
    · obtain ⟨r1, r2⟩ := rcG_ok hz hr
      have em : mlG T (m + 1) c a Y w = mlG T m (cnU c (tkK (T a))) (rtG T c a).1 (mtG T a Y w).1 (mtG T a Y w).2 := if_neg hz
      rw [em]
      obtain ⟨E1, e1, e2, e3⟩ := tOne xs d hκ ht hT hk h hY hcn hx hw hl r1
      have hgt := rtG_gt r1
      have hle := rt_le r1
      have ew : w32 (E1 8 3 + 1) = (((rtG T c a).1 : Nat) : Int) := by rw [e2.2.2.1, w32_id (by omega) (by omega)]; omega
      have s2 := e2.at_ ew
      have hx2 : (mtG T a Y w).2.1 = 0 → TcY (aup E1 8 3 (w32 (E1 8 3 + 1))) t (mtG T a Y w).1 := fun q => (e3 q).c8 ht (fun z hz => aupN hz)
      generalize hE2 : aup E1 8 3 (w32 (E1 8 3 + 1)) = E2 at s2 hx2
      have nz : ¬ ((tkK (T a) : Nat) : Int) = 0 := by omega
      have st : (bif decide (400 < (n : Int)) then (bif aok (κ, E).1 ((8 : Nat) : Int) 8 then some (some (Sum.inl ((κ, E).2 ((8 : Nat) : Int).toNat 0)), (κ, E)) else none) else ev xs (d + 8) mm_89 21 [some (.inr (.inr ((8 : Nat) : Int))), some (.inr (.inr (t : Int))), some (.inl (n : Int))] [] (κ, E)) = ev xs (d + 8) mm_89 21 [some (.inr (.inr ((8 : Nat) : Int))), some (.inr (.inr (t : Int))), some (.inl ((n + 1 : Nat) : Int))] [] (κ, E2) := by
        rw [q_89_21, ← hE2]
        simp (disch := omega) only [cond_true, cond_false, Bool.and_true, Bool.true_and, Bool.and_false, Bool.false_and, Int.toNat_natCast, Int.reduceToNat, bI_s, bJ_s, bV_s, bR_s, decide_true, decide_false, not_true_eq_false, not_false_eq_true, dT, dF, w_al, w_la, w_ab, w_sl, w_sb, w_dec, w_ml, w_lm, ol2i_n, aup_ne, aupE, aupJ, setc_self, setc_ne, k8, h0, th, nz, e1]
      have st2 : ev xs (d + 8) mm_89 21 [some (.inr (.inr ((8 : Nat) : Int))), some (.inr (.inr (t : Int))), some (.inl (n : Int))] [] (κ, E) = ev xs (d + 8) mm_89 21 [some (.inr (.inr ((8 : Nat) : Int))), some (.inr (.inr (t : Int))), some (.inl ((n + 1 : Nat) : Int))] [] (κ, E2) := by
        rw [← st, show decide (400 < (n : Int)) = false from decide_eq_false (by omega), cond_false]
      rw [← q_89_21, st2]
      by_cases hw2 : (mtG T a Y w).2.1 = 0
      · exact tell_loop xs d hκ ht hT hk m (rtG T c a).1 (n + 1) _ _ _ E2 (by omega) (by omega) hle (rt_live hl r1) hw2 s2 (yok_mt hT hY hcn r1 hw2) (ycn_mt hcn r1) (hx2 hw2) r2
      · rw [mlG_k _ _ _ _ _ hw2]
        refine ⟨E2, ?_, s2.1, s2.2.1, ?_, ?_⟩
        · have g0 := s2.2.2.2.1
          rw [q_89_21]
          by_cases h4 : 400 < n + 1
          · simp (disch := omega) only [cond_true, cond_false, Bool.and_true, Bool.true_and, Bool.and_false, Bool.false_and, Int.toNat_natCast, Int.reduceToNat, bI_s, bJ_s, bV_s, bR_s, decide_true, decide_false, not_true_eq_false, not_false_eq_true, dT, dF, w_al, w_la, w_ab, w_sl, w_sb, w_dec, w_ml, w_lm, ol2i_n, aup_ne, aupE, aupJ, setc_self, setc_ne, k8, g0]
          · simp (disch := omega) only [cond_true, cond_false, Bool.and_true, Bool.true_and, Bool.and_false, Bool.false_and, Int.toNat_natCast, Int.reduceToNat, bI_s, bJ_s, bV_s, bR_s, decide_true, decide_false, not_true_eq_false, not_false_eq_true, dT, dF, w_al, w_la, w_ab, w_sl, w_sb, w_dec, w_ml, w_lm, ol2i_n, aup_ne, aupE, aupJ, setc_self, setc_ne, k8, g0]
        · rw [mlG_k _ _ _ _ _ hw2]
          exact s2.2.2.2.2
        · rw [mlG_k _ _ _ _ _ hw2]
          exact fun q => absurd q hw2
theorem Y0_ok : YOk Y0 := by
  refine ⟨⟨⟨Nat.zero_le _, fun s hs => absurd hs (Nat.not_lt_zero s)⟩, ⟨Nat.zero_le _, fun s hs => absurd hs (Nat.not_lt_zero s)⟩, fun s hs => ⟨Nat.zero_le _, fun k hk => absurd hk (Nat.not_lt_zero k)⟩, ⟨Nat.zero_le _, fun s hs => absurd hs (Nat.not_lt_zero s)⟩, ⟨Nat.zero_le _, fun s hs => absurd hs (Nat.not_lt_zero s)⟩, Nat.zero_le _, Nat.zero_le _⟩, fun c hc => absurd hc (Nat.not_lt_zero c)⟩
theorem tell_eq (xs : List Int) (d : Nat) {κ : aK} {D : Nat → Nat → Int} (hκ : Shp κ) (hc : CPtr D) {t : Nat} (ht : isT t) {T : Nat → TK} (hT : TKok T) (hk : TkC D T) (hr : (recG T).2 = 0) : ∃ E', cl xs (d + 9) 89 [.inr (.inr ((8 : Nat) : Int)), .inr (.inr (t : Int))] (κ, D) = some (some (.inl ((menG T).2.1 : Int)), (κ, E')) ∧ TlE D E' t (menG T) := by
  have k8 := kc_8 hκ
  have s1 : TlS D (aup (aup (aup D 8 3 0) 8 0 0) 8 1 (-1)) t 0 (0, 0) := ⟨fun q hq _ => by rw [aupN hq, aupN hq, aupN hq], ((hc.up pd_scan.2.2.2.2.2.2.2.2.2.2 _).up pd_scan.2.2.2.2.2.2.2.2.1 _).up pd_scan.2.2.2.2.2.2.2.2.2.1 _, by rw [aupJ (by decide), aupJ (by decide), aupE]; rfl, by rw [aupJ (by decide), aupE]; rfl, by rw [aupE]; rfl⟩
  generalize hE1 : aup (aup (aup D 8 3 0) 8 0 0) 8 1 (-1) = E1 at s1
  obtain ⟨E2, c1, c2, c3⟩ := t_clear xs (d + 5) hκ ht s1
  obtain ⟨E', i1, i2⟩ := tell_loop xs d hκ ht hT hk 401 0 0 (fun _ => 0) Y0 (0, 0) E2 (by omega) (by omega) (by omega) (live_0 _) rfl c2 Y0_ok ⟨rfl, rfl, rfl, rfl, rfl, rfl, rfl, rfl⟩ c3 hr
  refine ⟨E', ?_, i2⟩
  rw [c_89]
  simp (disch := omega) only [k8, Int.toNat_natCast, cond_true]
  rw [hE1, q_89_15]
  simp (disch := omega) only [tk_0 hκ ht, c1, bV_s, cond_true, Bool.and_true]
  exact i1
