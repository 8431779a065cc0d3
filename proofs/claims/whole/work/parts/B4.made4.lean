/-! Made: endings, roots, heads. -/
theorem me_loop (xs : List Int) (d : Nat) {κ : aK} {a b t : Nat} {X : TX} (hX : TXok X) (ht : isT t) (hK : MdK κ a b) {n : Nat} (hn : n ≤ 12) {w : List Nat} (hw : wv w) (hwn : w.length < n) {c : Nat} (hc1 : 1 ≤ c) (hc2 : c < 10000) : ∀ (m k : Nat) (D : Nat → Nat → Int) (R : List ENT) (T : Nat → List Nat) (G : Nat → Int) (u3 u8 u9 u10 u11 u12 u13 : Option aV) (v4 : Int), k + m = xnp X 1 → MdP κ D t X → MdH D a b R T G → R.length + 9 * m < 4000 → ∃ D' T' G', MdH D' a b ((ms X n w c ((List.range' (k + 1) m).flatMap (prG X))).reverse ++ R) T' G' ∧ MdFr a b D D' ∧ ev xs (d + 2) mm_16 25 [some (.inr (.inr ((68 : Nat) : Int))), some (.inr (.inr ((t + 8 : Nat) : Int))), some (.inr (.inl (p32 w : Int))), u3, some (.inl v4), some (.inl (c : Int)), some (.inl ((n - w.length : Nat) : Int)), some (.inl (k : Int)), u8, u9, u10, u11, u12, u13] [] (κ, D) = some (none, (κ, D')) := by
  have ht' : t = 9 ∨ t = 31 := ht
  have n1 := xnp_le hX (s := 1) (by decide)
  intro m
  induction m with
  | zero =>
    intro k D R T G u3 u8 u9 u10 u11 u12 u13 v4 h hP hM hl
    obtain ⟨hκ, hc, hpc⟩ := hP
    have hp1 := (hpc 1 (by decide)).1
    refine ⟨D, T, G, hM, MdFr.rfl' a b D, ?_⟩
    rw [q_16_25]
    simp (disch := omega) only [cond_true, cond_false, Bool.and_true, Bool.true_and, Bool.and_false, Bool.false_and, Int.toNat_natCast, Int.reduceToNat, bI_s, bJ_s, bV_s, bR_s, decide_true, decide_false, not_true_eq_false, not_false_eq_true, dT, dF, w_al, w_la, w_ab, w_sl, w_sb, w_dec, w_ml, w_lm, ol2i_n, aup_ne, aupE, aupJ, setc_self, setc_ne, tp_0_1 hc ht, tp_0_2 hc ht, tp_0_3 hc ht, tp_0_4 hc ht, tp_0_6 hc ht, tp_0_8 hc ht, tp_0_9 hc ht, tp_0_10 hc ht, tp_0_12 hc ht, tp_0_13 hc ht, tp_0_14 hc ht, tp_3_1 hc ht, tp_3_2 hc ht, tp_3_3 hc ht, tp_3_4 hc ht, tp_8_0 hc ht, tp_8_1 hc ht, tp_8_2 hc ht, tp_18_0 hc ht, tp_18_2 hc ht, tp_18_3 hc ht, tk_0 hκ ht, tk_1 hκ ht, tn_1 hκ ht, tk_2 hκ ht, tn_2 hκ ht, tk_3 hκ ht, tk_4 hκ ht, tn_4 hκ ht, tk_5 hκ ht, tn_5 hκ ht, tk_6 hκ ht, tn_6 hκ ht, tk_7 hκ ht, tn_7 hκ ht, tk_8 hκ ht, tk_9 hκ ht, tn_9 hκ ht, tk_10 hκ ht, tn_10 hκ ht, tk_11 hκ ht, tn_11 hκ ht, tk_12 hκ ht, tn_12 hκ ht, tk_13 hκ ht, tn_13 hκ ht, tk_14 hκ ht, tn_14 hκ ht, tk_15 hκ ht, tn_15 hκ ht, tk_16 hκ ht, tn_16 hκ ht, tk_17 hκ ht, tn_17 hκ ht, tk_18 hκ ht, tk_19 hκ ht, tn_19 hκ ht, tk_20 hκ ht, tn_20 hκ ht, tk_21 hκ ht, tn_21 hκ ht, hp1]
  | succ m ih =>
    intro k D R T G u3 u8 u9 u10 u11 u12 u13 v4 h hP hM hl
    have hP' := hP
    obtain ⟨hκ, hc, hpc⟩ := hP
    have hp1 := (hpc 1 (by decide)).1
    have ee := ((hpc 1 (by decide)).2 k (by omega)).1
    have hF := nmX_ok hX (s := 1) (by decide) (show k + 1 ≤ xnp X 1 by omega)
    have en : nmX X 1 (k + 1) = xPN X (8 * 1 + k) := by unfold nmX; rw [if_neg (by omega), Nat.add_sub_cancel]
    rw [← en, Nat.mul_one] at ee
    have hf8 := hF.2
    have ew : w32 (((n - w.length : Nat) : Int) - ((nmX X 1 (k + 1)).length : Int)) = (n : Int) - (w.length : Int) - ((nmX X 1 (k + 1)).length : Int) := by rw [w32_id (by omega) (by omega)]; omega
    have htl : tlW X (k + 1, 0) = nmX X 1 (k + 1) := by unfold tlW; rw [show nmX X 1 0 = [] from rfl, List.append_nil]
    have mlen : (ms X n w c ((List.range' (0 + 1) (xnp X 1)).map (fun f => (k + 1, f)))).length ≤ 8 := by
      have := ms_len X n w c ((List.range' (0 + 1) (xnp X 1)).map (fun f => (k + 1, f)))
      rw [List.length_map, List.length_range'] at this
      omega
    rw [List.range'_succ, List.flatMap_cons, ms_app]
    rw [show prG X (k + 1) = (k + 1, 0) :: (List.range' (0 + 1) (xnp X 1)).map (fun f => (k + 1, f)) from rfl]
    rw [q_16_25]
    by_cases hlen : w.length + (tlW X (k + 1, 0)).length = n
    · rw [ms_pos hlen]
      rw [htl] at hlen
      have hj1 := join_eq xs d (κ, D) hw hF.1 (by omega)
      have hne : w ++ tlW X (k + 1, 0) ≠ [] := by
        rw [htl]
        intro q
        have q' := List.append_eq_nil_iff.mp q
        exact nmX_ne hX (s := 1) (by decide) (by omega) (by omega) q'.2
      obtain ⟨D1, T1, G1, q1, q2, q3⟩ := add_eq xs d hκ hK hM (by omega) (w := w ++ tlW X (k + 1, 0)) (by rw [htl]; exact wk_app hw hF.1 (by omega)) hne (c := c + 10 * (k + 1) + 0) (by omega) (by omega)
      have hP1 := q2.p ht hK.2.2.1 hK.2.2.2.1 hP'
      obtain ⟨D2, T2, G2, x12, x13, r1, r2, r3⟩ := mf_loop xs d hX ht hK hn hw hc1 hc2 (e := k + 1) (by omega) (by omega) (by omega) (xnp X 1) 0 D1 _ T1 G1 u3 none u12 u13 v4 ((n - w.length : Nat) : Int) (by omega) hP1 q1 (by rw [List.length_cons]; omega)
      obtain ⟨D', T', G', s1, s2, s3⟩ := ih (k + 1) D2 _ T2 G2 u3 (some (.inr (.inl (p32 (nmX X 1 (k + 1)) : Int)))) none (some (.inl ((n : Int) - (w.length : Int) - ((nmX X 1 (k + 1)).length : Int)))) (some (.inl (xnp X 1 : Int))) x12 x13 v4 (by omega) (r2.p ht hK.2.2.1 hK.2.2.2.1 hP1) r1 (by rw [List.length_append, List.length_reverse, List.length_cons]; omega)
      refine ⟨D', T', G', ?_, (q2.trans r2).trans s2, ?_⟩
      · rw [List.reverse_append, List.reverse_cons]
        rw [show entP X w c (k + 1, 0) = (w ++ tlW X (k + 1, 0), c + 10 * (k + 1) + 0) from rfl]
        simpa using s1
      · have ec : w32 ((c : Int) + w32 (10 * w32 ((k : Int) + 1))) = ((c + 10 * (k + 1) + 0 : Nat) : Int) := by
          rw [w32_id (x := (k : Int) + 1) (by omega) (by omega), w32_id (x := 10 * ((k : Int) + 1)) (by omega) (by omega), w32_id (by omega) (by omega)]
          omega
        rw [ec]
        rw [htl] at q3
        simp (disch := omega) only [cond_true, cond_false, decide_true, decide_false, Bool.and_true, Int.toNat_natCast, Int.reduceToNat, bI_s, bJ_s, bV_s, dT, dF, w_la, w_al, tp_0_1 hc ht, tp_0_2 hc ht, tp_0_3 hc ht, tp_0_4 hc ht, tp_0_6 hc ht, tp_0_8 hc ht, tp_0_9 hc ht, tp_0_10 hc ht, tp_0_12 hc ht, tp_0_13 hc ht, tp_0_14 hc ht, tp_3_1 hc ht, tp_3_2 hc ht, tp_3_3 hc ht, tp_3_4 hc ht, tp_8_0 hc ht, tp_8_1 hc ht, tp_8_2 hc ht, tp_18_0 hc ht, tp_18_2 hc ht, tp_18_3 hc ht, tk_0 hκ ht, tk_1 hκ ht, tn_1 hκ ht, tk_2 hκ ht, tn_2 hκ ht, tk_3 hκ ht, tk_4 hκ ht, tn_4 hκ ht, tk_5 hκ ht, tn_5 hκ ht, tk_6 hκ ht, tn_6 hκ ht, tk_7 hκ ht, tn_7 hκ ht, tk_8 hκ ht, tk_9 hκ ht, tn_9 hκ ht, tk_10 hκ ht, tn_10 hκ ht, tk_11 hκ ht, tn_11 hκ ht, tk_12 hκ ht, tn_12 hκ ht, tk_13 hκ ht, tn_13 hκ ht, tk_14 hκ ht, tn_14 hκ ht, tk_15 hκ ht, tn_15 hκ ht, tk_16 hκ ht, tn_16 hκ ht, tk_17 hκ ht, tn_17 hκ ht, tk_18 hκ ht, tk_19 hκ ht, tn_19 hκ ht, tk_20 hκ ht, tn_20 hκ ht, tk_21 hκ ht, tn_21 hκ ht, kc_68 hκ, hp1, ee, sizeOf_eq xs (d + 1) _ hF.1 (show (nmX X 1 (k + 1)).length ≤ 12 by omega), ew, hj1, q3]
        exact (show _ = _ from r3).trans s3
    · rw [ms_neg hlen]
      rw [htl] at hlen
      obtain ⟨D2, T2, G2, x12, x13, r1, r2, r3⟩ := mf_loop xs d hX ht hK hn hw hc1 hc2 (e := k + 1) (by omega) (by omega) (by omega) (xnp X 1) 0 D R T G u3 none u12 u13 v4 ((n - w.length : Nat) : Int) (by omega) hP' hM (by omega)
      obtain ⟨D', T', G', s1, s2, s3⟩ := ih (k + 1) D2 _ T2 G2 u3 (some (.inr (.inl (p32 (nmX X 1 (k + 1)) : Int)))) none (some (.inl ((n : Int) - (w.length : Int) - ((nmX X 1 (k + 1)).length : Int)))) (some (.inl (xnp X 1 : Int))) x12 x13 v4 (by omega) (r2.p ht hK.2.2.1 hK.2.2.2.1 hP') r1 (by rw [List.length_append, List.length_reverse]; omega)
      refine ⟨D', T', G', ?_, r2.trans s2, ?_⟩
      · rw [List.reverse_append, List.append_assoc]
        exact s1
      · simp (disch := omega) only [cond_true, cond_false, decide_true, decide_false, Bool.and_true, Int.toNat_natCast, Int.reduceToNat, bI_s, bJ_s, bV_s, dT, dF, w_la, w_al, tp_0_1 hc ht, tp_0_2 hc ht, tp_0_3 hc ht, tp_0_4 hc ht, tp_0_6 hc ht, tp_0_8 hc ht, tp_0_9 hc ht, tp_0_10 hc ht, tp_0_12 hc ht, tp_0_13 hc ht, tp_0_14 hc ht, tp_3_1 hc ht, tp_3_2 hc ht, tp_3_3 hc ht, tp_3_4 hc ht, tp_8_0 hc ht, tp_8_1 hc ht, tp_8_2 hc ht, tp_18_0 hc ht, tp_18_2 hc ht, tp_18_3 hc ht, tk_0 hκ ht, tk_1 hκ ht, tn_1 hκ ht, tk_2 hκ ht, tn_2 hκ ht, tk_3 hκ ht, tk_4 hκ ht, tn_4 hκ ht, tk_5 hκ ht, tn_5 hκ ht, tk_6 hκ ht, tn_6 hκ ht, tk_7 hκ ht, tn_7 hκ ht, tk_8 hκ ht, tk_9 hκ ht, tn_9 hκ ht, tk_10 hκ ht, tn_10 hκ ht, tk_11 hκ ht, tn_11 hκ ht, tk_12 hκ ht, tn_12 hκ ht, tk_13 hκ ht, tn_13 hκ ht, tk_14 hκ ht, tn_14 hκ ht, tk_15 hκ ht, tn_15 hκ ht, tk_16 hκ ht, tn_16 hκ ht, tk_17 hκ ht, tn_17 hκ ht, tk_18 hκ ht, tk_19 hκ ht, tn_19 hκ ht, tk_20 hκ ht, tn_20 hκ ht, tk_21 hκ ht, tn_21 hκ ht, kc_68 hκ, hp1, ee, sizeOf_eq xs (d + 1) _ hF.1 (show (nmX X 1 (k + 1)).length ≤ 12 by omega), ew]
        exact (show _ = _ from r3).trans s3
theorem tl_pos {X : TX} (hX : TXok X) {p : Nat × Nat} (hp : p ∈ (List.range' 1 (xnp X 1)).flatMap (prG X)) : 1 ≤ (tlW X p).length := by
  rw [List.mem_flatMap] at hp
  obtain ⟨e, he, hp⟩ := hp
  rw [List.mem_range'_1] at he
  have h0 : p.1 = e := by
    unfold prG at hp
    rcases List.mem_cons.mp hp with rfl | hp
    · rfl
    · obtain ⟨f, _, rfl⟩ := List.mem_map.mp hp
      rfl
  have := nmX_ne hX (s := 1) (by decide) (show 1 ≤ e by omega) (by omega)
  have hl : 1 ≤ (nmX X 1 e).length := by
    cases hh : nmX X 1 e with
    | nil => exact absurd hh this
    | cons => simp
  unfold tlW
  rw [List.length_append, h0]
  omega
theorem ms_nil {X : TX} (hX : TXok X) {n : Nat} {w : List Nat} {c : Nat} (h : n ≤ w.length) : ms X n w c ((List.range' 1 (xnp X 1)).flatMap (prG X)) = [] := by
  unfold ms
  rw [filter_none]
  · rfl
  · intro p hp q
    have := tl_pos hX hp
    unfold okE at q
    have := of_decide_eq_true q
    omega
theorem ae_eq (xs : List Int) (d : Nat) {κ : aK} {D : Nat → Nat → Int} {a b t : Nat} {X : TX} (hX : TXok X) (ht : isT t) (hK : MdK κ a b) {n : Nat} (hn : n ≤ 12) {w : List Nat} (hw : wv w) (hw0 : w ≠ []) (hwn : w.length ≤ n) {c : Nat} (hc1 : 1 ≤ c) (hc2 : c < 10000) {R : List ENT} {T : Nat → List Nat} {G : Nat → Int} (hP : MdP κ D t X) (hM : MdH D a b R T G) (hl : R.length + 80 < 4000) : ∃ D' T' G', MdH D' a b ((ms X n w c (prE X)).reverse ++ R) T' G' ∧ MdFr a b D D' ∧ cl xs (d + 3) 16 [.inr (.inr ((68 : Nat) : Int)), .inr (.inr ((t + 8 : Nat) : Int)), .inr (.inl (p32 w : Int)), .inl (n : Int), .inl (c : Int)] (κ, D) = some (none, (κ, D')) := by
  have n1 := xnp_le hX (s := 1) (by decide)
  have hκ := hP.1
  have t0 : tlW X (0, 0) = [] := rfl
  have lz : (tlW X (0, 0)).length = 0 := rfl
  have ew : w32 ((n : Int) - (w.length : Int)) = ((n - w.length : Nat) : Int) := by rw [w32_id (by omega) (by omega)]; omega
  rw [show prE X = (0, 0) :: (List.range' 1 (xnp X 1)).flatMap (prG X) from rfl, c_16]
  by_cases he : w.length = n
  · rw [ms_pos (by rw [lz]; omega), ms_nil hX (by omega)]
    obtain ⟨D', T', G', q1, q2, q3⟩ := add_eq xs d hκ hK hM (by omega) (w := w) ⟨hw, by omega⟩ hw0 hc1 (by omega)
    refine ⟨D', T', G', ?_, q2, ?_⟩
    · rw [show entP X w c (0, 0) = (w, c) from by unfold entP; rw [t0, List.append_nil]; rfl]
      exact q1
    · simp (disch := omega) only [cond_true, cond_false, decide_true, decide_false, Bool.and_true, bI_s, bV_s, dT, dF, kc_68 hκ, sizeOf_eq xs (d + 1) _ hw (show w.length ≤ 12 by omega), ew, q3]
  · rw [ms_neg (by rw [lz]; omega)]
    obtain ⟨D', T', G', q1, q2, q3⟩ := me_loop xs d hX ht hK hn hw (by omega) hc1 hc2 (xnp X 1) 0 D R T G none none none none none none none (n : Int) (by omega) hP hM (by omega)
    refine ⟨D', T', G', q1, q2, ?_⟩
    simp (disch := omega) only [cond_true, cond_false, decide_true, decide_false, Bool.and_true, bI_s, bV_s, dT, dF, kc_68 hκ, sizeOf_eq xs (d + 1) _ hw (show w.length ≤ 12 by omega), ew]
    exact q3
def mRo (X : TX) (n h r : Nat) : List ENT := ms X n (nmX X 2 h ++ nmX X 0 r) (1000 * h + 100 * r) (prE X)
theorem prE_len {X : TX} (hX : TXok X) : (prE X).length ≤ 43 := by
  have h6 : xnp X 1 ≤ 6 := (hX.2.2.1 1 (by decide)).1
  have := flat_len (f := prG X) (c := 7) (fun e => by unfold prG; rw [List.length_cons, List.length_map, List.length_range']; omega) (List.range' 1 (xnp X 1))
  rw [List.length_range'] at this
  unfold prE
  rw [List.length_cons]
  omega
theorem mRo_len {X : TX} (hX : TXok X) (n h r : Nat) : (mRo X n h r).length ≤ 43 := Nat.le_trans (ms_len ..) (prE_len hX)
theorem mRo_nil {X : TX} (hX : TXok X) {n h r : Nat} (hl : n < (nmX X 2 h ++ nmX X 0 r).length) : mRo X n h r = [] := by
  unfold mRo
  rw [show prE X = (0, 0) :: (List.range' 1 (xnp X 1)).flatMap (prG X) from rfl, ms_neg (by rw [show (tlW X (0, 0)).length = 0 from rfl]; omega), ms_nil hX (by omega)]
theorem mr_loop (xs : List Int) (d : Nat) {κ : aK} {a b t : Nat} {X : TX} (hX : TXok X) (ht : isT t) (hK : MdK κ a b) {n : Nat} (hn : n ≤ 12) {h : Nat} (hh : h ≤ xnp X 2) : ∀ (m k : Nat) (D : Nat → Nat → Int) (R : List ENT) (T : Nat → List Nat) (G : Nat → Int) (u5 u7 u8 u9 : Option aV), k + m = xnp X 0 → MdP κ D t X → MdH D a b R T G → R.length + 43 * m + 80 < 4000 → ∃ D' T' G' u5' u7' u8' u9', MdH D' a b (((List.range' (k + 1) m).flatMap (mRo X n h)).reverse ++ R) T' G' ∧ MdFr a b D D' ∧ ev xs (d + 3) mm_14 89 [some (.inr (.inr ((68 : Nat) : Int))), some (.inr (.inr ((t + 8 : Nat) : Int))), some (.inl (n : Int)), some (.inl (h : Int)), some (.inr (.inl (p32 (nmX X 2 h) : Int))), u5, some (.inl (k : Int)), u7, u8, u9] [] (κ, D) = ev xs (d + 3) mm_14 55 [some (.inr (.inr ((68 : Nat) : Int))), some (.inr (.inr ((t + 8 : Nat) : Int))), some (.inl (n : Int)), some (.inl ((h + 1 : Nat) : Int)), some (.inr (.inl (p32 (nmX X 2 h) : Int))), u5', some (.inl (xnp X 0 : Int)), u7', u8', u9'] [] (κ, D') := by
  have ht' : t = 9 ∨ t = 31 := ht
  have n0 := xnp_le hX (s := 0) (by decide)
  have n2 := xnp_le hX (s := 2) (by decide)
  have hH := nmX_ok hX (s := 2) (by decide) hh
  have hH8 := hH.2
  intro m
  induction m with
  | zero =>
    intro k D R T G u5 u7 u8 u9 hk hP hM hl
    obtain ⟨hκ, hc, hpc⟩ := hP
    have hp0 := (hpc 0 (by decide)).1
    refine ⟨D, T, G, u5, u7, u8, u9, hM, MdFr.rfl' a b D, ?_⟩
    rw [q_14_89, show k = xnp X 0 by omega]
    simp (disch := omega) only [cond_true, cond_false, Bool.and_true, Bool.true_and, Bool.and_false, Bool.false_and, Int.toNat_natCast, Int.reduceToNat, bI_s, bJ_s, bV_s, bR_s, decide_true, decide_false, not_true_eq_false, not_false_eq_true, dT, dF, w_al, w_la, w_ab, w_sl, w_sb, w_dec, w_ml, w_lm, ol2i_n, aup_ne, aupE, aupJ, setc_self, setc_ne, tp_0_1 hc ht, tp_0_2 hc ht, tp_0_3 hc ht, tp_0_4 hc ht, tp_0_6 hc ht, tp_0_8 hc ht, tp_0_9 hc ht, tp_0_10 hc ht, tp_0_12 hc ht, tp_0_13 hc ht, tp_0_14 hc ht, tp_3_1 hc ht, tp_3_2 hc ht, tp_3_3 hc ht, tp_3_4 hc ht, tp_8_0 hc ht, tp_8_1 hc ht, tp_8_2 hc ht, tp_18_0 hc ht, tp_18_2 hc ht, tp_18_3 hc ht, tk_0 hκ ht, tk_1 hκ ht, tn_1 hκ ht, tk_2 hκ ht, tn_2 hκ ht, tk_3 hκ ht, tk_4 hκ ht, tn_4 hκ ht, tk_5 hκ ht, tn_5 hκ ht, tk_6 hκ ht, tn_6 hκ ht, tk_7 hκ ht, tn_7 hκ ht, tk_8 hκ ht, tk_9 hκ ht, tn_9 hκ ht, tk_10 hκ ht, tn_10 hκ ht, tk_11 hκ ht, tn_11 hκ ht, tk_12 hκ ht, tn_12 hκ ht, tk_13 hκ ht, tn_13 hκ ht, tk_14 hκ ht, tn_14 hκ ht, tk_15 hκ ht, tn_15 hκ ht, tk_16 hκ ht, tn_16 hκ ht, tk_17 hκ ht, tn_17 hκ ht, tk_18 hκ ht, tk_19 hκ ht, tn_19 hκ ht, tk_20 hκ ht, tn_20 hκ ht, tk_21 hκ ht, tn_21 hκ ht, hp0]
  | succ m ih =>
    intro k D R T G u5 u7 u8 u9 hk hP hM hl
    have hP' := hP
    obtain ⟨hκ, hc, hpc⟩ := hP
    have hp0 := (hpc 0 (by decide)).1
    have ee := ((hpc 0 (by decide)).2 k (by omega)).1
    have hF := nmX_ok hX (s := 0) (by decide) (show k + 1 ≤ xnp X 0 by omega)
    have en : nmX X 0 (k + 1) = xPN X (8 * 0 + k) := by unfold nmX; rw [if_neg (by omega), Nat.add_sub_cancel]
    rw [← en, Nat.mul_zero, Nat.zero_add] at ee
    have hf8 := hF.2
    have e0k : w32 (0 + (k : Int)) = (k : Int) := by rw [Int.zero_add]; exact w32_id (by omega) (by omega)
    have hlen : (nmX X 2 h ++ nmX X 0 (k + 1)).length = (nmX X 2 h).length + (nmX X 0 (k + 1)).length := List.length_append
    have ml := mRo_len hX n h (k + 1)
    rw [List.range'_succ, List.flatMap_cons, q_14_89]
    by_cases hle : (nmX X 2 h).length + (nmX X 0 (k + 1)).length ≤ n
    · have hj := join_eq xs (d + 1) (κ, D) hH.1 hF.1 (by omega)
      have hne : nmX X 2 h ++ nmX X 0 (k + 1) ≠ [] := fun q => nmX_ne hX (s := 0) (by decide) (by omega) (by omega) (List.append_eq_nil_iff.mp q).2
      obtain ⟨D1, T1, G1, q1, q2, q3⟩ := ae_eq xs d hX ht hK hn (w := nmX X 2 h ++ nmX X 0 (k + 1)) (wv_app hH.1 hF.1) hne (by omega) (c := 1000 * h + 100 * (k + 1)) (by omega) (by omega) hP' hM (by omega)
      obtain ⟨D', T', G', x5, x7, x8, x9, r1, r2, r3⟩ := ih (k + 1) D1 _ T1 G1 (acl u5) (some (.inr (.inl (p32 (nmX X 0 (k + 1)) : Int)))) none (some (.inl (((nmX X 2 h).length + (nmX X 0 (k + 1)).length : Nat) : Int))) (by omega) (q2.p ht hK.2.2.1 hK.2.2.2.1 hP') q1 (by
        have : (ms X n (nmX X 2 h ++ nmX X 0 (k + 1)) (1000 * h + 100 * (k + 1)) (prE X)).length ≤ 43 := ml
        rw [List.length_append, List.length_reverse]; omega)
      refine ⟨D', T', G', x5, x7, x8, x9, ?_, q2.trans r2, ?_⟩
      · rw [List.reverse_append, List.append_assoc]
        exact r1
      · simp (disch := omega) only [cond_true, cond_false, decide_true, decide_false, Bool.and_true, Int.toNat_natCast, Int.reduceToNat, bI_s, bJ_s, bV_s, dT, dF, w_al, w_ab, w_lm, tp_0_1 hc ht, tp_0_2 hc ht, tp_0_3 hc ht, tp_0_4 hc ht, tp_0_6 hc ht, tp_0_8 hc ht, tp_0_9 hc ht, tp_0_10 hc ht, tp_0_12 hc ht, tp_0_13 hc ht, tp_0_14 hc ht, tp_3_1 hc ht, tp_3_2 hc ht, tp_3_3 hc ht, tp_3_4 hc ht, tp_8_0 hc ht, tp_8_1 hc ht, tp_8_2 hc ht, tp_18_0 hc ht, tp_18_2 hc ht, tp_18_3 hc ht, tk_0 hκ ht, tk_1 hκ ht, tn_1 hκ ht, tk_2 hκ ht, tn_2 hκ ht, tk_3 hκ ht, tk_4 hκ ht, tn_4 hκ ht, tk_5 hκ ht, tn_5 hκ ht, tk_6 hκ ht, tn_6 hκ ht, tk_7 hκ ht, tn_7 hκ ht, tk_8 hκ ht, tk_9 hκ ht, tn_9 hκ ht, tk_10 hκ ht, tn_10 hκ ht, tk_11 hκ ht, tn_11 hκ ht, tk_12 hκ ht, tn_12 hκ ht, tk_13 hκ ht, tn_13 hκ ht, tk_14 hκ ht, tn_14 hκ ht, tk_15 hκ ht, tn_15 hκ ht, tk_16 hκ ht, tn_16 hκ ht, tk_17 hκ ht, tn_17 hκ ht, tk_18 hκ ht, tk_19 hκ ht, tn_19 hκ ht, tk_20 hκ ht, tn_20 hκ ht, tk_21 hκ ht, tn_21 hκ ht, kc_68 hκ, hp0, e0k, ee, sizeOf_eq xs (d + 2) _ hH.1 (show (nmX X 2 h).length ≤ 12 by omega), sizeOf_eq xs (d + 2) _ hF.1 (show (nmX X 0 (k + 1)).length ≤ 12 by omega), hj, q3]
        exact r3
    · rw [mRo_nil hX (by rw [hlen]; omega), List.nil_append]
      obtain ⟨D', T', G', x5, x7, x8, x9, r1, r2, r3⟩ := ih (k + 1) D R T G (acl u5) (some (.inr (.inl (p32 (nmX X 0 (k + 1)) : Int)))) none (some (.inl (((nmX X 2 h).length + (nmX X 0 (k + 1)).length : Nat) : Int))) (by omega) hP' hM (by omega)
      refine ⟨D', T', G', x5, x7, x8, x9, r1, r2, ?_⟩
      simp (disch := omega) only [cond_true, cond_false, decide_true, decide_false, Bool.and_true, Int.toNat_natCast, Int.reduceToNat, bI_s, bJ_s, bV_s, dT, dF, w_al, w_ab, w_lm, tp_0_1 hc ht, tp_0_2 hc ht, tp_0_3 hc ht, tp_0_4 hc ht, tp_0_6 hc ht, tp_0_8 hc ht, tp_0_9 hc ht, tp_0_10 hc ht, tp_0_12 hc ht, tp_0_13 hc ht, tp_0_14 hc ht, tp_3_1 hc ht, tp_3_2 hc ht, tp_3_3 hc ht, tp_3_4 hc ht, tp_8_0 hc ht, tp_8_1 hc ht, tp_8_2 hc ht, tp_18_0 hc ht, tp_18_2 hc ht, tp_18_3 hc ht, tk_0 hκ ht, tk_1 hκ ht, tn_1 hκ ht, tk_2 hκ ht, tn_2 hκ ht, tk_3 hκ ht, tk_4 hκ ht, tn_4 hκ ht, tk_5 hκ ht, tn_5 hκ ht, tk_6 hκ ht, tn_6 hκ ht, tk_7 hκ ht, tn_7 hκ ht, tk_8 hκ ht, tk_9 hκ ht, tn_9 hκ ht, tk_10 hκ ht, tn_10 hκ ht, tk_11 hκ ht, tn_11 hκ ht, tk_12 hκ ht, tn_12 hκ ht, tk_13 hκ ht, tn_13 hκ ht, tk_14 hκ ht, tn_14 hκ ht, tk_15 hκ ht, tn_15 hκ ht, tk_16 hκ ht, tn_16 hκ ht, tk_17 hκ ht, tn_17 hκ ht, tk_18 hκ ht, tk_19 hκ ht, tn_19 hκ ht, tk_20 hκ ht, tn_20 hκ ht, tk_21 hκ ht, tn_21 hκ ht, kc_68 hκ, hp0, e0k, ee, sizeOf_eq xs (d + 2) _ hH.1 (show (nmX X 2 h).length ≤ 12 by omega), sizeOf_eq xs (d + 2) _ hF.1 (show (nmX X 0 (k + 1)).length ≤ 12 by omega)]
      exact r3
def mHe (X : TX) (n h : Nat) : List ENT := (List.range' 1 (xnp X 0)).flatMap (mRo X n h)
def mAll (X : TX) (n : Nat) : List ENT := (List.range' 0 (xnp X 2 + 1)).flatMap (mHe X n)
theorem mHe_len {X : TX} (hX : TXok X) (n h : Nat) : (mHe X n h).length ≤ 344 := by
  have n0 := xnp_le hX (s := 0) (by decide)
  have := flat_len (f := mRo X n h) (mRo_len hX n h) (List.range' 1 (xnp X 0))
  rw [List.length_range'] at this
  unfold mHe
  omega
theorem mh_loop (xs : List Int) (d : Nat) {κ : aK} {a b t : Nat} {X : TX} (hX : TXok X) (ht : isT t) (hK : MdK κ a b) {n : Nat} (hn : n ≤ 12) : ∀ (m h : Nat) (D : Nat → Nat → Int) (R : List ENT) (T : Nat → List Nat) (G : Nat → Int) (u4 u5 u6 u7 u8 u9 : Option aV), h + m = xnp X 2 + 1 → MdP κ D t X → MdH D a b R T G → R.length + 344 * m + 500 < 4000 → ∃ D' T' G', MdH D' a b (((List.range' h m).flatMap (mHe X n)).reverse ++ R) T' G' ∧ MdFr a b D D' ∧ ev xs (d + 3) mm_14 55 [some (.inr (.inr ((68 : Nat) : Int))), some (.inr (.inr ((t + 8 : Nat) : Int))), some (.inl (n : Int)), some (.inl (h : Int)), u4, u5, u6, u7, u8, u9] [] (κ, D) = some (none, (κ, D')) := by
  have ht' : t = 9 ∨ t = 31 := ht
  have n0 := xnp_le hX (s := 0) (by decide)
  have n2 := xnp_le hX (s := 2) (by decide)
  intro m
  induction m with
  | zero =>
    intro h D R T G u4 u5 u6 u7 u8 u9 hk hP hM hl
    obtain ⟨hκ, hc, hpc⟩ := hP
    have hp2 := (hpc 2 (by decide)).1
    refine ⟨D, T, G, hM, MdFr.rfl' a b D, ?_⟩
    rw [q_14_55]
    simp (disch := omega) only [cond_true, cond_false, Bool.and_true, Bool.true_and, Bool.and_false, Bool.false_and, Int.toNat_natCast, Int.reduceToNat, bI_s, bJ_s, bV_s, bR_s, decide_true, decide_false, not_true_eq_false, not_false_eq_true, dT, dF, w_al, w_la, w_ab, w_sl, w_sb, w_dec, w_ml, w_lm, ol2i_n, aup_ne, aupE, aupJ, setc_self, setc_ne, tp_0_1 hc ht, tp_0_2 hc ht, tp_0_3 hc ht, tp_0_4 hc ht, tp_0_6 hc ht, tp_0_8 hc ht, tp_0_9 hc ht, tp_0_10 hc ht, tp_0_12 hc ht, tp_0_13 hc ht, tp_0_14 hc ht, tp_3_1 hc ht, tp_3_2 hc ht, tp_3_3 hc ht, tp_3_4 hc ht, tp_8_0 hc ht, tp_8_1 hc ht, tp_8_2 hc ht, tp_18_0 hc ht, tp_18_2 hc ht, tp_18_3 hc ht, tk_0 hκ ht, tk_1 hκ ht, tn_1 hκ ht, tk_2 hκ ht, tn_2 hκ ht, tk_3 hκ ht, tk_4 hκ ht, tn_4 hκ ht, tk_5 hκ ht, tn_5 hκ ht, tk_6 hκ ht, tn_6 hκ ht, tk_7 hκ ht, tn_7 hκ ht, tk_8 hκ ht, tk_9 hκ ht, tn_9 hκ ht, tk_10 hκ ht, tn_10 hκ ht, tk_11 hκ ht, tn_11 hκ ht, tk_12 hκ ht, tn_12 hκ ht, tk_13 hκ ht, tn_13 hκ ht, tk_14 hκ ht, tn_14 hκ ht, tk_15 hκ ht, tn_15 hκ ht, tk_16 hκ ht, tn_16 hκ ht, tk_17 hκ ht, tn_17 hκ ht, tk_18 hκ ht, tk_19 hκ ht, tn_19 hκ ht, tk_20 hκ ht, tn_20 hκ ht, tk_21 hκ ht, tn_21 hκ ht, hp2]
  | succ m ih =>
    intro h D R T G u4 u5 u6 u7 u8 u9 hk hP hM hl
    have hP' := hP
    obtain ⟨hκ, hc, hpc⟩ := hP
    have hp2 := (hpc 2 (by decide)).1
    have ml := mHe_len hX n h
    obtain ⟨D1, T1, G1, x5, x7, x8, x9, q1, q2, q3⟩ := mr_loop xs d hX ht hK hn (h := h) (by omega) (xnp X 0) 0 D R T G none u7 u8 u9 (by omega) hP' hM (by omega)
    obtain ⟨D', T', G', r1, r2, r3⟩ := ih (h + 1) D1 _ T1 G1 (some (.inr (.inl (p32 (nmX X 2 h) : Int)))) x5 (some (.inl (xnp X 0 : Int))) x7 x8 x9 (by omega) (q2.p ht hK.2.2.1 hK.2.2.2.1 hP') q1 (by
      have : ((List.range' (0 + 1) (xnp X 0)).flatMap (mRo X n h)).length ≤ 344 := ml
      rw [List.length_append, List.length_reverse]; omega)
    refine ⟨D', T', G', ?_, q2.trans r2, ?_⟩
    · rw [List.range'_succ, List.flatMap_cons, List.reverse_append, List.append_assoc]
      exact r1
    · rw [q_14_55]
      have q3' : ev xs (d + 3) mm_14 89 [some (.inr (.inr ((68 : Nat) : Int))), some (.inr (.inr ((t + 8 : Nat) : Int))), some (.inl (n : Int)), some (.inl (h : Int)), some (.inr (.inl (p32 (nmX X 2 h) : Int))), none, some (.inl 0), u7, u8, u9] [] (κ, D) = _ := q3
      by_cases h0 : h = 0
      · subst h0
        have e0 : p32 (nmX X 2 0) = 0 := rfl
        rw [e0] at q3'
        simp (disch := omega) only [cond_true, cond_false, decide_true, decide_false, Bool.and_true, Int.toNat_natCast, Int.reduceToNat, dT, dF, tp_0_1 hc ht, tp_0_2 hc ht, tp_0_3 hc ht, tp_0_4 hc ht, tp_0_6 hc ht, tp_0_8 hc ht, tp_0_9 hc ht, tp_0_10 hc ht, tp_0_12 hc ht, tp_0_13 hc ht, tp_0_14 hc ht, tp_3_1 hc ht, tp_3_2 hc ht, tp_3_3 hc ht, tp_3_4 hc ht, tp_8_0 hc ht, tp_8_1 hc ht, tp_8_2 hc ht, tp_18_0 hc ht, tp_18_2 hc ht, tp_18_3 hc ht, tk_0 hκ ht, tk_1 hκ ht, tn_1 hκ ht, tk_2 hκ ht, tn_2 hκ ht, tk_3 hκ ht, tk_4 hκ ht, tn_4 hκ ht, tk_5 hκ ht, tn_5 hκ ht, tk_6 hκ ht, tn_6 hκ ht, tk_7 hκ ht, tn_7 hκ ht, tk_8 hκ ht, tk_9 hκ ht, tn_9 hκ ht, tk_10 hκ ht, tn_10 hκ ht, tk_11 hκ ht, tn_11 hκ ht, tk_12 hκ ht, tn_12 hκ ht, tk_13 hκ ht, tn_13 hκ ht, tk_14 hκ ht, tn_14 hκ ht, tk_15 hκ ht, tn_15 hκ ht, tk_16 hκ ht, tn_16 hκ ht, tk_17 hκ ht, tn_17 hκ ht, tk_18 hκ ht, tk_19 hκ ht, tn_19 hκ ht, tk_20 hκ ht, tn_20 hκ ht, tk_21 hκ ht, tn_21 hκ ht, hp2]
        exact (show _ = _ from q3').trans r3
      · have ee := ((hpc 2 (by decide)).2 (h - 1) (by omega)).1
        have en : nmX X 2 h = xPN X (8 * 2 + (h - 1)) := by unfold nmX; rw [if_neg h0]
        rw [← en] at ee
        have ei : w32 (w32 (16 + (h : Int)) - 1) = ((8 * 2 + (h - 1) : Nat) : Int) := by rw [w32_sub_l, w32_id (by omega) (by omega)]; omega
        simp (disch := omega) only [cond_true, cond_false, decide_true, decide_false, Bool.and_true, Int.toNat_natCast, Int.reduceToNat, dT, dF, tp_0_1 hc ht, tp_0_2 hc ht, tp_0_3 hc ht, tp_0_4 hc ht, tp_0_6 hc ht, tp_0_8 hc ht, tp_0_9 hc ht, tp_0_10 hc ht, tp_0_12 hc ht, tp_0_13 hc ht, tp_0_14 hc ht, tp_3_1 hc ht, tp_3_2 hc ht, tp_3_3 hc ht, tp_3_4 hc ht, tp_8_0 hc ht, tp_8_1 hc ht, tp_8_2 hc ht, tp_18_0 hc ht, tp_18_2 hc ht, tp_18_3 hc ht, tk_0 hκ ht, tk_1 hκ ht, tn_1 hκ ht, tk_2 hκ ht, tn_2 hκ ht, tk_3 hκ ht, tk_4 hκ ht, tn_4 hκ ht, tk_5 hκ ht, tn_5 hκ ht, tk_6 hκ ht, tn_6 hκ ht, tk_7 hκ ht, tn_7 hκ ht, tk_8 hκ ht, tk_9 hκ ht, tn_9 hκ ht, tk_10 hκ ht, tn_10 hκ ht, tk_11 hκ ht, tn_11 hκ ht, tk_12 hκ ht, tn_12 hκ ht, tk_13 hκ ht, tn_13 hκ ht, tk_14 hκ ht, tn_14 hκ ht, tk_15 hκ ht, tn_15 hκ ht, tk_16 hκ ht, tn_16 hκ ht, tk_17 hκ ht, tn_17 hκ ht, tk_18 hκ ht, tk_19 hκ ht, tn_19 hκ ht, tk_20 hκ ht, tn_20 hκ ht, tk_21 hκ ht, tn_21 hκ ht, hp2, ei, ee]
        exact q3'.trans r3
