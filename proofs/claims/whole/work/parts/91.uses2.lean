/-! mostUsed, forged by the class. -/
theorem aoa_s {κ : aK} (hκ : Shp κ) (r : Nat) {c n : Nat} (hr : r < 315) (hk : KT r = (c, n)) (hc : 100 ≤ c) : aoa κ ((r : Nat) : Int) = true := by
  unfold aoa
  rw [Int.toNat_natCast, (hκ r hr).2, hk]
  simp only [Bool.and_eq_true, decide_eq_true_eq]
  exact ⟨by omega, (hκ r hr).1, Nat.ble_eq.mpr hc⟩
theorem fillI_loop (xs : List Int) (d : Nat) {κ : aK} {D : Nat → Nat → Int} (hκ : Shp κ) (r : Nat) {n : Nat} (hr : r < 315) (hk : KT r = (100, n)) (hn : n < 100000) (x : Int) : ∀ (m k : Nat), k + m = n → ev xs d mm_318 5 [some (.inr (.inr (r : Int))), some (.inl x), some (.inl (k : Int)), some (.inl (n : Int))] [] (κ, setc D r (cpn k (fun _ => x) (D r))) = some (none, (κ, setc D r (cpn n (fun _ => x) (D r)))) := by
  intro m
  induction m with
  | zero =>
    intro k h
    rw [q_318_5, show k = n by omega]
    simp (disch := omega) only [cond_true, cond_false, Bool.and_true, Bool.true_and, Bool.and_false, Bool.false_and, Int.toNat_natCast, Int.reduceToNat, bI_s, bJ_s, bV_s, bR_s, decide_true, decide_false, not_true_eq_false, not_false_eq_true, dT, dF, w_al, w_la, w_ab, w_sl, w_sb, w_dec, w_ml, w_lm, ol2i_n, aup_ne, aupE, aupJ, setc_self, setc_ne]
  | succ m ih =>
    intro k h
    have e := cpn_step k (fun _ => x) (D r)
    have hn' : ain κ (r : Int) 100 (k : Int) = true := shp_n hκ r hr hk (by omega) (by omega)
    rw [q_318_5]
    simp (disch := omega) only [cond_true, cond_false, Bool.and_true, Bool.true_and, Bool.and_false, Bool.false_and, Int.toNat_natCast, Int.reduceToNat, bI_s, bJ_s, bV_s, bR_s, decide_true, decide_false, not_true_eq_false, not_false_eq_true, dT, dF, w_al, w_la, w_ab, w_sl, w_sb, w_dec, w_ml, w_lm, ol2i_n, aup_ne, aupE, aupJ, setc_self, setc_ne, hn', aup_setc, e, ih (k + 1) (by omega)]
theorem fillI_eq (xs : List Int) (d : Nat) {κ : aK} {D : Nat → Nat → Int} (hκ : Shp κ) (r : Nat) {n : Nat} (hr : r < 315) (hk : KT r = (100, n)) (hn : n < 100000) (x : Int) : cl xs (d + 1) 318 [.inr (.inr (r : Int)), .inl x] (κ, D) = some (none, (κ, setc D r (cpn n (fun _ => x) (D r)))) := by
  have e := fillI_loop xs d (D := D) hκ r hr hk hn x n 0 (by omega)
  rw [cpn_zero, setc_id] at e
  rw [c_318]
  simp (disch := omega) only [cond_true, cond_false, Bool.and_true, Bool.true_and, Bool.and_false, Bool.false_and, Int.toNat_natCast, Int.reduceToNat, bI_s, bJ_s, bV_s, bR_s, decide_true, decide_false, not_true_eq_false, not_false_eq_true, dT, dF, w_al, w_la, w_ab, w_sl, w_sb, w_dec, w_ml, w_lm, ol2i_n, aup_ne, aupE, aupJ, setc_self, setc_ne, aoa_s hκ r hr hk (by decide), aln_s hκ r hr hk]
  exact e
def dY (y : WY) (k j : Nat) : Nat := if pcI y k = (j : Int) then 1 else 0
theorem dY_sum {X : TX} (hX : TXok X) {y : WY} (hy : wvd X y) {j : Nat} (hj : j < 24) : dY y 0 j + dY y 1 j + dY y 2 j + dY y 3 j = cY y j := by
  obtain ⟨y1, ⟨y2, y2'⟩, y3, y4⟩ := hy
  have n0 := xnp_le hX (s := 0) (by decide)
  have e0 : pcI y 0 = (if y.2.2.2 = 0 then -1 else ((7 + y.2.2.2 : Nat) : Int)) := rfl
  have e1 : pcI y 1 = (if y.2.2.1 = 0 then -1 else ((7 + y.2.2.1 : Nat) : Int)) := rfl
  have e2 : pcI y 2 = (if y.2.1 = 0 then -1 else ((y.2.1 - 1 : Nat) : Int)) := rfl
  have e3 : pcI y 3 = (if y.1 = 0 then -1 else ((15 + y.1 : Nat) : Int)) := rfl
  have a0 : dY y 0 j = (if 1 ≤ y.2.2.2 ∧ j = 7 + y.2.2.2 then 1 else 0) := by
    unfold dY
    rw [e0]
    by_cases h : y.2.2.2 = 0
    · rw [if_pos h, if_neg (by omega), if_neg (by omega)]
    · rw [if_neg h]
      by_cases h2 : j = 7 + y.2.2.2
      · rw [if_pos (by omega), if_pos (by omega)]
      · rw [if_neg (by omega), if_neg (by omega)]
  have a1 : dY y 1 j = (if 1 ≤ y.2.2.1 ∧ j = 7 + y.2.2.1 then 1 else 0) := by
    unfold dY
    rw [e1]
    by_cases h : y.2.2.1 = 0
    · rw [if_pos h, if_neg (by omega), if_neg (by omega)]
    · rw [if_neg h]
      by_cases h2 : j = 7 + y.2.2.1
      · rw [if_pos (by omega), if_pos (by omega)]
      · rw [if_neg (by omega), if_neg (by omega)]
  have a2 : dY y 2 j = (if j + 1 = y.2.1 then 1 else 0) := by
    unfold dY
    rw [e2, if_neg (show ¬ y.2.1 = 0 by omega)]
    by_cases h2 : j + 1 = y.2.1
    · rw [if_pos (by omega), if_pos (by omega)]
    · rw [if_neg (by omega), if_neg (by omega)]
  have a3 : dY y 3 j = (if 1 ≤ y.1 ∧ j = 15 + y.1 then 1 else 0) := by
    unfold dY
    rw [e3]
    by_cases h : y.1 = 0
    · rw [if_pos h, if_neg (by omega), if_neg (by omega)]
    · rw [if_neg h]
      by_cases h2 : j = 15 + y.1
      · rw [if_pos (by omega), if_pos (by omega)]
      · rw [if_neg (by omega), if_neg (by omega)]
  rw [a0, a1, a2, a3]
  unfold cY
  omega
theorem pcI_rng {X : TX} (hX : TXok X) {y : WY} (hy : wvd X y) {k : Nat} (hk : k < 4) : pcI y k = -1 ∨ ∃ p : Nat, p < 24 ∧ pcI y k = (p : Int) := by
  obtain ⟨y1, ⟨y2, y2'⟩, y3, y4⟩ := hy
  have n0 := xnp_le hX (s := 0) (by decide)
  have n1 : xnp X 1 ≤ 6 := (hX.2.2.1 1 (by decide)).1
  have n2 : xnp X 2 ≤ 4 := (hX.2.2.1 2 (by decide)).1
  unfold pcI
  repeat' split
  all_goals first
    | exact Or.inl rfl
    | exact Or.inr ⟨_, by omega, rfl⟩
theorem use_digit (xs : List Int) (d : Nat) {κ : aK} {D : Nat → Nat → Int} (hκ : Shp κ) (hc : CPtr D) {X : TX} (hX : TXok X) {y : WY} (hy : wvd X y) {i : Nat} (hi : i < 280) (hcode : D 66 i = (cdW y : Int)) {k : Nat} (hk : k < 4) (u : Nat → Int) {U : Nat → Nat} (hu : ∀ j, j < 24 → u j = (U j : Int)) (hU : ∀ j, U j ≤ 1000000) (u3 : Option aV) : ∃ (u' : Nat → Int) (u3' : Option aV), (∀ j, j < 24 → u' j = ((U j + dY y k j : Nat) : Int)) ∧ ev xs (d + 1) mm_118 12 [some (.inr (.inr ((65 : Nat) : Int))), some (.inl (i : Int)), some (.inl (k : Int)), u3] [] (κ, setc D 67 u) = ev xs (d + 1) mm_118 12 [some (.inr (.inr ((65 : Nat) : Int))), some (.inl (i : Int)), some (.inl ((k + 1 : Nat) : Int)), u3'] [] (κ, setc D 67 u') := by
  have hy' := hy
  obtain ⟨y1, ⟨y2, y2'⟩, y3, y4⟩ := hy
  have n0 := xnp_le hX (s := 0) (by decide)
  have n1 := xnp_le hX (s := 1) (by decide)
  have n2 := xnp_le hX (s := 2) (by decide)
  have pe := pieceIn_eq xs d (κ, setc D 67 u) (y := y) (by omega) (by omega) (by omega) (by omega) hk
  rw [q_118_12]
  rcases pcI_rng hX hy' hk with h | ⟨p, hp, h⟩
  · refine ⟨u, some (.inl (-1)), fun j hj => ?_, ?_⟩
    · rw [hu j hj]
      unfold dY
      rw [h, if_neg (by omega), Nat.add_zero]
    · rw [h] at pe
      simp (disch := omega) only [cond_true, cond_false, Bool.and_true, Bool.true_and, Bool.and_false, Bool.false_and, Int.toNat_natCast, Int.reduceToNat, bI_s, bJ_s, bV_s, bR_s, decide_true, decide_false, not_true_eq_false, not_false_eq_true, dT, dF, w_al, w_la, w_ab, w_sl, w_sb, w_dec, w_ml, w_lm, ol2i_n, aup_ne, aupE, aupJ, setc_self, setc_ne, pc_0_0 hc, pc_0_3 hc, pc_0_4 hc, pc_0_7 hc, pc_0_8 hc, pc_0_9 hc, pc_0_12 hc, pc_0_14 hc, pc_0_15 hc, pc_0_16 hc, pc_0_17 hc, pc_0_18 hc, pc_0_19 hc, pc_2_1 hc, pc_2_2 hc, pc_2_3 hc, pc_2_6 hc, pc_2_8 hc, pc_8_2 hc, pc_65_1 hc, pc_65_2 hc, pc_68_1 hc, pc_72_3 hc, pc_72_4 hc, pc_72_5 hc, pc_72_6 hc, pc_77_1 hc, pc_77_2 hc, pc_77_3 hc, pc_77_4 hc, pc_77_5 hc, pc_77_6 hc, kc_0 hκ, kc_1 hκ, nc_1 hκ, kc_2 hκ, kc_3 hκ, nc_3 hκ, kc_4 hκ, nc_4 hκ, kc_5 hκ, nc_5 hκ, kc_6 hκ, nc_6 hκ, kc_7 hκ, nc_7 hκ, kc_8 hκ, kc_63 hκ, nc_63 hκ, kc_64 hκ, nc_64 hκ, kc_65 hκ, kc_66 hκ, nc_66 hκ, kc_67 hκ, nc_67 hκ, kc_68 hκ, kc_69 hκ, nc_69 hκ, kc_70 hκ, nc_70 hκ, kc_71 hκ, nc_71 hκ, kc_72 hκ, kc_73 hκ, nc_73 hκ, kc_74 hκ, nc_74 hκ, kc_75 hκ, nc_75 hκ, kc_76 hκ, nc_76 hκ, kc_77 hκ, kc_78 hκ, nc_78 hκ, kc_79 hκ, nc_79 hκ, kc_80 hκ, nc_80 hκ, kc_81 hκ, nc_81 hκ, kc_82 hκ, nc_82 hκ, kc_83 hκ, nc_83 hκ, kc_84 hκ, nc_84 hκ, kc_85 hκ, nc_85 hκ, kc_86 hκ, nc_86 hκ, kc_87 hκ, nc_87 hκ, kc_88 hκ, nc_88 hκ, kc_89 hκ, nc_89 hκ, kc_90 hκ, nc_90 hκ, sk_0 hκ is53, sp_1 hc is53, sk_1 hκ is53, sn_1 hκ is53, sp_2 hc is53, sk_2 hκ is53, sn_2 hκ is53, sp_3 hc is53, sk_3 hκ is53, sn_3 hκ is53, sp_4 hc is53, sk_4 hκ is53, sn_4 hκ is53, sk_0 hκ is58, sp_1 hc is58, sk_1 hκ is58, sn_1 hκ is58, sp_2 hc is58, sk_2 hκ is58, sn_2 hκ is58, sp_3 hc is58, sk_3 hκ is58, sn_3 hκ is58, sp_4 hc is58, sk_4 hκ is58, sn_4 hκ is58, hcode, pe]
  · refine ⟨fun j => if j = p then ((U p + 1 : Nat) : Int) else u j, some (.inl (p : Int)), fun j hj => ?_, ?_⟩
    · show (if j = p then _ else u j) = _
      unfold dY
      rw [h]
      by_cases hjp : j = p
      · rw [if_pos hjp, if_pos (by omega), hjp]
      · rw [if_neg hjp, if_neg (by omega), hu j hj, Nat.add_zero]
    · rw [h] at pe
      have hup := hu p hp
      have hUp := hU p
      simp (disch := omega) only [cond_true, cond_false, Bool.and_true, Bool.true_and, Bool.and_false, Bool.false_and, Int.toNat_natCast, Int.reduceToNat, bI_s, bJ_s, bV_s, bR_s, decide_true, decide_false, not_true_eq_false, not_false_eq_true, dT, dF, w_al, w_la, w_ab, w_sl, w_sb, w_dec, w_ml, w_lm, ol2i_n, aup_ne, aupE, aupJ, setc_self, setc_ne, pc_0_0 hc, pc_0_3 hc, pc_0_4 hc, pc_0_7 hc, pc_0_8 hc, pc_0_9 hc, pc_0_12 hc, pc_0_14 hc, pc_0_15 hc, pc_0_16 hc, pc_0_17 hc, pc_0_18 hc, pc_0_19 hc, pc_2_1 hc, pc_2_2 hc, pc_2_3 hc, pc_2_6 hc, pc_2_8 hc, pc_8_2 hc, pc_65_1 hc, pc_65_2 hc, pc_68_1 hc, pc_72_3 hc, pc_72_4 hc, pc_72_5 hc, pc_72_6 hc, pc_77_1 hc, pc_77_2 hc, pc_77_3 hc, pc_77_4 hc, pc_77_5 hc, pc_77_6 hc, kc_0 hκ, kc_1 hκ, nc_1 hκ, kc_2 hκ, kc_3 hκ, nc_3 hκ, kc_4 hκ, nc_4 hκ, kc_5 hκ, nc_5 hκ, kc_6 hκ, nc_6 hκ, kc_7 hκ, nc_7 hκ, kc_8 hκ, kc_63 hκ, nc_63 hκ, kc_64 hκ, nc_64 hκ, kc_65 hκ, kc_66 hκ, nc_66 hκ, kc_67 hκ, nc_67 hκ, kc_68 hκ, kc_69 hκ, nc_69 hκ, kc_70 hκ, nc_70 hκ, kc_71 hκ, nc_71 hκ, kc_72 hκ, kc_73 hκ, nc_73 hκ, kc_74 hκ, nc_74 hκ, kc_75 hκ, nc_75 hκ, kc_76 hκ, nc_76 hκ, kc_77 hκ, kc_78 hκ, nc_78 hκ, kc_79 hκ, nc_79 hκ, kc_80 hκ, nc_80 hκ, kc_81 hκ, nc_81 hκ, kc_82 hκ, nc_82 hκ, kc_83 hκ, nc_83 hκ, kc_84 hκ, nc_84 hκ, kc_85 hκ, nc_85 hκ, kc_86 hκ, nc_86 hκ, kc_87 hκ, nc_87 hκ, kc_88 hκ, nc_88 hκ, kc_89 hκ, nc_89 hκ, kc_90 hκ, nc_90 hκ, sk_0 hκ is53, sp_1 hc is53, sk_1 hκ is53, sn_1 hκ is53, sp_2 hc is53, sk_2 hκ is53, sn_2 hκ is53, sp_3 hc is53, sk_3 hκ is53, sn_3 hκ is53, sp_4 hc is53, sk_4 hκ is53, sn_4 hκ is53, sk_0 hκ is58, sp_1 hc is58, sk_1 hκ is58, sn_1 hκ is58, sp_2 hc is58, sk_2 hκ is58, sn_2 hκ is58, sp_3 hc is58, sk_3 hκ is58, sn_3 hκ is58, sp_4 hc is58, sk_4 hκ is58, sn_4 hκ is58, hcode, pe, hup, aup_setc]
theorem use_way (xs : List Int) (d : Nat) {κ : aK} {D : Nat → Nat → Int} (hκ : Shp κ) (hc : CPtr D) {X : TX} (hX : TXok X) {y : WY} (hy : wvd X y) {i : Nat} (hi : i < 280) (hcode : D 66 i = (cdW y : Int)) (u : Nat → Int) {U : Nat → Nat} (hu : ∀ j, j < 24 → u j = (U j : Int)) (hU : ∀ j, U j ≤ 999990) (u3 : Option aV) : ∃ (u' : Nat → Int) (u2' u3' : Option aV), (∀ j, j < 24 → u' j = ((U j + cY y j : Nat) : Int)) ∧ ev xs (d + 1) mm_118 12 [some (.inr (.inr ((65 : Nat) : Int))), some (.inl (i : Int)), some (.inl 0), u3] [] (κ, setc D 67 u) = ev xs (d + 1) mm_118 2 [some (.inr (.inr ((65 : Nat) : Int))), some (.inl ((i + 1 : Nat) : Int)), u2', u3'] [] (κ, setc D 67 u') := by
  have dl : ∀ k j, dY y k j ≤ 1 := fun k j => by unfold dY; split <;> omega
  obtain ⟨u1, w1, a1, b1⟩ := use_digit xs d hκ hc hX hy hi hcode (k := 0) (by decide) u hu (fun j => by have := hU j; omega) u3
  obtain ⟨u2, w2, a2, b2⟩ := use_digit xs d hκ hc hX hy hi hcode (k := 1) (by decide) u1 a1 (fun j => by have := hU j; have := dl 0 j; omega) w1
  obtain ⟨u3', w3, a3, b3⟩ := use_digit xs d hκ hc hX hy hi hcode (k := 2) (by decide) u2 a2 (fun j => by have := hU j; have := dl 0 j; have := dl 1 j; omega) w2
  obtain ⟨u4, w4, a4, b4⟩ := use_digit xs d hκ hc hX hy hi hcode (k := 3) (by decide) u3' a3 (fun j => by have := hU j; have := dl 0 j; have := dl 1 j; have := dl 2 j; omega) w3
  refine ⟨u4, some (.inl ((3 + 1 : Nat) : Int)), w4, fun j hj => ?_, ?_⟩
  · rw [a4 j hj, ← dY_sum hX hy hj]
    congr 1
    omega
  · refine (b1.trans (b2.trans (b3.trans b4))).trans ?_
    rw [q_118_12]
    simp (disch := omega) only [cond_true, cond_false, Bool.and_true, Bool.true_and, Bool.and_false, Bool.false_and, Int.toNat_natCast, Int.reduceToNat, bI_s, bJ_s, bV_s, bR_s, decide_true, decide_false, not_true_eq_false, not_false_eq_true, dT, dF, w_al, w_la, w_ab, w_sl, w_sb, w_dec, w_ml, w_lm, ol2i_n, aup_ne, aupE, aupJ, setc_self, setc_ne]
theorem uses_loop (xs : List Int) (d : Nat) {κ : aK} {D : Nat → Nat → Int} (hκ : Shp κ) (hc : CPtr D) {X : TX} (hX : TXok X) {n : Nat} (hn : n ≤ 280) (hsz : D 65 0 = (n : Int)) : ∀ (L : List WY) (i : Nat) (u : Nat → Int) (U : Nat → Nat) (u2 u3 : Option aV), i + L.length = n → (∀ y ∈ L, wvd X y) → (∀ k, k < L.length → D 66 (i + k) = (((L.map cdW).getD k 0 : Nat) : Int)) → (∀ j, j < 24 → u j = (U j : Int)) → (∀ j, U j + 4 * L.length ≤ 900000) → ∃ u' : Nat → Int, (∀ j, j < 24 → u' j = ((U j + usL L j : Nat) : Int)) ∧ ev xs (d + 1) mm_118 2 [some (.inr (.inr ((65 : Nat) : Int))), some (.inl (i : Int)), u2, u3] [] (κ, setc D 67 u) = some (none, (κ, setc D 67 u')) := by
  intro L
  induction L with
  | nil =>
    intro i u U u2 u3 h _ _ hu hU
    refine ⟨u, hu, ?_⟩
    rw [List.length_nil] at h
    rw [q_118_2]
    simp (disch := omega) only [cond_true, cond_false, Bool.and_true, Bool.true_and, Bool.and_false, Bool.false_and, Int.toNat_natCast, Int.reduceToNat, bI_s, bJ_s, bV_s, bR_s, decide_true, decide_false, not_true_eq_false, not_false_eq_true, dT, dF, w_al, w_la, w_ab, w_sl, w_sb, w_dec, w_ml, w_lm, ol2i_n, aup_ne, aupE, aupJ, setc_self, setc_ne, kc_65 hκ, hsz]
  | cons y L ih =>
    intro i u U u2 u3 h hv hD hu hU
    rw [List.length_cons] at h hU
    have hd0 := hD 0 (by rw [List.length_cons]; omega)
    rw [Nat.add_zero, List.map_cons] at hd0
    have cl4 := cY_le y
    obtain ⟨u1, w2, w3, a1, b1⟩ := use_way xs d hκ hc hX (hv y List.mem_cons_self) (i := i) (by omega) hd0 u hu (fun j => by have := hU j; omega) u3
    obtain ⟨u', a2, b2⟩ := ih (i + 1) u1 (fun j => U j + cY y j) w2 w3 (by omega) (fun z hz => hv z (List.mem_cons_of_mem _ hz)) (fun k hk => by
      have := hD (k + 1) (by rw [List.length_cons]; omega)
      rw [show i + (k + 1) = i + 1 + k by omega, List.map_cons] at this
      exact this) a1 (fun j => by have := hU j; have := cl4 j; omega)
    refine ⟨u', fun j hj => ?_, ?_⟩
    · rw [a2 j hj]
      show ((U j + cY y j + usL L j : Nat) : Int) = ((U j + (cY y j + usL L j) : Nat) : Int)
      congr 1
      omega
    · rw [q_118_2]
      simp (disch := omega) only [cond_true, cond_false, Bool.and_true, Bool.true_and, Bool.and_false, Bool.false_and, Int.toNat_natCast, Int.reduceToNat, bI_s, bJ_s, bV_s, bR_s, decide_true, decide_false, not_true_eq_false, not_false_eq_true, dT, dF, w_al, w_la, w_ab, w_sl, w_sb, w_dec, w_ml, w_lm, ol2i_n, aup_ne, aupE, aupJ, setc_self, setc_ne, kc_65 hκ, hsz]
      exact b1.trans b2
