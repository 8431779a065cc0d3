/-! The reference reads: a land. -/
theorem rLand_fin {E E' : Nat → Nat → Int} {u : Nat} {Y : PY} {p n' : Nat} {wf P M : Nat → Nat} (hu : u < 2) (hn : xnl Y.1 < 5) (hn4 : n' ≤ 4) (fc : ∀ q, q ≠ 256 → q ≠ 283 → q ≠ 284 → q ≠ 285 → q ≠ 286 → q ≠ 287 → E' q = E q) (e283 : E' 283 u = ((xnl Y.1 + 1 : Nat) : Int)) (e284 : E' 284 (5 * u + xnl Y.1) = (p : Int)) (o284 : ∀ j, j ≠ 5 * u + xnl Y.1 → E' 284 j = E 284 j ∧ E' 285 j = E 285 j) (e285 : E' 285 (5 * u + xnl Y.1) = (n' : Int)) (o286 : ∀ j, j < 4 * (5 * u + xnl Y.1) → E' 286 j = E 286 j ∧ E' 287 j = E 287 j) (hL : LE E' (5 * u + xnl Y.1) n' P M) (hwf : ∀ i, wf i = wsm P M i n') (hR : RvY E u Y) : RvY E' u (mkL' Y p wf) := by
  obtain ⟨R1, R2, R3, R4⟩ := hR
  obtain ⟨t1, t2, t3, t4, t5, t6, t7⟩ := R1
  have sf : ∀ q, q ≠ 256 → q ≠ 283 → q ≠ 284 → q ≠ 285 → q ≠ 286 → q ≠ 287 → sid E' u q = sid E u q := fun q q1 q2 q3 q4 q5 q6 => by rw [sid_q q1, sid_q q1]; exact fc q q1 q2 q3 q4 q5 q6
  refine ⟨⟨V1.congr t1 (fun q a b => sf q (by omega) (by omega) (by omega) (by omega) (by omega) (by omega)) (by rw [sid_18, sid_18]), ?_, ?_, ?_, ⟨?_, fun l hl => ?_⟩, ?_, ?_⟩, fun k hk2 => ?_, fun s hs2 => ?_, R4.congr (fun q a b => fc q (by omega) (by omega) (by omega) (by omega) (by omega) (by omega)) rfl⟩
  · rw [sf 277 (by decide) (by decide) (by decide) (by decide) (by decide) (by decide), sf 278 (by decide) (by decide) (by decide) (by decide) (by decide) (by decide)]; exact t2
  · rw [sf 274 (by decide) (by decide) (by decide) (by decide) (by decide) (by decide), sf 275 (by decide) (by decide) (by decide) (by decide) (by decide) (by decide), sf 276 (by decide) (by decide) (by decide) (by decide) (by decide) (by decide)]; exact t3
  · rw [sf 279 (by decide) (by decide) (by decide) (by decide) (by decide) (by decide), sf 280 (by decide) (by decide) (by decide) (by decide) (by decide) (by decide), sf 281 (by decide) (by decide) (by decide) (by decide) (by decide) (by decide), sf 282 (by decide) (by decide) (by decide) (by decide) (by decide) (by decide)]; exact t4
  · rw [sid_q (by decide)]; exact e283
  · have hl : l < xnl Y.1 + 1 := hl
    rw [sid_q (by decide), sid_q (by decide), sid_q (by decide), sid_q (by decide)]
    show E' 284 (5 * u + l) = ((upf (xpay Y.1) (xnl Y.1) p l : Nat) : Int) ∧ ∃ (n : Nat) (P M : Nat → Nat), n ≤ 4 ∧ E' 285 (5 * u + l) = (n : Int) ∧ (∀ i, i < n → E' 286 (4 * (5 * u + l) + i) = (P i : Int) ∧ P i < 24 ∧ E' 287 (4 * (5 * u + l) + i) = (M i : Int) ∧ M i ≤ 99) ∧ ∀ i, i < 24 → upf (xwant Y.1) (xnl Y.1) wf l i = wsm P M i n
    by_cases e : l = xnl Y.1
    · rw [e, upf_s, upf_s]
      exact ⟨e284, n', P, M, hn4, e285, fun i hi => ⟨(hL i hi).1, (hL i hi).2.1, (hL i hi).2.2.1, (hL i hi).2.2.2.2⟩, fun i _ => hwf i⟩
    · have ne : 5 * u + l ≠ 5 * u + xnl Y.1 := by omega
      rw [upf_n e, upf_n e, (o284 _ ne).1, (o284 _ ne).2]
      have := t5.2 l (by omega)
      rw [sid_q (by decide), sid_q (by decide), sid_q (by decide), sid_q (by decide)] at this
      obtain ⟨a1, n, P2, M2, a2, a3, a4, a5⟩ := this
      refine ⟨a1, n, P2, M2, a2, a3, fun i hi => ?_, a5⟩
      rw [(o286 (4 * (5 * u + l) + i) (by omega)).1, (o286 (4 * (5 * u + l) + i) (by omega)).2]
      exact a4 i hi
  · rw [sf 288 (by decide) (by decide) (by decide) (by decide) (by decide) (by decide)]; exact t6
  · rw [sf 264 (by decide) (by decide) (by decide) (by decide) (by decide) (by decide)]; exact t7
  · rw [fc 265 (by decide) (by decide) (by decide) (by decide) (by decide) (by decide), fc 266 (by decide) (by decide) (by decide) (by decide) (by decide) (by decide)]; exact R2 k hk2
  · rw [fc 270 (by decide) (by decide) (by decide) (by decide) (by decide) (by decide), fc 271 (by decide) (by decide) (by decide) (by decide) (by decide) (by decide), fc 272 (by decide) (by decide) (by decide) (by decide) (by decide) (by decide), fc 273 (by decide) (by decide) (by decide) (by decide) (by decide) (by decide)]; exact R3 s hs2
theorem rLand (xs : List Int) (d : Nat) {κ : aK} {D E : Nat → Nat → Int} {v u : Nat} (hκ : Shp κ) (hpD : PtrR D) {T : Nat → TK} (hT : TKok T) (hk : TkR D T) {a : Nat} {w : SS} (h : RpS D E v T (a, 0) w) (hs : RsD D v u) {c : Nat → Nat} (hc : RvC E u c) (hb : wbf T w a) (hx5 : c 11 ≤ 5) (hx8 : ∀ s, s < 3 → c (6 + s) ≤ 8) (hK : tkK (T a) = 139) (u1 : Option aV) : ∃ E', ev xs (d + 5) mm_208 253 [some (.inr (.inr 256)), u1] [] (κ, E) = some (none, (κ, E')) ∧ RTc D E E' v u T c a w := by
  have k256 := k_256 hκ
  have hcc := hc
  have hsd := hs
  obtain ⟨v1, v2, v3, v4, v5⟩ := hs
  obtain ⟨c0, c1, c6, c9, c10, c11, cb⟩ := hc
  have hp := h.1.ptr hpD
  have e19 : E 256 19 = (u : Int) := by rw [h.1.2.1 19 (by decide)]; exact v2
  have er : rtG T c a = mu T 59 (wntG T 4 (mu T 3 (fstG T 139 (c 11) 5 (a, 0)))) := by
    unfold rtG
    rw [if_neg (by omega), if_neg (by omega), if_neg (by omega), if_neg (by omega), if_neg (by omega), if_neg (by omega), if_neg (by omega), if_pos hK]
  obtain ⟨g11, g400, la, _⟩ := h.2.2.2.2 rfl
  obtain ⟨E1, a1, a2, a3⟩ := r_first xs (d + 2) hκ hpD hT hk h hK (by decide) (has := c 11) (most := 5) hx5 (hh' := (c 11 : Int)) (mm := 5) rfl rfl
  have h13 := a2.2.1
  have st : ev xs (d + 5) mm_208 253 [some (.inr (.inr 256)), u1] [] (κ, E) = (bif decide (¬ E1 256 13 = 0) then some (none, (κ, E1)) else bV (cl xs (d + 5) 218 [.inr (.inr 256)] (κ, E1)) (fun h => some (none, h))) := by
    rw [q_208_253]
    simp (disch := omega) only [cond_true, cond_false, Bool.and_true, Bool.true_and, Bool.and_false, Bool.false_and, Int.toNat_natCast, Int.reduceToNat, bI_s, bJ_s, bV_s, bR_s, decide_true, decide_false, not_true_eq_false, not_false_eq_true, dT, dF, w_al, w_la, w_ab, w_sl, w_sb, w_dec, w_ml, w_lm, ol2i_n, aup_ne, aupE, aupJ, setc_self, setc_ne, k256, pr_39 hp, e19, n_283 hκ, c11, a1]
  rw [st]
  by_cases hf1 : (fstG T 139 (c 11) 5 (a, 0)).2 = 0
  · obtain ⟨f1, f2, f3, f4⟩ := fst_ok hf1
    rw [f4] at a2 er h13
    have h13' : E1 256 13 = 0 := h13
    have hb1 : wbf T w (a + 1) := wbf_s hT hb (by omega)
    have hp1 := a2.1.ptr hpD
    have e19a : E1 256 19 = (u : Int) := (a3.f (by decide)).trans e19
    have en1 : E1 283 u = (c 11 : Int) := by rw [a3.cell (by decide)]; exact c11
    have ew3 : w32 (((5 * u : Nat) : Int) + (c 11 : Int)) = ((5 * u + c 11 : Nat) : Int) := by rw [w32_id (by omega) (by omega)]; omega
    obtain ⟨x, E2, b1, b2, b3, b4⟩ := r_num xs d hκ hpD hT hk a2 (lo := 0) (hi := 999) (l' := 0) (h' := 999) rfl rfl (fun _ => hb1)
    have b3 : RpS D E2 v T (mu T 3 (a + 1, 0)) (w1N T (a + 1) 0 999 w) := b3
    have s3 := b3.fr (E' := aup E2 284 (5 * u + c 11) x) (b3.1.wr (by decide) (by decide) (by show ¬ (5 * u + c 11) / 5 = v; omega) _) (fun j _ => by rw [aupN (by decide)])
    have rq2 := a3.trans b4
    have f3q : ∀ q, q ≠ 256 → q ≠ 284 → aup E2 284 (5 * u + c 11) x q = E q := fun q q1 q2 => by rw [aupN q2]; exact rq2.cell q1
    have hwb : (mu T 3 (a + 1, 0)).2 = 0 → wbf T (w1N T (a + 1) 0 999 w) (mu T 3 (a + 1, 0)).1 := fun z => by
      obtain ⟨m1, m2, m3, m4⟩ := mu_ok z
      have m2 : tkK (T (a + 1)) = 3 := m2
      rw [m4]
      show wbf T _ (a + 1 + 1)
      unfold w1N
      split
      · exact wbf_w hT hb1 (by omega)
      · exact wbf_s hT hb1 (by omega)
    have hpc : PcN (aup E2 284 (5 * u + c 11) x) u c := fun s' hs' => ⟨by rw [f3q 274 (by decide) (by decide)]; exact c6 s' hs', hx8 s' hs'⟩
    obtain ⟨n', w', E3, k1, k2, k3, k4, k5, k6⟩ := rWants xs d hκ hpD hT hk hsd (c := c) (K := 5 * u + c 11) (by omega) (by omega) 4 0 (mu T 3 (a + 1, 0)) _ (aup E2 284 (5 * u + c 11) x) none none none rfl s3 hwb hpc
    have go : (bif decide (¬ E1 256 13 = 0) then some (none, (κ, E1)) else bV (cl xs (d + 5) 218 [.inr (.inr 256)] (κ, E1)) (fun h => some (none, h))) = bV (ev xs (d + 4) mm_218 33 [some (.inr (.inr 256)), some (.inl ((5 * u + c 11 : Nat) : Int)), some (.inl ((0 : Nat) : Int)), none, none, none] [] (κ, aup E2 284 (5 * u + c 11) x)) (fun h => some (none, h)) := by
      rw [c_218]
      simp (disch := omega) only [k256, h13', e19a, pr_39 hp1, n_283 hκ, en1, ew3, b1, pr_40 hp1, n_284 hκ, cond_true, cond_false, Bool.and_true, Bool.true_and, Bool.and_false, Bool.false_and, Int.toNat_natCast, Int.reduceToNat, bI_s, bJ_s, bV_s, bR_s, decide_true, decide_false, not_true_eq_false, not_false_eq_true, dT, dF, w_al, w_la, w_ab, w_sl, w_sb, w_dec, w_ml, w_lm, ol2i_n, aup_ne, aupE, aupJ, setc_self, setc_ne]
      rfl
    rw [go]
    rcases k3 with ⟨y1, y2⟩ | ⟨t3, t4, t5, y2⟩
    · have ee : rtG T c a = wntG T 4 (mu T 3 (a + 1, 0)) := by rw [er, mu_f y1]
      rw [← ee] at k4 y1
      refine ⟨E3, ?_, w', k4, fun q => absurd q y1⟩
      rw [y2]
      rfl
    · obtain ⟨E4, o1, o2, o3⟩ := r_must xs (d + 1) hκ hpD hT hk k4 (k := 59) (by decide) (by decide) (kk := 4) rfl
      rw [← er] at o2
      have s5 := o2.fr (E' := aup E4 285 (5 * u + c 11) (n' : Int)) (o2.1.wr (by decide) (by decide) (by show ¬ (5 * u + c 11) / 5 = v; omega) _) (fun j _ => by rw [aupN (by decide)])
      have hp4 := o2.1.ptr hpD
      have h13d := o2.2.1
      have ff : ∀ j, ¬ (j = 11 ∨ j = 13 ∨ j = 14 ∨ j = 15 ∨ j = 16) → E4 256 j = E 256 j := fun j hj => by rw [o3.f hj, k5.2.2 j hj, aupN (by decide)]; exact rq2.f hj
      have fc : ∀ q, q ≠ 256 → q ≠ 284 → q ≠ 286 → q ≠ 287 → E4 q = E q := fun q q1 q2 q3 q4 => by rw [o3.cell q1, k5.1 q q1 q3 q4]; exact f3q q q1 q2
      rw [y2, q_218_215]
      by_cases hf : (rtG T c a).2 = 0
      · have hfw : (wntG T 4 (mu T 3 (a + 1, 0))).2 = 0 := by
          have := hf
          rw [er] at this
          exact (mu_ok this).1
        obtain ⟨l1, l2, l3⟩ := k6 hfw
        have gt := rtG_gt hf
        have z1 := (sh139 hK hf).2.1
        rw [hf] at h13d
        have h13e : E4 256 13 = 0 := h13d
        have e19d : E4 256 19 = (u : Int) := (ff 19 (by decide)).trans e19
        have en4 : E4 283 u = (c 11 : Int) := by rw [fc 283 (by decide) (by decide) (by decide) (by decide)]; exact c11
        have m1 : mu T 3 (a + 1, 0) = (a + 2, 0) := by
          have q : (mu T 3 (a + 1, 0)).2 = 0 := by
            by_cases q : (mu T 3 (a + 1, 0)).2 = 0
            · exact q
            · rw [wntG_f q] at hfw; exact absurd hfw q
          exact (mu_ok q).2.2.2
        have ex : x = (tkV (T (a + 1)) : Int) := b2 (by rw [m1])
        have wbz : wbf T w' (rtG T c a).1 := by
          have e : (rtG T c a).1 = (wntG T 4 (mu T 3 (a + 1, 0))).1 + 1 := by
            have := hf
            rw [er] at this ⊢
            rw [(mu_ok this).2.2.2]
          have hk59 : tkK (T (wntG T 4 (mu T 3 (a + 1, 0))).1) = 59 := by
            have := hf
            rw [er] at this
            exact (mu_ok this).2.1
          rw [e]
          exact wbf_s hT l2 (by omega)
        refine ⟨aup (aup E4 285 (5 * u + c 11) (n' : Int)) 283 u ((c 11 + 1 : Nat) : Int), ?_, w', s5.fr (s5.1.wr (by decide) (by decide) (by show ¬ u / 1 = v; rw [Nat.div_one]; exact v5) _) (fun j _ => by rw [aupN (by decide)]), fun _ => ⟨wbz, ?_, fun lb => lb.same (Nat.le_of_lt gt) (by rw [aupN (by decide), aupN (by decide), ff 47 (by decide)]) (by rw [aupN (by decide), aupN (by decide), ff 53 (by decide)]) (by rw [aupN (by decide), aupN (by decide), ff 12 (by decide)]), fun z => ?_, fun Y hw0 hY hO hR => ?_⟩⟩
        · simp (disch := omega) only [k256, o1, pr_41 hp4, n_285 hκ, h13e, pr_39 hp4, e19d, n_283 hκ, en4, cond_true, cond_false, Bool.and_true, Bool.true_and, Bool.and_false, Bool.false_and, Int.toNat_natCast, Int.reduceToNat, bI_s, bJ_s, bV_s, bR_s, decide_true, decide_false, not_true_eq_false, not_false_eq_true, dT, dF, w_al, w_la, w_ab, w_sl, w_sb, w_dec, w_ml, w_lm, ol2i_n, aup_ne, aupE, aupJ, setc_self, setc_ne]
        · rw [hK]
          refine RvC.up hcc ?_ ?_ (fun s hs2 => ?_) ?_ ?_ ?_ (fun j hj e => ?_)
          · rw [aupN (by decide), aupN (by decide), fc 264 (by decide) (by decide) (by decide) (by decide), c0]; rfl
          · rw [aupN (by decide), aupN (by decide), fc 267 (by decide) (by decide) (by decide) (by decide), c1]; rfl
          · rw [aupN (by decide), aupN (by decide), fc 274 (by decide) (by decide) (by decide) (by decide), c6 s hs2, if_neg (by omega)]
          · rw [aupN (by decide), aupN (by decide), fc 277 (by decide) (by decide) (by decide) (by decide), c9]; rfl
          · rw [aupN (by decide), aupN (by decide), fc 279 (by decide) (by decide) (by decide) (by decide), c10]; rfl
          · rw [aupE]; rfl
          · have : j = 11 := by omega
            subst this
            omega
        · rw [l1 (by rw [w1N_k z]; exact z), w1N_k z]
        · rw [mt139 hK]
          have hpr : PcR (aup E2 284 (5 * u + c 11) x) u c Y.1 := fun s' hs' => by
            have en : c (6 + s') = xnp Y.1 s' := by
              obtain ⟨y0, y1, y6, y7, y8, _⟩ := hY
              have hs3 : s' = 0 ∨ s' = 1 ∨ s' = 2 := by omega
              rcases hs3 with rfl | rfl | rfl
              · exact y6
              · exact y7
              · exact y8
            refine ⟨en, fun k hk2 => ?_⟩
            rw [f3q 275 (by decide) (by decide)]
            have := ((hR.1.2.2.1 s' hs').2 k (by rw [← en]; exact hk2)).1
            rw [sid_q (by decide)] at this
            exact this
          have ewf : (fun i => wsm (fun _ => 0) (fun _ => 0) i 0) = (fun _ : Nat => 0) := rfl
          by_cases hw1 : (w1N T (a + 1) 0 999 w).1 = 0
          · have := l3 Y.1 (fun _ => 0) (fun _ => 0) hO.1 hpr hw1 (fun i hi => absurd hi (Nat.not_lt_zero i))
            rw [m1, ewf] at this
            refine ⟨this.1, fun hz => ?_⟩
            obtain ⟨P', M', q1, q2⟩ := this.2 hz
            have y11 := hY.2.2.2.2.2.2.2
            have f1' := f1
            rw [y11] at q1 k5 f1'
            rw [y11]
            have hL4 : ∀ q, q = 286 ∨ q = 287 → aup (aup E4 285 (5 * u + xnl Y.1) (n' : Int)) 283 u ((xnl Y.1 + 1 : Nat) : Int) q = E3 q := fun q hq => by rw [aupN (by omega), aupN (by omega)]; exact o3.cell (by omega)
            refine rLand_fin (n' := n') (P := P') (M := M') v4 f1' k1 (fun q q1 q2 q3 q4 q5 q6 => by rw [aupN q2, aupN q4]; exact fc q q1 q3 q5 q6) (by rw [aupE]) ?_ (fun j hj => ?_) (by rw [aupN (by decide), aupE]) (fun j hj => ?_) (fun i hi => ?_) q2 hR
            · rw [aupN (by decide), aupN (by decide), o3.cell (by decide), k5.1 284 (by decide) (by decide) (by decide), ← y11, aupE]; exact ex
            · rw [aupN (by decide), aupN (by decide), aupN (by decide), aupJ hj, o3.cell (by decide), k5.1 284 (by decide) (by decide) (by decide), aupJ hj, fc 285 (by decide) (by decide) (by decide) (by decide), rq2.cell (by decide)]
              exact ⟨rfl, rfl⟩
            · rw [hL4 286 (Or.inl rfl), hL4 287 (Or.inr rfl), (k5.2.1 j (Or.inl (by omega))).1, (k5.2.1 j (Or.inl (by omega))).2, aupN (by decide), aupN (by decide), rq2.cell (by decide), rq2.cell (by decide)]
              exact ⟨rfl, rfl⟩
            · rw [hL4 286 (Or.inl rfl), hL4 287 (Or.inr rfl)]
              exact q1 i hi
          · refine ⟨?_, fun hz => absurd (by rw [← l1 hw1]; exact hz) hw1⟩
            rw [l1 hw1, wnM_k _ _ _ _ hw1]
      · refine ⟨aup E4 285 (5 * u + c 11) (n' : Int), ?_, w', s5, fun q => absurd q hf⟩
        simp (disch := omega) only [k256, o1, pr_41 hp4, n_285 hκ, h13d, cond_true, cond_false, Bool.and_true, Bool.true_and, Bool.and_false, Bool.false_and, Int.toNat_natCast, Int.reduceToNat, bI_s, bJ_s, bV_s, bR_s, decide_true, decide_false, not_true_eq_false, not_false_eq_true, dT, dF, w_al, w_la, w_ab, w_sl, w_sb, w_dec, w_ml, w_lm, ol2i_n, aup_ne, aupE, aupJ, setc_self, setc_ne]
  · have ee : rtG T c a = fstG T 139 (c 11) 5 (a, 0) := by
      rw [er, mu_f hf1, wntG_f hf1, mu_f hf1]
    rw [← ee] at a2 hf1 h13
    refine ⟨E1, ?_, w, a2, fun q => absurd q hf1⟩
    simp (disch := omega) only [cond_true, cond_false, Bool.and_true, Bool.true_and, Bool.and_false, Bool.false_and, Int.toNat_natCast, Int.reduceToNat, bI_s, bJ_s, bV_s, bR_s, decide_true, decide_false, not_true_eq_false, not_false_eq_true, dT, dF, w_al, w_la, w_ab, w_sl, w_sb, w_dec, w_ml, w_lm, ol2i_n, aup_ne, aupE, aupJ, setc_self, setc_ne, h13]
