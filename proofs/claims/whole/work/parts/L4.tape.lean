/-! The calls of the law: feed, back, read. -/
theorem byB_rng (x : Int) (s : Nat) : -128 ≤ byB x s ∧ byB x s ≤ 127 := oi2b_rng _
theorem wr1_eq {f g : Nat → Int} {n m : Nat} {b : Int} (h : ∀ j, j < n → f j = g j) (hm : m = n) : ∀ j, j < n + 1 → wr1 f m b j = wr1 g m b j := fun j hj => by
  unfold wr1
  by_cases e : j = m
  · rw [if_pos e, if_pos e]
  · rw [if_neg e, if_neg e]
    exact h j (by omega)
theorem wr1_rng {f : Nat → Int} {n m : Nat} {b : Int} (h : ∀ j, j < n → -128 ≤ f j ∧ f j ≤ 127) (hm : m = n) (hb : -128 ≤ b ∧ b ≤ 127) : ∀ j, j < n + 1 → -128 ≤ wr1 f m b j ∧ wr1 f m b j ≤ 127 := fun j hj => by
  unfold wr1
  by_cases e : j = m
  · rw [if_pos e]; exact hb
  · rw [if_neg e]; exact h j (by omega)
theorem wr4_eq {f g : Nat → Int} {n m : Nat} {x : Int} (h : ∀ j, j < n → f j = g j) (hm : m = n) : ∀ j, j < n + 4 → wr4 f m x j = wr4 g m x j := wr1_eq (wr1_eq (wr1_eq (wr1_eq h hm) (by omega)) (by omega)) (by omega)
theorem wr4_rng {f : Nat → Int} {n m : Nat} {x : Int} (h : ∀ j, j < n → -128 ≤ f j ∧ f j ≤ 127) (hm : m = n) : ∀ j, j < n + 4 → -128 ≤ wr4 f m x j ∧ wr4 f m x j ≤ 127 := wr1_rng (wr1_rng (wr1_rng (wr1_rng h hm (byB_rng _ _)) (by omega) (byB_rng _ _)) (by omega) (byB_rng _ _)) (by omega) (byB_rng _ _)
theorem wr20_eq {f g : Nat → Int} {n : Nat} {a b c e k : Int} (h : ∀ j, j < n → f j = g j) : ∀ j, j < n + 20 → wr20 f n a b c e k j = wr20 g n a b c e k j := wr4_eq (wr4_eq (wr4_eq (wr4_eq (wr4_eq h rfl) rfl) rfl) rfl) rfl
theorem wr20_rng {f : Nat → Int} {n : Nat} {a b c e k : Int} (h : ∀ j, j < n → -128 ≤ f j ∧ f j ≤ 127) : ∀ j, j < n + 20 → -128 ≤ wr20 f n a b c e k j ∧ wr20 f n a b c e k j ≤ 127 := wr4_rng (wr4_rng (wr4_rng (wr4_rng (wr4_rng h rfl) rfl) rfl) rfl) rfl
theorem pd_tp : ptrc 1 = false := by decide
/-- the class, its tape changed -/
theorem IC.tp {κ : aK} {D D' : Nat → Nat → Int} {t t' : Nat} {X : TX} {S : ST} {n : Nat} {H : Nat → ST} {Hd : Nat → Option ST} {tn tn' : Nat} {f f' : Nat → Int} {pl : Int} (h : IC κ D t t' X S n H Hd tn f pl) (hd : ∀ q, 2 ≤ q → q < 256 → D' q = D q) (h0 : ∀ j, j ≠ 1 → D' 0 j = D 0 j) (h1 : D' 0 1 = (tn' : Int)) (hf : ∀ j, j < tn' → D' 1 j = f' j) : IC κ D' t t' X S n H Hd tn' f' pl := by
  obtain ⟨a, b, c, ⟨e1, e2, e3⟩, g, i, j, k1, k2, k3⟩ := h
  have ht' : t = 9 ∨ t = 31 := a.2.2.1
  obtain ⟨hκ, hc, ht, h5, hx, hst, hh, hl⟩ := a
  have hc' : CPtr D' := hc.congr (fun r k hr => by
    by_cases z0 : r = 0
    · subst z0
      refine h0 k (fun z => ?_)
      subst z
      exact absurd (pd_0.1.symm.trans hr) Bool.false_ne_true
    · by_cases z1 : r = 1
      · subst z1
        have := ptrd_c hr
        exact absurd (pd_tp.symm.trans this) Bool.false_ne_true
      · rw [hd r (by omega) (by
          have := ptrd_c hr
          unfold ptrc at this
          obtain ⟨p, hp, e⟩ := List.any_eq_true.mp this
          have := ppl_lo p hp
          rw [Nat.eq_of_beq_eq_true e] at this
          exact this)])
  refine ⟨⟨hκ, hc', ht, by rw [h0 5 (by decide)]; exact h5, hx.congr (fun q h1 h2 => hd q (by omega) (by omega)), hst.congr (fun q h1 h2 => hd q (by omega) (by omega)), hh.congr (fun j hj => h0 j (by omega)) (fun q h1 h2 => hd q (by omega) (by omega)), hl.congr (h0 13 (by decide)) (fun q h1 h2 => hd q (by omega) (by omega))⟩, b.of (by rw [hd _ (by omega) (by omega)]) (hd _ (by omega) (by omega)) (hd _ (by omega) (by omega)), fun q hq => ?_, ⟨e1, e2, ?_⟩, g.of (KLe.rfl' κ) (hd _ (by omega) (by omega)) (hd _ (by omega) (by omega)), i.of (KLe.rfl' κ) (hd _ (by omega) (by omega)) (fun q _ _ => hd q (by omega) (by omega)) rfl rfl, j.of (fun q _ _ => hd q (by omega) (by omega)), h1, ?_, hf⟩
  · rw [hd 6 (by decide) (by decide)]; exact c q hq
  · rw [h0 6 (by decide)]; exact e3
  · rw [h0 2 (by decide)]; exact k2
theorem IR.tp {D D' : Nat → Nat → Int} {v : Nat} {X : TX} {S : ST} {n : Nat} {H : Nat → ST} {Hd : Nat → Option ST} {tn tn' : Nat} {f f' : Nat → Int} {pl : Int} (h : IR D v X S n H Hd tn f pl) (hd : ∀ q, 258 ≤ q → q < 315 → D' q = D q) (h0 : ∀ j, j ≠ 2 → D' 256 j = D 256 j) (h1 : D' 256 2 = (tn' : Int)) (hf : ∀ j, j < tn' → D' 257 j = f' j) : IR D' v X S n H Hd tn' f' pl := by
  obtain ⟨⟨⟨p1, p2, p3, p4, p5⟩, b, c, e⟩, l, ky, e1, e2, e3⟩ := h
  refine ⟨⟨⟨p1.of (fun j hj => h0 j (prL_ne hj (by decide))), by rw [h0 18 (by decide)]; exact p2, p3, by rw [hd 303 (by decide) (by decide)]; exact p4, TxV.congr p5 (fun q q1 q2 => hd q (by omega) (by omega)) (h0 18 (by decide))⟩, by rw [hd 301 (by decide) (by decide)]; exact b, c.congr (h0 70 (by decide)) (hd 304 (by decide) (by decide)), e.congr (hd 313 (by decide) (by decide)) (hd 314 (by decide) (by decide))⟩, l.congr (fun q q1 q2 => hd q (by omega) (by omega)) rfl, fun q hq => ?_, h1, ?_, hf⟩
  · rw [hd 263 (by decide) (by decide)]; exact ky q hq
  · rw [h0 17 (by decide)]; exact e2
theorem bd_feed {xs : List Int} {κ : aK} {D : Nat → Nat → Int} (h : Inv κ D) (w1 w2 w3 w4 w5 : Int) : Bth xs κ D 127 188 [.inl w1, .inl w2, .inl w3, .inl w4, .inl w5] := by
  obtain ⟨t, t', v, X, S, n, H, Hd, tn, f, pl, hA, htn, hf, hC, hR, hm⟩ := h
  obtain ⟨hκ, hc, ht, h5, hx, hs, hh, hl⟩ := hC.1
  have c1 := hC.2.2.2.2.2.2.2
  have r1 := hR.2.2.2
  have e1 := cfeed xs 1298 hκ hc c1.1 htn w1 w2 w3 w4 w5
  by_cases hq : tn + 20 ≤ 2000
  · rw [if_pos hq] at e1
    have hC1 := hC.tp (D' := tpD D 0 1 1 (tn + 20) (wr20 (D 1) tn w1 w2 w3 w4 w5)) (tn' := tn + 20) (f' := wr20 f tn w1 w2 w3 w4 w5) (fun q q1 q2 => by unfold tpD; rw [aupN (by omega), setc_ne (by omega)]) (fun j hj => tp_o (by decide) hj) (tp_k ..) (fun j hj => by rw [tp_r (by decide)]; exact wr20_eq c1.2.2 j hj)
    have hR1 := hR.hi (D' := tpD D 0 1 1 (tn + 20) (wr20 (D 1) tn w1 w2 w3 w4 w5)) (fun q q1 q2 => by unfold tpD; rw [aupN (by omega), setc_ne (by omega)])
    have hm1 := hm.same (D' := tpD D 0 1 1 (tn + 20) (wr20 (D 1) tn w1 w2 w3 w4 w5)) hC.2.2.2.2.2.1 (by unfold tpD; rw [aupN (by omega), setc_ne (by omega)]) (fun j _ => by unfold tpD; rw [aupN (by omega), setc_ne (by omega)])
    have e2 := rfeed xs 1298 hκ hR1.1.1.1 hR1.2.2.2.1 htn w1 w2 w3 w4 w5
    rw [if_pos hq] at e2
    have rr := hR1.2.2.2
    have hR2 := hR1.tp (D' := tpD (tpD D 0 1 1 (tn + 20) (wr20 (D 1) tn w1 w2 w3 w4 w5)) 256 257 2 (tn + 20) (wr20 (tpD D 0 1 1 (tn + 20) (wr20 (D 1) tn w1 w2 w3 w4 w5) 257) tn w1 w2 w3 w4 w5)) (tn' := tn + 20) (f' := wr20 f tn w1 w2 w3 w4 w5) (fun q q1 q2 => by
      show aup (setc _ 257 _) 256 2 _ q = _
      rw [aupN (by omega), setc_ne (by omega)]) (fun j hj => tp_o (by decide) hj) (tp_k ..) (fun j hj => by rw [tp_r (by decide)]; exact wr20_eq rr.2.2 j hj)
    refine bth e1 e2 hA hq (wr20_rng hf) hC1 hR2 (fun q q1 => ?_) hm1
    show aup (setc _ 257 _) 256 2 _ q = _
    rw [aupN (by omega), setc_ne (by omega)]
  · rw [if_neg hq] at e1
    have e2 := rfeed xs 1298 hκ hR.1.1.1 r1.1 htn w1 w2 w3 w4 w5
    rw [if_neg hq] at e2
    exact bthQ0 e1 e2 hA htn hf hC hR hm
theorem bd_back {xs : List Int} {κ : aK} {D : Nat → Nat → Int} (h : Inv κ D) (w1 : Int) : Bth xs κ D 129 190 [.inl w1] := by
  obtain ⟨t, t', v, X, S, n, H, Hd, tn, f, pl, hA, htn, hf, hC, hR, hm⟩ := h
  obtain ⟨hκ, hc, ht, h5, hx, hs, hh, hl⟩ := hC.1
  have c1 := hC.2.2.2.2.2.2.2
  have r1 := hR.2.2.2
  have e1 := cback xs 1299 hκ c1.1 htn w1
  by_cases hq : 0 ≤ w1 ∧ w1 ≤ (tn : Int)
  · rw [if_pos hq] at e1
    have hC1 := hC.tp (D' := aup D 0 1 ((tn - w1.toNat : Nat) : Int)) (tn' := tn - w1.toNat) (f' := f) (fun q q1 q2 => aupN (by omega)) (fun j hj => aupJ hj) (aupE ..) (fun j hj => by rw [aupN (by decide)]; exact c1.2.2 j (by omega))
    have hR1 := hR.hi (D' := aup D 0 1 ((tn - w1.toNat : Nat) : Int)) (fun q q1 q2 => aupN (by omega))
    have hm1 := hm.same (D' := aup D 0 1 ((tn - w1.toNat : Nat) : Int)) hC.2.2.2.2.2.1 (by rw [aupN (by omega)]) (fun j _ => by rw [aupN (by omega)])
    have e2 := rback xs 1299 hκ hR1.2.2.2.1 htn w1
    rw [if_pos hq] at e2
    have rr := hR1.2.2.2
    have hR2 := hR1.tp (D' := aup (aup D 0 1 ((tn - w1.toNat : Nat) : Int)) 256 2 ((tn - w1.toNat : Nat) : Int)) (tn' := tn - w1.toNat) (f' := f) (fun q q1 q2 => aupN (by omega)) (fun j hj => aupJ hj) (aupE ..) (fun j hj => by rw [aupN (by decide)]; exact rr.2.2 j (by omega))
    exact bth e1 e2 hA (by omega) (fun j hj => hf j (by omega)) hC1 hR2 (fun q q1 => aupN (by omega)) hm1
  · rw [if_neg hq] at e1
    have e2 := rback xs 1299 hκ r1.1 htn w1
    rw [if_neg hq] at e2
    exact bthQ0 e1 e2 hA htn hf hC hR hm
theorem bd_read {xs : List Int} {κ : aK} {D : Nat → Nat → Int} (h : Inv κ D) : Bth xs κ D 130 204 [] := by
  obtain ⟨t, t', v, X, S, n, H, Hd, tn, f, pl, hA, htn, hf, hC, hR, hm⟩ := h
  have hC' := hC
  obtain ⟨a, b, c, ⟨e1, e2, e3⟩, g, i, j, k1, k2, k3⟩ := hC'
  have hκ := a.1
  obtain ⟨E, q1, q2, q3, q4, q5, q6⟩ := cread xs 1288 c htn k1 (fun j hj => ⟨k3 j hj, hf j hj⟩) e1 e2 e3 a b
  have hR1 := hR.hi (D' := E) (fun q q1 q2 => q4 q (Or.inr (Or.inr q1)))
  obtain ⟨F, r1, r2, r3, r4, r5, r6⟩ := rread xs 1292 hκ hR1.2.2.1 htn hR1.2.2.2.1 (fun j hj => ⟨hR1.2.2.2.2.2 j hj, hf j hj⟩) hA.1 hR1.1 hR1.2.1
  have hF : ∀ q, q < 256 → F q = E q := fun q hq => r4 q (Or.inl hq)
  have hky : KyR F := fun q hq => by rw [r4 263 (Or.inr (Or.inr rfl))]; exact hR1.2.2.1 q hq
  by_cases hz : rdF (tkT f tn) = 0
  · obtain ⟨s1, s2, s3, s4, s5, s6, s7, s8⟩ := q6 hz
    obtain ⟨u1, u2, u3⟩ := r6 hz
    have hO : OrdOK κ E (rdX (tkT f tn)) (S0 (rdX (tkT f tn))) := i.none (KLe.rfl' κ) (fun j hj => (s5 j hj).2) s8
    refine bth (tn := 0) (f := f) q1 r1 (S0_a u1) (Nat.zero_le _) (fun j hj => absurd hj (Nat.not_lt_zero j)) ⟨s1, s2, fun q hq => ?_, ⟨a.2.2.1, by omega, s3⟩, ⟨?_, 0, by decide, s6, fun n _ hb => ?_⟩, hO, Or.inl s7, q2, q3, fun j hj => absurd hj (Nat.not_lt_zero j)⟩ ⟨u2, u3, hky, r2, r3, fun j hj => absurd hj (Nat.not_lt_zero j)⟩ hF (hm.same i (s5 2 (by decide)).1 (fun j hj => (s5 j hj).2))
    · rw [q4 6 (Or.inr (Or.inl rfl))]; exact c q hq
    · have g1 := g.1
      unfold MdTab at g1 ⊢
      rw [(s5 2 (by decide)).1, (s5 3 (by decide)).1]
      exact g1
    · rw [Nat.zero_testBit] at hb
      cases hb
  · obtain ⟨s1, s2, s3, s4⟩ := q5 hz
    obtain ⟨u1, u2⟩ := r5 hz
    refine bth (tn := 0) (f := f) q1 r1 hA (Nat.zero_le _) (fun j hj => absurd hj (Nat.not_lt_zero j)) ⟨s1, s2, fun q hq => ?_, ⟨e1, e2, s3⟩, g.of (KLe.rfl' κ) (s4 68 (by decide)) (s4 69 (by decide)), i.of (KLe.rfl' κ) (s4 77 (by decide)) (fun q a b => s4 q (by omega)) rfl rfl, j.of (fun q a b => s4 q (by omega)), q2, q3, fun j hj => absurd hj (Nat.not_lt_zero j)⟩ ⟨u1, u2, hky, r2, r3, fun j hj => absurd hj (Nat.not_lt_zero j)⟩ hF (hm.same i (by rw [s4 68 (by decide)]) (fun j _ => by rw [s4 77 (by decide)]))
    rw [q4 6 (Or.inr (Or.inl rfl))]; exact c q hq
