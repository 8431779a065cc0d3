/-! The calls of the law: things done. -/
theorem AOk.ph {X : TX} {S S' : ST} {n : Nat} {H : Nat → ST} {Hd : Nat → Option ST} (h : AOk X S n H Hd) (h' : STok X S') : AOk X S' (phN n) (phH n H S) Hd := by
  obtain ⟨a, b, c, e⟩ := h
  refine ⟨a, h', fun i hi => ?_, e⟩
  unfold phN at hi
  unfold phH
  by_cases hn : n < 30
  · rw [if_pos hn] at hi ⊢
    show STok X (if i = n then S else H i)
    by_cases e : i = n
    · rw [if_pos e]; exact b
    · rw [if_neg e]; exact c i (by omega)
  · rw [if_neg hn] at hi ⊢
    show STok X (if i = 29 then S else H (i + 1))
    by_cases e : i = 29
    · rw [if_pos e]; exact b
    · rw [if_neg e]; exact c (i + 1) (by omega)
theorem cenN_so {X : TX} : ∀ (n : Nat) {S : ST}, son (cenN X n S) = son S ∧ sord (cenN X n S) = sord S
  | 0, _ => ⟨rfl, rfl⟩
  | n + 1, S => by
    have := cenN_so (X := X) n (S := cenS X S)
    exact this
theorem bd_turn {xs : List Int} {κ : aK} {D : Nat → Nat → Int} (h : Inv κ D) (w1 : Int) : Bth xs κ D 148 259 [.inl w1] := by
  obtain ⟨t, t', v, X, S, n, H, Hd, tn, f, pl, hA, htn, hf, hC, hR, hm⟩ := h
  obtain ⟨hκ, hc, ht, h5, hx, hs, hh, hl⟩ := hC.1
  obtain ⟨hX, hS, hA3, hA4⟩ := hA
  rcases cturn xs 1297 ⟨hX, hS, hA3, hA4⟩ hC.1 w1 with ⟨k, rfl, hk, D1, e1, c1, s⟩ | ⟨hno, e1⟩
  · have hR1 := hR.hi (D' := D1) (fun q q1 q2 => s.1 q (by omega))
    obtain ⟨D2, e2, r1, r2⟩ := rturn xs 1297 hκ ⟨hX, hS, hA3, hA4⟩ hR1.1 hk
    exact bth e1 e2 (AOk.ph ⟨hX, hS, hA3, hA4⟩ (turn_ok hS hk)) htn hf (hC.cff s c1) (hR1.fr r2 r1) (fun q hq => r2.out hq) (hm.same (D' := D1) hC.2.2.2.2.2.1 (by rw [s.1 68 (by omega)]) (fun j hj => (s.2.2.1 j hj).2))
  · have e2 := rturn_no xs 1297 hκ hX hR.1.1 hno
    exact bthQ0 e1 e2 ⟨hX, hS, hA3, hA4⟩ htn hf hC hR hm
theorem bd_swap {xs : List Int} {κ : aK} {D : Nat → Nat → Int} (h : Inv κ D) (w1 w2 : Int) : Bth xs κ D 149 260 [.inl w1, .inl w2] := by
  obtain ⟨t, t', v, X, S, n, H, Hd, tn, f, pl, hA, htn, hf, hC, hR, hm⟩ := h
  obtain ⟨hκ, hc, ht, h5, hx, hs, hh, hl⟩ := hC.1
  obtain ⟨hX, hS, hA3, hA4⟩ := hA
  by_cases hq : (0 ≤ w1 ∧ w1 < (xns X : Int)) ∧ (0 ≤ w2 ∧ w2 < (xns X : Int)) ∧ w1 ≠ w2
  · obtain ⟨⟨a1, a2⟩, ⟨b1, b2⟩, hne⟩ := hq
    obtain ⟨a, rfl⟩ := Int.eq_ofNat_of_zero_le a1
    obtain ⟨b, rfl⟩ := Int.eq_ofNat_of_zero_le b1
    have ha : a < xns X := by omega
    have hb : b < xns X := by omega
    have hab : a ≠ b := fun e => hne (by rw [e])
    obtain ⟨D1, e1, c1, s⟩ := cswap xs 1297 ⟨hX, hS, hA3, hA4⟩ hC.1 ha hb hab
    have hR1 := hR.hi (D' := D1) (fun q q1 q2 => s.1 q (by omega))
    obtain ⟨D2, e2, r1, r2⟩ := rswap xs 1297 hκ ⟨hX, hS, hA3, hA4⟩ hR1.1 ha hb hab
    exact bth e1 e2 (AOk.ph ⟨hX, hS, hA3, hA4⟩ (swap_ok hS ha hb hab)) htn hf (hC.cff s c1) (hR1.fr r2 r1) (fun q hq => r2.out hq) (hm.same (D' := D1) hC.2.2.2.2.2.1 (by rw [s.1 68 (by omega)]) (fun j hj => (s.2.2.1 j hj).2))
  · have e1 := cswap_no xs 1297 ⟨hX, hS, hA3, hA4⟩ hC.1 hq
    have e2 := rswap_no xs 1297 hκ hX hR.1.1 hq
    exact bthQ0 e1 e2 ⟨hX, hS, hA3, hA4⟩ htn hf hC hR hm
theorem bd_grind {xs : List Int} {κ : aK} {D : Nat → Nat → Int} (h : Inv κ D) (w1 : Int) : Bth xs κ D 150 264 [.inl w1] := by
  obtain ⟨t, t', v, X, S, n, H, Hd, tn, f, pl, hA, htn, hf, hC, hR, hm⟩ := h
  obtain ⟨hκ, hc, ht, h5, hx, hs, hh, hl⟩ := hC.1
  obtain ⟨hX, hS, hA3, hA4⟩ := hA
  by_cases hq : (0 ≤ w1 ∧ w1 < (xnw X : Int)) ∧ sFt S w1.toNat = 0
  · obtain ⟨⟨a1, a2⟩, h0⟩ := hq
    obtain ⟨w, rfl⟩ := Int.eq_ofNat_of_zero_le a1
    have hw : w < xnw X := by omega
    have h0 : sFt S w = 0 := h0
    obtain ⟨D1, e1, c1, s⟩ := cgrind xs 1259 ⟨hX, hS, hA3, hA4⟩ hC.1 (LwC.law hκ ht hC.2.1) hw h0
    have hR1 := hR.hi (D' := D1) (fun q q1 q2 => s.1 q (by omega))
    obtain ⟨D2, e2, r1, r2⟩ := rgrind xs 1259 hκ ⟨hX, hS, hA3, hA4⟩ hR1.1 (LwR.law hκ hR1.1.1.2.2.1 hR1.2.1) hw h0
    have ht' : t = 9 ∨ t = 31 := ht
    exact bth e1 e2 (AOk.ph ⟨hX, hS, hA3, hA4⟩ (grnd_ok hX hS hw h0)) htn hf (hC.cfr s c1 rfl rfl) (hR1.fr r2 r1) (fun q hq => r2.out hq) (hm.same (D' := D1) hC.2.2.2.2.2.1 (by rw [s.1 68 (by omega)]) (fun j _ => by rw [s.1 77 (by omega)]))
  · have e1 := cgrind_no xs 1259 hκ hc ht h5 hX hx hS hs hq
    obtain ⟨D2, r, e2⟩ := rgrind_no xs 1259 hκ hX hR.1.1 hS hR.1.2.1 hq
    exact bthQ e1 e2 ⟨hX, hS, hA3, hA4⟩ htn hf hC hR r hm
theorem bd_sell {xs : List Int} {κ : aK} {D : Nat → Nat → Int} (h : Inv κ D) (w1 : Int) : Bth xs κ D 152 269 [.inl w1] := by
  obtain ⟨t, t', v, X, S, n, H, Hd, tn, f, pl, hA, htn, hf, hC, hR, hm⟩ := h
  obtain ⟨hκ, hc, ht, h5, hx, hs, hh, hl⟩ := hC.1
  obtain ⟨hX, hS, hA3, hA4⟩ := hA
  by_cases hq : canS X S w1
  · have hq' := hq
    obtain ⟨⟨a1, a2⟩, -, -⟩ := hq'
    obtain ⟨l, rfl⟩ := Int.eq_ofNat_of_zero_le a1
    have hl' : l < xnl X := by omega
    obtain ⟨D1, e1, c1, s⟩ := csell xs 1297 ⟨hX, hS, hA3, hA4⟩ hC.1 hq
    have hR1 := hR.hi (D' := D1) (fun q q1 q2 => s.1 q (by omega))
    obtain ⟨D2, e2, r1, r2⟩ := rsell xs 1296 hκ ⟨hX, hS, hA3, hA4⟩ hR1.1 hq
    exact bth e1 e2 (AOk.ph ⟨hX, hS, hA3, hA4⟩ (sell_ok hS hl')) htn hf (hC.cfr (s.w ht) c1 rfl rfl) (hR1.fr r2 r1) (fun q hq => r2.out hq) (hm.same (D' := D1) hC.2.2.2.2.2.1 (by rw [s.1 68 (by omega)]) (fun j _ => by rw [s.1 77 (by omega)]))
  · have e1 := csell_no xs 1297 ⟨hX, hS, hA3, hA4⟩ hC.1 hq
    obtain ⟨D2, r, e2⟩ := rsell_no xs 1296 hκ ⟨hX, hS, hA3, hA4⟩ hR.1 hq
    exact bthQ e1 e2 ⟨hX, hS, hA3, hA4⟩ htn hf hC hR r hm
theorem bd_cent {xs : List Int} {κ : aK} {D : Nat → Nat → Int} (h : Inv κ D) (w1 : Int) : Bth xs κ D 154 274 [.inl w1] := by
  obtain ⟨t, t', v, X, S, n, H, Hd, tn, f, pl, hA, htn, hf, hC, hR, hm⟩ := h
  obtain ⟨hκ, hc, ht, h5, hx, hs, hh, hl⟩ := hC.1
  obtain ⟨hX, hS, hA3, hA4⟩ := hA
  by_cases hq : 0 ≤ w1 ∧ w1 ≤ 100
  · obtain ⟨k, rfl⟩ := Int.eq_ofNat_of_zero_le hq.1
    by_cases hk0 : k = 0
    · subst hk0
      have e1 := ccent_0 xs 1295 hC.1
      have e2 := rcent_0 xs 1296 hκ hR.1
      exact bthQ0 e1 e2 ⟨hX, hS, hA3, hA4⟩ htn hf hC hR hm
    · have hk1 : 1 ≤ k := by omega
      have hk2 : k ≤ 100 := by omega
      obtain ⟨D1, e1, c1, s⟩ := ccent xs 1295 ⟨hX, hS, hA3, hA4⟩ hC.1 hk1 hk2
      have hR1 := hR.hi (D' := D1) (fun q q1 q2 => s.1 q (by omega))
      obtain ⟨D2, e2, r1, r2⟩ := rcent xs 1296 hκ ⟨hX, hS, hA3, hA4⟩ hR1.1 hk1 hk2
      exact bth e1 e2 (AOk.ph ⟨hX, hS, hA3, hA4⟩ (cenN_ok hX k hS)) htn hf (hC.cfr (s.w ht) c1 (cenN_so k).1 (cenN_so k).2) (hR1.fr r2 r1) (fun q hq => r2.out hq) (hm.same (D' := D1) hC.2.2.2.2.2.1 (by rw [s.1 68 (by omega)]) (fun j _ => by rw [s.1 77 (by omega)]))
  · have e1 := ccent_no xs 1295 (κ, D) hq
    have e2 := rcent_no xs 1296 (κ := κ) (D := D) hq
    exact bthQ0 e1 e2 ⟨hX, hS, hA3, hA4⟩ htn hf hC hR hm
theorem bd_undo {xs : List Int} {κ : aK} {D : Nat → Nat → Int} (h : Inv κ D) : Bth xs κ D 155 275 [] := by
  obtain ⟨t, t', v, X, S, n, H, Hd, tn, f, pl, hA, htn, hf, hC, hR, hm⟩ := h
  obtain ⟨hκ, hc, ht, h5, hx, hs, hh, hl⟩ := hC.1
  obtain ⟨hX, hS, hA3, hA4⟩ := hA
  cases n with
  | zero =>
    have e1 := cundo_no xs 1297 hC.1
    have e2 := rundo_no xs 1297 hκ hR.1
    exact bthQ0 e1 e2 ⟨hX, hS, hA3, hA4⟩ htn hf hC hR hm
  | succ n =>
    obtain ⟨D1, e1, c1, s⟩ := cundo xs 1297 ⟨hX, hS, hA3, hA4⟩ hC.1
    have hR1 := hR.hi (D' := D1) (fun q q1 q2 => s.1 q (by omega))
    obtain ⟨D2, e2, r1, r2⟩ := rundo xs 1297 hκ hX hR1.1
    exact bth e1 e2 ⟨hX, hA3 n (Nat.lt_succ_self n), fun i hi => hA3 i (Nat.lt_succ_of_lt hi), hA4⟩ htn hf (hC.cff s c1) (hR1.fr r2 r1) (fun q hq => r2.out hq) (hm.same (D' := D1) hC.2.2.2.2.2.1 (by rw [s.1 68 (by omega)]) (fun j hj => (s.2.2.1 j hj).2))
theorem bd_hold {xs : List Int} {κ : aK} {D : Nat → Nat → Int} (h : Inv κ D) (w1 : Int) : Bth xs κ D 183 313 [.inl w1] := by
  obtain ⟨t, t', v, X, S, n, H, Hd, tn, f, pl, hA, htn, hf, hC, hR, hm⟩ := h
  obtain ⟨hκ, hc, ht, h5, hx, hs, hh, hl⟩ := hC.1
  obtain ⟨hX, hS, hA3, hA4⟩ := hA
  by_cases hq : 0 ≤ w1 ∧ w1 < 3
  · obtain ⟨k, rfl⟩ := Int.eq_ofNat_of_zero_le hq.1
    have hk : k < 3 := by omega
    obtain ⟨D1, e1, c1, s⟩ := chold xs 1298 ⟨hX, hS, hA3, hA4⟩ hC.1 hk
    have hR1 := hR.hi (D' := D1) (fun q q1 q2 => s.1 q (by omega))
    obtain ⟨D2, e2, r1, r2⟩ := rhold xs 1298 hκ hX hR1.1 hk
    exact bth e1 e2 ⟨hX, hS, hA3, fun i hi S' e => by
      unfold holdH at e
      by_cases q : i = k
      · rw [if_pos q] at e
        cases e
        exact hS
      · rw [if_neg q] at e
        exact hA4 i hi S' e⟩ htn hf (hC.cfr (s.w ht) c1 rfl rfl) (hR1.fr r2 r1) (fun q hq => r2.out hq) (hm.same (D' := D1) hC.2.2.2.2.2.1 (by rw [s.1 68 (by omega)]) (fun j _ => by rw [s.1 77 (by omega)]))
  · have e1 := chold_no xs 1298 (κ, D) hq
    have e2 := rhold_no xs 1298 (κ := κ) (D := D) hq
    exact bthQ0 e1 e2 ⟨hX, hS, hA3, hA4⟩ htn hf hC hR hm
theorem bd_restore {xs : List Int} {κ : aK} {D : Nat → Nat → Int} (h : Inv κ D) (w1 : Int) : Bth xs κ D 184 314 [.inl w1] := by
  obtain ⟨t, t', v, X, S, n, H, Hd, tn, f, pl, hA, htn, hf, hC, hR, hm⟩ := h
  obtain ⟨hκ, hc, ht, h5, hx, hs, hh, hl⟩ := hC.1
  obtain ⟨hX, hS, hA3, hA4⟩ := hA
  by_cases hq : 0 ≤ w1 ∧ w1 < 3 ∧ (Hd w1.toNat).isSome = true
  · obtain ⟨a1, a2, a3⟩ := hq
    obtain ⟨k, rfl⟩ := Int.eq_ofNat_of_zero_le a1
    have hk : k < 3 := by omega
    obtain ⟨S', hS'⟩ := Option.isSome_iff_exists.mp (show (Hd k).isSome = true from a3)
    obtain ⟨D1, e1, c1, s⟩ := crestore xs 1298 ⟨hX, hS, hA3, hA4⟩ hC.1 hk hS'
    have hR1 := hR.hi (D' := D1) (fun q q1 q2 => s.1 q (by omega))
    obtain ⟨D2, e2, r1, r2⟩ := rrestore xs 1298 hκ hX hR1.1 hk hS'
    exact bth e1 e2 ⟨hX, hA4 k hk S' hS', fun i hi => absurd hi (Nat.not_lt_zero i), hA4⟩ htn hf (hC.cff s c1) (hR1.fr r2 r1) (fun q hq => r2.out hq) (hm.same (D' := D1) hC.2.2.2.2.2.1 (by rw [s.1 68 (by omega)]) (fun j hj => (s.2.2.1 j hj).2))
  · have e1 := crestore_no xs 1298 hC.1 hq
    have e2 := rrestore_no xs 1298 hκ hR.1 hq
    exact bthQ0 e1 e2 ⟨hX, hS, hA3, hA4⟩ htn hf hC hR hm
