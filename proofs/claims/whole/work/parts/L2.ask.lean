/-! The calls of the law: questions. -/
theorem IC.madeq {κ κ' : aK} {D D' : Nat → Nat → Int} {t t' : Nat} {X : TX} {S : ST} {n : Nat} {H : Nat → ST} {Hd : Nat → Option ST} {tn : Nat} {f : Nat → Int} {pl : Int} (h : IC κ D t t' X S n H Hd tn f pl) (hk : KLe κ κ') (hM : MadeOK κ' D' X) (hc' : CPtr D') (hd : ∀ q, q < 315 → q ≠ 68 → q ≠ 69 → D' q = D q) : IC κ' D' t t' X S n H Hd tn f pl := by
  obtain ⟨a, b, c, ⟨e1, e2, e3⟩, g, i, j, k1, k2, k3⟩ := h
  have ht' : t = 9 ∨ t = 31 := a.2.2.1
  obtain ⟨hκ, hc, ht, h5, hx, hst, hh, hl⟩ := a
  have hd : ∀ q, q < 68 ∨ (69 < q ∧ q < 315) → D' q = D q := fun q hq => hd q (by omega) (by omega) (by omega)
  refine ⟨⟨hk.shp hκ, hc', ht, by rw [hd 0 (by omega)]; exact h5, hx.congr (fun q h1 h2 => hd q (by omega)), hst.congr (fun q h1 h2 => hd q (by omega)), hh.congr (fun j _ => by rw [hd 0 (by omega)]) (fun q h1 h2 => hd q (by omega)), hl.congr (by rw [hd 0 (by omega)]) (fun q h1 h2 => hd q (by omega))⟩, b.of (by rw [hd _ (by omega)]) (hd _ (by omega)) (hd _ (by omega)), fun q hq => ?_, ⟨e1, e2, ?_⟩, hM, i.of hk (hd _ (by omega)) (fun q _ _ => hd q (by omega)) rfl rfl, j.of (fun q _ _ => hd q (by omega)), ?_, ?_, fun j hj => ?_⟩
  · rw [hd 6 (by omega)]; exact c q hq
  · rw [hd 0 (by omega)]; exact e3
  · rw [hd 0 (by omega)]; exact k1
  · rw [hd 0 (by omega)]; exact k2
  · rw [hd 1 (by omega)]; exact k3 j hj
theorem pd_90 : ptrc 90 = false := by decide
theorem bq_word {xs : List Int} {κ : aK} {D : Nat → Nat → Int} (h : Inv κ D) (w1 w2 : Int) : Bth xs κ D 140 243 [.inl w1, .inl w2] := by
  obtain ⟨t, t', v, X, S, n, H, Hd, tn, f, pl, hA, htn, hf, hC, hR, hm⟩ := h
  obtain ⟨hκ, hc, ht, h5, hx, hs, hh, hl⟩ := hC.1
  obtain ⟨hX, hS, hA3, hA4⟩ := hA
  have e1 := cword xs 1296 hκ hc ht h5 hX hx hS hs w1 w2
  have e2 := rword xs 1296 hC.1.1 hX hR.1.1 hS hR.1.2.1 w1 w2
  exact bthQ0 e1 e2 ⟨hX, hS, hA3, hA4⟩ htn hf hC hR hm
theorem bq_run {xs : List Int} {κ : aK} {D : Nat → Nat → Int} (h : Inv κ D) (w1 w2 : Int) : Bth xs κ D 141 244 [.inl w1, .inl w2] := by
  obtain ⟨t, t', v, X, S, n, H, Hd, tn, f, pl, hA, htn, hf, hC, hR, hm⟩ := h
  obtain ⟨hκ, hc, ht, h5, hx, hs, hh, hl⟩ := hC.1
  obtain ⟨hX, hS, hA3, hA4⟩ := hA
  have e1 := crun xs 1295 hκ hc ht h5 hX hx hS hs w1 w2
  obtain ⟨D2, r, e2⟩ := rrun xs 1295 hC.1.1 hX hR.1.1 hS hR.1.2.1 w1 w2
  exact bthQ e1 e2 ⟨hX, hS, hA3, hA4⟩ htn hf hC hR r hm
theorem bq_stage {xs : List Int} {κ : aK} {D : Nat → Nat → Int} (h : Inv κ D) (w1 w2 w3 : Int) : Bth xs κ D 142 245 [.inl w1, .inl w2, .inl w3] := by
  obtain ⟨t, t', v, X, S, n, H, Hd, tn, f, pl, hA, htn, hf, hC, hR, hm⟩ := h
  obtain ⟨hκ, hc, ht, h5, hx, hs, hh, hl⟩ := hC.1
  obtain ⟨hX, hS, hA3, hA4⟩ := hA
  have e1 := cstage xs 1295 hκ hc ht h5 hX hx hS hs w1 w2 w3
  obtain ⟨D2, r, e2⟩ := rstage xs 1295 hC.1.1 hX hR.1.1 hS hR.1.2.1 w1 w2 w3
  exact bthQ e1 e2 ⟨hX, hS, hA3, hA4⟩ htn hf hC hR r hm
theorem bq_jams {xs : List Int} {κ : aK} {D : Nat → Nat → Int} (h : Inv κ D) (w1 : Int) : Bth xs κ D 143 246 [.inl w1] := by
  obtain ⟨t, t', v, X, S, n, H, Hd, tn, f, pl, hA, htn, hf, hC, hR, hm⟩ := h
  obtain ⟨hκ, hc, ht, h5, hx, hs, hh, hl⟩ := hC.1
  obtain ⟨hX, hS, hA3, hA4⟩ := hA
  have e1 := cjams xs 1297 hκ hc ht h5 hX hx hS hs w1
  obtain ⟨D2, r, e2⟩ := rjams xs 1297 hC.1.1 hX hR.1.1 hS hR.1.2.1 w1
  exact bthQ e1 e2 ⟨hX, hS, hA3, hA4⟩ htn hf hC hR r hm
theorem bq_way {xs : List Int} {κ : aK} {D : Nat → Nat → Int} (h : Inv κ D) (w1 w2 : Int) : Bth xs κ D 144 255 [.inl w1, .inl w2] := by
  obtain ⟨t, t', v, X, S, n, H, Hd, tn, f, pl, hA, htn, hf, hC, hR, hm⟩ := h
  obtain ⟨hκ, hc, ht, h5, hx, hs, hh, hl⟩ := hC.1
  obtain ⟨hX, hS, hA3, hA4⟩ := hA
  obtain ⟨D1, s, e1⟩ := cway xs 1294 hκ hc ht h5 hX hx hS hs w1 w2
  have hR1 := hR.hi (D' := D1) (fun q q1 q2 => s.1 q (by omega))
  have hC1 := hC.scr s
  have hm1 := hm.same (D' := D1) hC.2.2.2.2.2.1 (by rw [s.1 68 (by omega)]) (fun j _ => by rw [s.1 77 (by omega)])
  obtain ⟨D2, r, e2⟩ := rway xs 1295 hC1.1.1 hX hR1.1.1 hS hR1.1.2.1 w1 w2
  exact bthQ e1 e2 ⟨hX, hS, hA3, hA4⟩ htn hf hC1 hR1 r hm1
theorem bq_order {xs : List Int} {κ : aK} {D : Nat → Nat → Int} (h : Inv κ D) (w1 : Int) : Bth xs κ D 145 256 [.inl w1] := by
  obtain ⟨t, t', v, X, S, n, H, Hd, tn, f, pl, hA, htn, hf, hC, hR, hm⟩ := h
  obtain ⟨hκ, hc, ht, h5, hx, hs, hh, hl⟩ := hC.1
  obtain ⟨hX, hS, hA3, hA4⟩ := hA
  have e1 := corder xs 1298 hκ hc ht h5 hX hx hS hs w1
  have e2 := rorder xs 1297 hC.1.1 hX hR.1.1 hS hR.1.2.1 w1
  exact bthQ0 e1 e2 ⟨hX, hS, hA3, hA4⟩ htn hf hC hR hm
theorem bq_isOn {xs : List Int} {κ : aK} {D : Nat → Nat → Int} (h : Inv κ D) (w1 : Int) : Bth xs κ D 146 257 [.inl w1] := by
  obtain ⟨t, t', v, X, S, n, H, Hd, tn, f, pl, hA, htn, hf, hC, hR, hm⟩ := h
  obtain ⟨hκ, hc, ht, h5, hx, hs, hh, hl⟩ := hC.1
  obtain ⟨hX, hS, hA3, hA4⟩ := hA
  have e1 := cisOn xs 1298 hκ hc ht h5 hX hx hS hs w1
  have e2 := risOn xs 1297 hC.1.1 hX hR.1.1 hS hR.1.2.1 w1
  exact bthQ0 e1 e2 ⟨hX, hS, hA3, hA4⟩ htn hf hC hR hm
theorem bq_stock {xs : List Int} {κ : aK} {D : Nat → Nat → Int} (h : Inv κ D) (w1 w2 : Int) : Bth xs κ D 156 276 [.inl w1, .inl w2] := by
  obtain ⟨t, t', v, X, S, n, H, Hd, tn, f, pl, hA, htn, hf, hC, hR, hm⟩ := h
  obtain ⟨hκ, hc, ht, h5, hx, hs, hh, hl⟩ := hC.1
  obtain ⟨hX, hS, hA3, hA4⟩ := hA
  have e1 := cstock xs 1298 hκ hc ht h5 hX hx hS hs w1 w2
  have e2 := rstock xs 1297 hC.1.1 hX hR.1.1 hS hR.1.2.1 w1 w2
  exact bthQ0 e1 e2 ⟨hX, hS, hA3, hA4⟩ htn hf hC hR hm
theorem bq_made {xs : List Int} {κ : aK} {D : Nat → Nat → Int} (h : Inv κ D) (w1 w2 : Int) : Bth xs κ D 157 277 [.inl w1, .inl w2] := by
  obtain ⟨t, t', v, X, S, n, H, Hd, tn, f, pl, hA, htn, hf, hC, hR, hm⟩ := h
  obtain ⟨hκ, hc, ht, h5, hx, hs, hh, hl⟩ := hC.1
  obtain ⟨hX, hS, hA3, hA4⟩ := hA
  obtain ⟨κ1, D1, e1, k1, k2, k3, k4, k5⟩ := cmade xs 1294 hκ hc ht h5 hX hx hC.2.2.2.2.1 w1 w2
  have hR1 := hR.hi (D' := D1) (fun q q1 q2 => k4 q (by omega) (by omega) (by omega))
  have hC1 := hC.madeq k1 k2 k3 k4
  have hm1 : Rm κ1 D1 := hm.of k1 (by rw [orR_of (D' := D1) (D := D) hC.2.2.2.2.2.1 k1 (fun j _ => by rw [k4 77 (by omega) (by omega) (by omega)])]; omega)
  obtain ⟨D2, r, e2⟩ := rmade xs 1296 hC1.1.1 hX hR1.1.1 w1 w2
  exact bthQ e1 e2 ⟨hX, hS, hA3, hA4⟩ htn hf hC1 hR1 r hm1
theorem bq_pair {xs : List Int} {κ : aK} {D : Nat → Nat → Int} (h : Inv κ D) (w1 w2 : Int) : Bth xs κ D 165 281 [.inl w1, .inl w2] := by
  obtain ⟨t, t', v, X, S, n, H, Hd, tn, f, pl, hA, htn, hf, hC, hR, hm⟩ := h
  obtain ⟨hκ, hc, ht, h5, hx, hs, hh, hl⟩ := hC.1
  obtain ⟨hX, hS, hA3, hA4⟩ := hA
  have e1 := cpair xs 1295 hκ hc ht h5 hX hx hS hs w1 w2
  obtain ⟨D2, r, e2⟩ := rpair xs 1295 hC.1.1 hX hR.1.1 hS hR.1.2.1 w1 w2
  exact bthQ e1 e2 ⟨hX, hS, hA3, hA4⟩ htn hf hC hR r hm
theorem bq_orders {xs : List Int} {κ : aK} {D : Nat → Nat → Int} (h : Inv κ D) (w1 : Int) : Bth xs κ D 166 286 [.inl w1] := by
  obtain ⟨t, t', v, X, S, n, H, Hd, tn, f, pl, hA, htn, hf, hC, hR, hm⟩ := h
  obtain ⟨hκ, hc, ht, h5, hx, hs, hh, hl⟩ := hC.1
  obtain ⟨hX, hS, hA3, hA4⟩ := hA
  obtain ⟨κ1, D1, e1, s⟩ := corders xs 1291 hκ hc ht h5 hX hx hS hs hC.2.2.2.2.2.1 w1
  have hR1 := hR.hi (D' := D1) (fun q q1 q2 => s.2.2.2.1 q (by omega))
  have hC1 := hC.ordq s
  have hm1 : Rm κ1 D1 := hm.of s.1 (by have := s.2.2.2.2; rw [mdR_of (D' := D1) (D := D) (by rw [s.2.2.2.1 68 (by omega)])]; omega)
  obtain ⟨D2, r, e2⟩ := rorders xs 1295 hC1.1.1 hX hR1.1.1 hS hR1.1.2.1 w1
  exact bthQ e1 e2 ⟨hX, hS, hA3, hA4⟩ htn hf hC1 hR1 r hm1
theorem bq_orderAt {xs : List Int} {κ : aK} {D : Nat → Nat → Int} (h : Inv κ D) (w1 w2 : Int) : Bth xs κ D 167 287 [.inl w1, .inl w2] := by
  obtain ⟨t, t', v, X, S, n, H, Hd, tn, f, pl, hA, htn, hf, hC, hR, hm⟩ := h
  obtain ⟨hκ, hc, ht, h5, hx, hs, hh, hl⟩ := hC.1
  obtain ⟨hX, hS, hA3, hA4⟩ := hA
  obtain ⟨κ1, D1, e1, s⟩ := corderAt xs 1291 hκ hc ht h5 hX hx hS hs hC.2.2.2.2.2.1 w1 w2
  have hR1 := hR.hi (D' := D1) (fun q q1 q2 => s.2.2.2.1 q (by omega))
  have hC1 := hC.ordq s
  have hm1 : Rm κ1 D1 := hm.of s.1 (by have := s.2.2.2.2; rw [mdR_of (D' := D1) (D := D) (by rw [s.2.2.2.1 68 (by omega)])]; omega)
  obtain ⟨D2, r, e2⟩ := rorderAt xs 1295 hC1.1.1 hX hR1.1.1 hS hR1.1.2.1 w1 w2
  exact bthQ e1 e2 ⟨hX, hS, hA3, hA4⟩ htn hf hC1 hR1 r hm1
theorem bq_swaps {xs : List Int} {κ : aK} {D : Nat → Nat → Int} (h : Inv κ D) (w1 : Int) : Bth xs κ D 168 288 [.inl w1] := by
  obtain ⟨t, t', v, X, S, n, H, Hd, tn, f, pl, hA, htn, hf, hC, hR, hm⟩ := h
  obtain ⟨hκ, hc, ht, h5, hx, hs, hh, hl⟩ := hC.1
  obtain ⟨hX, hS, hA3, hA4⟩ := hA
  obtain ⟨κ1, D1, e1, s⟩ := cswaps xs 1291 hκ hc ht h5 hX hx hS hs hC.2.2.2.2.2.1 w1
  have hR1 := hR.hi (D' := D1) (fun q q1 q2 => s.2.2.2.1 q (by omega))
  have hC1 := hC.ordq s
  have hm1 : Rm κ1 D1 := hm.of s.1 (by have := s.2.2.2.2; rw [mdR_of (D' := D1) (D := D) (by rw [s.2.2.2.1 68 (by omega)])]; omega)
  obtain ⟨D2, r, e2⟩ := rswaps xs 1295 hC1.1.1 hX hR1.1.1 hS hR1.1.2.1 w1
  exact bthQ e1 e2 ⟨hX, hS, hA3, hA4⟩ htn hf hC1 hR1 r hm1
theorem bq_sets {xs : List Int} {κ : aK} {D : Nat → Nat → Int} (h : Inv κ D) (w1 w2 w3 : Int) : Bth xs κ D 169 289 [.inl w1, .inl w2, .inl w3] := by
  obtain ⟨t, t', v, X, S, n, H, Hd, tn, f, pl, hA, htn, hf, hC, hR, hm⟩ := h
  obtain ⟨hκ, hc, ht, h5, hx, hs, hh, hl⟩ := hC.1
  obtain ⟨hX, hS, hA3, hA4⟩ := hA
  obtain ⟨D1, s, e1⟩ := csets xs 1294 hκ hc ht h5 hX hx hS hs hC.2.2.2.2.2.2.1 w1 w2 w3
  have hR1 := hR.hi (D' := D1) (fun q q1 q2 => s.1.1 q (by omega))
  have hC1 := hC.setq s
  have hm1 := hm.same (D' := D1) hC.2.2.2.2.2.1 (by rw [s.1.1 68 (by omega)]) (fun j _ => by rw [s.1.1 77 (by omega)])
  obtain ⟨D2, r, e2⟩ := rsets xs 1294 hC1.1.1 hX hR1.1.1 hS hR1.1.2.1 w1 w2 w3
  exact bthQ e1 e2 ⟨hX, hS, hA3, hA4⟩ htn hf hC1 hR1 r hm1
theorem bq_list {xs : List Int} {κ : aK} {D : Nat → Nat → Int} (h : Inv κ D) (w1 : Int) : Bth xs κ D 170 292 [.inl w1] := by
  obtain ⟨t, t', v, X, S, n, H, Hd, tn, f, pl, hA, htn, hf, hC, hR, hm⟩ := h
  obtain ⟨hκ, hc, ht, h5, hx, hs, hh, hl⟩ := hC.1
  obtain ⟨hX, hS, hA3, hA4⟩ := hA
  obtain ⟨D1, s, e1⟩ := clist xs 1294 hκ hc ht h5 hX hx hS hs hC.2.2.2.2.2.2.1 w1
  have hR1 := hR.hi (D' := D1) (fun q q1 q2 => s.1.1 q (by omega))
  have hC1 := hC.setq s
  have hm1 := hm.same (D' := D1) hC.2.2.2.2.2.1 (by rw [s.1.1 68 (by omega)]) (fun j _ => by rw [s.1.1 77 (by omega)])
  obtain ⟨D2, r, e2⟩ := rlist xs 1293 hC1.1.1 hX hR1.1.1 hS hR1.1.2.1 w1
  exact bthQ e1 e2 ⟨hX, hS, hA3, hA4⟩ htn hf hC1 hR1 r hm1
theorem bq_next {xs : List Int} {κ : aK} {D : Nat → Nat → Int} (h : Inv κ D) (w1 w2 : Int) : Bth xs κ D 171 294 [.inl w1, .inl w2] := by
  obtain ⟨t, t', v, X, S, n, H, Hd, tn, f, pl, hA, htn, hf, hC, hR, hm⟩ := h
  obtain ⟨hκ, hc, ht, h5, hx, hs, hh, hl⟩ := hC.1
  obtain ⟨hX, hS, hA3, hA4⟩ := hA
  obtain ⟨D1, s, e1⟩ := cnext xs 1294 hκ hc ht h5 hX hx hS hs hC.2.2.2.2.2.2.1 w1 w2
  have hR1 := hR.hi (D' := D1) (fun q q1 q2 => s.1.1 q (by omega))
  have hC1 := hC.setq s
  have hm1 := hm.same (D' := D1) hC.2.2.2.2.2.1 (by rw [s.1.1 68 (by omega)]) (fun j _ => by rw [s.1.1 77 (by omega)])
  obtain ⟨D2, r, e2⟩ := rnext xs 1293 hC1.1.1 hX hR1.1.1 hS hR1.1.2.1 w1 w2
  exact bthQ e1 e2 ⟨hX, hS, hA3, hA4⟩ htn hf hC1 hR1 r hm1
theorem bq_parted {xs : List Int} {κ : aK} {D : Nat → Nat → Int} (h : Inv κ D) (w1 : Int) : Bth xs κ D 172 296 [.inl w1] := by
  obtain ⟨t, t', v, X, S, n, H, Hd, tn, f, pl, hA, htn, hf, hC, hR, hm⟩ := h
  obtain ⟨hκ, hc, ht, h5, hx, hs, hh, hl⟩ := hC.1
  obtain ⟨hX, hS, hA3, hA4⟩ := hA
  obtain ⟨D1, s, e1⟩ := cparted xs 1294 hκ hc ht h5 hX hx hS hs hC.2.2.2.2.2.2.1 w1
  have hR1 := hR.hi (D' := D1) (fun q q1 q2 => s.1.1 q (by omega))
  have hC1 := hC.setq s
  have hm1 := hm.same (D' := D1) hC.2.2.2.2.2.1 (by rw [s.1.1 68 (by omega)]) (fun j _ => by rw [s.1.1 77 (by omega)])
  obtain ⟨D2, r, e2⟩ := rparted xs 1293 hC1.1.1 hX hR1.1.1 hS hR1.1.2.1 w1
  exact bthQ e1 e2 ⟨hX, hS, hA3, hA4⟩ htn hf hC1 hR1 r hm1
theorem bq_best {xs : List Int} {κ : aK} {D : Nat → Nat → Int} (h : Inv κ D) (w1 : Int) : Bth xs κ D 173 302 [.inl w1] := by
  obtain ⟨t, t', v, X, S, n, H, Hd, tn, f, pl, hA, htn, hf, hC, hR, hm⟩ := h
  obtain ⟨hκ, hc, ht, h5, hx, hs, hh, hl⟩ := hC.1
  obtain ⟨hX, hS, hA3, hA4⟩ := hA
  obtain ⟨D1, s, e1⟩ := cbest xs 1294 hκ hc ht h5 hX hx hS hs hC.2.2.2.2.2.2.1 w1
  have hR1 := hR.hi (D' := D1) (fun q q1 q2 => s.1.1 q (by omega))
  have hC1 := hC.setq s
  have hm1 := hm.same (D' := D1) hC.2.2.2.2.2.1 (by rw [s.1.1 68 (by omega)]) (fun j _ => by rw [s.1.1 77 (by omega)])
  obtain ⟨D2, r, e2⟩ := rbest xs 1293 hC1.1.1 hX hR1.1.1 hS hR1.1.2.1 w1
  exact bthQ e1 e2 ⟨hX, hS, hA3, hA4⟩ htn hf hC1 hR1 r hm1
theorem bq_derived {xs : List Int} {κ : aK} {D : Nat → Nat → Int} (h : Inv κ D) (w1 w2 w3 : Int) : Bth xs κ D 174 298 [.inl w1, .inl w2, .inl w3] := by
  obtain ⟨t, t', v, X, S, n, H, Hd, tn, f, pl, hA, htn, hf, hC, hR, hm⟩ := h
  obtain ⟨hκ, hc, ht, h5, hx, hs, hh, hl⟩ := hC.1
  obtain ⟨hX, hS, hA3, hA4⟩ := hA
  obtain ⟨D1, s, e1⟩ := cderived xs 1291 hκ hc ht h5 hX hx hS hs w1 w2 w3
  have hR1 := hR.hi (D' := D1) (fun q q1 q2 => s.1 q (by omega))
  have hC1 := hC.scr s
  have hm1 := hm.same (D' := D1) hC.2.2.2.2.2.1 (by rw [s.1 68 (by omega)]) (fun j _ => by rw [s.1 77 (by omega)])
  obtain ⟨D2, r, e2⟩ := rderived xs 1296 hC1.1.1 hX hR1.1.1 hS hR1.1.2.1 w1 w2 w3
  exact bthQ e1 e2 ⟨hX, hS, hA3, hA4⟩ htn hf hC1 hR1 r hm1
theorem bq_apart {xs : List Int} {κ : aK} {D : Nat → Nat → Int} (h : Inv κ D) (w1 w2 : Int) : Bth xs κ D 176 299 [.inl w1, .inl w2] := by
  obtain ⟨t, t', v, X, S, n, H, Hd, tn, f, pl, hA, htn, hf, hC, hR, hm⟩ := h
  obtain ⟨hκ, hc, ht, h5, hx, hs, hh, hl⟩ := hC.1
  obtain ⟨hX, hS, hA3, hA4⟩ := hA
  obtain ⟨g, e1⟩ := capart xs 1298 hκ hc ht h5 hX hx hS hs w1 w2
  have s : CScr D (setc D 90 g) := ⟨fun q hq => setc_ne (by omega), hc.setc pd_90 g⟩
  have hR1 := hR.hi (D' := setc D 90 g) (fun q q1 q2 => s.1 q (by omega))
  have hC1 := hC.scr s
  have hm1 := hm.same (D' := setc D 90 g) hC.2.2.2.2.2.1 (by rw [s.1 68 (by omega)]) (fun j _ => by rw [s.1 77 (by omega)])
  obtain ⟨D2, r, e2⟩ := rapart xs 1296 hC1.1.1 hX hR1.1.1 hS hR1.1.2.1 w1 w2
  exact bthQ e1 e2 ⟨hX, hS, hA3, hA4⟩ htn hf hC1 hR1 r hm1
theorem bq_rhymes {xs : List Int} {κ : aK} {D : Nat → Nat → Int} (h : Inv κ D) (w1 w2 : Int) : Bth xs κ D 177 300 [.inl w1, .inl w2] := by
  obtain ⟨t, t', v, X, S, n, H, Hd, tn, f, pl, hA, htn, hf, hC, hR, hm⟩ := h
  obtain ⟨hκ, hc, ht, h5, hx, hs, hh, hl⟩ := hC.1
  obtain ⟨hX, hS, hA3, hA4⟩ := hA
  have e1 := crhymes xs 1298 hκ hc ht h5 hX hx hS hs w1 w2
  have e2 := rrhymes xs 1296 hC.1.1 hX hR.1.1 hS hR.1.2.1 w1 w2
  exact bthQ0 e1 e2 ⟨hX, hS, hA3, hA4⟩ htn hf hC hR hm
theorem bq_most {xs : List Int} {κ : aK} {D : Nat → Nat → Int} (h : Inv κ D) (w1 w2 : Int) : Bth xs κ D 159 304 [.inl w1, .inl w2] := by
  obtain ⟨t, t', v, X, S, n, H, Hd, tn, f, pl, hA, htn, hf, hC, hR, hm⟩ := h
  obtain ⟨hκ, hc, ht, h5, hx, hs, hh, hl⟩ := hC.1
  obtain ⟨hX, hS, hA3, hA4⟩ := hA
  obtain ⟨D1, s, e1⟩ := cmost xs 1293 hκ hc ht h5 hX hx hS hs w1 w2
  have hR1 := hR.hi (D' := D1) (fun q q1 q2 => s.1 q (by omega))
  have hC1 := hC.scr s
  have hm1 := hm.same (D' := D1) hC.2.2.2.2.2.1 (by rw [s.1 68 (by omega)]) (fun j _ => by rw [s.1 77 (by omega)])
  obtain ⟨D2, r, e2⟩ := rmost xs 1294 hC1.1.1 hX hR1.1.1 hS hR1.1.2.1 w1 w2
  exact bthQ e1 e2 ⟨hX, hS, hA3, hA4⟩ htn hf hC1 hR1 r hm1
theorem bq_lacks {xs : List Int} {κ : aK} {D : Nat → Nat → Int} (h : Inv κ D) (w1 w2 : Int) : Bth xs κ D 160 306 [.inl w1, .inl w2] := by
  obtain ⟨t, t', v, X, S, n, H, Hd, tn, f, pl, hA, htn, hf, hC, hR, hm⟩ := h
  obtain ⟨hκ, hc, ht, h5, hx, hs, hh, hl⟩ := hC.1
  obtain ⟨hX, hS, hA3, hA4⟩ := hA
  have e1 := clacks xs 1298 hκ hc ht h5 hX hx hS hs w1 w2
  obtain ⟨D2, r, e2⟩ := rlacks xs 1297 hC.1.1 hX hR.1.1 hS hR.1.2.1 w1 w2
  exact bthQ e1 e2 ⟨hX, hS, hA3, hA4⟩ htn hf hC hR r hm
theorem bq_sales {xs : List Int} {κ : aK} {D : Nat → Nat → Int} (h : Inv κ D) (w1 : Int) : Bth xs κ D 161 308 [.inl w1] := by
  obtain ⟨t, t', v, X, S, n, H, Hd, tn, f, pl, hA, htn, hf, hC, hR, hm⟩ := h
  obtain ⟨hκ, hc, ht, h5, hx, hs, hh, hl⟩ := hC.1
  obtain ⟨hX, hS, hA3, hA4⟩ := hA
  have e1 := csales xs 1297 hκ hc ht h5 hX hx hS hs w1
  obtain ⟨D2, r, e2⟩ := rsales xs 1296 hC.1.1 hX hR.1.1 hS hR.1.2.1 w1
  exact bthQ e1 e2 ⟨hX, hS, hA3, hA4⟩ htn hf hC hR r hm
theorem bq_forged {xs : List Int} {κ : aK} {D : Nat → Nat → Int} (h : Inv κ D) : Bth xs κ D 162 305 [] := by
  obtain ⟨t, t', v, X, S, n, H, Hd, tn, f, pl, hA, htn, hf, hC, hR, hm⟩ := h
  obtain ⟨hκ, hc, ht, h5, hx, hs, hh, hl⟩ := hC.1
  obtain ⟨hX, hS, hA3, hA4⟩ := hA
  obtain ⟨D1, s, e1⟩ := cforged xs 1293 hκ hc ht h5 hX hx hS hs 
  have hR1 := hR.hi (D' := D1) (fun q q1 q2 => s.1 q (by omega))
  have hC1 := hC.scr s
  have hm1 := hm.same (D' := D1) hC.2.2.2.2.2.1 (by rw [s.1 68 (by omega)]) (fun j _ => by rw [s.1 77 (by omega)])
  obtain ⟨D2, r, e2⟩ := rforged xs 1294 hC1.1.1 hX hR1.1.1 hS hR1.1.2.1 
  exact bthQ e1 e2 ⟨hX, hS, hA3, hA4⟩ htn hf hC1 hR1 r hm1
theorem bq_future {xs : List Int} {κ : aK} {D : Nat → Nat → Int} (h : Inv κ D) (w1 w2 w3 : Int) : Bth xs κ D 180 310 [.inl w1, .inl w2, .inl w3] := by
  obtain ⟨t, t', v, X, S, n, H, Hd, tn, f, pl, hA, htn, hf, hC, hR, hm⟩ := h
  obtain ⟨hκ, hc, ht, h5, hx, hs, hh, hl⟩ := hC.1
  obtain ⟨hX, hS, hA3, hA4⟩ := hA
  obtain ⟨D1, e1, c1, s⟩ := cfuture xs 1294 ⟨hX, hS, hA3, hA4⟩ hC.1 w1 w2 w3
  have hR1 := hR.hi (D' := D1) (fun q q1 q2 => s.1 q (by omega))
  have hC1 := hC.cfr (s.w ht) c1 rfl rfl
  have hm1 := hm.same (D' := D1) hC.2.2.2.2.2.1 (by rw [s.1 68 (by omega)]) (fun j _ => by rw [s.1 77 (by omega)])
  obtain ⟨D2, r, e2⟩ := rfuture xs 1295 hC1.1.1 hX hR1.1.1 hS hR1.1.2.1 w1 w2 w3
  exact bthQ e1 e2 ⟨hX, hS, hA3, hA4⟩ htn hf hC1 hR1 r hm1
theorem bq_lives {xs : List Int} {κ : aK} {D : Nat → Nat → Int} (h : Inv κ D) (w1 : Int) : Bth xs κ D 181 312 [.inl w1] := by
  obtain ⟨t, t', v, X, S, n, H, Hd, tn, f, pl, hA, htn, hf, hC, hR, hm⟩ := h
  obtain ⟨hκ, hc, ht, h5, hx, hs, hh, hl⟩ := hC.1
  obtain ⟨hX, hS, hA3, hA4⟩ := hA
  obtain ⟨D1, e1, c1, s⟩ := clives xs 1296 ⟨hX, hS, hA3, hA4⟩ hC.1 w1
  have hR1 := hR.hi (D' := D1) (fun q q1 q2 => s.1 q (by omega))
  have hC1 := hC.cfr (s.w ht) c1 rfl rfl
  have hm1 := hm.same (D' := D1) hC.2.2.2.2.2.1 (by rw [s.1 68 (by omega)]) (fun j _ => by rw [s.1 77 (by omega)])
  obtain ⟨D2, r, e2⟩ := rlives xs 1296 hC1.1.1 hX hR1.1.1 hS hR1.1.2.1 w1
  exact bthQ e1 e2 ⟨hX, hS, hA3, hA4⟩ htn hf hC1 hR1 r hm1
theorem bq_left {xs : List Int} {κ : aK} {D : Nat → Nat → Int} (h : Inv κ D) (w1 : Int) : Bth xs κ D 182 311 [.inl w1] := by
  obtain ⟨t, t', v, X, S, n, H, Hd, tn, f, pl, hA, htn, hf, hC, hR, hm⟩ := h
  obtain ⟨hκ, hc, ht, h5, hx, hs, hh, hl⟩ := hC.1
  obtain ⟨hX, hS, hA3, hA4⟩ := hA
  obtain ⟨D1, e1, c1, s⟩ := cleft xs 1294 ⟨hX, hS, hA3, hA4⟩ hC.1 w1
  have hR1 := hR.hi (D' := D1) (fun q q1 q2 => s.1 q (by omega))
  have hC1 := hC.cfr (s.w ht) c1 rfl rfl
  have hm1 := hm.same (D' := D1) hC.2.2.2.2.2.1 (by rw [s.1 68 (by omega)]) (fun j _ => by rw [s.1 77 (by omega)])
  obtain ⟨D2, r, e2⟩ := rleft xs 1295 hC1.1.1 hX hR1.1.1 hS hR1.1.2.1 w1
  exact bthQ e1 e2 ⟨hX, hS, hA3, hA4⟩ htn hf hC1 hR1 r hm1
theorem bq_count {xs : List Int} {κ : aK} {D : Nat → Nat → Int} (h : Inv κ D) (w1 : Int) : Bth xs κ D 185 315 [.inl w1] := by
  obtain ⟨t, t', v, X, S, n, H, Hd, tn, f, pl, hA, htn, hf, hC, hR, hm⟩ := h
  obtain ⟨hκ, hc, ht, h5, hx, hs, hh, hl⟩ := hC.1
  obtain ⟨hX, hS, hA3, hA4⟩ := hA
  have e1 := ccount xs 1297 ⟨hX, hS, hA3, hA4⟩ hC.1 hC.2.2.2.2.2.2.2.1 w1
  obtain ⟨D2, r, e2⟩ := rcount xs 1296 hC.1.1 ⟨hX, hS, hA3, hA4⟩ hR.1 hR.2.2.2.1 w1
  exact bthQ e1 e2 ⟨hX, hS, hA3, hA4⟩ htn hf hC hR r hm
theorem bq_place {xs : List Int} {κ : aK} {D : Nat → Nat → Int} (h : Inv κ D) : Bth xs κ D 134 205 [] := by
  obtain ⟨t, t', v, X, S, n, H, Hd, tn, f, pl, hA, htn, hf, hC, hR, hm⟩ := h
  obtain ⟨hκ, hc, ht, h5, hx, hs, hh, hl⟩ := hC.1
  obtain ⟨hX, hS, hA3, hA4⟩ := hA
  have e1 := cplace xs 1299 (D := D) hκ
  rw [hC.2.2.2.2.2.2.2.2.1] at e1
  have e2 := rplace xs 1299 (D := D) hκ
  rw [hR.2.2.2.2.1] at e2
  exact bthQ0 e1 e2 ⟨hX, hS, hA3, hA4⟩ htn hf hC hR hm
