/-! What holds between two calls of the law. -/
theorem RSame.out {D D' : Nat → Nat → Int} (h : RSame D D') {q : Nat} (hq : q < 256) : D' q = D q := h.1 q (by omega) (fun hm => by
  have : ∀ q ∈ scr, 256 ≤ q := by decide
  have := this q hm
  omega)
theorem RFr.out {D D' : Nat → Nat → Int} (h : RFr D D') {q : Nat} (hq : q < 256) : D' q = D q := h.1 q (by omega) (fun hm => by
  have : ∀ q ∈ scr, 256 ≤ q := by decide
  have := this q hm
  omega) (fun hm => by
  have : ∀ q ∈ rsv, 256 ≤ q := by decide
  have := this q hm
  omega)
theorem LwC.of {D D' : Nat → Nat → Int} {t : Nat} {X : TX} (h : LwC D t X) (h1 : D' (t + 18) 1 = D (t + 18) 1) (h2 : D' (t + 20) = D (t + 20)) (h3 : D' (t + 21) = D (t + 21)) : LwC D' t X := by
  unfold LwC at h ⊢
  rw [h1, h2, h3]
  exact h
theorem MadeOK.of {κ κ' : aK} {D D' : Nat → Nat → Int} {X : TX} (h : MadeOK κ D X) (hk : KLe κ κ') (h1 : D' 68 = D 68) (h2 : D' 69 = D 69) : MadeOK κ' D' X := by
  obtain ⟨a, b⟩ := h
  unfold MadeOK MdTab
  rw [h1, h2]
  refine ⟨?_, b⟩
  rcases a with a | ⟨x, y, e1, e2, e3⟩
  · exact Or.inl a
  · exact Or.inr ⟨x, y, e1, e2, hk.mdk e3⟩
theorem OrP.of {κ κ' : aK} {D D' : Nat → Nat → Int} {R : Nat} (h : OrP κ D R) (hk : KLe κ κ') (h1 : ∀ j, j ≠ 0 → D' 77 j = D 77 j) : OrP κ' D' R := by
  obtain ⟨a, b, c, e, g, m, k1, k2⟩ := hk.orp h
  refine ⟨a, b, c, e, g, m, k1, ?_⟩
  unfold OrF at k2 ⊢
  rw [h1 7 (by decide), h1 8 (by decide), h1 9 (by decide), h1 10 (by decide), h1 11 (by decide), h1 12 (by decide)]
  exact k2
theorem OrdOK.of {κ κ' : aK} {D D' : Nat → Nat → Int} {X : TX} {S S' : ST} (h : OrdOK κ D X S) (hk : KLe κ κ') (h1 : D' 77 = D 77) (h2 : ∀ q, 78 ≤ q → q ≤ 80 → D' q = D q) (hs : son S' = son S) (ho : sord S' = sord S) : OrdOK κ' D' X S' := by
  obtain ⟨⟨R, a⟩, b⟩ := h
  unfold OrdOK psS
  rw [hs, ho, h1]
  refine ⟨⟨R, a.of hk (fun j _ => by rw [h1])⟩, ?_⟩
  rcases b with b | ⟨b1, b2⟩
  · exact Or.inl b
  · exact Or.inr ⟨b1, fun k hk => (b2 k hk).congr (by rw [h2 78 (by decide) (by decide)]) (by rw [h2 79 (by decide) (by decide)]) (by rw [h2 80 (by decide) (by decide)])⟩
theorem OrdOK.none {κ κ' : aK} {D D' : Nat → Nat → Int} {X X' : TX} {S S' : ST} (h : OrdOK κ D X S) (hk : KLe κ κ') (h1 : ∀ j, j ≠ 0 → D' 77 j = D 77 j) (h0 : D' 77 0 = 0) : OrdOK κ' D' X' S' := by
  obtain ⟨⟨R, a⟩, b⟩ := h
  exact ⟨⟨R, a.of hk h1⟩, Or.inl h0⟩
theorem SetsOK.of {D D' : Nat → Nat → Int} {X : TX} {ord : Nat → Nat} (h : SetsOK D X ord) (h1 : ∀ q, 72 ≤ q → q ≤ 75 → D' q = D q) : SetsOK D' X ord := by
  unfold SetsOK SetsT at h ⊢
  rw [h1 72 (by decide) (by decide), h1 73 (by decide) (by decide), h1 74 (by decide) (by decide), h1 75 (by decide) (by decide)]
  exact h
theorem orR_of {κ κ' : aK} {D D' : Nat → Nat → Int} {X : TX} {S : ST} (h : OrdOK κ D X S) (hk : KLe κ κ') (h1 : ∀ j, j ≠ 0 → D' 77 j = D 77 j) : orR κ' D' = orR κ D := by
  obtain ⟨⟨R, a⟩, -⟩ := h
  rw [orP_R a, orP_R (a.of hk h1)]
theorem mdR_of {D D' : Nat → Nat → Int} (h : D' 68 2 = D 68 2) : mdR D' = mdR D := by
  unfold mdR
  rw [h]
def IC (κ : aK) (D : Nat → Nat → Int) (t t' : Nat) (X : TX) (S : ST) (n : Nat) (H : Nat → ST) (Hd : Nat → Option ST) (tn : Nat) (f : Nat → Int) (pl : Int) : Prop := CCore κ D t X S n H Hd ∧ LwC D t X ∧ QwC D ∧ (isT t' ∧ t + t' = 40 ∧ D 0 6 = (t' : Int)) ∧ MadeOK κ D X ∧ OrdOK κ D X S ∧ SetsOK D X (sord S) ∧ (D 0 1 = (tn : Int) ∧ D 0 2 = pl ∧ ∀ j, j < tn → D 1 j = f j)
def IR (D : Nat → Nat → Int) (v : Nat) (X : TX) (S : ST) (n : Nat) (H : Nat → ST) (Hd : Nat → Option ST) (tn : Nat) (f : Nat → Int) (pl : Int) : Prop := RCore D v X S n H Hd ∧ LwR D v X ∧ KyR D ∧ (D 256 2 = (tn : Int) ∧ D 256 17 = pl ∧ ∀ j, j < tn → D 257 j = f j)
def Rm (κ : aK) (D : Nat → Nat → Int) : Prop := 2 * κ.1 + 25856 ≤ 630 + κ.2.1 ∧ κ.2.1 + mdR D + orR κ D ≤ 690112
def Inv (κ : aK) (D : Nat → Nat → Int) : Prop := ∃ (t t' v : Nat) (X : TX) (S : ST) (n : Nat) (H : Nat → ST) (Hd : Nat → Option ST) (tn : Nat) (f : Nat → Int) (pl : Int), AOk X S n H Hd ∧ tn ≤ 2000 ∧ (∀ j, j < tn → -128 ≤ f j ∧ f j ≤ 127) ∧ IC κ D t t' X S n H Hd tn f pl ∧ IR D v X S n H Hd tn f pl ∧ Rm κ D
/-- both sides answer alike, and go on alike -/
def Bth (xs : List Int) (κ : aK) (D : Nat → Nat → Int) (m1 m2 : Nat) (as : List aV) : Prop := ∃ (x : Int) (κ1 : aK) (D1 D2 : Nat → Nat → Int), cl xs 1300 m1 (.inr (.inr 0) :: as) (κ, D) = some (some (.inl x), (κ1, D1)) ∧ Shp κ1 ∧ cl xs 1300 m2 (.inr (.inr 256) :: as) (κ1, D1) = some (some (.inl x), (κ1, D2)) ∧ Inv κ1 D2
theorem TxC.low {D D' : Nat → Nat → Int} {t : Nat} {X : TX} (h : TxC D t X) (ht : isT t) (hd : ∀ q, q < 256 → D' q = D q) : TxC D' t X := by
  have ht' : t = 9 ∨ t = 31 := ht
  exact h.congr (fun q h1 h2 => hd q (by omega))
theorem ppl_lo : ∀ p ∈ ppl, p.1 < 256 := by decide +kernel
theorem CCore.low {κ κ' : aK} {D D' : Nat → Nat → Int} {t : Nat} {X : TX} {S : ST} {n : Nat} {H : Nat → ST} {Hd : Nat → Option ST} (h : CCore κ D t X S n H Hd) (hk : KLe κ κ') (hd : ∀ q, q < 256 → D' q = D q) : CCore κ' D' t X S n H Hd := by
  obtain ⟨hκ, hc, ht, h5, hx, hs, hh, hl⟩ := h
  refine ⟨hk.shp hκ, fun r k v hm => ?_, ht, by rw [hd 0 (by decide)]; exact h5, hx.low ht hd, hs.congr (fun q h1 h2 => hd q (by omega)), hh.congr (fun j _ => by rw [hd 0 (by decide)]) (fun q h1 h2 => hd q (by omega)), hl.congr (by rw [hd 0 (by decide)]) (fun q h1 h2 => hd q (by omega))⟩
  rw [hd r (ppl_lo _ hm)]
  exact hc r k v hm
theorem IC.low {κ : aK} {D D' : Nat → Nat → Int} {t t' : Nat} {X : TX} {S : ST} {n : Nat} {H : Nat → ST} {Hd : Nat → Option ST} {tn : Nat} {f : Nat → Int} {pl : Int} (h : IC κ D t t' X S n H Hd tn f pl) (hd : ∀ q, q < 256 → D' q = D q) : IC κ D' t t' X S n H Hd tn f pl := by
  obtain ⟨a, b, c, ⟨e1, e2, e3⟩, g, i, j, k1, k2, k3⟩ := h
  have ht' : t = 9 ∨ t = 31 := a.2.2.1
  refine ⟨a.low (KLe.rfl' κ) hd, b.of (by rw [hd _ (by omega)]) (hd _ (by omega)) (hd _ (by omega)), fun q hq => ?_, ⟨e1, e2, ?_⟩, g.of (KLe.rfl' κ) (hd _ (by omega)) (hd _ (by omega)), i.of (KLe.rfl' κ) (hd _ (by omega)) (fun q _ _ => hd q (by omega)) rfl rfl, j.of (fun q _ _ => hd q (by omega)), ?_, ?_, fun j hj => ?_⟩
  · rw [hd 6 (by decide)]; exact c q hq
  · rw [hd 0 (by decide)]; exact e3
  · rw [hd 0 (by decide)]; exact k1
  · rw [hd 0 (by decide)]; exact k2
  · rw [hd 1 (by decide)]; exact k3 j hj
theorem prR_at : ∀ j ∈ prL, j < 90 := by decide
theorem RCore.hi {D D' : Nat → Nat → Int} {v : Nat} {X : TX} {S : ST} {n : Nat} {H : Nat → ST} {Hd : Nat → Option ST} (h : RCore D v X S n H Hd) (hd : ∀ q, 256 ≤ q → q < 315 → D' q = D q) : RCore D' v X S n H Hd := by
  obtain ⟨⟨p1, p2, p3, p4, p5⟩, b, c, e⟩ := h
  have e256 := hd 256 (by decide) (by decide)
  refine ⟨⟨p1.of (fun j _ => by rw [e256]), by rw [e256]; exact p2, p3, by rw [hd 303 (by decide) (by decide)]; exact p4, TxV.congr p5 (fun q q1 q2 => hd q (by omega) (by omega)) (by rw [e256])⟩, by rw [hd 301 (by decide) (by decide)]; exact b, c.congr (by rw [e256]) (hd 304 (by decide) (by decide)), e.congr (hd 313 (by decide) (by decide)) (hd 314 (by decide) (by decide))⟩
theorem IR.hi {D D' : Nat → Nat → Int} {v : Nat} {X : TX} {S : ST} {n : Nat} {H : Nat → ST} {Hd : Nat → Option ST} {tn : Nat} {f : Nat → Int} {pl : Int} (h : IR D v X S n H Hd tn f pl) (hd : ∀ q, 256 ≤ q → q < 315 → D' q = D q) : IR D' v X S n H Hd tn f pl := by
  obtain ⟨a, b, c, e1, e2, e3⟩ := h
  refine ⟨a.hi hd, b.congr (fun q q1 q2 => hd q (by omega) (by omega)) rfl, fun q hq => ?_, ?_, ?_, fun j hj => ?_⟩
  · rw [hd 263 (by decide) (by decide)]; exact c q hq
  · rw [hd 256 (by decide) (by decide)]; exact e1
  · rw [hd 256 (by decide) (by decide)]; exact e2
  · rw [hd 257 (by decide) (by decide)]; exact e3 j hj
/-- the reference after its call: what else it keeps -/
theorem IR.fr {D D' : Nat → Nat → Int} {v : Nat} {X : TX} {S S' : ST} {n n' : Nat} {H H' : Nat → ST} {Hd Hd' : Nat → Option ST} {tn : Nat} {f : Nat → Int} {pl : Int} (h : IR D v X S n H Hd tn f pl) (hs : RFr D D') (hc : RCore D' v X S' n' H' Hd') : IR D' v X S' n' H' Hd' tn f pl := by
  obtain ⟨a, b, c, e1, e2, e3⟩ := h
  have q1 : ∀ q, 257 ≤ q → q ≤ 298 → q ∉ scr ∧ q ∉ rsv := by
    have w1 : ∀ q ∈ scr, 299 ≤ q := by decide
    have w2 : ∀ q ∈ rsv, 299 ≤ q := by decide
    exact fun q a b => ⟨fun m => by have := w1 q m; omega, fun m => by have := w2 q m; omega⟩
  have hd : ∀ q, 257 ≤ q → q ≤ 298 → D' q = D q := fun q a b => hs.1 q (by omega) (q1 q a b).1 (q1 q a b).2
  refine ⟨hc, b.congr (fun q a b => hd q (by omega) (by omega)) rfl, fun q hq => ?_, ?_, ?_, fun j hj => ?_⟩
  · rw [hd 263 (by decide) (by decide)]; exact c q hq
  · rw [hs.2.1 2 (by decide) (by decide)]; exact e1
  · rw [hs.2.1 17 (by decide) (by decide)]; exact e2
  · rw [hd 257 (by decide) (by decide)]; exact e3 j hj
theorem Rm.of {κ κ' : aK} {D D' : Nat → Nat → Int} (h : Rm κ D) (hk : KLe κ κ') (h2 : κ'.2.1 + mdR D' + orR κ' D' ≤ κ.2.1 + mdR D + orR κ D) : Rm κ' D' := by
  obtain ⟨a, b⟩ := h
  have := hk.2.2
  exact ⟨by omega, by omega⟩
theorem bth {xs : List Int} {κ κ1 : aK} {D D1 D2 : Nat → Nat → Int} {m1 m2 : Nat} {as : List aV} {x : Int} {t t' v : Nat} {X : TX} {S : ST} {n : Nat} {H : Nat → ST} {Hd : Nat → Option ST} {tn : Nat} {f : Nat → Int} {pl : Int} (e1 : cl xs 1300 m1 (.inr (.inr 0) :: as) (κ, D) = some (some (.inl x), (κ1, D1))) (e2 : cl xs 1300 m2 (.inr (.inr 256) :: as) (κ1, D1) = some (some (.inl x), (κ1, D2))) (hA : AOk X S n H Hd) (htn : tn ≤ 2000) (hf : ∀ j, j < tn → -128 ≤ f j ∧ f j ≤ 127) (hC : IC κ1 D1 t t' X S n H Hd tn f pl) (hR : IR D2 v X S n H Hd tn f pl) (ho : ∀ q, q < 256 → D2 q = D1 q) (hm : Rm κ1 D1) : Bth xs κ D m1 m2 as := by
  refine ⟨x, κ1, D1, D2, e1, hC.1.1, e2, t, t', v, X, S, n, H, Hd, tn, f, pl, hA, htn, hf, hC.low ho, hR, hm.of (KLe.rfl' κ1) ?_⟩
  rw [mdR_of (D' := D2) (D := D1) (by rw [ho 68 (by decide)]), orR_of (κ := κ1) (κ' := κ1) (D' := D2) (D := D1) hC.2.2.2.2.2.1 (KLe.rfl' κ1) (fun j _ => by rw [ho 77 (by decide)])]
  exact Nat.le_refl _
/-- a question -/
theorem bthQ {xs : List Int} {κ κ1 : aK} {D D1 D2 : Nat → Nat → Int} {m1 m2 : Nat} {as : List aV} {x : Int} {t t' v : Nat} {X : TX} {S : ST} {n : Nat} {H : Nat → ST} {Hd : Nat → Option ST} {tn : Nat} {f : Nat → Int} {pl : Int} (e1 : cl xs 1300 m1 (.inr (.inr 0) :: as) (κ, D) = some (some (.inl x), (κ1, D1))) (e2 : cl xs 1300 m2 (.inr (.inr 256) :: as) (κ1, D1) = some (some (.inl x), (κ1, D2))) (hA : AOk X S n H Hd) (htn : tn ≤ 2000) (hf : ∀ j, j < tn → -128 ≤ f j ∧ f j ≤ 127) (hC : IC κ1 D1 t t' X S n H Hd tn f pl) (hR : IR D1 v X S n H Hd tn f pl) (hs : RSame D1 D2) (hm : Rm κ1 D1) : Bth xs κ D m1 m2 as := bth e1 e2 hA htn hf hC (hR.fr hs.fr (hR.1.same hs)) (fun q hq => hs.out hq) hm
theorem bthQ0 {xs : List Int} {κ κ1 : aK} {D D1 : Nat → Nat → Int} {m1 m2 : Nat} {as : List aV} {x : Int} {t t' v : Nat} {X : TX} {S : ST} {n : Nat} {H : Nat → ST} {Hd : Nat → Option ST} {tn : Nat} {f : Nat → Int} {pl : Int} (e1 : cl xs 1300 m1 (.inr (.inr 0) :: as) (κ, D) = some (some (.inl x), (κ1, D1))) (e2 : cl xs 1300 m2 (.inr (.inr 256) :: as) (κ1, D1) = some (some (.inl x), (κ1, D1))) (hA : AOk X S n H Hd) (htn : tn ≤ 2000) (hf : ∀ j, j < tn → -128 ≤ f j ∧ f j ≤ 127) (hC : IC κ1 D1 t t' X S n H Hd tn f pl) (hR : IR D1 v X S n H Hd tn f pl) (hm : Rm κ1 D1) : Bth xs κ D m1 m2 as := bth e1 e2 hA htn hf hC hR (fun q hq => rfl) hm
theorem Rm.same {κ : aK} {D D' : Nat → Nat → Int} {X : TX} {S : ST} (h : Rm κ D) (hO : OrdOK κ D X S) (h1 : D' 68 2 = D 68 2) (h2 : ∀ j, j ≠ 0 → D' 77 j = D 77 j) : Rm κ D' := by
  refine h.of (KLe.rfl' κ) ?_
  rw [mdR_of h1, orR_of hO (KLe.rfl' κ) h2]
  exact Nat.le_refl _
/-- the class's scratch -/
theorem IC.scr {κ : aK} {D D' : Nat → Nat → Int} {t t' : Nat} {X : TX} {S : ST} {n : Nat} {H : Nat → ST} {Hd : Nat → Option ST} {tn : Nat} {f : Nat → Int} {pl : Int} (h : IC κ D t t' X S n H Hd tn f pl) (hs : CScr D D') : IC κ D' t t' X S n H Hd tn f pl := by
  obtain ⟨a, b, c, ⟨e1, e2, e3⟩, g, i, j, k1, k2, k3⟩ := h
  have ht' : t = 9 ∨ t = 31 := a.2.2.1
  have hd := hs.1
  refine ⟨a.scr hs, b.of (by rw [hd _ (by omega)]) (hd _ (by omega)) (hd _ (by omega)), fun q hq => ?_, ⟨e1, e2, ?_⟩, g.of (KLe.rfl' κ) (hd _ (by omega)) (hd _ (by omega)), i.of (KLe.rfl' κ) (hd _ (by omega)) (fun q _ _ => hd q (by omega)) rfl rfl, j.of (fun q _ _ => hd q (by omega)), ?_, ?_, fun j hj => ?_⟩
  · rw [hd 6 (by omega)]; exact c q hq
  · rw [hd 0 (by omega)]; exact e3
  · rw [hd 0 (by omega)]; exact k1
  · rw [hd 0 (by omega)]; exact k2
  · rw [hd 1 (by omega)]; exact k3 j hj
theorem IC.setq {κ : aK} {D D' : Nat → Nat → Int} {t t' : Nat} {X : TX} {S : ST} {n : Nat} {H : Nat → ST} {Hd : Nat → Option ST} {tn : Nat} {f : Nat → Int} {pl : Int} (h : IC κ D t t' X S n H Hd tn f pl) (hs : SetQ D D' X (sord S)) : IC κ D' t t' X S n H Hd tn f pl := by
  obtain ⟨a, b, c, ⟨e1, e2, e3⟩, g, i, j, k1, k2, k3⟩ := h
  have ht' : t = 9 ∨ t = 31 := a.2.2.1
  obtain ⟨⟨hd, hc'⟩, hj⟩ := hs
  have a' := a
  obtain ⟨hκ, hc, ht, h5, hx, hst, hh, hl⟩ := a
  refine ⟨⟨hκ, hc', ht, by rw [hd 0 (by omega)]; exact h5, hx.congr (fun q h1 h2 => hd q (by omega)), hst.congr (fun q h1 h2 => hd q (by omega)), hh.congr (fun j _ => by rw [hd 0 (by omega)]) (fun q h1 h2 => hd q (by omega)), hl.congr (by rw [hd 0 (by omega)]) (fun q h1 h2 => hd q (by omega))⟩, b.of (by rw [hd _ (by omega)]) (hd _ (by omega)) (hd _ (by omega)), fun q hq => ?_, ⟨e1, e2, ?_⟩, g.of (KLe.rfl' κ) (hd _ (by omega)) (hd _ (by omega)), i.of (KLe.rfl' κ) (hd _ (by omega)) (fun q _ _ => hd q (by omega)) rfl rfl, hj, ?_, ?_, fun j hj => ?_⟩
  · rw [hd 6 (by omega)]; exact c q hq
  · rw [hd 0 (by omega)]; exact e3
  · rw [hd 0 (by omega)]; exact k1
  · rw [hd 0 (by omega)]; exact k2
  · rw [hd 1 (by omega)]; exact k3 j hj
theorem IC.ordq {κ κ' : aK} {D D' : Nat → Nat → Int} {t t' : Nat} {X : TX} {S : ST} {n : Nat} {H : Nat → ST} {Hd : Nat → Option ST} {tn : Nat} {f : Nat → Int} {pl : Int} (h : IC κ D t t' X S n H Hd tn f pl) (hs : OrdQ κ κ' D D' X S) : IC κ' D' t t' X S n H Hd tn f pl := by
  obtain ⟨a, b, c, ⟨e1, e2, e3⟩, g, i, j, k1, k2, k3⟩ := h
  have ht' : t = 9 ∨ t = 31 := a.2.2.1
  obtain ⟨hk, hO, hc', hd, -⟩ := hs
  obtain ⟨hκ, hc, ht, h5, hx, hst, hh, hl⟩ := a
  refine ⟨⟨hk.shp hκ, hc', ht, by rw [hd 0 (by omega)]; exact h5, hx.congr (fun q h1 h2 => hd q (by omega)), hst.congr (fun q h1 h2 => hd q (by omega)), hh.congr (fun j _ => by rw [hd 0 (by omega)]) (fun q h1 h2 => hd q (by omega)), hl.congr (by rw [hd 0 (by omega)]) (fun q h1 h2 => hd q (by omega))⟩, b.of (by rw [hd _ (by omega)]) (hd _ (by omega)) (hd _ (by omega)), fun q hq => ?_, ⟨e1, e2, ?_⟩, g.of hk (hd _ (by omega)) (hd _ (by omega)), hO, j.of (fun q _ _ => hd q (by omega)), ?_, ?_, fun j hj => ?_⟩
  · rw [hd 6 (by omega)]; exact c q hq
  · rw [hd 0 (by omega)]; exact e3
  · rw [hd 0 (by omega)]; exact k1
  · rw [hd 0 (by omega)]; exact k2
  · rw [hd 1 (by omega)]; exact k3 j hj
/-- after a thing that leaves the order and what is on, or a look ahead -/
theorem IC.cfr {κ : aK} {D D' : Nat → Nat → Int} {t t' : Nat} {X : TX} {S S' : ST} {n n' : Nat} {H H' : Nat → ST} {Hd Hd' : Nat → Option ST} {tn : Nat} {f : Nat → Int} {pl : Int} (h : IC κ D t t' X S n H Hd tn f pl) (hw : CFrW t D D') (hc : CCore κ D' t X S' n' H' Hd') (hs : son S' = son S) (ho : sord S' = sord S) : IC κ D' t t' X S' n' H' Hd' tn f pl := by
  obtain ⟨a, b, c, ⟨e1, e2, e3⟩, g, i, j, k1, k2, k3⟩ := h
  have ht' : t = 9 ∨ t = 31 := a.2.2.1
  obtain ⟨hd, h0, h18⟩ := hw
  refine ⟨hc, b.of (h18 1 (by decide) (by decide)) (hd _ (by omega)) (hd _ (by omega)), fun q hq => ?_, ⟨e1, e2, ?_⟩, g.of (KLe.rfl' κ) (hd _ (by omega)) (hd _ (by omega)), i.of (KLe.rfl' κ) (hd _ (by omega)) (fun q _ _ => hd q (by omega)) hs ho, ?_, ?_, ?_, fun j hj => ?_⟩
  · rw [hd 6 (by omega)]; exact c q hq
  · rw [h0 6 (by decide) (by decide) (by decide)]; exact e3
  · rw [ho]; exact j.of (fun q _ _ => hd q (by omega))
  · rw [h0 1 (by decide) (by decide) (by decide)]; exact k1
  · rw [h0 2 (by decide) (by decide) (by decide)]; exact k2
  · rw [hd 1 (by omega)]; exact k3 j hj
/-- after a thing that forgets what was found -/
theorem IC.cff {κ : aK} {D D' : Nat → Nat → Int} {t t' : Nat} {X : TX} {S S' : ST} {n n' : Nat} {H H' : Nat → ST} {Hd Hd' : Nat → Option ST} {tn : Nat} {f : Nat → Int} {pl : Int} (h : IC κ D t t' X S n H Hd tn f pl) (hw : CFrF D D') (hc : CCore κ D' t X S' n' H' Hd') : IC κ D' t t' X S' n' H' Hd' tn f pl := by
  obtain ⟨a, b, c, ⟨e1, e2, e3⟩, g, i, j, k1, k2, k3⟩ := h
  have ht' : t = 9 ∨ t = 31 := a.2.2.1
  obtain ⟨hd, h0, h7, z1, z2⟩ := hw
  refine ⟨hc, b.of (by rw [hd _ (by omega)]) (hd _ (by omega)) (hd _ (by omega)), fun q hq => ?_, ⟨e1, e2, ?_⟩, g.of (KLe.rfl' κ) (hd _ (by omega)) (hd _ (by omega)), i.none (KLe.rfl' κ) (fun j hj => (h7 j hj).2) z2, Or.inl z1, ?_, ?_, fun j hj => ?_⟩
  · rw [hd 6 (by omega)]; exact c q hq
  · rw [h0 6 (by decide) (by decide) (by decide)]; exact e3
  · rw [h0 1 (by decide) (by decide) (by decide)]; exact k1
  · rw [h0 2 (by decide) (by decide) (by decide)]; exact k2
  · rw [hd 1 (by omega)]; exact k3 j hj
