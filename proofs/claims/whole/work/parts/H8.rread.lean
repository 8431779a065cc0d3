/-! The reference reads: as far as the rows' end. -/
def rfL : List Nat := [2, 4, 10, 11, 12, 13, 14, 15, 16, 17, 19, 47, 53, 56, 57, 59]
/-- what a read that comes to nothing leaves as it was -/
def RRd (D E : Nat → Nat → Int) (v : Nat) : Prop := (∀ q, q ≠ 256 → q < 258 ∨ q = 263 ∨ 298 < q → E q = D q) ∧ (∀ j, j ∉ rfL → E 256 j = D 256 j) ∧ SdE D E v
theorem pr_rf : ∀ j ∈ prL, j ∉ rfL := by decide
theorem pf_rf {j : Nat} (h : j ∉ rfL) : j ∉ pfL ∧ j ≠ 2 ∧ j ≠ 4 ∧ j ≠ 10 ∧ j ≠ 11 ∧ j ≠ 12 ∧ j ≠ 13 ∧ j ≠ 15 ∧ j ≠ 17 ∧ j ≠ 19 := by
  unfold rfL at h
  unfold pfL
  simp only [List.mem_cons, List.not_mem_nil, or_false, not_or] at h ⊢
  omega
theorem RRd.fld {D E : Nat → Nat → Int} {v : Nat} (h : RRd D E v) {j : Nat} (hj : j ∈ rfL) (x : Int) : RRd D (aup E 256 j x) v := by
  obtain ⟨a1, a2, a3⟩ := h
  exact ⟨fun q b1 b2 => by rw [aupN b1]; exact a1 q b1 b2, fun i hi => by rw [aupJ (show i ≠ j from fun e => hi (by rw [e]; exact hj))]; exact a2 i hi, fun q b1 b2 i hi => by rw [aupN (by omega)]; exact a3 q b1 b2 i hi⟩
theorem RCore.rd {D E : Nat → Nat → Int} {v : Nat} {X : TX} {S : ST} {n : Nat} {H : Nat → ST} {Hd : Nat → Option ST} (hX : TXok X) (h : RCore D v X S n H Hd) (hr : RRd D E v) : RCore E v X S n H Hd := by
  obtain ⟨⟨a1, a2, a3, a4, a5⟩, b, c, e⟩ := h
  obtain ⟨r1, r2, r3⟩ := hr
  have e18 : E 256 18 = D 256 18 := r2 18 (by decide)
  exact ⟨⟨a1.of (fun j hj => r2 j (pr_rf j hj)), e18.trans a2, a3, by rw [r1 303 (by decide) (by omega)]; exact a4, a5.sd hX r3 e18 a2⟩, by rw [r1 301 (by decide) (by omega)]; exact b, c.congr (r2 70 (by decide)) (r1 304 (by decide) (by omega)), e.congr (r1 313 (by decide) (by omega)) (r1 314 (by decide) (by omega))⟩
theorem r_upto (xs : List Int) (d : Nat) {κ : aK} {D : Nat → Nat → Int} (hκ : Shp κ) (hp : PtrR D) (hq : KyR D) {n : Nat} {f : Nat → Int} (hn : n ≤ 2000) (h2 : D 256 2 = (n : Int)) (hf : ∀ j, j < n → D 257 j = f j ∧ -128 ≤ f j ∧ f j ≤ 127) {v u : Nat} (hv : v < 2) (hu : u < 2) (hvu : u + v = 1) (e18 : D 256 18 = (v : Int)) : ∃ (E : Nat → Nat → Int) (v2 : Int), cl xs (d + 8) 204 [.inr (.inr 256)] (κ, D) = ev xs (d + 7) mm_204 228 [some (.inr (.inr 256)), some (.inl v2)] [] (κ, E) ∧ RRd D E v ∧ E 256 2 = 0 ∧ E 256 19 = (u : Int) ∧ E 256 13 = ((recG (tkT f n)).2 : Int) ∧ (¬ (recG (tkT f n)).2 = 0 → E 256 14 = (tkP (tkT f n (recG (tkT f n)).1) : Int)) ∧ ((recG (tkT f n)).2 = 0 → E 256 15 = ((menG (tkT f n)).2.1 : Int) ∧ (¬ (menG (tkT f n)).2.1 = 0 → E 256 16 = ((menG (tkT f n)).2.2 : Int)) ∧ ((menG (tkT f n)).2.1 = 0 → RvY E u (menG (tkT f n)).1)) := by
  have k256 := k_256 hκ
  have hT := tkT_ok (f := f) hn
  have p1 : PtrR (aup D 256 4 (n : Int)) := hp.of (fun j hj => aupJ (prL_ne hj (by decide)))
  obtain ⟨g, t1, t2⟩ := text_loop xs (d + 7) hκ p1 hn (aupE ..) (f := f) (fun j hj => by rw [aupN (by decide)]; exact hf j hj) n 0 (aup D 256 4 (n : Int) 258) (by omega) (fun j hj => absurd hj (Nat.not_lt_zero j))
  rw [setc_id] at t2
  have p2 : PtrR (aup (setc (aup D 256 4 (n : Int)) 258 g) 256 2 0) := (p1.setc (by decide) g).of (fun j hj => aupJ (prL_ne hj (by decide)))
  obtain ⟨E1, c1, c2, c3, c4⟩ := cut_eq xs (d + 4) hκ p2 (fun q hq' => by rw [aupN (by decide), setc_ne (by decide), aupN (by decide)]; exact hq q hq') (n := n) (f := f) ⟨hn, by rw [aupJ (by decide), setc_ne (by decide), aupE], fun j hj => by rw [aupN (by decide), setc_self]; exact ⟨t1 j hj, (hf j hj).2⟩⟩
  have f1 : ∀ q, q ≠ 256 → q < 258 ∨ 262 < q → E1 q = D q := fun q q1 q2 => by rw [c3 q q1 (by omega), aupN q1, setc_ne (by omega), aupN q1]
  have f2 : ∀ j, j ≠ 2 → j ≠ 4 → j ≠ 10 → E1 256 j = D 256 j := fun j j1 j2 j3 => by rw [c4 j j3, aupJ j1, setc_ne (by decide), aupJ j2]
  have f3 : E1 256 2 = 0 := by rw [c4 2 (by decide), aupE]
  have p3 : PtrR (aup E1 256 11 0) := hp.of (fun j hj => by rw [aupJ (prL_ne hj (by decide))]; exact f2 j (prL_ne hj (by decide)) (prL_ne hj (by decide)) (prL_ne hj (by decide)))
  obtain ⟨E', v2, r1, r2⟩ := r_clear xs (d + 7) hκ p3 hv hu hvu (by rw [aupJ (by decide), f2 18 (by decide) (by decide) (by decide)]; exact e18) (n : Int)
  have st : cl xs (d + 8) 204 [.inr (.inr 256)] (κ, D) = ev xs (d + 7) mm_204 206 [some (.inr (.inr 256)), some (.inl v2)] [] (κ, E') := by
    rw [← r1, c_204]
    have e4 : setc (aup D 256 4 (n : Int)) 258 g 256 4 = (n : Int) := by rw [setc_ne (by decide), aupE]
    have t2 : ev xs (d + 7) mm_204 10 [some (.inr (.inr 256)), some (.inl 0)] [] (κ, aup D 256 4 (n : Int)) = ev xs (d + 7) mm_204 10 [some (.inr (.inr 256)), some (.inl (n : Int))] [] (κ, setc (aup D 256 4 (n : Int)) 258 g) := t2
    simp (disch := omega) only [cond_true, cond_false, k256, Int.toNat_natCast, Int.reduceToNat, h2, t2]
    rw [q_204_10]
    simp (disch := omega) only [cond_true, cond_false, k256, Int.toNat_natCast, Int.reduceToNat, Bool.and_true, e4, dT, dF, c1, bV_s]
  have g4 := clear_fr (D := aup (aup (aup (aup (aup E1 256 11 0) 256 12 0) 256 13 0) 256 15 0) 256 19 (u : Int)) hvu
  rw [← r2] at g4
  have w11 : E' 256 11 = 0 := by rw [r2]; simp (disch := omega) only [aup_ne, aupJ, aupE]
  have w12 : E' 256 12 = 0 := by rw [r2]; simp (disch := omega) only [aup_ne, aupJ, aupE]
  have w13 : E' 256 13 = 0 := by rw [r2]; simp (disch := omega) only [aup_ne, aupJ, aupE]
  have w15 : E' 256 15 = 0 := by rw [r2]; simp (disch := omega) only [aup_ne, aupJ, aupE]
  have w47 : E' 256 47 = ((130 * u : Nat) : Int) := by rw [r2]; simp (disch := omega) only [aup_ne, aupJ, aupE]
  have w53 : E' 256 53 = ((420 * u : Nat) : Int) := by rw [r2]; simp (disch := omega) only [aup_ne, aupJ, aupE]
  have z264 : E' 264 u = 0 := by rw [r2]; simp (disch := omega) only [aup_ne, aupJ, aupE]
  have z267 : E' 267 u = 0 := by rw [r2]; simp (disch := omega) only [aup_ne, aupJ, aupE]
  have z2740 : E' 274 (3 * u + 0) = 0 := by rw [r2]; simp (disch := omega) only [aup_ne, aupJ, aupE]
  have z2741 : E' 274 (3 * u + 1) = 0 := by rw [r2]; simp (disch := omega) only [aup_ne, aupJ, aupE]
  have z2742 : E' 274 (3 * u + 2) = 0 := by rw [r2]; simp (disch := omega) only [aup_ne, aupJ, aupE]
  have z277 : E' 277 u = 0 := by rw [r2]; simp (disch := omega) only [aup_ne, aupJ, aupE]
  have z279 : E' 279 u = 0 := by rw [r2]; simp (disch := omega) only [aup_ne, aupJ, aupE]
  have z283 : E' 283 u = 0 := by rw [r2]; simp (disch := omega) only [aup_ne, aupJ, aupE]
  have z288 : E' 288 u = 0 := by rw [r2]; simp (disch := omega) only [aup_ne, aupJ, aupE]
  have z289 : E' 289 u = 0 := by rw [r2]; simp (disch := omega) only [aup_ne, aupJ, aupE]
  have z290 : E' 290 u = 0 := by rw [r2]; simp (disch := omega) only [aup_ne, aupJ, aupE]
  clear r2 r1
  have y0 := y0_R z264 z267 (fun s hs => by
    rcases (show s = 0 ∨ s = 1 ∨ s = 2 by omega) with e | e | e <;> (subst e; assumption)) z277 z279 z283 z288 (z289.trans z290.symm)
  generalize hD4 : aup (aup (aup (aup (aup E1 256 11 0) 256 12 0) 256 13 0) 256 15 0) 256 19 (u : Int) = D4 at g4
  have d1 : ∀ q, q ≠ 256 → D4 q = E1 q := fun q hq' => by rw [← hD4]; simp (disch := omega) only [aup_ne]
  have d2 : ∀ j, j ≠ 11 → j ≠ 12 → j ≠ 13 → j ≠ 15 → j ≠ 19 → D4 256 j = E1 256 j := fun j j1 j2 j3 j4 j5 => by rw [← hD4, aupJ j5, aupJ j4, aupJ j3, aupJ j2, aupJ j1]
  have d19 : D4 256 19 = (u : Int) := by rw [← hD4, aupE]
  have d18 : D4 256 18 = (v : Int) := by rw [d2 18 (by decide) (by decide) (by decide) (by decide) (by decide), f2 18 (by decide) (by decide) (by decide)]; exact e18
  have p4 : PtrR D4 := hp.of (fun j hj => by rw [d2 j (prL_ne hj (by decide)) (prL_ne hj (by decide)) (prL_ne hj (by decide)) (prL_ne hj (by decide)) (prL_ne hj (by decide))]; exact f2 j (prL_ne hj (by decide)) (prL_ne hj (by decide)) (prL_ne hj (by decide)))
  have tk4 : TkR D4 (tkT f n) := by
    intro j hj hl
    rw [d1 259 (by decide), d1 260 (by decide), d1 261 (by decide), d1 262 (by decide)]
    exact c2 j hj hl
  obtain ⟨E, s1, w', s2, s3⟩ := rRows xs d hκ p4 hT tk4 (v := v) (u := u) ⟨d18, d19, hv, hu, by omega⟩ v2 401 0 (fun _ => 0) (0, 0) Y0 E' (by omega) ⟨g4, w13, ⟨0, by omega, w11⟩, fun q => absurd rfl q, fun _ => ⟨w11, by omega, live_0 _, w15, fun q => absurd rfl q⟩⟩ y0.2 ⟨Nat.zero_le _, Nat.zero_le _, fun s _ => Nat.zero_le _, Nat.zero_le _, Nat.zero_le _⟩ (Or.inl rfl) ⟨0, 0, w47, Nat.le_refl _, w53, Nat.le_refl _, w12⟩ ⟨rfl, rfl, rfl, rfl, rfl, rfl, rfl, rfl⟩ (fun _ => ⟨Y0_ok, y0.1⟩)
  have hF := s2.1
  have h19 : E 256 19 = (u : Int) := by rw [hF.2.1 19 (by decide)]; exact d19
  have h02 : E 256 2 = 0 := by rw [hF.2.1 2 (by decide), d2 2 (by decide) (by decide) (by decide) (by decide) (by decide)]; exact f3
  refine ⟨E, v2, st.trans s1, ⟨fun q q1 q2 => ?_, fun j hj => ?_, fun q q1 q2 j hj => ?_⟩, h02, h19, s2.2.1, s2.2.2.2.1, fun z => ?_⟩
  · rw [hF.1 q q1 (by omega), d1 q q1]; exact f1 q q1 (by omega)
  · obtain ⟨m0, m1, m2, m3, m4, m5, m6, m7, m8, m9⟩ := pf_rf hj
    rw [hF.2.1 j m0, d2 j m4 m5 m6 m7 m9]; exact f2 j m1 m2 m3
  · rw [hF.2.2 q q1 q2 j hj, d1 q (by omega)]; rw [f1 q (by omega) (by omega)]
  · obtain ⟨i1, i2, i3, i4, i5⟩ := s2.2.2.2.2 z
    obtain ⟨j1, j2⟩ := s3 z
    rw [j1] at i4 i5 j2
    exact ⟨i4, i5, j2⟩
