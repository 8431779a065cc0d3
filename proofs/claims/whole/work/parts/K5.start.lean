/-! The reference is made; what the calls start from. -/
def hZ : aH := opA ((0, 0, fun _ => (0, 0)), fun _ _ => 0) 256 12 85 (adf 12)
def Dz : Nat → Nat → Int := (o187 (o187a hZ 256 257)).2
set_option maxRecDepth 100000 in
theorem dz_p : PtrR Dz := by
  unfold PtrR
  decide +kernel
set_option maxRecDepth 100000 in
theorem dz_k : ∀ q, q < 24 → Dz 263 q = (p27 (krL.getD q []) : Int) := by decide +kernel
set_option maxRecDepth 100000 in
theorem dz_z : Dz 256 2 = 0 ∧ Dz 256 17 = -1 ∧ Dz 256 18 = 0 ∧ Dz 256 70 = 0 ∧ Dz 264 0 = 0 ∧ Dz 267 0 = 0 ∧ (∀ s, s < 3 → Dz 274 s = 0) ∧ Dz 277 0 = 0 ∧ Dz 279 0 = 0 ∧ Dz 283 0 = 0 ∧ Dz 288 0 = 0 ∧ Dz 289 0 = 0 ∧ Dz 290 0 = 0 ∧ Dz 303 0 = 0 ∧ ∀ i, i < 3 → Dz 313 i = 0 := by decide +kernel
def Ag (a b : aH) (hi : Nat) : Prop := ∀ q, 256 ≤ q → q < hi → a.2 q = b.2 q
theorem Ag_W {a b : aH} {hi r k : Nat} {v : Int} (h : Ag a b hi) : Ag (opW a r k v) (opW b r k v) hi := fun q h1 h2 => by
  funext j
  have e := h q h1 h2
  show aup a.2 r k v q j = aup b.2 r k v q j
  unfold aup
  by_cases e1 : q = r
  · rw [if_pos e1, if_pos e1]
    by_cases e2 : j = k
    · rw [if_pos e2, if_pos e2]
    · rw [if_neg e2, if_neg e2, e]
  · rw [if_neg e1, if_neg e1, e]
theorem Ag_A {a b : aH} {N c n : Nat} {g : Nat → Int} (h : Ag a b N) : Ag (opA a N c n g) (opA b N c n g) (N + 1) := fun q h1 h2 => by
  funext j
  show (if q = N then g j else a.2 q j) = (if q = N then g j else b.2 q j)
  by_cases e : q = N
  · rw [if_pos e, if_pos e]
  · rw [if_neg e, if_neg e, h q h1 (by omega)]
theorem ag_a {a b : aH} (h : Ag a b 257) : Ag (o187a a 256 257) (o187a b 256 257) 315 := by
  unfold o187a
  exact (Ag_A (Ag_W (Ag_A (Ag_W (Ag_A (Ag_W (Ag_A (Ag_W (Ag_A (Ag_W (Ag_A (Ag_W (Ag_A (Ag_W (Ag_A (Ag_W (Ag_A (Ag_W (Ag_A (Ag_W (Ag_A (Ag_W (Ag_A (Ag_W (Ag_A (Ag_W (Ag_A (Ag_W (Ag_A (Ag_W (Ag_A (Ag_W (Ag_A (Ag_W (Ag_A (Ag_W (Ag_A (Ag_W (Ag_A (Ag_W (Ag_A (Ag_W (Ag_A (Ag_W (Ag_A (Ag_W (Ag_A (Ag_W (Ag_A (Ag_W (Ag_A (Ag_W (Ag_A (Ag_W (Ag_A (Ag_W (Ag_A (Ag_W (Ag_A (Ag_W (Ag_A (Ag_W (Ag_A (Ag_W (Ag_A (Ag_W (Ag_A (Ag_W (Ag_A (Ag_W (Ag_A (Ag_W (Ag_A (Ag_W (Ag_A (Ag_W (Ag_A (Ag_W (Ag_A (Ag_W (Ag_A (Ag_W (Ag_A (Ag_W (Ag_A (Ag_W (Ag_A (Ag_W (Ag_A (Ag_W (Ag_A (Ag_W (Ag_A (Ag_W (Ag_A (Ag_W (Ag_A (Ag_W (Ag_A (Ag_W (Ag_A (Ag_W (Ag_W (Ag_A (Ag_W (Ag_A (Ag_W (Ag_A (Ag_W (Ag_A (Ag_W (Ag_A (Ag_W (Ag_A (Ag_W (Ag_A h))))))))))))))))))))))))))))))))))))))))))))))))))))))))))))))))))))))))))))))))))))))))))))))))))))))))))))))))))))
theorem ag_k {a b : aH} (h : Ag a b 315) : Ag (o187 a) (o187 b) 315 := by
  unfold o187 o187k
  exact (Ag_W (Ag_W (Ag_W (Ag_W (Ag_W (Ag_W (Ag_W (Ag_W (Ag_W (Ag_W (Ag_W (Ag_W (Ag_W (Ag_W (Ag_W (Ag_W (Ag_W (Ag_W (Ag_W (Ag_W (Ag_W (Ag_W (Ag_W (Ag_W (Ag_W h)))))))))))))))))))))))))
theorem ag_0 (h : aH) : Ag (opA h 256 12 85 (adf 12)) hZ 257 := Ag_A (fun q h1 h2 => absurd h1 (by omega))
theorem dz_e (h : aH) : ∀ q, 256 ≤ q → q < 315 → (o187 (o187a (opA h 256 12 85 (adf 12)) 256 257)).2 q = Dz q := ag_k (ag_a (ag_0 h))
set_option maxRecDepth 100000 in
theorem dz_9 : (o187a hZ 256 257).2 256 9 = ((263 : Nat) : Int) := by decide +kernel
theorem rm9a (h : aH) : (o187a (opA h 256 12 85 (adf 12)) 256 257).2 256 9 = ((263 : Nat) : Int) := (congrFun (ag_a (ag_0 h) 256 (by decide) (by decide)) 9).trans dz_9
theorem rm_q (h : aH) {q : Nat} (hq : q < 256) : (o187 (o187a h 256 257)).2 q = h.2 q := by
  have z1 : q ≠ 263 := by omega
  have z2 : q ≠ 256 := by omega
  unfold o187 o187k o187a
  rw [oW_q z1, oW_q z1, oW_q z1, oW_q z1, oW_q z1, oW_q z1, oW_q z1, oW_q z1, oW_q z1, oW_q z1, oW_q z1, oW_q z1, oW_q z1, oW_q z1, oW_q z1, oW_q z1, oW_q z1, oW_q z1, oW_q z1, oW_q z1, oW_q z1, oW_q z1, oW_q z1, oW_q z1, oW_q z2]
  rw [oA_q (by omega), oW_q z2, oA_q (by omega), oW_q z2, oA_q (by omega), oW_q z2, oA_q (by omega), oW_q z2, oA_q (by omega), oW_q z2, oA_q (by omega), oW_q z2, oA_q (by omega), oW_q z2, oA_q (by omega), oW_q z2, oA_q (by omega), oW_q z2, oA_q (by omega), oW_q z2, oA_q (by omega), oW_q z2, oA_q (by omega), oW_q z2, oA_q (by omega), oW_q z2, oA_q (by omega), oW_q z2, oA_q (by omega), oW_q z2, oA_q (by omega), oW_q z2, oA_q (by omega), oW_q z2, oA_q (by omega), oW_q z2, oA_q (by omega), oW_q z2, oA_q (by omega), oW_q z2, oA_q (by omega), oW_q z2, oA_q (by omega), oW_q z2, oA_q (by omega), oW_q z2, oA_q (by omega), oW_q z2, oA_q (by omega), oW_q z2, oA_q (by omega), oW_q z2, oA_q (by omega), oW_q z2, oA_q (by omega), oW_q z2, oA_q (by omega), oW_q z2, oA_q (by omega), oW_q z2, oA_q (by omega), oW_q z2, oA_q (by omega), oW_q z2, oA_q (by omega), oW_q z2, oA_q (by omega), oW_q z2, oA_q (by omega), oW_q z2, oA_q (by omega), oW_q z2, oA_q (by omega), oW_q z2, oA_q (by omega), oW_q z2, oA_q (by omega), oW_q z2, oA_q (by omega), oW_q z2, oA_q (by omega), oW_q z2, oA_q (by omega), oW_q z2, oA_q (by omega), oW_q z2, oA_q (by omega), oW_q z2, oA_q (by omega), oW_q z2, oA_q (by omega), oW_q z2, oA_q (by omega), oW_q z2, oA_q (by omega), oW_q z2, oA_q (by omega), oW_q z2, oA_q (by omega), oW_q z2, oA_q (by omega), oW_q z2, oW_q z2, oA_q (by omega), oW_q z2, oA_q (by omega), oW_q z2, oA_q (by omega), oW_q z2, oA_q (by omega), oW_q z2, oA_q (by omega), oW_q z2, oA_q (by omega), oW_q z2, oA_q (by omega)]
theorem kg_W {a b : aH} {r k : Nat} {v : Int} (h : a.1 = b.1) : (opW a r k v).1 = (opW b r k v).1 := h
theorem kg_A {a b : aH} {N c n : Nat} {g : Nat → Int} (h : a.1 = b.1) : (opA a N c n g).1 = (opA b N c n g).1 := by
  show (N + 1, a.1.2.1 + n, fun q => if q = N then (c, n) else a.1.2.2 q) = (N + 1, b.1.2.1 + n, fun q => if q = N then (c, n) else b.1.2.2 q)
  rw [h]
theorem kg_a {a b : aH} (h : a.1 = b.1) : (o187a a 256 257).1 = (o187a b 256 257).1 := by
  unfold o187a
  exact (kg_A (kg_W (kg_A (kg_W (kg_A (kg_W (kg_A (kg_W (kg_A (kg_W (kg_A (kg_W (kg_A (kg_W (kg_A (kg_W (kg_A (kg_W (kg_A (kg_W (kg_A (kg_W (kg_A (kg_W (kg_A (kg_W (kg_A (kg_W (kg_A (kg_W (kg_A (kg_W (kg_A (kg_W (kg_A (kg_W (kg_A (kg_W (kg_A (kg_W (kg_A (kg_W (kg_A (kg_W (kg_A (kg_W (kg_A (kg_W (kg_A (kg_W (kg_A (kg_W (kg_A (kg_W (kg_A (kg_W (kg_A (kg_W (kg_A (kg_W (kg_A (kg_W (kg_A (kg_W (kg_A (kg_W (kg_A (kg_W (kg_A (kg_W (kg_A (kg_W (kg_A (kg_W (kg_A (kg_W (kg_A (kg_W (kg_A (kg_W (kg_A (kg_W (kg_A (kg_W (kg_A (kg_W (kg_A (kg_W (kg_A (kg_W (kg_A (kg_W (kg_A (kg_W (kg_A (kg_W (kg_A (kg_W (kg_A (kg_W (kg_A (kg_W (kg_W (kg_A (kg_W (kg_A (kg_W (kg_A (kg_W (kg_A (kg_W (kg_A (kg_W (kg_A (kg_W (kg_A h))))))))))))))))))))))))))))))))))))))))))))))))))))))))))))))))))))))))))))))))))))))))))))))))))))))))))))))))))))
def hR : aK := (o187a (opA (hB.1, fun _ _ => 0) 256 12 85 (adf 12)) 256 257).1
set_option maxRecDepth 100000 in
theorem hR_shp : Shp hR := by
  show ∀ r, r < 315 → r < hR.1 ∧ hR.2.2 r = KT r
  decide +kernel
set_option maxRecDepth 100000 in
theorem hR_n : hR.1 = 315 ∧ hR.2.1 = 25856 := by decide +kernel
theorem hR_e (E : Nat → Nat → Int) : (o187a (opA (hB.1, E) 256 12 85 (adf 12)) 256 257).1 = hR := kg_a (kg_A rfl)
theorem opW_1 (h : aH) (r k : Nat) (v : Int) : (opW h r k v).1 = h.1 := rfl
theorem o187k_1 (h : aH) : (o187k h).1 = h.1 := by
  unfold o187k
  simp only [opW_1]
theorem oW_2 (h : aH) (r k : Nat) (v : Int) : aup h.2 r k v = (opW h r k v).2 := rfl
theorem o187_2 (h : aH) : (opW (o187k h) 263 23 (pk7 108 101 102 116 0 0 0)).2 = (o187 h).2 := rfl
theorem ref0 (xs : List Int) (d : Nat) (E : Nat → Nat → Int) : ∃ E', cl xs (d + 8) 187 [.inr (.inr 256)] (opA (hB.1, E) 256 12 85 (adf 12)) = some (none, (hR, E')) ∧ (∀ q, q < 256 → E' q = E q) ∧ KyR E' ∧ RCore E' 0 X0 (S0 X0) 0 (fun _ => S0 X0) (fun _ => none) ∧ LwR E' 0 X0 ∧ E' 256 2 = 0 ∧ E' 256 17 = -1 := by
  have hs := hR_shp
  have k256 : aok hR ((256 : Nat) : Int) 12 = true := k_256 hs
  have kr : kd (o187a (opA (hB.1, E) 256 12 85 (adf 12)) 256 257) 256 12 85 := by
    show 256 < (o187a (opA (hB.1, E) 256 12 85 (adf 12)) 256 257).1.1 ∧ (o187a (opA (hB.1, E) 256 12 85 (adf 12)) 256 257).1.2.2 256 = (12, 85)
    rw [hR_e]
    exact ⟨(hs 256 (by decide)).1, (hs 256 (by decide)).2.trans (by decide)⟩
  have kk : kd (o187a (opA (hB.1, E) 256 12 85 (adf 12)) 256 257) 263 101 24 := by
    show 263 < (o187a (opA (hB.1, E) 256 12 85 (adf 12)) 256 257).1.1 ∧ (o187a (opA (hB.1, E) 256 12 85 (adf 12)) 256 257).1.2.2 263 = (101, 24)
    rw [hR_e]
    exact ⟨(hs 263 (by decide)).1, (hs 263 (by decide)).2.trans (by decide)⟩
  have e1 := i_187a xs (d + 7) (h := opA (hB.1, E) 256 12 85 (adf 12)) (r := 256) (n := 257) rfl (kd_N _ _ _ _ _)
  have e2 := keys_run xs (d + 5) kr kk (rm9a _)
  have de := dz_e (hB.1, E)
  have hq := fun (q : Nat) (hq : q < 256) => rm_q (opA (hB.1, E) 256 12 85 (adf 12)) hq
  have r9 : (o187k (o187a (opA (hB.1, E) 256 12 85 (adf 12)) 256 257)).2 256 9 = ((263 : Nat) : Int) := (o187k_9 _).trans (rm9a _)
  have hk1 : (o187k (o187a (opA (hB.1, E) 256 12 85 (adf 12)) 256 257)).1 = hR := (o187k_1 _).trans (hR_e E)
  have hD : ∀ v, aup (o187k (o187a (opA (hB.1, E) 256 12 85 (adf 12)) 256 257)).2 263 23 v = (opW (o187k (o187a (opA (hB.1, E) 256 12 85 (adf 12)) 256 257)) 263 23 v).2 := fun v => oW_2 _ _ _ _
  have hO : (opW (o187k (o187a (opA (hB.1, E) 256 12 85 (adf 12)) 256 257)) 263 23 (pk7 108 101 102 116 0 0 0)).2 = (o187 (o187a (opA (hB.1, E) 256 12 85 (adf 12)) 256 257)).2 := o187_2 _
  generalize (o187 (o187a (opA (hB.1, E) 256 12 85 (adf 12)) 256 257)).2 = D at *
  obtain ⟨w2, w17, w18, w70, w264, w267, w274, w277, w279, w283, w288, w289, w290, w303, w313⟩ := dz_z
  have dq : ∀ q, 256 ≤ q → q < 315 → ∀ j, D q j = Dz q j := fun q a b j => congrFun (de q a b) j
  have hp : PtrR D := PtrR.of dz_p (fun j _ => dq 256 (by decide) (by decide) j)
  have hky : KyR D := fun q hq => (dq 263 (by decide) (by decide) q).trans (dz_k q hq)
  have y := y0_R (E := D) (u := 0) ((dq 264 (by decide) (by decide) 0).trans w264) ((dq 267 (by decide) (by decide) 0).trans w267) (fun s hs => by
    rw [Nat.mul_zero, Nat.zero_add]
    exact (dq 274 (by decide) (by decide) s).trans (w274 s hs)) ((dq 277 (by decide) (by decide) 0).trans w277) ((dq 279 (by decide) (by decide) 0).trans w279) ((dq 283 (by decide) (by decide) 0).trans w283) ((dq 288 (by decide) (by decide) 0).trans w288) (((dq 289 (by decide) (by decide) 0).trans w289).trans ((dq 290 (by decide) (by decide) 0).trans w290).symm)
  have z2 : D 256 2 = 0 := (dq 256 (by decide) (by decide) 2).trans w2
  have z17 : D 256 17 = -1 := (dq 256 (by decide) (by decide) 17).trans w17
  have z18 : D 256 18 = ((0 : Nat) : Int) := (dq 256 (by decide) (by decide) 18).trans w18
  have z70 : D 256 70 = ((0 : Nat) : Int) := (dq 256 (by decide) (by decide) 70).trans w70
  have z303 : D 303 0 = 0 := (dq 303 (by decide) (by decide) 0).trans w303
  have z313 : ∀ i, i < 3 → D 313 i = 0 := fun i hi => (dq 313 (by decide) (by decide) i).trans (w313 i hi)
  have tx : TxV D 0 X0 := TxV.congr y.1.1 (fun q q1 q2 => by rw [sid_q (by omega)]) (by rw [sid_18]; exact z18)
  obtain ⟨r, c1, c2⟩ := rbeg_eq xs (d + 6) hs hp (v := 0) (by decide) z18 Y0_ok.1 tx
  have pG := hp.setc (r := 302) (by decide) r
  have c3 := keepsRow_eq xs (d + 6) hs pG
  rw [setc_self] at c3
  have pK := pG.setc (r := 301) (by decide) (cpn 60 r (setc D 302 r 301))
  have k0 : ∀ q, q ≠ 301 → q ≠ 302 → setc (setc D 302 r) 301 (cpn 60 r (setc D 302 r 301)) q = D q := fun q q1 q2 => by rw [setc_ne q1, setc_ne q2]
  have k1 : setc (setc D 302 r) 301 (cpn 60 r (setc D 302 r 301)) 301 = cpn 60 r (setc D 302 r 301) := setc_self ..
  refine ⟨setc (setc D 302 r) 301 (cpn 60 r (setc D 302 r 301)), ?_, fun q hlt => ?_, fun q hlt => ?_, ⟨⟨pK, ?_, by decide, ?_, TxV.congr tx (fun q q1 q2 => k0 q (by omega) (by omega)) (by rw [k0 256 (by decide) (by decide)])⟩, ?_, ⟨?_, Nat.zero_le _, fun i hi => absurd hi (Nat.not_lt_zero i)⟩, fun i hi => ⟨?_, fun S h => by cases h⟩⟩, y.1.2.2.2.congr (fun q q1 q2 => k0 q (by omega) (by omega)) rfl, by rw [k0 256 (by decide) (by decide)]; exact z2, by rw [k0 256 (by decide) (by decide)]; exact z17⟩
  · refine (e1.trans e2).trans ?_
    have i23 : ain hR ((263 : Nat) : Int) 101 23 = true := n_263 hs (by decide) (by decide)
    have c2' : cl xs (d + 7) 227 [.inr (.inr ((256 : Nat) : Int))] (hR, D) = some (none, (hR, setc D 302 r)) := c2
    have c3' : cl xs (d + 7) 228 [.inr (.inr ((256 : Nat) : Int))] (hR, setc D 302 r) = some (none, (hR, setc (setc D 302 r) 301 (cpn 60 r (setc D 302 r 301)))) := c3
    rw [q_187_966]
    simp only [hk1, k256, cond_true, Bool.and_true, Int.toNat_natCast, Int.reduceToNat, pk_195, bJ_s, r9, i23, hD, hO, c2', bV_s, c3']
  · rw [k0 q (by omega) (by omega), hq q hlt, oA_q (by omega)]
  · rw [k0 263 (by decide) (by decide)]; exact hky q hlt
  · rw [k0 256 (by decide) (by decide)]; exact z18
  · rw [k0 303 (by decide) (by decide)]; exact z303
  · rw [k1]; exact c1.cpn Y0_ok.1
  · rw [k0 256 (by decide) (by decide)]; exact z70
  · rw [k0 313 (by decide) (by decide)]; exact z313 i hi
