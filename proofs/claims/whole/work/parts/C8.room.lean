/-! Orders: room for more (27), and a new row. -/
def kAd (κ : aK) (c n : Nat) : aK := (κ.1 + 1, κ.2.1 + n, fun q => if q = κ.1 then (c, n) else κ.2.2 q)
theorem kAd_e (κ : aK) (c n : Nat) : (kAd κ c n).2.2 κ.1 = (c, n) := if_pos rfl
theorem kAd_o {κ : aK} {c n q : Nat} (h : q ≠ κ.1) : (kAd κ c n).2.2 q = κ.2.2 q := if_neg h
theorem kAd_le (κ : aK) (c : Nat) {n : Nat} (hn : 2 ≤ n) : KLe κ (kAd κ c n) := ⟨Nat.le_succ _, fun q hq => kAd_o (by omega), by show 2 * (κ.1 + 1) + κ.2.1 ≤ 2 * κ.1 + (κ.2.1 + n); omega⟩
def cpN (D : Nat → Nat → Int) (N r n : Nat) : Nat → Nat → Int := fun q j => if q = N then (if j < n then D r j else 0) else D q j
theorem cpN_o {D : Nat → Nat → Int} {N r n q : Nat} (h : q ≠ N) : cpN D N r n q = D q := by
  funext j
  exact if_neg h
theorem cpN_n {D : Nat → Nat → Int} {N r n j : Nat} (h : j < n) : cpN D N r n N j = D r j := by
  unfold cpN
  rw [if_pos rfl, if_pos h]
theorem omin_lt {n m : Nat} (h : n ≤ m) : omin (n : Int) (m : Int) = (n : Int) := by
  unfold omin
  split <;> omega
theorem cp_fun2 {D : Nat → Nat → Int} {N r n : Nat} (h : r ≠ N) {f g : Nat → Int} (hf : ∀ j, f j = D r j) (hg : ∀ j, g j = 0) : (fun (q j : Nat) => if q = N then acpy f g 0 0 n j else if q = N then (0 : Int) else D q j) = cpN D N r n := by
  funext q j
  unfold cpN acpy
  by_cases hq : q = N
  · rw [if_pos hq, if_pos hq]
    by_cases hj : j < n
    · rw [if_pos (by omega), if_pos hj, hf]
      simp
    · rw [if_neg (by omega), if_neg hj, hg]
  · rw [if_neg hq, if_neg hq, if_neg hq]
theorem copyI_eq (xs : List Int) (d : Nat) {κ : aK} {D : Nat → Nat → Int} {r n m : Nat} (hr : r < κ.1) (hk : κ.2.2 r = (100, n)) (hnm : n < m) (hm : m ≤ 1000000) : cl xs (d + 1) 319 [.inr (.inr ((r : Nat) : Int)), .inl (m : Int)] (κ, D) = some (some (.inr (.inr (κ.1 : Int))), (kAd κ 100 m, cpN D κ.1 r n)) := by
  have a1 := aoa_g hr hk (by decide)
  have a2 := aln_g hk
  have k1 : (kAd κ 100 m).1 = κ.1 + 1 := rfl
  have hr2 : (kAd κ 100 m).2.2 r = (100, n) := (kAd_o (by omega)).trans hk
  have b1 : aoa (kAd κ 100 m) ((r : Nat) : Int) = true := aoa_g (by rw [k1]; omega) hr2 (by decide)
  have b2 : aln (kAd κ 100 m) ((r : Nat) : Int) = n := aln_g hr2
  have b3 : aok (kAd κ 100 m) ((r : Nat) : Int) 100 = true := aok_t r rfl (by rw [k1]; omega) hr2
  have b4 : aok (kAd κ 100 m) ((κ.1 : Nat) : Int) 100 = true := aok_t κ.1 rfl (by rw [k1]; omega) (kAd_e κ 100 m)
  have b5 : aln (kAd κ 100 m) ((κ.1 : Nat) : Int) = m := aln_g (kAd_e κ 100 m)
  have q17 : ev xs d mm_319 17 [some (.inr (.inr ((r : Nat) : Int))), some (.inl (m : Int)), none] [.inr (.inr (κ.1 : Int))] (kAd κ 100 m, fun q j => if q = κ.1 then 0 else D q j) = some (some (.inr (.inr (κ.1 : Int))), (kAd κ 100 m, cpN D κ.1 r n)) := by
    rw [q_319_17]
    have eo : omin (n : Int) (m : Int) = (n : Int) := omin_lt (by omega)
    simp (disch := omega) only [b1, b2, b3, b4, b5, eo, cond_true, Bool.and_true, Bool.true_and, Int.toNat_natCast, Int.reduceToNat, dT]
    rw [cp_fun2 (show r ≠ κ.1 by omega) (fun j => if_neg (by omega)) (fun j => if_pos True.intro)]
  rw [c_319]
  simp (disch := omega) only [a1, a2, cond_true, cond_false, Bool.and_true, Bool.true_and, Int.toNat_natCast, dT]
  exact q17
theorem copyL_eq (xs : List Int) (d : Nat) {κ : aK} {D : Nat → Nat → Int} {r n m : Nat} (hr : r < κ.1) (hk : κ.2.2 r = (101, n)) (hnm : n < m) (hm : m ≤ 1000000) : cl xs (d + 1) 320 [.inr (.inr ((r : Nat) : Int)), .inl (m : Int)] (κ, D) = some (some (.inr (.inr (κ.1 : Int))), (kAd κ 101 m, cpN D κ.1 r n)) := by
  have a1 := aoa_g hr hk (by decide)
  have a2 := aln_g hk
  have k1 : (kAd κ 101 m).1 = κ.1 + 1 := rfl
  have hr2 : (kAd κ 101 m).2.2 r = (101, n) := (kAd_o (by omega)).trans hk
  have b1 : aoa (kAd κ 101 m) ((r : Nat) : Int) = true := aoa_g (by rw [k1]; omega) hr2 (by decide)
  have b2 : aln (kAd κ 101 m) ((r : Nat) : Int) = n := aln_g hr2
  have b3 : aok (kAd κ 101 m) ((r : Nat) : Int) 101 = true := aok_t r rfl (by rw [k1]; omega) hr2
  have b4 : aok (kAd κ 101 m) ((κ.1 : Nat) : Int) 101 = true := aok_t κ.1 rfl (by rw [k1]; omega) (kAd_e κ 101 m)
  have b5 : aln (kAd κ 101 m) ((κ.1 : Nat) : Int) = m := aln_g (kAd_e κ 101 m)
  have q17 : ev xs d mm_320 17 [some (.inr (.inr ((r : Nat) : Int))), some (.inl (m : Int)), none] [.inr (.inr (κ.1 : Int))] (kAd κ 101 m, fun q j => if q = κ.1 then 0 else D q j) = some (some (.inr (.inr (κ.1 : Int))), (kAd κ 101 m, cpN D κ.1 r n)) := by
    rw [q_320_17]
    have eo : omin (n : Int) (m : Int) = (n : Int) := omin_lt (by omega)
    simp (disch := omega) only [b1, b2, b3, b4, b5, eo, cond_true, Bool.and_true, Bool.true_and, Int.toNat_natCast, Int.reduceToNat, dT]
    rw [cp_fun2 (show r ≠ κ.1 by omega) (fun j => if_neg (by omega)) (fun j => if_pos True.intro)]
  rw [c_320]
  simp (disch := omega) only [a1, a2, cond_true, cond_false, Bool.and_true, Bool.true_and, Int.toNat_natCast, dT]
  exact q17
def cpA (D : Nat → Nat → Int) (N r n k : Nat) : Nat → Nat → Int := aup (cpN D N r n) 77 k (N : Int)
theorem cpA_o {D : Nat → Nat → Int} {N r n k q : Nat} (h1 : q ≠ 77) (h2 : q ≠ N) : cpA D N r n k q = D q := by
  unfold cpA
  rw [aupN h1, cpN_o h2]
theorem cpA_k (D : Nat → Nat → Int) (N r n k : Nat) : cpA D N r n k 77 k = (N : Int) := aupE ..
theorem cpA_j {D : Nat → Nat → Int} {N r n k j : Nat} (h1 : 77 ≠ N) (h2 : j ≠ k) : cpA D N r n k 77 j = D 77 j := by
  unfold cpA
  rw [aupJ h2, cpN_o h1]
theorem cpA_n {D : Nat → Nat → Int} {N r n k j : Nat} (h1 : N ≠ 77) (h2 : j < n) : cpA D N r n k N j = D r j := by
  unfold cpA
  rw [aupN h1, cpN_n h2]
set_option maxHeartbeats 16000000 in
theorem mkRoom (xs : List Int) (d : Nat) {κ : aK} {D : Nat → Nat → Int} (hκ : Shp κ) {a b c e g R m : Nat} (hK : OrK κ a b c e g R) (hF : OrF D a b c e g m) (hm : m ≤ R) (hmx : m < 13700) : ∃ κ' D' a' b' c' e' g' R', cl xs (d + 2) 27 [.inr (.inr ((77 : Nat) : Int))] (κ, D) = some (none, (κ', D')) ∧ KLe κ κ' ∧ OrK κ' a' b' c' e' g' R' ∧ OrF D' a' b' c' e' g' m ∧ m < R' ∧ (∀ i, i < m → D' a' i = D a i ∧ D' b' i = D b i ∧ D' c' i = D c i ∧ D' e' i = D e i) ∧ (∀ i, i < m * 8 → D' g' i = D g i) ∧ (∀ q, q < 84 ∨ (88 < q ∧ q < 315) → q ≠ 77 → D' q = D q) ∧ (∀ j, j < 8 → D' 77 j = D 77 j) ∧ κ'.2.1 + 24 * (27400 - R') ≤ κ.2.1 + 24 * (27400 - R) := by
  obtain ⟨f1, f2, f3, f4, f5, f6⟩ := hF
  have k77 := kc_77 hκ
  have h315 := (hκ 314 (by decide)).1
  have hK' := hK
  obtain ⟨⟨ka, kb, kc, ke, kg⟩, ⟨o1, o2, o3, o4, o5⟩, ⟨d1, d2, d3, d4, d5, d6, d7, d8, d9, d10⟩, r1, r2⟩ := hK
  have a1 := aoa_g ka.1 ka.2 (by decide)
  have a2 := aln_g ka.2
  by_cases hmR : m < R
  · refine ⟨κ, D, a, b, c, e, g, R, ?_, KLe.rfl' κ, hK', ⟨f1, f2, f3, f4, f5, f6⟩, hmR, fun _ _ => ⟨rfl, rfl, rfl, rfl⟩, fun _ _ => rfl, fun _ _ _ => rfl, fun _ _ => rfl, Nat.le_refl _⟩
    rw [c_27]
    simp (disch := omega) only [cond_true, cond_false, Bool.and_true, Bool.true_and, Bool.and_false, Bool.false_and, Int.toNat_natCast, Int.reduceToNat, bI_s, bJ_s, bV_s, bR_s, decide_true, decide_false, not_true_eq_false, not_false_eq_true, dT, dF, w_al, w_la, w_ab, w_sl, w_sb, w_dec, w_ml, w_lm, ol2i_n, aup_ne, aupE, aupJ, setc_self, setc_ne, k77, f1, f2, a1, a2]
  · have na : a ≠ 77 := by unfold okc at o1; omega
    have nb : b ≠ 77 := by unfold okc at o2; omega
    have nc : c ≠ 77 := by unfold okc at o3; omega
    have ne : e ≠ 77 := by unfold okc at o4; omega
    have ng : g ≠ 77 := by unfold okc at o5; omega
    clear o1 o2 o3 o4 o5 d1 d2 d3 d4 d5 d6 d7 d8 d9 d10 hK'
    have hmR' : m = R := by omega
    have eR : w32 (2 * (R : Int)) = ((2 * R : Nat) : Int) := by rw [w32_id (by omega) (by omega)]; omega
    have eG : w32 (((2 * R : Nat) : Int) * 8) = ((R * 8 * 2 : Nat) : Int) := by rw [w32_id (by omega) (by omega)]; omega
    generalize hk1 : kAd κ 100 (2 * R) = κ1
    generalize hk2 : kAd κ1 100 (2 * R) = κ2
    generalize hk3 : kAd κ2 100 (2 * R) = κ3
    generalize hk4 : kAd κ3 100 (2 * R) = κ4
    generalize hk5 : kAd κ4 101 (R * 8 * 2) = κ5
    have n1 : κ1.1 = κ.1 + 1 := by rw [← hk1]; rfl
    have n2 : κ2.1 = κ.1 + 2 := by rw [← hk2]; show κ1.1 + 1 = _; omega
    have n3 : κ3.1 = κ.1 + 3 := by rw [← hk3]; show κ2.1 + 1 = _; omega
    have n4 : κ4.1 = κ.1 + 4 := by rw [← hk4]; show κ3.1 + 1 = _; omega
    have n5 : κ5.1 = κ.1 + 5 := by rw [← hk5]; show κ4.1 + 1 = _; omega
    have z1 : κ1.2.1 = κ.2.1 + 2 * R := by rw [← hk1]; rfl
    have z2 : κ2.2.1 = κ1.2.1 + 2 * R := by rw [← hk2]; rfl
    have z3 : κ3.2.1 = κ2.2.1 + 2 * R := by rw [← hk3]; rfl
    have z4 : κ4.2.1 = κ3.2.1 + 2 * R := by rw [← hk4]; rfl
    have z5 : κ5.2.1 = κ4.2.1 + R * 8 * 2 := by rw [← hk5]; rfl
    have l1 : KLe κ κ1 := by rw [← hk1]; exact kAd_le _ _ (by omega)
    have l2 : KLe κ1 κ2 := by rw [← hk2]; exact kAd_le _ _ (by omega)
    have l3 : KLe κ2 κ3 := by rw [← hk3]; exact kAd_le _ _ (by omega)
    have l4 : KLe κ3 κ4 := by rw [← hk4]; exact kAd_le _ _ (by omega)
    have l5 : KLe κ4 κ5 := by rw [← hk5]; exact kAd_le _ _ (by omega)
    have l02 := l1.trans l2
    have l03 := l02.trans l3
    have l04 := l03.trans l4
    have l05 := l04.trans l5
    have l25 := (l2.trans l3).trans (l4.trans l5)
    have l35 := l3.trans (l4.trans l5)
    have l45 := l4.trans l5
    have e1 : κ1.2.2 κ.1 = (100, 2 * R) := by rw [← hk1]; exact kAd_e ..
    have e2 : κ2.2.2 κ1.1 = (100, 2 * R) := by rw [← hk2]; exact kAd_e ..
    have e3 : κ3.2.2 κ2.1 = (100, 2 * R) := by rw [← hk3]; exact kAd_e ..
    have e4 : κ4.2.2 κ3.1 = (100, 2 * R) := by rw [← hk4]; exact kAd_e ..
    have e5 : κ5.2.2 κ4.1 = (101, R * 8 * 2) := by rw [← hk5]; exact kAd_e ..
    have ka0 := ka.1
    have kb0 := kb.1
    have kc0 := kc.1
    have ke0 := ke.1
    have kg0 := kg.1
    have s1 := copyI_eq xs d (κ := κ) (D := D) (m := 2 * R) ka.1 ka.2 (by omega) (by omega)
    generalize hD1 : cpA D κ.1 a R 8 = D1
    have s2 := copyI_eq xs d (κ := κ1) (D := D1) (m := 2 * R) (r := b) (n := R) (by omega) ((l1.2.1 b kb.1).trans kb.2) (by omega) (by omega)
    generalize hD2 : cpA D1 κ1.1 b R 9 = D2
    have s3 := copyI_eq xs d (κ := κ2) (D := D2) (m := 2 * R) (r := c) (n := R) (by omega) ((l02.2.1 c kc.1).trans kc.2) (by omega) (by omega)
    generalize hD3 : cpA D2 κ2.1 c R 10 = D3
    have s4 := copyI_eq xs d (κ := κ3) (D := D3) (m := 2 * R) (r := e) (n := R) (by omega) ((l03.2.1 e ke.1).trans ke.2) (by omega) (by omega)
    generalize hD4 : cpA D3 κ3.1 e R 11 = D4
    have s5 := copyL_eq xs d (κ := κ4) (D := D4) (m := R * 8 * 2) (r := g) (n := R * 8) (by omega) ((l04.2.1 g kg.1).trans kg.2) (by omega) (by omega)
    generalize hD5 : cpA D4 κ4.1 g (R * 8) 12 = D5
    rw [hk1] at s1
    rw [hk2] at s2
    rw [hk3] at s3
    rw [hk4] at s4
    rw [hk5] at s5
    have x1 : aup (cpN D κ.1 a R) 77 8 (κ.1 : Int) = D1 := hD1
    have x2 : aup (cpN D1 κ1.1 b R) 77 9 (κ1.1 : Int) = D2 := hD2
    have x3 : aup (cpN D2 κ2.1 c R) 77 10 (κ2.1 : Int) = D3 := hD3
    have x4 : aup (cpN D3 κ3.1 e R) 77 11 (κ3.1 : Int) = D4 := hD4
    have x5 : aup (cpN D4 κ4.1 g (R * 8)) 77 12 (κ4.1 : Int) = D5 := hD5
    have p1 : ∀ q, q ≠ 77 → q ≠ κ.1 → D1 q = D q := fun q y1 y2 => by rw [← hD1]; exact cpA_o y1 y2
    have p2 : ∀ q, q ≠ 77 → q ≠ κ.1 + 1 → D2 q = D1 q := fun q y1 y2 => by rw [← hD2]; exact cpA_o y1 (by omega)
    have p3 : ∀ q, q ≠ 77 → q ≠ κ.1 + 2 → D3 q = D2 q := fun q y1 y2 => by rw [← hD3]; exact cpA_o y1 (by omega)
    have p4 : ∀ q, q ≠ 77 → q ≠ κ.1 + 3 → D4 q = D3 q := fun q y1 y2 => by rw [← hD4]; exact cpA_o y1 (by omega)
    have p5 : ∀ q, q ≠ 77 → q ≠ κ.1 + 4 → D5 q = D4 q := fun q y1 y2 => by rw [← hD5]; exact cpA_o y1 (by omega)
    have j1 : ∀ j, j ≠ 8 → D1 77 j = D 77 j := fun j y => by rw [← hD1]; exact cpA_j (by omega) y
    have j2 : ∀ j, j ≠ 9 → D2 77 j = D1 77 j := fun j y => by rw [← hD2]; exact cpA_j (by omega) y
    have j3 : ∀ j, j ≠ 10 → D3 77 j = D2 77 j := fun j y => by rw [← hD3]; exact cpA_j (by omega) y
    have j4 : ∀ j, j ≠ 11 → D4 77 j = D3 77 j := fun j y => by rw [← hD4]; exact cpA_j (by omega) y
    have j5 : ∀ j, j ≠ 12 → D5 77 j = D4 77 j := fun j y => by rw [← hD5]; exact cpA_j (by omega) y
    have q1 : D1 77 8 = (κ.1 : Int) := by rw [← hD1]; exact cpA_k ..
    have q2 : D2 77 9 = (κ1.1 : Int) := by rw [← hD2]; exact cpA_k ..
    have q3 : D3 77 10 = (κ2.1 : Int) := by rw [← hD3]; exact cpA_k ..
    have q4 : D4 77 11 = (κ3.1 : Int) := by rw [← hD4]; exact cpA_k ..
    have q5 : D5 77 12 = (κ4.1 : Int) := by rw [← hD5]; exact cpA_k ..
    have t1 : ∀ i, i < R → D1 κ.1 i = D a i := fun i y => by rw [← hD1]; exact cpA_n (by omega) y
    have t2 : ∀ i, i < R → D2 κ1.1 i = D1 b i := fun i y => by rw [← hD2]; exact cpA_n (by omega) y
    have t3 : ∀ i, i < R → D3 κ2.1 i = D2 c i := fun i y => by rw [← hD3]; exact cpA_n (by omega) y
    have t4 : ∀ i, i < R → D4 κ3.1 i = D3 e i := fun i y => by rw [← hD4]; exact cpA_n (by omega) y
    have t5 : ∀ i, i < R * 8 → D5 κ4.1 i = D4 g i := fun i y => by rw [← hD5]; exact cpA_n (by omega) y
    have g9 : D1 77 9 = (b : Int) := (j1 9 (by decide)).trans f3
    have g10 : D2 77 10 = (c : Int) := (j2 10 (by decide)).trans ((j1 10 (by decide)).trans f4)
    have g11 : D3 77 11 = (e : Int) := (j3 11 (by decide)).trans ((j2 11 (by decide)).trans ((j1 11 (by decide)).trans f5))
    have g12 : D4 77 12 = (g : Int) := (j4 12 (by decide)).trans ((j3 12 (by decide)).trans ((j2 12 (by decide)).trans ((j1 12 (by decide)).trans f6)))
    have c1 := kc_77 (l1.shp hκ)
    have c2 := kc_77 (l02.shp hκ)
    have c3 := kc_77 (l03.shp hκ)
    have c4 := kc_77 (l04.shp hκ)
    have c5 := kc_77 (l05.shp hκ)
    refine ⟨κ5, D5, κ.1, κ1.1, κ2.1, κ3.1, κ4.1, 2 * R, ?_, l05, ?_, ?_, by omega, ?_, ?_, ?_, ?_, by omega⟩
    · have q56 : ev xs (d + 1) mm_27 56 [some (.inr (.inr ((77 : Nat) : Int))), some (.inl ((2 * R : Nat) : Int))] [] (κ3, D3) = some (none, (κ5, D5)) := by
        rw [q_27_56]
        simp (disch := omega) only [cond_true, cond_false, Bool.and_true, Int.toNat_natCast, bR_s, decide_true, decide_false, c3, g11, s4, c4, x4, g12, eG, s5, c5, x5]
      rw [c_27]
      simp (disch := omega) only [cond_true, cond_false, Bool.and_true, Int.toNat_natCast, bR_s, decide_true, decide_false, dT, dF, k77, f1, f2, a1, a2, eR, s1, c1, x1, g9, s2, c2, x2, g10, s3, c3, x3]
      exact q56
    · refine ⟨⟨⟨by omega, (l25.2.1 κ.1 (by omega)).trans e1⟩, ⟨by omega, (l35.2.1 κ1.1 (by omega)).trans e2⟩, ⟨by omega, (l45.2.1 κ2.1 (by omega)).trans e3⟩, ⟨by omega, (l5.2.1 κ3.1 (by omega)).trans e4⟩, ⟨by omega, e5.trans (by rw [show R * 8 * 2 = 2 * R * 8 by omega])⟩⟩, ⟨Or.inr (by omega), Or.inr (by omega), Or.inr (by omega), Or.inr (by omega), Or.inr (by omega)⟩, ⟨by omega, by omega, by omega, by omega, by omega, by omega, by omega, by omega, by omega, by omega⟩, by omega, by omega⟩
    · refine ⟨?_, ?_, ?_, ?_, ?_, q5⟩
      · rw [j5 7 (by decide), j4 7 (by decide), j3 7 (by decide), j2 7 (by decide), j1 7 (by decide)]; exact f1
      · rw [j5 8 (by decide), j4 8 (by decide), j3 8 (by decide), j2 8 (by decide)]; exact q1
      · rw [j5 9 (by decide), j4 9 (by decide), j3 9 (by decide)]; exact q2
      · rw [j5 10 (by decide), j4 10 (by decide)]; exact q3
      · rw [j5 11 (by decide)]; exact q4
    · intro i hi
      refine ⟨?_, ?_, ?_, ?_⟩
      · rw [p5 κ.1 (by omega) (by omega), p4 κ.1 (by omega) (by omega), p3 κ.1 (by omega) (by omega), p2 κ.1 (by omega) (by omega)]; exact t1 i (by omega)
      · rw [p5 κ1.1 (by omega) (by omega), p4 κ1.1 (by omega) (by omega), p3 κ1.1 (by omega) (by omega), t2 i (by omega), p1 b nb (by omega)]
      · rw [p5 κ2.1 (by omega) (by omega), p4 κ2.1 (by omega) (by omega), t3 i (by omega), p2 c nc (by omega), p1 c nc (by omega)]
      · rw [p5 κ3.1 (by omega) (by omega), t4 i (by omega), p3 e ne (by omega), p2 e ne (by omega), p1 e ne (by omega)]
    · intro i hi
      rw [t5 i (by omega), p4 g ng (by omega), p3 g ng (by omega), p2 g ng (by omega), p1 g ng (by omega)]
    · intro q hq h77
      rw [p5 q h77 (by omega), p4 q h77 (by omega), p3 q h77 (by omega), p2 q h77 (by omega), p1 q h77 (by omega)]
    · intro j hj
      rw [j5 j (by omega), j4 j (by omega), j3 j (by omega), j2 j (by omega), j1 j (by omega)]
