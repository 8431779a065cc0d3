/-! Made: the class's table. -/
theorem olushr52 (x : Int) : 0 ≤ olushr x 52 ∧ olushr x 52 < 4096 := by
  have e : (((Int64.ofInt x).toUInt64 >>> ((Int32.ofNat 52).toInt64.toUInt64 &&& Int64.toUInt64 63)).toInt64).toBitVec.toNat = (Int64.ofInt x).toUInt64.toNat / 2 ^ 52 := by
    show ((Int64.ofInt x).toUInt64 >>> ((Int32.ofNat 52).toInt64.toUInt64 &&& Int64.toUInt64 63)).toNat = _
    rw [UInt64.toNat_shiftRight, sh_amtu64 (b := 52) (by decide), Nat.shiftRight_eq_div_pow]
  have hl := (Int64.ofInt x).toUInt64.toNat_lt
  have h2 : (Int64.ofInt x).toUInt64.toNat / 2 ^ 52 < 4096 := by omega
  have := i64_of_nat _ e (by omega)
  have e2 : olushr x 52 = (((Int64.ofInt x).toUInt64.toNat / 2 ^ 52 : Nat) : Int) := this
  rw [e2]
  omega
def hshI (w : List Nat) : Int := olushr (w64 ((olxor (p32 w : Int) (olushr (p32 w : Int) 23)) * (-7046029254386353131))) 52
def hsh (w : List Nat) : Nat := (hshI w).toNat
theorem hsh_lt (w : List Nat) : hsh w < 4096 := by
  have := olushr52 (w64 ((olxor (p32 w : Int) (olushr (p32 w : Int) 23)) * (-7046029254386353131)))
  unfold hsh hshI
  omega
theorem hsh_i (w : List Nat) : hshI w = (hsh w : Int) := by
  have := olushr52 (w64 ((olxor (p32 w : Int) (olushr (p32 w : Int) 23)) * (-7046029254386353131)))
  unfold hsh
  rw [Int.toNat_of_nonneg]
  exact this.1
def wk12 (l : List Nat) : Prop := wv l ∧ l.length ≤ 12
def MdK (κ : aK) (a b : Nat) : Prop := (a < κ.1 ∧ κ.2.2 a = (101, 4096)) ∧ (b < κ.1 ∧ κ.2.2 b = (100, 4096)) ∧ 315 ≤ a ∧ 315 ≤ b ∧ a ≠ b
theorem mk_a {κ : aK} {a b : Nat} (h : MdK κ a b) {i : Int} (h0 : 0 ≤ i) (h1 : i.toNat < 4096) : ain κ ((a : Nat) : Int) 101 i = true := ain_t a i.toNat rfl (by omega) h.1.1 h.1.2 h1
theorem mk_b {κ : aK} {a b : Nat} (h : MdK κ a b) {i : Int} (h0 : 0 ≤ i) (h1 : i.toNat < 4096) : ain κ ((b : Nat) : Int) 100 i = true := ain_t b i.toNat rfl (by omega) h.2.1.1 h.2.1.2 h1
def MdH (D : Nat → Nat → Int) (a b : Nat) (R : List ENT) (T : Nat → List Nat) (G : Nat → Int) : Prop := D 68 2 = (a : Int) ∧ D 68 3 = (b : Int) ∧ (∀ i, i < 4096 → D a i = (p32 (T i) : Int) ∧ wv (T i)) ∧ (∀ i, i < 4096 → T i ≠ [] → D b i = G i) ∧ D 68 4 = (mdU R : Int) ∧ D 68 5 = (mdT R : Int) ∧ D 68 6 = mdF R ∧ TbI hsh R T G ∧ (∀ e ∈ R, wk12 e.1 ∧ e.1 ≠ [] ∧ 1 ≤ e.2 ∧ e.2 < 100000)
/-- what adding may change -/
def MdFr (a b : Nat) (D D' : Nat → Nat → Int) : Prop := (∀ q, q ≠ 68 → q ≠ a → q ≠ b → D' q = D q) ∧ (∀ j, j < 4 ∨ 6 < j → D' 68 j = D 68 j)
theorem MdFr.rfl' (a b : Nat) (D : Nat → Nat → Int) : MdFr a b D D := ⟨fun _ _ _ _ => rfl, fun _ _ => rfl⟩
theorem MdFr.trans {a b : Nat} {D D1 D2 : Nat → Nat → Int} (h1 : MdFr a b D D1) (h2 : MdFr a b D1 D2) : MdFr a b D D2 := ⟨fun q x y z => (h2.1 q x y z).trans (h1.1 q x y z), fun j x => (h2.2 j x).trans (h1.2 j x)⟩
theorem pos_s (h k : Nat) : (pos h k + 1) % 4096 = pos h (k + 1) := by unfold pos; omega
theorem slot_loop (xs : List Int) (d : Nat) {κ : aK} {D : Nat → Nat → Int} (hκ : Shp κ) {a b : Nat} (hK : MdK κ a b) {R : List ENT} {T : Nat → List Nat} {G : Nat → Int} (hm : MdH D a b R T G) {w : List Nat} (hw : wv w) {K : Nat} (hK4 : K < 4096) (h1 : T (pos (hsh w) K) = [] ∨ T (pos (hsh w) K) = w) (h2 : ∀ j, j < K → T (pos (hsh w) j) ≠ [] ∧ T (pos (hsh w) j) ≠ w) : ∀ (m k : Nat) (u2 : Option aV), k + m = K → ev xs d mm_18 18 [some (.inr (.inr ((68 : Nat) : Int))), some (.inr (.inl (p32 w : Int))), u2, some (.inl (pos (hsh w) k : Int)), some (.inl (k : Int))] [] (κ, D) = some (some (.inl (pos (hsh w) K : Int)), (κ, D)) := by
  obtain ⟨m1, m2, m3, m4, m5, m6, m7, m8, m9⟩ := hm
  intro m
  induction m with
  | zero =>
    intro k u2 h
    have hk : k = K := by omega
    subst hk
    have hp := pos_lt (hsh w) k
    obtain ⟨e1, e2⟩ := m3 _ hp
    rw [q_18_18]
    rcases h1 with h1 | h1
    · have e0 : p32 (T (pos (hsh w) k)) = 0 := by rw [h1]; rfl
      simp (disch := omega) only [cond_true, cond_false, Bool.and_true, Bool.true_and, Bool.and_false, Bool.false_and, Int.toNat_natCast, Int.reduceToNat, bI_s, bJ_s, bV_s, bR_s, decide_true, decide_false, not_true_eq_false, not_false_eq_true, dT, dF, w_al, w_la, w_ab, w_sl, w_sb, w_dec, w_ml, w_lm, ol2i_n, aup_ne, aupE, aupJ, setc_self, setc_ne, kc_68 hκ, mk_a hK, m1, e1, olcmp_eq]
    · by_cases hz : p32 w = 0
      · rw [h1] at e1
        simp (disch := omega) only [cond_true, cond_false, Bool.and_true, Bool.true_and, Bool.and_false, Bool.false_and, Int.toNat_natCast, Int.reduceToNat, bI_s, bJ_s, bV_s, bR_s, decide_true, decide_false, not_true_eq_false, not_false_eq_true, dT, dF, w_al, w_la, w_ab, w_sl, w_sb, w_dec, w_ml, w_lm, ol2i_n, aup_ne, aupE, aupJ, setc_self, setc_ne, kc_68 hκ, mk_a hK, m1, e1, olcmp_eq]
      · rw [h1] at e1
        simp (disch := omega) only [cond_true, cond_false, Bool.and_true, Bool.true_and, Bool.and_false, Bool.false_and, Int.toNat_natCast, Int.reduceToNat, bI_s, bJ_s, bV_s, bR_s, decide_true, decide_false, not_true_eq_false, not_false_eq_true, dT, dF, w_al, w_la, w_ab, w_sl, w_sb, w_dec, w_ml, w_lm, ol2i_n, aup_ne, aupE, aupJ, setc_self, setc_ne, kc_68 hκ, mk_a hK, m1, e1, olcmp_eq]
  | succ m ih =>
    intro k u2 h
    have hp := pos_lt (hsh w) k
    obtain ⟨e1, e2⟩ := m3 _ hp
    obtain ⟨n1, n2⟩ := h2 k (by omega)
    have q1 := p32_nz e2 n1
    have q2 := p32_ne e2 hw n2
    have ea : oand ((pos (hsh w) k + 1 : Nat) : Int) 4095 = ((pos (hsh w) (k + 1) : Nat) : Int) := by
      have := oand_nat (a := pos (hsh w) k + 1) (b := 4095) (by omega) (by decide)
      rw [show (4095 : Nat) = 2 ^ 12 - 1 from rfl, Nat.and_two_pow_sub_one_eq_mod, show 2 ^ 12 = 4096 from rfl, pos_s] at this
      exact this
    rw [q_18_18]
    simp (disch := omega) only [cond_true, cond_false, Bool.and_true, Bool.true_and, Bool.and_false, Bool.false_and, Int.toNat_natCast, Int.reduceToNat, bI_s, bJ_s, bV_s, bR_s, decide_true, decide_false, not_true_eq_false, not_false_eq_true, dT, dF, w_al, w_la, w_ab, w_sl, w_sb, w_dec, w_ml, w_lm, ol2i_n, aup_ne, aupE, aupJ, setc_self, setc_ne, kc_68 hκ, mk_a hK, m1, e1, olcmp_eq, ea, ih (k + 1) _ (by omega)]
theorem slotOf_eq (xs : List Int) (d : Nat) {κ : aK} {D : Nat → Nat → Int} (hκ : Shp κ) {a b : Nat} (hK : MdK κ a b) {R : List ENT} {T : Nat → List Nat} {G : Nat → Int} (hm : MdH D a b R T G) (hl : R.length < 4000) {w : List Nat} (hw : wv w) : ∃ K, K < 4096 ∧ (T (pos (hsh w) K) = [] ∨ T (pos (hsh w) K) = w) ∧ (∀ j, j < K → T (pos (hsh w) j) ≠ [] ∧ T (pos (hsh w) j) ≠ w) ∧ cl xs (d + 1) 18 [.inr (.inr ((68 : Nat) : Int)), .inr (.inl (p32 w : Int))] (κ, D) = some (some (.inl (pos (hsh w) K : Int)), (κ, D)) := by
  obtain ⟨K, k1, k2, k3⟩ := tb_probe hm.2.2.2.2.2.2.2.1 (by omega) w (hsh_lt w)
  refine ⟨K, k1, k2, k3, ?_⟩
  have hh := hsh_i w
  have hp0 : pos (hsh w) 0 = hsh w := by
    have := hsh_lt w
    unfold pos
    omega
  have e := slot_loop xs d hκ hK hm hw k1 k2 k3 K 0 none (by omega)
  rw [hp0] at e
  have hl' := hsh_lt w
  rw [c_18, show olushr (w64 ((olxor (p32 w : Int) (olushr (p32 w : Int) 23)) * (-7046029254386353131))) 52 = (hsh w : Int) from hh, ol2i_n (by omega)]
  exact e
theorem add_eq (xs : List Int) (d : Nat) {κ : aK} {D : Nat → Nat → Int} (hκ : Shp κ) {a b : Nat} (hK : MdK κ a b) {R : List ENT} {T : Nat → List Nat} {G : Nat → Int} (hm : MdH D a b R T G) (hl : R.length < 4000) {w : List Nat} (hw : wk12 w) (hw0 : w ≠ []) {c : Nat} (hc1 : 1 ≤ c) (hc2 : c < 100000) : ∃ D' T' G', MdH D' a b ((w, c) :: R) T' G' ∧ MdFr a b D D' ∧ cl xs (d + 2) 17 [.inr (.inr ((68 : Nat) : Int)), .inr (.inl (p32 w : Int)), .inl (c : Int)] (κ, D) = some (none, (κ, D')) := by
  obtain ⟨K, k1, k2, k3, e⟩ := slotOf_eq xs d hκ hK hm hl hw.1
  have hp := pos_lt (hsh w) K
  have hab := hK.2.2
  obtain ⟨m1, m2, m3, m4, m5, m6, m7, m8, m9⟩ := hm
  have lu := mdU_le R
  have lt := mdT_le R
  have hent : ∀ e ∈ (w, c) :: R, wk12 e.1 ∧ e.1 ≠ [] ∧ 1 ≤ e.2 ∧ e.2 < 100000 := fun e he => by
    rcases List.mem_cons.mp he with rfl | he
    · exact ⟨hw, hw0, hc1, hc2⟩
    · exact m9 e he
  generalize hP : pos (hsh w) K = P at *
  by_cases hn : T P = []
  · -- a new word
    have ho0 : occ w R = 0 := by
      by_cases ho : occ w R = 0
      · exact ho
      · exfalso
        obtain ⟨k, kk, ke, kj⟩ := m8.2.1 w ho
        by_cases hkK : k < K
        · exact (k3 k hkK).2 ke
        · by_cases hkK2 : k = K
          · rw [hkK2, hP, hn] at ke; exact hw0 ke.symm
          · have := kj K (by omega)
            rw [hP] at this
            exact this hn
    have e0 : p32 (T P) = 0 := by rw [hn]; rfl
    refine ⟨aup (aup (aup D a P (p32 w : Int)) b P (c : Int)) 68 4 ((mdU R + 1 : Nat) : Int), fun i => if i = P then w else T i, fun i => if i = P then (c : Int) else G i, ⟨?_, ?_, fun i hi => ?_, fun i hi hTi => ?_, ?_, ?_, ?_, ?_, hent⟩, ⟨fun q q1 q2 q3 => ?_, fun j hj => ?_⟩, ?_⟩
    · rw [aupJ (by decide), aupN (by omega), aupN (by omega)]; exact m1
    · rw [aupJ (by decide), aupN (by omega), aupN (by omega)]; exact m2
    · rw [aupN (by omega), aupN (by omega)]
      by_cases hiP : i = P
      · subst hiP
        rw [aupE]
        show _ = ((p32 (if i = i then w else T i) : Nat) : Int) ∧ wv (if i = i then w else T i)
        rw [if_pos rfl]
        exact ⟨rfl, hw.1⟩
      · rw [aupJ hiP]
        show _ = ((p32 (if i = P then w else T i) : Nat) : Int) ∧ wv (if i = P then w else T i)
        rw [if_neg hiP]
        exact m3 i hi
    · rw [aupN (by omega)]
      by_cases hiP : i = P
      · subst hiP
        rw [aupE]
        exact (if_pos rfl).symm
      · rw [aupJ hiP, aupN (by omega)]
        have hTi' : T i ≠ [] := by
          have : (if i = P then w else T i) ≠ [] := hTi
          rw [if_neg hiP] at this
          exact this
        exact (m4 i hi hTi').trans (if_neg hiP).symm
    · rw [aupE]
      show _ = ((mdU R + (if occ w R = 0 then 1 else 0) : Nat) : Int)
      rw [if_pos ho0]
    · rw [aupJ (by decide), aupN (by omega), aupN (by omega), m6]
      show _ = ((mdT R + (if occ w R = 1 then 1 else 0) : Nat) : Int)
      rw [if_neg (by omega)]
      rfl
    · rw [aupJ (by decide), aupN (by omega), aupN (by omega), m7]
      show _ = (if occ w R = 1 then _ else mdF R)
      rw [if_neg (by omega)]
    · have := tb_new m8 hw0 ho0 k1 (by rw [hP]; exact hn) (fun j hj => (k3 j hj).1) (fun e he => (m9 e he).2.1) (c := c)
      rw [hP] at this
      exact this
    · rw [aupN q1, aupN q3, aupN q2]
    · rw [aupJ (by omega), aupN (by omega), aupN (by omega)]
    · rw [c_17]
      simp (disch := omega) only [cond_true, cond_false, Bool.and_true, Bool.true_and, Bool.and_false, Bool.false_and, Int.toNat_natCast, Int.reduceToNat, bI_s, bJ_s, bV_s, bR_s, decide_true, decide_false, not_true_eq_false, not_false_eq_true, dT, dF, w_al, w_la, w_ab, w_sl, w_sb, w_dec, w_ml, w_lm, ol2i_n, aup_ne, aupE, aupJ, setc_self, setc_ne, kc_68 hκ, e, mk_a hK, mk_b hK, m1, m2, m5, (m3 P hp).1, e0, olcmp_eq]
      rw [q_17_45]
  · have hTP : T P = w := by
      rcases k2 with h | h
      · exact absurd h hn
      · exact h
    have hoc := (m8.1 P hp hn)
    rw [hTP] at hoc
    obtain ⟨ho, hg⟩ := hoc
    obtain ⟨ef, mf, ff1, ff2⟩ := fco_mem ho
    have hfc := (m9 ef mf).2.2
    rw [ff2] at hfc
    have hGP := m4 P hp hn
    have hnz := p32_nz hw.1 hw0
    have hold := tb_old m8 hw0 (K := K) (by rw [hP]; exact hTP) hc1 (fun e he => (m9 e he).2.2.1)
    rw [hP] at hold
    have eu : mdU ((w, c) :: R) = mdU R := by
      show mdU R + (if occ w R = 0 then 1 else 0) = _
      rw [if_neg ho, Nat.add_zero]
    by_cases h1 : occ w R = 1
    · have hg1 : G P = (fco w R : Int) := by rw [hg]; unfold gvl; rw [if_pos h1]
      rw [hg1] at hGP
      have et : mdT ((w, c) :: R) = mdT R + 1 := by
        show mdT R + (if occ w R = 1 then 1 else 0) = _
        rw [if_pos h1]
      have efm : mdF ((w, c) :: R) = (if mdF R = -2 ∨ (fco w R : Int) < mdF R then (fco w R : Int) else mdF R) := by
        show (if occ w R = 1 then _ else mdF R) = _
        rw [if_pos h1]
      have eneg : w32 (-(fco w R : Int)) = -(fco w R : Int) := w32_id (by omega) (by omega)
      refine ⟨aup (aup (aup D 68 6 (mdF ((w, c) :: R))) b P (-(fco w R : Int))) 68 5 ((mdT R + 1 : Nat) : Int), T, _, ⟨?_, ?_, fun i hi => ?_, fun i hi hTi => ?_, ?_, ?_, ?_, hold, hent⟩, ⟨fun q q1 q2 q3 => ?_, fun j hj => ?_⟩, ?_⟩
      · rw [aupJ (by decide), aupN (by omega), aupJ (by decide)]; exact m1
      · rw [aupJ (by decide), aupN (by omega), aupJ (by decide)]; exact m2
      · rw [aupN (by omega), aupN (by omega), aupN (by omega)]; exact m3 i hi
      · rw [aupN (by omega)]
        by_cases hiP : i = P
        · subst hiP
          rw [aupE, if_pos rfl, if_pos h1, hg1]
        · rw [aupJ hiP, aupN (by omega), if_neg hiP]; exact m4 i hi hTi
      · rw [aupJ (by decide), aupN (by omega), aupJ (by decide), m5, eu]
      · rw [aupE, et]
      · rw [aupJ (by decide), aupN (by omega), aupE]
      · rw [aupN q1, aupN q3, aupN q1]
      · rw [aupJ (by omega), aupN (by omega), aupJ (by omega)]
      · have tl : ∀ (E : Nat → Nat → Int), E 68 3 = (b : Int) → E b P = (fco w R : Int) → E 68 5 = (mdT R : Int) → ev xs (d + 1) mm_17 92 [some (.inr (.inr ((68 : Nat) : Int))), some (.inr (.inl (p32 w : Int))), none, some (.inl (c : Int)), some (.inl (P : Int))] [] (κ, E) = some (none, (κ, aup (aup E b P (-(fco w R : Int))) 68 5 ((mdT R + 1 : Nat) : Int))) := by
          intro E E1 E2 E3
          rw [q_17_92]
          simp (disch := omega) only [cond_true, cond_false, Bool.and_true, Bool.true_and, Bool.and_false, Bool.false_and, Int.toNat_natCast, Int.reduceToNat, bI_s, bJ_s, bV_s, bR_s, decide_true, decide_false, not_true_eq_false, not_false_eq_true, dT, dF, w_al, w_la, w_ab, w_sl, w_sb, w_dec, w_ml, w_lm, ol2i_n, aup_ne, aupE, aupJ, setc_self, setc_ne, kc_68 hκ, mk_b hK, E1, E2, E3, eneg]
        have aid : ∀ x, D 68 6 = x → aup D 68 6 x = D := fun x hx => by
          funext q j
          by_cases hq : q = 68
          · subst hq
            by_cases hj6 : j = 6
            · rw [hj6, aupE, hx]
            · rw [aupJ hj6]
          · rw [aupN hq]
        rw [c_17]
        by_cases c1 : mdF R = -2
        · rw [efm, if_pos (Or.inl c1)]
          have t1 := tl (aup D 68 6 (fco w R : Int)) (by rw [aupJ (by decide)]; exact m2) (by rw [aupN (by omega)]; exact hGP) (by rw [aupJ (by decide)]; exact m6)
          simp (disch := omega) only [cond_true, cond_false, Bool.and_true, Bool.true_and, Bool.and_false, Bool.false_and, Int.toNat_natCast, Int.reduceToNat, bI_s, bJ_s, bV_s, bR_s, decide_true, decide_false, not_true_eq_false, not_false_eq_true, dT, dF, w_al, w_la, w_ab, w_sl, w_sb, w_dec, w_ml, w_lm, ol2i_n, aup_ne, aupE, aupJ, setc_self, setc_ne, kc_68 hκ, e, mk_a hK, mk_b hK, m1, m2, m7, (m3 P hp).1, hTP, hGP, olcmp_eq, c1, t1]
        · by_cases c2 : (fco w R : Int) < mdF R
          · rw [efm, if_pos (Or.inr c2)]
            have t1 := tl (aup D 68 6 (fco w R : Int)) (by rw [aupJ (by decide)]; exact m2) (by rw [aupN (by omega)]; exact hGP) (by rw [aupJ (by decide)]; exact m6)
            simp (disch := omega) only [cond_true, cond_false, Bool.and_true, Bool.true_and, Bool.and_false, Bool.false_and, Int.toNat_natCast, Int.reduceToNat, bI_s, bJ_s, bV_s, bR_s, decide_true, decide_false, not_true_eq_false, not_false_eq_true, dT, dF, w_al, w_la, w_ab, w_sl, w_sb, w_dec, w_ml, w_lm, ol2i_n, aup_ne, aupE, aupJ, setc_self, setc_ne, kc_68 hκ, e, mk_a hK, mk_b hK, m1, m2, m7, (m3 P hp).1, hTP, hGP, olcmp_eq, t1]
          · rw [efm, if_neg (fun q => by rcases q with q | q; exact c1 q; exact c2 q), aid _ m7]
            simp (disch := omega) only [cond_true, cond_false, Bool.and_true, Bool.true_and, Bool.and_false, Bool.false_and, Int.toNat_natCast, Int.reduceToNat, bI_s, bJ_s, bV_s, bR_s, decide_true, decide_false, not_true_eq_false, not_false_eq_true, dT, dF, w_al, w_la, w_ab, w_sl, w_sb, w_dec, w_ml, w_lm, ol2i_n, aup_ne, aupE, aupJ, setc_self, setc_ne, kc_68 hκ, e, mk_a hK, mk_b hK, m1, m2, m7, (m3 P hp).1, hTP, hGP, olcmp_eq, tl D m2 hGP m6]
    · have hg1 : G P = -(fco w R : Int) := by rw [hg]; unfold gvl; rw [if_neg h1]
      rw [hg1] at hGP
      have et : mdT ((w, c) :: R) = mdT R := by
        show mdT R + (if occ w R = 1 then 1 else 0) = _
        rw [if_neg h1, Nat.add_zero]
      have efm : mdF ((w, c) :: R) = mdF R := by
        show (if occ w R = 1 then _ else mdF R) = _
        rw [if_neg h1]
      refine ⟨D, T, _, ⟨m1, m2, m3, fun i hi hTi => ?_, by rw [eu]; exact m5, by rw [et]; exact m6, by rw [efm]; exact m7, hold, hent⟩, MdFr.rfl' a b D, ?_⟩
      · by_cases hiP : i = P
        · subst hiP
          rw [if_pos rfl, if_neg h1, hg1]; exact hGP
        · rw [if_neg hiP]; exact m4 i hi hTi
      · rw [c_17]
        simp (disch := omega) only [cond_true, cond_false, Bool.and_true, Bool.true_and, Bool.and_false, Bool.false_and, Int.toNat_natCast, Int.reduceToNat, bI_s, bJ_s, bV_s, bR_s, decide_true, decide_false, not_true_eq_false, not_false_eq_true, dT, dF, w_al, w_la, w_ab, w_sl, w_sb, w_dec, w_ml, w_lm, ol2i_n, aup_ne, aupE, aupJ, setc_self, setc_ne, kc_68 hκ, e, mk_a hK, mk_b hK, m1, m2, (m3 P hp).1, hTP, hGP, olcmp_eq]
