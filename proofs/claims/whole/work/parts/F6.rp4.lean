/-! The reference reads: classes, stones. -/
theorem classAt_gen (xs : List Int) (d : Nat) {κ : aK} {E : Nat → Nat → Int} {u : Nat} (hκ : Shp κ) (hp : PtrR E) (hu : u < 2) (e19 : E 256 19 = (u : Int)) {n : Nat} (hn : n ≤ 6) (en : E 264 u = (n : Int)) (y : Int) : ∀ (m k : Nat) (u2 : Option aV), k + m = n → ∃ x : Int, ev xs d mm_211 2 [some (.inr (.inr 256)), some (.inr (.inl y)), u2, some (.inl (k : Int))] [] (κ, E) = some (some (.inl x), (κ, E)) ∧ ((x = -1 ∧ ∀ j, k ≤ j → j < n → ¬ E 265 (6 * u + j) = y) ∨ ∃ j, k ≤ j ∧ j < n ∧ x = (j : Int) ∧ E 265 (6 * u + j) = y ∧ ∀ i, k ≤ i → i < j → ¬ E 265 (6 * u + i) = y)
  | 0, k, u2, hm => by
    have k256 := k_256 hκ
    refine ⟨-1, ?_, Or.inl ⟨rfl, fun j _ _ => by omega⟩⟩
    rw [q_211_2]
    simp (disch := omega) only [k256, pr_20 hp, e19, n_264 hκ, en, cond_true, cond_false, Bool.and_true, Bool.true_and, Bool.and_false, Bool.false_and, Int.toNat_natCast, Int.reduceToNat, bI_s, bJ_s, bV_s, bR_s, decide_true, decide_false, not_true_eq_false, not_false_eq_true, dT, dF, w_al, w_la, w_ab, w_sl, w_sb, w_dec, w_ml, w_lm, ol2i_n, aup_ne, aupE, aupJ, setc_self, setc_ne]
  | m + 1, k, u2, hm => by
    have k256 := k_256 hκ
    have ew3 : w32 (((6 * u : Nat) : Int) + (k : Int)) = ((6 * u + k : Nat) : Int) := by rw [w32_id (by omega) (by omega)]; omega
    by_cases e : E 265 (6 * u + k) = y
    · refine ⟨(k : Int), ?_, Or.inr ⟨k, Nat.le_refl _, by omega, rfl, e, fun i _ _ => by omega⟩⟩
      have hz : olcmp (E 265 (6 * u + k)) y = 0 := olcmp_eq.mpr e
      rw [q_211_2]
      simp (disch := omega) only [k256, pr_20 hp, pr_21 hp, e19, ew3, n_264 hκ, n_265 hκ, en, hz, cond_true, cond_false, Bool.and_true, Bool.true_and, Bool.and_false, Bool.false_and, Int.toNat_natCast, Int.reduceToNat, bI_s, bJ_s, bV_s, bR_s, decide_true, decide_false, not_true_eq_false, not_false_eq_true, dT, dF, w_al, w_la, w_ab, w_sl, w_sb, w_dec, w_ml, w_lm, ol2i_n, aup_ne, aupE, aupJ, setc_self, setc_ne]
    · obtain ⟨x, i1, i2⟩ := classAt_gen xs d hκ hp hu e19 hn en y m (k + 1) (acl u2) (by omega)
      refine ⟨x, ?_, ?_⟩
      · have hz : ¬ olcmp (E 265 (6 * u + k)) y = 0 := fun q => e (olcmp_eq.mp q)
        rw [← i1, q_211_2]
        simp (disch := omega) only [k256, pr_20 hp, pr_21 hp, e19, ew3, n_264 hκ, n_265 hκ, en, hz, cond_true, cond_false, Bool.and_true, Bool.true_and, Bool.and_false, Bool.false_and, Int.toNat_natCast, Int.reduceToNat, bI_s, bJ_s, bV_s, bR_s, decide_true, decide_false, not_true_eq_false, not_false_eq_true, dT, dF, w_al, w_la, w_ab, w_sl, w_sb, w_dec, w_ml, w_lm, ol2i_n, aup_ne, aupE, aupJ, setc_self, setc_ne]
      · rcases i2 with ⟨i2, i3⟩ | ⟨j, i2, i3, i4, i5, i6⟩
        · refine Or.inl ⟨i2, fun j hj1 hj2 => ?_⟩
          by_cases ej : j = k
          · rw [ej]; exact e
          · exact i3 j (by omega) hj2
        · refine Or.inr ⟨j, by omega, i3, i4, i5, fun i hi1 hi2 => ?_⟩
          by_cases ei : i = k
          · rw [ei]; exact e
          · exact i6 i (by omega) hi2
/-- classAt: what it finds, and that by the text told -/
theorem classAt_eq (xs : List Int) (d : Nat) {κ : aK} {E : Nat → Nat → Int} {u : Nat} (hκ : Shp κ) (hp : PtrR E) (hu : u < 2) (e19 : E 256 19 = (u : Int)) {n : Nat} (hn : n ≤ 6) (en : E 264 u = (n : Int)) (y : Int) : ∃ x : Int, cl xs (d + 1) 211 [.inr (.inr 256), .inr (.inl y)] (κ, E) = some (some (.inl x), (κ, E)) ∧ -1 ≤ x ∧ x < (n : Int) ∧ ∀ Y l, YOk Y → wok l → y = (p27 l : Int) → n = xnc Y.1 → RlC E u Y → x = oI (ycl Y l) := by
  obtain ⟨x, i1, i2⟩ := classAt_gen xs d hκ hp hu e19 hn en y n 0 none (by omega)
  refine ⟨x, by rw [c_211]; exact i1, ?_, ?_, fun Y l hO hl hy hnx hN => ?_⟩
  · rcases i2 with ⟨i2, _⟩ | ⟨j, _, _, i4, _⟩ <;> omega
  · rcases i2 with ⟨i2, _⟩ | ⟨j, _, _, i4, _⟩ <;> omega
  · have eq : ∀ j, j < n → (E 265 (6 * u + j) = y ↔ Y.2.1 j = l) := fun j hj => by
      rw [(hN j (by omega)).1, hy]
      exact ⟨fun q => p27_inj (hO.2 j (by omega)).1.1 hl.1 (by omega), fun q => by rw [q]⟩
    unfold ycl
    rw [← hnx]
    rcases i2 with ⟨i2, i3⟩ | ⟨j, i2, i3, i4, i5, i6⟩
    · rw [(fndN_of n 0).1 (fun j a b q => i3 j a (by omega) ((eq j (by omega)).mpr q))]
      exact i2
    · rw [(fndN_of n 0).2 j i2 (by omega) ((eq j i3).mp i5) (fun i a b q => i6 i a b ((eq i (by omega)).mpr q))]
      exact i4
theorem p27_1 {l : List Nat} (hl : wok l) (h1 : 1 ≤ l.length) : (p27 l < 27 ↔ l.length < 2) ∧ (l.length < 2 → p27 l = l.headD 0) := by
  have hw := hl.1
  cases l with
  | nil => exact absurd h1 (by decide)
  | cons x r =>
    have hx := hw x List.mem_cons_self
    cases r with
    | nil =>
      have e : p27 [x] = x := by
        have := p27_snoc [] x
        rw [show p27 ([] : List Nat) = 0 from rfl] at this
        simpa using this
      rw [e]
      exact ⟨⟨fun _ => by simp, fun _ => by omega⟩, fun _ => rfl⟩
    | cons y r =>
      obtain ⟨q, z, e⟩ := list_snoc (l := x :: y :: r) (by simp)
      have hq : q ≠ [] := fun h => by
        subst h
        have := congrArg List.length e
        simp at this
      have hwq : wv q := fun b hb => hw b (by rw [e]; exact List.mem_append_left _ hb)
      have hz := hw z (by rw [e]; simp)
      have hpos : 1 ≤ p27 q := by
        rcases Nat.eq_zero_or_pos (p27 q) with h0 | h0
        · exact absurd (p27_zero hwq h0) hq
        · exact h0
      have e2 : p27 (x :: y :: r) = 27 * p27 q + z := by rw [e, p27_snoc]
      rw [e2]
      refine ⟨⟨fun h => by omega, fun h => ?_⟩, fun h => ?_⟩
      · rw [List.length_cons, List.length_cons] at h; omega
      · rw [List.length_cons, List.length_cons] at h; omega
/-- the letters of a class, the last first -/
theorem rc_bits (xs : List Int) (d : Nat) {κ : aK} {E : Nat → Nat → Int} {u : Nat} (hκ : Shp κ) (hp : PtrR E) (hu : u < 2) (e19 : E 256 19 = (u : Int)) {n : Nat} (hn : n < 6) (en : E 264 u = (n : Int)) (v2 v3 : Int) : ∀ (m : Nat) (q : List Nat) (b : Nat) (u5 : Option aV), q.length = m → wv q → m ≤ 8 → b < 2 ^ 27 → ∃ b' : Nat, b' < 2 ^ 27 ∧ (∀ x, b'.testBit x = (b.testBit x || decide (x ∈ q))) ∧ ev xs d mm_210 130 [some (.inr (.inr 256)), some (.inl ((6 * u + n : Nat) : Int)), some (.inl v2), some (.inl v3), some (.inr (.inl (p27 q : Int))), u5] [] (κ, aup E 266 (6 * u + n) (b : Int)) = some (none, (κ, aup (aup E 266 (6 * u + n) (b' : Int)) 264 u ((n + 1 : Nat) : Int)))
  | 0, q, b, u5, hq, hw, hm, hb => by
    have k256 := k_256 hκ
    have : q = [] := List.length_eq_zero_iff.mp hq
    subst this
    refine ⟨b, hb, fun x => ?_, ?_⟩
    · rw [decide_eq_false List.not_mem_nil, Bool.or_false]
    · have hz : olcmp ((p27 [] : Nat) : Int) 0 ≤ 0 := olcmp_le.mpr (by rw [show p27 ([] : List Nat) = 0 from rfl]; decide)
      rw [q_210_130]
      simp (disch := omega) only [k256, hz, pr_20 hp, e19, n_264 hκ, en, cond_true, cond_false, Bool.and_true, Bool.true_and, Bool.and_false, Bool.false_and, Int.toNat_natCast, Int.reduceToNat, bI_s, bJ_s, bV_s, bR_s, decide_true, decide_false, not_true_eq_false, not_false_eq_true, dT, dF, w_al, w_la, w_ab, w_sl, w_sb, w_dec, w_ml, w_lm, ol2i_n, aup_ne, aupE, aupJ, setc_self, setc_ne]
  | m + 1, q, b, u5, hq, hw, hm, hb => by
    have k256 := k_256 hκ
    obtain ⟨r, z, rfl⟩ := list_snoc (l := q) (fun e => by rw [e] at hq; cases hq)
    have hz := hw z (by simp)
    have hwr : wv r := fun x hx => hw x (List.mem_append_left _ hx)
    have hr : r.length = m := by
      rw [List.length_append, List.length_singleton] at hq
      omega
    have hlt := p27_lt _ hwr
    have h12 := pow27_12 (n := r.length) (by omega)
    have hp2 : 2 ^ z ≤ 2 ^ 26 := Nat.pow_le_pow_right (by decide) hz.2
    obtain ⟨b', i1, i2, i3⟩ := rc_bits xs d hκ hp hu e19 hn en v2 v3 m r (b ||| 2 ^ z) none hr hwr (by omega) (Nat.or_lt_two_pow hb (Nat.pow_lt_pow_right (by decide) (by omega)))
    refine ⟨b', i1, fun x => ?_, ?_⟩
    · rw [i2 x, Nat.testBit_or, Nat.testBit_two_pow, Bool.or_assoc]
      congr 1
      by_cases e1 : z = x
      · rw [decide_eq_true e1, Bool.true_or, decide_eq_true (by rw [e1]; simp)]
      · rw [decide_eq_false e1, Bool.false_or]
        by_cases e2 : x ∈ r
        · rw [decide_eq_true e2, decide_eq_true (List.mem_append_left _ e2)]
        · rw [decide_eq_false e2, decide_eq_false (fun h => ?_)]
          rcases List.mem_append.mp h with h | h
          · exact e2 h
          · exact e1 (List.mem_singleton.mp h).symm
    · have ep : p27 (r ++ [z]) = 27 * p27 r + z := p27_snoc r z
      have hn0 : ¬ olcmp ((p27 (r ++ [z]) : Nat) : Int) 0 ≤ 0 := fun h => by have := olcmp_le.mp h; omega
      have ed : oldiv ((p27 (r ++ [z]) : Nat) : Int) 27 = ((p27 r : Nat) : Int) := by
        have := oldiv_nat (a := p27 (r ++ [z])) (b := 27) (by omega) (by decide)
        rw [show (27 : Int) = ((27 : Nat) : Int) from rfl, this]
        congr 1
        omega
      have em : olrem ((p27 (r ++ [z]) : Nat) : Int) 27 = ((z : Nat) : Int) := by
        have := olrem_nat (a := p27 (r ++ [z])) (b := 27) (by omega) (by decide)
        rw [show (27 : Int) = ((27 : Nat) : Int) from rfl, this]
        congr 1
        omega
      have eo : oor (b : Int) (oshl 1 ((z : Nat) : Int)) = ((b ||| 2 ^ z : Nat) : Int) := by
        rw [oshl1 (by omega), oor_nat (by omega) (by omega)]
      have el : ol2i ((z : Nat) : Int) = ((z : Nat) : Int) := ol2i_id (by omega) (by omega)
      have ea : ∀ x : Int, aup (aup E 266 (6 * u + n) (b : Int)) 266 (6 * u + n) x = aup E 266 (6 * u + n) x := fun x => by
        funext q j
        unfold aup
        by_cases h1 : q = 266 <;> by_cases h2 : j = 6 * u + n <;> simp [h1, h2]
      rw [← i3, q_210_130]
      simp (disch := omega) only [k256, hn0, ed, em, el, eo, pr_22 hp, n_266 hκ, ea, cond_true, cond_false, Bool.and_true, Bool.true_and, Bool.and_false, Bool.false_and, Int.toNat_natCast, Int.reduceToNat, bI_s, bJ_s, bV_s, bR_s, decide_true, decide_false, not_true_eq_false, not_false_eq_true, dT, dF, w_al, w_la, w_ab, w_sl, w_sb, w_dec, w_ml, w_lm, ol2i_n, aup_ne, aupE, aupJ, setc_self, setc_ne]
theorem rClass (xs : List Int) (d : Nat) {κ : aK} {D E : Nat → Nat → Int} {v u : Nat} (hκ : Shp κ) (hpD : PtrR D) {T : Nat → TK} (hT : TKok T) (hk : TkR D T) {a : Nat} {w : SS} (h : RpS D E v T (a, 0) w) (hs : RsD D v u) {c : Nat → Nat} (hc : RvC E u c) (hb : wbf T w a) (hx8 : c 0 ≤ 6) (hK : tkK (T a) = 128) (u1 : Option aV) : ∃ E', ev xs (d + 5) mm_208 84 [some (.inr (.inr 256)), u1] [] (κ, E) = some (none, (κ, E')) ∧ RTc D E E' v u T c a w := by
  have k256 := k_256 hκ
  have hcc := hc
  obtain ⟨v1, v2, v3, v4, v5⟩ := hs
  obtain ⟨c0, c1, c6, c9, c10, c11, cb⟩ := hc
  have hp := h.1.ptr hpD
  have e19 : E 256 19 = (u : Int) := by rw [h.1.2.1 19 (by decide)]; exact v2
  have er : rtG T c a = mu T 59 (mu T 2 (mu T 2 (fstG T 128 (c 0) 6 (a, 0)))) := if_pos hK
  obtain ⟨g11, g400, la, _⟩ := h.2.2.2.2 rfl
  obtain ⟨E1, a1, a2, a3⟩ := r_first xs (d + 2) hκ hpD hT hk h hK (by decide) (has := c 0) (most := 6) hx8 (hh' := (c 0 : Int)) (mm := 6) rfl rfl
  have h13 := a2.2.1
  have st : ev xs (d + 5) mm_208 84 [some (.inr (.inr 256)), u1] [] (κ, E) = (bif decide (¬ E1 256 13 = 0) then some (none, (κ, E1)) else bV (cl xs (d + 5) 210 [.inr (.inr 256)] (κ, E1)) (fun h => some (none, h))) := by
    rw [q_208_84]
    simp (disch := omega) only [cond_true, cond_false, Bool.and_true, Bool.true_and, Bool.and_false, Bool.false_and, Int.toNat_natCast, Int.reduceToNat, bI_s, bJ_s, bV_s, bR_s, decide_true, decide_false, not_true_eq_false, not_false_eq_true, dT, dF, w_al, w_la, w_ab, w_sl, w_sb, w_dec, w_ml, w_lm, ol2i_n, aup_ne, aupE, aupJ, setc_self, setc_ne, k256, pr_20 hp, e19, n_264 hκ, c0, a1]
  rw [st]
  by_cases hf1 : (fstG T 128 (c 0) 6 (a, 0)).2 = 0
  · obtain ⟨f1, f2, f3, f4⟩ := fst_ok hf1
    rw [f4] at a2 er h13
    have h13' : E1 256 13 = 0 := h13
    obtain ⟨g11a, g400a, la1, _⟩ := a2.2.2.2.2 rfl
    have g11a : E1 256 11 = ((a + 1 : Nat) : Int) := g11a
    have g400a : a + 1 ≤ 400 := g400a
    have la1 : live T (a + 1) := la1
    have hb1 : wbf T w (a + 1) := wbf_s hT hb (by omega)
    obtain ⟨E2, b1, b2, b3⟩ := r_must xs (d + 1) hκ hpD hT hk a2 (k := 2) (by decide) (by decide) (kk := 1) rfl
    have hp1 := a2.1.ptr hpD
    have e19a : E1 256 19 = (u : Int) := (a3.f (by decide)).trans e19
    have en1 : E1 264 u = (c 0 : Int) := by rw [a3.cell (by decide)]; exact c0
    have ew3 : w32 (((6 * u : Nat) : Int) + (c 0 : Int)) = ((6 * u + c 0 : Nat) : Int) := by rw [w32_id (by omega) (by omega)]; omega
    have rq2 := a3.trans b3
    have hp2 := b2.1.ptr hpD
    have e19b : E2 256 19 = (u : Int) := (rq2.f (by decide)).trans e19
    have en2 : E2 264 u = (c 0 : Int) := by rw [rq2.cell (by decide)]; exact c0
    have h13b := b2.2.1
    -- the name: told already, and too short
    have hnm : ∃ (E3 : Nat → Nat → Int) (w1 : SS), cl xs (d + 5) 210 [.inr (.inr 256)] (κ, E1) = ev xs (d + 4) mm_210 80 [some (.inr (.inr 256)), some (.inl ((6 * u + c 0 : Nat) : Int)), some (.inl ((a + 1 : Nat) : Int)), none, none, none] [] (κ, E3) ∧ RpS D E3 v T (mu T 2 (a + 1, 0)) w1 ∧ Rq E2 E3 ∧ ((mu T 2 (a + 1, 0)).2 = 0 → (¬ w.1 = 0 → w1 = w) ∧ wbf T w1 (a + 2) ∧ ∀ Y, w.1 = 0 → YCn c Y → YOk Y → RvY E u Y → w1 = w1C T a Y w) := by
      by_cases q : (mu T 2 (a + 1, 0)).2 = 0
      · rw [q] at h13b
        have h13c : E2 256 13 = 0 := h13b
        obtain ⟨m1, m2, m3, m4⟩ := mu_ok q
        have m2 : tkK (T (a + 1)) = 2 := m2
        have hN := hT.2.2.1 _ m2
        have hpl := p27_1 hN.1 hN.2
        have eN : E2 262 (a + 1) = (p27 (tkN (T (a + 1))) : Int) := ((b2.1.tk hk) (a + 1) g400a la1).2.2.2 m2
        obtain ⟨x, x1, x2, x3, x4⟩ := classAt_eq xs (d + 3) hκ hp2 v4 e19b (n := c 0) hx8 en2 (p27 (tkN (T (a + 1))) : Int)
        have xY : ∀ Y, YCn c Y → YOk Y → RvY E u Y → x = oI (ycl Y (tkN (T (a + 1)))) := fun Y hY hO hR => x4 Y _ hO hN.1 rfl hY.1 (fun k hk2 => by rw [rq2.cell (by decide), rq2.cell (by decide)]; exact hR.2.1 k hk2)
        -- told already
        have h1 : ∃ (E3 : Nat → Nat → Int) (w1 : SS), cl xs (d + 5) 210 [.inr (.inr 256)] (κ, E1) = ev xs (d + 4) mm_210 54 [some (.inr (.inr 256)), some (.inl ((6 * u + c 0 : Nat) : Int)), some (.inl ((a + 1 : Nat) : Int)), none, none, none] [] (κ, E3) ∧ RpS D E3 v T (mu T 2 (a + 1, 0)) w1 ∧ Rq E2 E3 ∧ (x < 0 → w1 = w) ∧ (¬ x < 0 → w1 = wrg w 3 (tkP (T (a + 1)))) := by
          by_cases hx : x < 0
          · refine ⟨E2, w, ?_, b2, Rq.rfl', fun _ => rfl, fun z => absurd hx z⟩
            rw [c_210]
            simp (disch := omega) only [k256, e19a, pr_20 hp1, ew3, n_264 hκ, en1, g11a, b1, h13c, pr_8 hp2, n_262 hκ, eN, x1, cond_true, cond_false, Bool.and_true, Bool.true_and, Bool.and_false, Bool.false_and, Int.toNat_natCast, Int.reduceToNat, bI_s, bJ_s, bV_s, bR_s, decide_true, decide_false, not_true_eq_false, not_false_eq_true, dT, dF, w_al, w_la, w_ab, w_sl, w_sb, w_dec, w_ml, w_lm, ol2i_n, aup_ne, aupE, aupJ, setc_self, setc_ne]
          · obtain ⟨E3, f1', f2', f3'⟩ := r_wrong xs (d + 3) hκ hpD hT hk b2 (j := a + 1) g400a (fun _ => la1) (k := 3) (by decide) (kk := 3) (jj := ((a + 1 : Nat) : Int)) rfl rfl (fun _ => Or.inl hb1)
            refine ⟨E3, _, ?_, f2', f3', fun z => absurd z hx, fun _ => rfl⟩
            rw [c_210]
            simp (disch := omega) only [k256, e19a, pr_20 hp1, ew3, n_264 hκ, en1, g11a, b1, h13c, pr_8 hp2, n_262 hκ, eN, x1, f1', cond_true, cond_false, Bool.and_true, Bool.true_and, Bool.and_false, Bool.false_and, Int.toNat_natCast, Int.reduceToNat, bI_s, bJ_s, bV_s, bR_s, decide_true, decide_false, not_true_eq_false, not_false_eq_true, dT, dF, w_al, w_la, w_ab, w_sl, w_sb, w_dec, w_ml, w_lm, ol2i_n, aup_ne, aupE, aupJ, setc_self, setc_ne]
        obtain ⟨E3, w1, o1, o2, o3, o4, o5⟩ := h1
        have hp3 := o2.1.ptr hpD
        have h13e : E3 256 13 = 0 := by have := o2.2.1; rw [q] at this; exact this
        have eN3 : E3 262 (a + 1) = (p27 (tkN (T (a + 1))) : Int) := by rw [o3.cell (by decide)]; exact eN
        have wb1 : wbf T w1 (a + 1) ∨ (w1.2 = tkP (T (a + 1)) ∧ w1.1 ≤ 5) := by
          by_cases hx : x < 0
          · rw [o4 hx]; exact Or.inl hb1
          · rw [o5 hx]
            unfold wrg
            split
            · exact Or.inr ⟨rfl, show 3 ≤ 5 by decide⟩
            · exact Or.inl hb1
        have wb2 : wbf T w1 (a + 2) := by
          by_cases hx : x < 0
          · rw [o4 hx]; exact wbf_s hT hb1 (by omega)
          · rw [o5 hx]; exact wbf_w hT hb1 (by omega)
        have w1k : ¬ w.1 = 0 → w1 = w := fun z => by
          by_cases hx : x < 0
          · exact o4 hx
          · rw [o5 hx]; exact wrg_k z
        have w1Y : ∀ Y, YCn c Y → YOk Y → RvY E u Y → w1 = (if (ycl Y (tkN (T (a + 1)))).isSome = true then wrg w 3 (tkP (T (a + 1))) else w) := fun Y hY hO hR => by
          have := xY Y hY hO hR
          cases e : ycl Y (tkN (T (a + 1))) with
          | none =>
            rw [e] at this
            change x = -1 at this
            rw [if_neg (by decide)]
            exact o4 (by omega)
          | some j =>
            rw [e] at this
            change x = (j : Int) at this
            rw [if_pos (show (some j).isSome = true from rfl)]
            exact o5 (by omega)
        by_cases hlen : (tkN (T (a + 1))).length < 2
        · obtain ⟨E4, f1', f2', f3'⟩ := r_wrong xs (d + 3) hκ hpD hT hk o2 (j := a + 1) g400a (fun _ => la1) (k := 5) (by decide) (kk := 5) (jj := ((a + 1 : Nat) : Int)) rfl rfl (fun _ => wb1)
          refine ⟨E4, _, ?_, f2', o3.trans f3', fun _ => ⟨fun z => by rw [w1k z]; exact wrg_k z, ?_, fun Y hw0 hY hO hR => ?_⟩⟩
          · have hz : ¬ 0 ≤ olcmp ((p27 (tkN (T (a + 1))) : Nat) : Int) 27 := fun z => by have := olcmp_ge.mp z; have := hpl.1.mpr hlen; omega
            rw [o1, q_210_54]
            simp (disch := omega) only [k256, h13e, pr_8 hp3, n_262 hκ, eN3, hz, f1', cond_true, cond_false, Bool.and_true, Bool.true_and, Bool.and_false, Bool.false_and, Int.toNat_natCast, Int.reduceToNat, bI_s, bJ_s, bV_s, bR_s, decide_true, decide_false, not_true_eq_false, not_false_eq_true, dT, dF, w_al, w_la, w_ab, w_sl, w_sb, w_dec, w_ml, w_lm, ol2i_n, aup_ne, aupE, aupJ, setc_self, setc_ne]
          · unfold wrg
            split
            · exact Or.inr (hT.2.1 (a + 1) (by omega))
            · exact wb2
          · have hno : ycl Y (tkN (T (a + 1))) = none := by
              cases e : ycl Y (tkN (T (a + 1))) with
              | none => rfl
              | some j =>
                have := fndN_lt _ _ _ e
                have h2 := (hO.2 j (by omega)).2.1
                rw [this.2.2] at h2
                omega
            have := w1Y Y hY hO hR
            rw [hno, if_neg (by decide)] at this
            unfold w1C
            rw [if_pos hlen, this]
        · refine ⟨E3, w1, ?_, o2, o3, fun _ => ⟨w1k, wb2, fun Y hw0 hY hO hR => ?_⟩⟩
          · have hz : 0 ≤ olcmp ((p27 (tkN (T (a + 1))) : Nat) : Int) 27 := olcmp_ge.mpr (by have : ¬ p27 (tkN (T (a + 1))) < 27 := fun z => hlen (hpl.1.mp z); omega)
            rw [o1, q_210_54]
            simp (disch := omega) only [k256, h13e, pr_8 hp3, n_262 hκ, eN3, hz, cond_true, cond_false, Bool.and_true, Bool.true_and, Bool.and_false, Bool.false_and, Int.toNat_natCast, Int.reduceToNat, bI_s, bJ_s, bV_s, bR_s, decide_true, decide_false, not_true_eq_false, not_false_eq_true, dT, dF, w_al, w_la, w_ab, w_sl, w_sb, w_dec, w_ml, w_lm, ol2i_n, aup_ne, aupE, aupJ, setc_self, setc_ne]
          · unfold w1C
            rw [if_neg hlen]
            exact w1Y Y hY hO hR
      · refine ⟨E2, w, ?_, b2, Rq.rfl', fun z => absurd z q⟩
        rw [c_210]
        simp (disch := omega) only [k256, e19a, pr_20 hp1, ew3, n_264 hκ, en1, g11a, b1, h13b, cond_true, cond_false, Bool.and_true, Bool.true_and, Bool.and_false, Bool.false_and, Int.toNat_natCast, Int.reduceToNat, bI_s, bJ_s, bV_s, bR_s, decide_true, decide_false, not_true_eq_false, not_false_eq_true, dT, dF, w_al, w_la, w_ab, w_sl, w_sb, w_dec, w_ml, w_lm, ol2i_n, aup_ne, aupE, aupJ, setc_self, setc_ne]
        rw [q_210_54]
        simp (disch := omega) only [k256, h13b, cond_true, cond_false, Bool.and_true, Bool.true_and, Bool.and_false, Bool.false_and, Int.toNat_natCast, Int.reduceToNat, bI_s, bJ_s, bV_s, bR_s, decide_true, decide_false, not_true_eq_false, not_false_eq_true, dT, dF, w_al, w_la, w_ab, w_sl, w_sb, w_dec, w_ml, w_lm, ol2i_n, aup_ne, aupE, aupJ, setc_self, setc_ne]
    obtain ⟨E3, w1, i1, i2, i3, i4⟩ := hnm
    obtain ⟨E4, j1, j2, j3⟩ := r_must xs (d + 1) hκ hpD hT hk i2 (k := 2) (by decide) (by decide) (kk := 1) rfl
    obtain ⟨E5, o1, o2, o3⟩ := r_must xs (d + 1) hκ hpD hT hk j2 (k := 59) (by decide) (by decide) (kk := 4) rfl
    rw [← er] at o2
    have rq := ((rq2.trans i3).trans j3).trans o3
    have h13d := o2.2.1
    have go : (bif decide (¬ E1 256 13 = 0) then some (none, (κ, E1)) else bV (cl xs (d + 5) 210 [.inr (.inr 256)] (κ, E1)) (fun h => some (none, h))) = bV (ev xs (d + 4) mm_210 80 [some (.inr (.inr 256)), some (.inl ((6 * u + c 0 : Nat) : Int)), some (.inl ((a + 1 : Nat) : Int)), none, none, none] [] (κ, E3)) (fun h => some (none, h)) := by
      rw [i1]
      simp (disch := omega) only [cond_true, cond_false, Bool.and_true, Bool.true_and, Bool.and_false, Bool.false_and, Int.toNat_natCast, Int.reduceToNat, bI_s, bJ_s, bV_s, bR_s, decide_true, decide_false, not_true_eq_false, not_false_eq_true, dT, dF, w_al, w_la, w_ab, w_sl, w_sb, w_dec, w_ml, w_lm, ol2i_n, aup_ne, aupE, aupJ, setc_self, setc_ne, h13']
    rw [go]
    obtain ⟨t3, t31, t32⟩ := i2.2.2.1
    by_cases hf : (rtG T c a).2 = 0
    · obtain ⟨z0, z1, z2, z3, z4, z5⟩ := sh128 hK hf
      have gt := rtG_gt hf
      have m1 : mu T 2 (a + 1, 0) = (a + 2, 0) := by unfold mu; rw [if_pos rfl, if_pos z1, if_neg (by show ¬ 400 ≤ a + 1; omega)]
      obtain ⟨n1, n2, n3⟩ := i4 (by rw [m1])
      have e11 : E3 256 11 = ((a + 2 : Nat) : Int) := by
        have := i2.2.2.2.2
        rw [m1] at this
        exact (this rfl).1
      rw [hf] at h13d
      have h13e : E5 256 13 = 0 := h13d
      have hp5 := o2.1.ptr hpD
      have la2 : live T (a + 2) := live_s la1 (by omega)
      have eN1 : E5 262 (a + 1) = (p27 (tkN (T (a + 1))) : Int) := ((o2.1.tk hk) (a + 1) g400a la1).2.2.2 z1
      have eN2 : E5 262 (a + 2) = (p27 (tkN (T (a + 2))) : Int) := ((o2.1.tk hk) (a + 2) (by omega) la2).2.2.2 z2
      have e19e : E5 256 19 = (u : Int) := (rq.f (by decide)).trans e19
      have en5 : E5 264 u = (c 0 : Int) := by rw [rq.cell (by decide)]; exact c0
      have hN2 := hT.2.2.1 _ z2
      have hp6 : PtrR (aup E5 265 (6 * u + c 0) (p27 (tkN (T (a + 1))) : Int)) := hp5.of (fun j _ => by rw [aupN (by decide)])
      obtain ⟨b', q1, q2, q3⟩ := rc_bits xs (d + 4) hκ hp6 v4 (by rw [aupN (by decide)]; exact e19e) (n := c 0) (by omega) (by rw [aupN (by decide)]; exact en5) ((a + 1 : Nat) : Int) ((a + 2 : Nat) : Int) (tkN (T (a + 2))).length (tkN (T (a + 2))) 0 none rfl hN2.1.1 hN2.1.2 (by decide)
      have q2' : ∀ x, b'.testBit x = decide (x ∈ tkN (T (a + 2))) := fun x => by rw [q2 x, Nat.zero_testBit, Bool.false_or]
      refine ⟨aup (aup (aup E5 265 (6 * u + c 0) (p27 (tkN (T (a + 1))) : Int)) 266 (6 * u + c 0) (b' : Int)) 264 u ((c 0 + 1 : Nat) : Int), ?_, w1, o2.fr (((o2.1.wr (by decide) (by decide) (by show ¬ (6 * u + c 0) / 6 = v; omega) _).wr (by decide) (by decide) (by show ¬ (6 * u + c 0) / 6 = v; omega) _).wr (by decide) (by decide) (by show ¬ u / 1 = v; omega) _) (fun j _ => by rw [aupN (by decide), aupN (by decide), aupN (by decide)]), fun _ => ⟨wbf_le hT n2 (rt_live la hf) (by rw [z5]; show a + 2 ≤ a + 4; omega), ?_, fun lb => lb.same (Nat.le_of_lt gt) (by rw [aupN (by decide), aupN (by decide), aupN (by decide), rq.f (by decide)]) (by rw [aupN (by decide), aupN (by decide), aupN (by decide), rq.f (by decide)]) (by rw [aupN (by decide), aupN (by decide), aupN (by decide), rq.f (by decide)]), n1, fun Y hw0 hY hO hR => ?_⟩⟩
      · rw [q_210_80]
        simp (disch := omega) only [k256, e11, j1, o1, h13e, pr_21 hp5, pr_22 hp5, pr_8 hp5, n_265 hκ, n_266 hκ, n_262 hκ, eN1, eN2, cond_true, cond_false, Bool.and_true, Bool.true_and, Bool.and_false, Bool.false_and, Int.toNat_natCast, Int.reduceToNat, bI_s, bJ_s, bV_s, bR_s, decide_true, decide_false, not_true_eq_false, not_false_eq_true, dT, dF, w_al, w_la, w_ab, w_sl, w_sb, w_dec, w_ml, w_lm, ol2i_n, aup_ne, aupE, aupJ, setc_self, setc_ne]
        have q3' := q3
        rw [show ((0 : Nat) : Int) = 0 from rfl] at q3'
        rw [q3']
        rfl
      · rw [hK]
        refine RvC.up hcc ?_ ?_ (fun s hs2 => ?_) ?_ ?_ ?_ (fun j hj e => ?_)
        · rw [aupE]; rfl
        · simp (disch := omega) only [aup_ne]; rw [rq.cell (by decide), c1]; rfl
        · simp (disch := omega) only [aup_ne]; rw [rq.cell (by decide), c6 s hs2, if_neg (by omega)]
        · simp (disch := omega) only [aup_ne]; rw [rq.cell (by decide), c9]; rfl
        · simp (disch := omega) only [aup_ne]; rw [rq.cell (by decide), c10]; rfl
        · simp (disch := omega) only [aup_ne]; rw [rq.cell (by decide), c11]; rfl
        · have : j = 0 := by omega
          subst this
          omega
      · rw [mt128 hK]
        refine ⟨n3 Y hw0 hY hO hR, fun _ => ?_⟩
        obtain ⟨y0, y1, y6, y7, y8, y9, y10, y11⟩ := hY
        obtain ⟨r1, r2, r3, r4⟩ := hR
        have fr : ∀ q, q ≠ 256 → q ≠ 264 → q ≠ 265 → q ≠ 266 → (aup (aup (aup E5 265 (6 * u + c 0) (p27 (tkN (T (a + 1))) : Int)) 266 (6 * u + c 0) (b' : Int)) 264 u ((c 0 + 1 : Nat) : Int)) q = E q := fun q q1 q2 q3 q4 => by rw [aupN q2, aupN q4, aupN q3]; exact rq.cell q1
        have sf : ∀ q, q ≠ 256 → q ≠ 264 → q ≠ 265 → q ≠ 266 → sid (aup (aup (aup E5 265 (6 * u + c 0) (p27 (tkN (T (a + 1))) : Int)) 266 (6 * u + c 0) (b' : Int)) 264 u ((c 0 + 1 : Nat) : Int)) u q = sid E u q := fun q q1 q2 q3 q4 => by rw [sid_q q1, sid_q q1]; exact fr q q1 q2 q3 q4
        obtain ⟨t1, t2, t3', t4, t5, t6, t7⟩ := r1
        have t3 := t3'
        -- stones look at classes told ahead of them alone
        have is : ∀ (sort of : Int) (x : Nat), (¬ sort = 0 → ¬ sort = 3 → ¬ sort = 1 → 0 ≤ of ∧ of < (xnc Y.1 : Int)) → isbR (sid (aup (aup (aup E5 265 (6 * u + c 0) (p27 (tkN (T (a + 1))) : Int)) 266 (6 * u + c 0) (b' : Int)) 264 u ((c 0 + 1 : Nat) : Int)) u) sort of (x : Int) = isbR (sid E u) sort of (x : Int) := fun sort of x hof => by
          unfold isbR
          by_cases s0 : sort = 0
          · rw [if_pos s0, if_pos s0]
          · by_cases s3 : sort = 3
            · rw [if_neg s0, if_neg s0, if_pos s3, if_pos s3]
            · by_cases s1 : sort = 1
              · rw [if_neg s0, if_neg s0, if_neg s3, if_neg s3, if_pos s1, if_pos s1]
              · obtain ⟨o1', o2'⟩ := hof s0 s3 s1
                rw [sid_18, sid_18, sid_q (by decide), sid_q (by decide), aupN (by decide), aupJ (show (6 * (u : Int) + of).toNat ≠ 6 * u + c 0 by omega), aupN (by decide), rq.cell (by decide)]
        refine ⟨⟨⟨⟨?_, t1.1.2.1, fun s hs2 => ?_⟩, fun s hs2 => ?_⟩, ?_, ?_, ?_, ?_, ?_, ?_⟩, fun k hk2 => ?_, fun s hs2 => ?_, r4.congr (fun q a b => fr q (by omega) (by omega) (by omega) (by omega)) rfl⟩
        · rw [sf 267 (by decide) (by decide) (by decide) (by decide)]; exact t1.1.1
        · have := t1.1.2.2 s hs2
          unfold stOK at this ⊢
          rw [sf 268 (by decide) (by decide) (by decide) (by decide), sf 269 (by decide) (by decide) (by decide) (by decide), sf 270 (by decide) (by decide) (by decide) (by decide), sf 271 (by decide) (by decide) (by decide) (by decide), sf 272 (by decide) (by decide) (by decide) (by decide), sf 273 (by decide) (by decide) (by decide) (by decide)]
          exact this
        · have ta := t1.2 s hs2
          have tb := t1.1.2.2 s hs2
          have tc := r3 s hs2
          unfold rA rB at ta ⊢
          rw [sf 270 (by decide) (by decide) (by decide) (by decide), sf 271 (by decide) (by decide) (by decide) (by decide), sf 272 (by decide) (by decide) (by decide) (by decide), sf 273 (by decide) (by decide) (by decide) (by decide)]
          refine ⟨fun x hx => ?_, fun x hx => ?_⟩
          · rw [is _ _ x (fun a b c => ⟨(tb.2.2.2.2.1 a b c).1, by
              have := tc.1
              rw [sid_q (by decide)] at a b c
              rw [sid_q (by decide)]
              exact this a b c⟩)]
            exact ta.1 x hx
          · rw [is _ _ x (fun a b c => ⟨(tb.2.2.2.2.2 a b c).1, by
              have := tc.2
              rw [sid_q (by decide)] at a b c
              rw [sid_q (by decide)]
              exact this a b c⟩)]
            exact ta.2 x hx
        · rw [sf 277 (by decide) (by decide) (by decide) (by decide), sf 278 (by decide) (by decide) (by decide) (by decide)]; exact t2
        · rw [sf 274 (by decide) (by decide) (by decide) (by decide), sf 275 (by decide) (by decide) (by decide) (by decide), sf 276 (by decide) (by decide) (by decide) (by decide)]; exact t3
        · rw [sf 279 (by decide) (by decide) (by decide) (by decide), sf 280 (by decide) (by decide) (by decide) (by decide), sf 281 (by decide) (by decide) (by decide) (by decide), sf 282 (by decide) (by decide) (by decide) (by decide)]; exact t4
        · rw [sf 283 (by decide) (by decide) (by decide) (by decide), sf 284 (by decide) (by decide) (by decide) (by decide), sf 285 (by decide) (by decide) (by decide) (by decide), sf 286 (by decide) (by decide) (by decide) (by decide), sf 287 (by decide) (by decide) (by decide) (by decide)]; exact t5
        · rw [sf 288 (by decide) (by decide) (by decide) (by decide)]; exact t6
        · rw [sid_q (by decide), aupE, y0]; rfl
        · have hk2 : k < xnc Y.1 + 1 := hk2
          show _ = ((p27 (upf Y.2.1 (xnc Y.1) _ k) : Nat) : Int) ∧ ∃ n : Nat, n < 2 ^ 27 ∧ _ = ((n : Nat) : Int) ∧ ∀ x, n.testBit x = decide (x ∈ upf Y.2.2 (xnc Y.1) _ k)
          by_cases e : k = xnc Y.1
          · subst e
            rw [upf_s, upf_s, ← y0]
            simp (disch := omega) only [aup_ne, aupE]
            exact ⟨trivial, b', q1, rfl, q2'⟩
          · rw [upf_n e, upf_n e]
            simp (disch := omega) only [aup_ne, aupJ]
            rw [rq.cell (by decide), rq.cell (by decide)]
            exact r2 k (by omega)
        · have := r3 s hs2
          rw [fr 270 (by decide) (by decide) (by decide) (by decide), fr 271 (by decide) (by decide) (by decide) (by decide), fr 272 (by decide) (by decide) (by decide) (by decide), fr 273 (by decide) (by decide) (by decide) (by decide)]
          refine ⟨fun a b c => ?_, fun a b c => ?_⟩
          · have := this.1 a b c
            show _ < ((xnc Y.1 + 1 : Nat) : Int)
            omega
          · have := this.2 a b c
            show _ < ((xnc Y.1 + 1 : Nat) : Int)
            omega
    · refine ⟨E5, ?_, w1, o2, fun q => absurd q hf⟩
      rw [q_210_80]
      simp (disch := omega) only [k256, t32, j1, o1, h13d, cond_true, cond_false, Bool.and_true, Bool.true_and, Bool.and_false, Bool.false_and, Int.toNat_natCast, Int.reduceToNat, bI_s, bJ_s, bV_s, bR_s, decide_true, decide_false, not_true_eq_false, not_false_eq_true, dT, dF, w_al, w_la, w_ab, w_sl, w_sb, w_dec, w_ml, w_lm, ol2i_n, aup_ne, aupE, aupJ, setc_self, setc_ne]
  · have ee : rtG T c a = fstG T 128 (c 0) 6 (a, 0) := by
      rw [er, mu_f hf1, mu_f hf1, mu_f hf1]
    rw [← ee] at a2 hf1 h13
    refine ⟨E1, ?_, w, a2, fun q => absurd q hf1⟩
    simp (disch := omega) only [cond_true, cond_false, Bool.and_true, Bool.true_and, Bool.and_false, Bool.false_and, Int.toNat_natCast, Int.reduceToNat, bI_s, bJ_s, bV_s, bR_s, decide_true, decide_false, not_true_eq_false, not_false_eq_true, dT, dF, w_al, w_la, w_ab, w_sl, w_sb, w_dec, w_ml, w_lm, ol2i_n, aup_ne, aupE, aupJ, setc_self, setc_ne, h13]
