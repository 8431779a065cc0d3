/-! The class's law out of what was told. -/
def okz (T : Nat → TK) (a b : Nat) : Prop := ∀ i, a ≤ i → i < b → ¬ tkK (T i) = 145
theorem okz_t {T : Nat → TK} {a b : Nat} (h0 : ¬ tkK (T a) = 145) (h : okz T (a + 1) b) : okz T a b := fun i hi hj => by
  by_cases q : i = a
  · rw [q]; exact h0
  · exact h i (by omega) hj
theorem exA_z {T : Nat → TK} : ∀ (m a : Nat) (lv : List LV) (due : Bool) (c : VF), (exA T m a lv due c).2.1 = 0 → okz T a (exA T m a lv due c).1
  | 0, a, _, _, c, h => absurd h (show ¬ 2 = 0 by decide)
  | m + 1, a, lv, true, c, h => by
    unfold exA at h ⊢
    by_cases h1 : tkK (T a) = 40
    · rw [if_pos h1] at h ⊢
      by_cases h2 : 6 < lv.length
      · rw [if_pos h2] at h
        exact absurd h (show ¬ 2 = 0 by decide)
      · rw [if_neg h2] at h ⊢
        by_cases h3 : 400 ≤ a
        · rw [if_pos h3] at h
          exact absurd h (show ¬ 2 = 0 by decide)
        · rw [if_neg h3] at h ⊢
          exact okz_t (by omega) (exA_z m (a + 1) _ _ _ h)
    · rw [if_neg h1] at h ⊢
      by_cases h2 : tkK (T a) = 3 ∨ isv (tkK (T a)) = true
      · rw [if_pos h2] at h ⊢
        by_cases h3 : 400 ≤ a
        · rw [if_pos h3] at h
          exact absurd h (show ¬ 2 = 0 by decide)
        · rw [if_neg h3] at h ⊢
          have hv : tkK (T a) = 3 ∨ (146 ≤ tkK (T a) ∧ tkK (T a) ≤ 151) := by
            rcases h2 with q | q
            · exact Or.inl q
            · exact Or.inr (isv_iff.mp q)
          exact okz_t (by omega) (exA_z m (a + 1) _ _ _ h)
      · rw [if_neg h2] at h
        exact absurd h (show ¬ 1 = 0 by decide)
  | m + 1, a, [], false, c, h => fun i hi hj => absurd hj (by show ¬ i < a; omega)
  | m + 1, a, l :: r, false, c, h => by
    unfold exA at h ⊢
    by_cases h1 : tkK (T a) = 42 ∨ tkK (T a) = 47
    · rw [if_pos h1] at h ⊢
      by_cases h3 : 400 ≤ a
      · rw [if_pos h3] at h
        exact absurd h (show ¬ 2 = 0 by decide)
      · rw [if_neg h3] at h ⊢
        exact okz_t (by omega) (exA_z m (a + 1) _ _ _ h)
    · rw [if_neg h1] at h ⊢
      by_cases h2 : tkK (T a) = 43 ∨ tkK (T a) = 45
      · rw [if_pos h2] at h ⊢
        by_cases h3 : 400 ≤ a
        · rw [if_pos h3] at h
          exact absurd h (show ¬ 2 = 0 by decide)
        · rw [if_neg h3] at h ⊢
          exact okz_t (by omega) (exA_z m (a + 1) _ _ _ h)
      · rw [if_neg h2] at h ⊢
        by_cases h4 : r.isEmpty = true
        · rw [if_pos h4]
          exact fun i hi hj => absurd hj (by show ¬ i < a; omega)
        · rw [if_neg h4] at h ⊢
          by_cases h5 : tkK (T a) = 41
          · rw [if_pos h5] at h ⊢
            by_cases h3 : 400 ≤ a
            · rw [if_pos h3] at h
              exact absurd h (show ¬ 2 = 0 by decide)
            · rw [if_neg h3] at h ⊢
              exact okz_t (by omega) (exA_z m (a + 1) _ _ _ h)
          · rw [if_neg h5] at h
            exact absurd h (show ¬ 1 = 0 by decide)
theorem lw_sum (xs : List Int) {κ : aK} {D : Nat → Nat → Int} (hκ : Shp κ) {t b e : Nat} {T : Nat → TK} {V : Nat → Int} (hL : LwE D t T b e V) {a g : Nat} (ha : b ≤ a) {z : Int} (hz : z01 z) (hg : 22 ≤ g) (h0 : (smE T a).2.1 = 0) (h1 : (smE T a).1 ≤ e) : ∃ x z', cl xs g 7 [.inr (.inr ((t + 18 : Nat) : Int)), .inl 0] (κ, lw D t ((a - b : Nat) : Int) z) = some (some (.inl x), (κ, lw D t (((smE T a).1 - b : Nat) : Int) z')) ∧ fvl z ((smE T a).2.2 V) x z' := by
  have hx : exA T (401 - a) a [(none, none)] true cz = ((smE T a).1, 0, (smE T a).2.2) := by
    show smE T a = _
    rw [← h0]
  obtain ⟨x, z', a', c', i1, i2, i3, m1, l1, c2, j1, j2, j3, j4, j5⟩ := (lq_all xs hκ hL (p := (smE T a).1) (F := (smE T a).2.2) h1 (401 - a)).2.2.2.2 6 g [] cz a z (by omega) rfl ha hz hx
  obtain ⟨k1, k2⟩ := exA_f0 j3 j4 j5
  rw [k1]
  refine ⟨x, z', i1, ?_⟩
  rw [k2, ← j1]
  exact i3
theorem lw_skip (xs : List Int) (d : Nat) {κ : aK} {D : Nat → Nat → Int} (hκ : Shp κ) {t b e : Nat} {T : Nat → TK} {V : Nat → Int} (hL : LwE D t T b e V) {z : Int} {p3 : Nat} (hp : p3 < e) (hk : tkK (T p3) = 145) : ∀ (n a : Nat), a + n = p3 → b ≤ a → okz T a p3 → ev xs (d + 1) mm_5 0 [some (.inr (.inr ((t + 18 : Nat) : Int)))] [] (κ, lw D t ((a - b : Nat) : Int) z) = some (none, (κ, lw D t ((p3 + 1 - b : Nat) : Int) z)) := by
  have hL' := hL
  obtain ⟨hc, ht, hb, he4, h1, -, -, h59⟩ := hL'
  intro n
  induction n with
  | zero =>
    intro a hn ha ho
    have e6 := lk_here xs d hκ hL ha (by omega) z
    have ek : kdL T e a = 145 := (if_pos (by omega)).trans (by rw [show a = p3 by omega]; exact hk)
    rw [ek] at e6
    have e6 : cl xs (d + 1) 6 [.inr (.inr ((t + 18 : Nat) : Int))] (κ, lw D t ((a - b : Nat) : Int) z) = some (some (.inl 145), (κ, lw D t ((a - b : Nat) : Int) z)) := e6
    have r1 : lw D t ((a - b : Nat) : Int) z (t + 18) 1 = ((e - b : Nat) : Int) := (lw_j (by decide) (by decide)).trans h1
    have ew : w32 (((a - b : Nat) : Int) + 1) = ((p3 + 1 - b : Nat) : Int) := by rw [w32_id (by omega) (by omega)]; omega
    rw [q_5_0]
    simp (disch := omega) only [cond_true, cond_false, Bool.and_true, Bool.true_and, Int.toNat_natCast, Int.reduceToNat, bI_s, bV_s, decide_true, decide_false, not_true_eq_false, not_false_eq_true, dT, dF, tk_18 hκ ht, lw_f4, r1, e6, lw_s4, ew]
  | succ n ih =>
    intro a hn ha ho
    have e6 := lk_here xs d hκ hL ha (by omega) z
    have ek : kdL T e a = tkK (T a) := if_pos (by omega)
    have n145 := ho a (Nat.le_refl _) (by omega)
    rw [ek] at e6
    have m145 : ¬ ((tkK (T a) : Nat) : Int) = 145 := by omega
    have r1 : lw D t ((a - b : Nat) : Int) z (t + 18) 1 = ((e - b : Nat) : Int) := (lw_j (by decide) (by decide)).trans h1
    have ew : w32 (((a - b : Nat) : Int) + 1) = ((a + 1 - b : Nat) : Int) := by rw [w32_id (by omega) (by omega)]; omega
    rw [← ih (a + 1) (by omega) (by omega) (fun i hi hj => ho i (by omega) hj), q_5_0]
    simp (disch := omega) only [cond_true, cond_false, Bool.and_true, Bool.true_and, Int.toNat_natCast, Int.reduceToNat, bI_s, bV_s, decide_true, decide_false, not_true_eq_false, not_false_eq_true, dT, dF, tk_18 hκ ht, lw_f4, r1, e6, lw_s4, ew, m145]
theorem lwV_y {T : Nat → TK} {r a : Nat} {V : Nat → Int} {x y : Int} (hk : tkK (T a) = 143) (h1 : (smE T (a + 1)).2.2 V = some x) (h2 : (smE T ((smE T (a + 1)).1 + 1)).2.2 V = some y) : lwV T (r + 1) a V = if x < y then (smE T ((smE T ((smE T (a + 1)).1 + 1)).1 + 1)).2.2 V else lwV T r ((smE T ((smE T ((smE T (a + 1)).1 + 1)).1 + 1)).1 + 1) V := by
  have e : lwV T (r + 1) a = _ := if_pos hk
  rw [e]
  simp only [h1, h2]
theorem lwV_n {T : Nat → TK} {r a : Nat} {V : Nat → Int} (hk : tkK (T a) = 143) (h : (smE T (a + 1)).2.2 V = none ∨ (smE T ((smE T (a + 1)).1 + 1)).2.2 V = none) : lwV T (r + 1) a V = none := by
  unfold lwV
  rw [if_pos hk]
  rcases h with h | h
  · simp only [h]
  · cases h1 : (smE T (a + 1)).2.2 V <;> simp only [h]
theorem lwV_r {T : Nat → TK} {r a : Nat} {V : Nat → Int} {z x1 z1 x2 z2 x z3 : Int} (hk : tkK (T a) = 143) (h1 : fvl z ((smE T (a + 1)).2.2 V) x1 z1) (h2 : fvl z1 ((smE T ((smE T (a + 1)).1 + 1)).2.2 V) x2 z2) (h3 : fvl z2 (if x1 < x2 then (smE T ((smE T ((smE T (a + 1)).1 + 1)).1 + 1)).2.2 V else lwV T r ((smE T ((smE T ((smE T (a + 1)).1 + 1)).1 + 1)).1 + 1) V) x z3) : fvl z (lwV T (r + 1) a V) x z3 := by
  refine ⟨fun q => ?_, fun q => h3.2 (h2.2 (h1.2 q))⟩
  rcases h1.1 q with ⟨a1, a2⟩ | ⟨a1, a2⟩
  · rcases h2.1 a2 with ⟨b1, b2⟩ | ⟨b1, b2⟩
    · rw [lwV_y hk a1 b1]
      exact h3.1 b2
    · exact Or.inr ⟨lwV_n hk (Or.inr b1), h3.2 b2⟩
  · exact Or.inr ⟨lwV_n hk (Or.inl a1), h3.2 (h2.2 a2)⟩
theorem lwV_0 {T : Nat → TK} {r a : Nat} (hk : ¬ tkK (T a) = 143) : lwV T r a = (smE T a).2.2 := by
  cases r with
  | zero => rfl
  | succ r => exact if_neg hk
theorem lw_77 (xs : List Int) (d : Nat) {κ : aK} {D : Nat → Nat → Int} (hκ : Shp κ) {t b e : Nat} {T : Nat → TK} {V : Nat → Int} (hL : LwE D t T b e V) {a : Nat} (ha : b ≤ a) {z : Int} (hz : z01 z) (h0 : (smE T a).2.1 = 0) (h1 : (smE T a).1 ≤ e) (v1 : Int) (u2 u3 : Option aV) : ∃ x z' i, ev xs (d + 30) mm_4 77 [some (.inr (.inr ((t + 18 : Nat) : Int))), some (.inl v1), u2, u3] [] (κ, lw D t ((a - b : Nat) : Int) z) = some (some (.inl x), (κ, lw D t i z')) ∧ fvl z ((smE T a).2.2 V) x z' := by
  have ht := hL.2.1
  obtain ⟨x, z', i1, i2⟩ := lw_sum xs hκ hL (g := d + 30) ha hz (by omega) h0 h1
  refine ⟨x, z', (((smE T a).1 - b : Nat) : Int), ?_, i2⟩
  rw [q_4_77]
  simp (disch := omega) only [cond_true, cond_false, Bool.and_true, Bool.true_and, Int.toNat_natCast, Int.reduceToNat, bI_s, bV_s, decide_true, decide_false, not_true_eq_false, not_false_eq_true, dT, dF, tk_18 hκ ht, i1]
theorem lw_loop (xs : List Int) (d : Nat) {κ : aK} {D : Nat → Nat → Int} (hκ : Shp κ) {t b e : Nat} {T : Nat → TK} {V : Nat → Int} (hL : LwE D t T b e V) : ∀ (r a : Nat) (z : Int) (u2 u3 : Option aV), r ≤ 4 → b ≤ a → z01 z → lawL T r (a, 0) = (e, 0) → ∃ x z' i, ev xs (d + 30) mm_4 2 [some (.inr (.inr ((t + 18 : Nat) : Int))), some (.inl ((4 - r : Nat) : Int)), u2, u3] [] (κ, lw D t ((a - b : Nat) : Int) z) = some (some (.inl x), (κ, lw D t i z')) ∧ fvl z (lwV T r a V) x z' := by
  have hL' := hL
  obtain ⟨hc, ht, hb, he4, -, -, -, h59⟩ := hL'
  have stop : ∀ (r a : Nat) (z : Int) (u2 u3 : Option aV), r ≤ 4 → b ≤ a → z01 z → lawL T r (a, 0) = (e, 0) → ¬ tkK (T a) = 143 → ∃ x z' i, ev xs (d + 30) mm_4 2 [some (.inr (.inr ((t + 18 : Nat) : Int))), some (.inl ((4 - r : Nat) : Int)), u2, u3] [] (κ, lw D t ((a - b : Nat) : Int) z) = some (some (.inl x), (κ, lw D t i z')) ∧ fvl z (lwV T r a V) x z' := by
    intro r a z u2 u3 hr ha hz h hk
    rw [lawL_0 hk] at h
    obtain ⟨-, s2, s3, -, s5⟩ := sm_ok (T := T) (s := (a, 0)) (by rw [h])
    rw [s3] at h
    have he : (smE T a).1 = e := congrArg (fun q : SS => q.1) h
    have s5 : a < (smE T a).1 := s5
    obtain ⟨x, z', i, i1, i2⟩ := lw_77 xs d hκ hL ha hz s2 (by omega) ((4 - r : Nat) : Int) u2 u3
    refine ⟨x, z', i, ?_, by rw [lwV_0 hk]; exact i2⟩
    rw [← i1, q_4_2]
    by_cases h4 : r = 0
    · subst h4
      simp (disch := omega) only [cond_true, cond_false, Bool.and_true, Bool.true_and, Int.toNat_natCast, Int.reduceToNat, bI_s, bV_s, decide_true, decide_false, not_true_eq_false, not_false_eq_true, dT, dF]
    · have e6 := lk_here xs (d + 29) hκ hL ha (by omega) z
      have ek : kdL T e a = tkK (T a) := if_pos (by omega)
      rw [ek] at e6
      have m143 : ¬ ((tkK (T a) : Nat) : Int) = 143 := by omega
      simp (disch := omega) only [cond_true, cond_false, Bool.and_true, Bool.true_and, Int.toNat_natCast, Int.reduceToNat, bI_s, bV_s, decide_true, decide_false, not_true_eq_false, not_false_eq_true, dT, dF, tk_18 hκ ht, e6, m143]
  intro r
  induction r with
  | zero => exact fun a z u2 u3 hr ha hz h => stop 0 a z u2 u3 hr ha hz h (lawL_z (by rw [h]))
  | succ r ih =>
    intro a z u2 u3 hr ha hz h
    by_cases hk : tkK (T a) = 143
    · have hi := lawL_if hk (by rw [h])
      obtain ⟨-, k1, k2, k3, k4, k5, k6, k7, k8, k9⟩ := ifG_ok hi
      have hge := lawL_tok (T := T) (r + 1) a (by rw [h])
      rw [h] at hge
      have hae : a < e := hge.2
      rw [lawL_s hk, k8] at h
      have g1 := lawL_ge (T := T) r ((smE T ((smE T ((smE T (a + 1)).1 + 1)).1 + 1)).1 + 1, 0)
      rw [h] at g1
      have g1 : (smE T ((smE T ((smE T (a + 1)).1 + 1)).1 + 1)).1 + 1 ≤ e := g1
      have p1 : a + 1 ≤ (smE T (a + 1)).1 := exA_ge (T := T) _ _ _ _ _
      have p2 : (smE T (a + 1)).1 + 1 ≤ (smE T ((smE T (a + 1)).1 + 1)).1 := exA_ge (T := T) _ _ _ _ _
      have p3 : (smE T ((smE T (a + 1)).1 + 1)).1 + 1 ≤ (smE T ((smE T ((smE T (a + 1)).1 + 1)).1 + 1)).1 := exA_ge (T := T) _ _ _ _ _
      have ez := exA_z (T := T) _ _ _ _ _ k5
      have e6 := lk_here xs (d + 29) hκ hL ha (by omega) z
      have ek : kdL T e a = 143 := (if_pos hae).trans hk
      rw [ek] at e6
      have e6 : cl xs (d + 29 + 1) 6 [.inr (.inr ((t + 18 : Nat) : Int))] (κ, lw D t ((a - b : Nat) : Int) z) = some (some (.inl 143), (κ, lw D t ((a - b : Nat) : Int) z)) := e6
      obtain ⟨x1, z1, i1, i2⟩ := lw_sum xs hκ hL (g := d + 30) (a := a + 1) (by omega) hz (by omega) k1 (by omega)
      obtain ⟨x2, z2, j1, j2⟩ := lw_sum xs hκ hL (g := d + 30) (a := (smE T (a + 1)).1 + 1) (by omega) (fvl_z i2 hz) (by omega) k3 (by omega)
      have ew : w32 (((a - b : Nat) : Int) + 1) = ((a + 1 - b : Nat) : Int) := by rw [w32_id (by omega) (by omega)]; omega
      have ew1 : w32 ((((smE T (a + 1)).1 - b : Nat) : Int) + 1) = (((smE T (a + 1)).1 + 1 - b : Nat) : Int) := by rw [w32_id (by omega) (by omega)]; omega
      have ew2 : w32 ((((smE T ((smE T (a + 1)).1 + 1)).1 - b : Nat) : Int) + 1) = (((smE T ((smE T (a + 1)).1 + 1)).1 + 1 - b : Nat) : Int) := by rw [w32_id (by omega) (by omega)]; omega
      have st1 : ev xs (d + 30) mm_4 2 [some (.inr (.inr ((t + 18 : Nat) : Int))), some (.inl ((4 - (r + 1) : Nat) : Int)), u2, u3] [] (κ, lw D t ((a - b : Nat) : Int) z) = ev xs (d + 30) mm_4 59 [some (.inr (.inr ((t + 18 : Nat) : Int))), some (.inl ((4 - (r + 1) : Nat) : Int)), some (.inl x1), some (.inl x2)] [] (κ, lw D t (((smE T ((smE T (a + 1)).1 + 1)).1 + 1 - b : Nat) : Int) z2) := by
        rw [q_4_2]
        simp (disch := omega) only [cond_true, cond_false, Bool.and_true, Bool.true_and, Int.toNat_natCast, Int.reduceToNat, bI_s, bV_s, decide_true, decide_false, not_true_eq_false, not_false_eq_true, dT, dF, tk_18 hκ ht, lw_f4, lw_s4, e6, ew, i1, ew1, j1, ew2]
      rw [st1, q_4_59]
      by_cases hx : x1 < x2
      · obtain ⟨x, z', i, l1, l2⟩ := lw_77 xs d hκ hL (a := (smE T ((smE T (a + 1)).1 + 1)).1 + 1) (by omega) (fvl_z j2 (fvl_z i2 hz)) k5 (by omega) ((4 - (r + 1) : Nat) : Int) (some (.inl x1)) (some (.inl x2))
        refine ⟨x, z', i, ?_, lwV_r hk i2 j2 (by rw [if_pos hx]; exact l2)⟩
        rw [← l1]
        simp (disch := omega) only [cond_true, cond_false, Bool.and_true, Bool.true_and, Int.toNat_natCast, Int.reduceToNat, bI_s, bV_s, decide_true, decide_false, not_true_eq_false, not_false_eq_true, dT, dF]
      · obtain ⟨x, z', i, l1, l2⟩ := ih ((smE T ((smE T ((smE T (a + 1)).1 + 1)).1 + 1)).1 + 1) z2 (some (.inl x1)) (some (.inl x2)) (by omega) (by omega) (fvl_z j2 (fvl_z i2 hz)) h
        refine ⟨x, z', i, ?_, lwV_r hk i2 j2 (by rw [if_neg hx]; exact l2)⟩
        have sk := lw_skip xs (d + 28) hκ hL (z := z2) (p3 := (smE T ((smE T ((smE T (a + 1)).1 + 1)).1 + 1)).1) (by omega) k6 ((smE T ((smE T ((smE T (a + 1)).1 + 1)).1 + 1)).1 - ((smE T ((smE T (a + 1)).1 + 1)).1 + 1)) ((smE T ((smE T (a + 1)).1 + 1)).1 + 1) (by omega) (by omega) ez
        have c5 : cl xs (d + 30) 5 [.inr (.inr ((t + 18 : Nat) : Int))] (κ, lw D t (((smE T ((smE T (a + 1)).1 + 1)).1 + 1 - b : Nat) : Int) z2) = some (none, (κ, lw D t (((smE T ((smE T ((smE T (a + 1)).1 + 1)).1 + 1)).1 + 1 - b : Nat) : Int) z2)) := ((c_5 xs (d + 29) ((t + 18 : Nat) : Int) _).trans (q_5_0 xs (d + 29) ((t + 18 : Nat) : Int) _).symm).trans sk
        have ew4 : w32 (((4 - (r + 1) : Nat) : Int) + 1) = ((4 - r : Nat) : Int) := by rw [w32_id (by omega) (by omega)]; omega
        rw [← l1]
        simp (disch := omega) only [cond_true, cond_false, Bool.and_true, Bool.true_and, Int.toNat_natCast, Int.reduceToNat, bI_s, bV_s, decide_true, decide_false, not_true_eq_false, not_false_eq_true, dT, dF, tk_18 hκ ht, c5, ew4]
    · exact stop (r + 1) a z u2 u3 hr ha hz h hk
theorem LwC.law {κ : aK} {D : Nat → Nat → Int} {t : Nat} {X : TX} (hκ : Shp κ) (ht : isT t) (h : LwC D t X) : LawC κ D t X := by
  intro xs d D' V hc h20 h21 h1 hV
  rcases h with ⟨a1, a2⟩ | ⟨T, b, e, a1, a2, a3, a4, a5, a6, a7, a8⟩
  · refine ⟨D', ?_, hc, fun _ _ => rfl, fun _ _ _ => rfl⟩
    rw [a2, c_3]
    have e2 : D' (t + 19) 2 = V 2 := (hV 2 (by decide)).1
    have e1 : D' (t + 18) 1 = 0 := h1.trans a1
    simp (disch := omega) only [cond_true, cond_false, Bool.and_true, Bool.true_and, Int.toNat_natCast, Int.reduceToNat, bI_s, bV_s, decide_true, decide_false, not_true_eq_false, not_false_eq_true, dT, dF, tk_18 hκ ht, e1, tp_18_0 hc ht, tn_19 hκ ht, e2]
  · have hL : LwE D' t T b e V := ⟨hc, ht, a2, a3, h1.trans a4, fun i hi => by rw [h20, h21]; exact a5 i hi, fun i hi => (hV i hi).1, a7⟩
    obtain ⟨x, z', i, i1, i2⟩ := lw_loop xs (d + 8) hκ hL 4 b 0 none none (Nat.le_refl _) (Nat.le_refl _) (Or.inl rfl) a6
    have i1 : ev xs (d + 38) mm_4 2 [some (.inr (.inr ((t + 18 : Nat) : Int))), some (.inl 0), none, none] [] (κ, lw D' t ((b - b : Nat) : Int) 0) = some (some (.inl x), (κ, lw D' t i z')) := i1
    rw [show ((b - b : Nat) : Int) = 0 by omega] at i1
    have i1 : ev xs (d + 38) mm_4 2 [some (.inr (.inr ((t + 18 : Nat) : Int))), some (.inl 0), none, none] [] (κ, aup (aup D' (t + 18) 4 0) (t + 18) 5 0) = some (some (.inl x), (κ, lw D' t i z')) := i1
    have c4 : cl xs (d + 39) 4 [.inr (.inr ((t + 18 : Nat) : Int))] (κ, aup (aup D' (t + 18) 4 0) (t + 18) 5 0) = some (some (.inl x), (κ, lw D' t i z')) := (c_4 xs (d + 38) ((t + 18 : Nat) : Int) _).trans i1
    have e1 : ¬ D' (t + 18) 1 = 0 := by rw [h1, a4]; omega
    refine ⟨lw D' t i z', ?_, lw_c ht hc _ _, fun q hq => lw_q hq, fun j h4 h5 => lw_j h4 h5⟩
    rw [a8, c_3]
    rcases i2.1 rfl with ⟨b1, b2⟩ | ⟨b1, b2⟩
    · have er : lwF T b V = x := by unfold lwF; rw [b1]; rfl
      rw [er]
      simp (disch := omega) only [cond_true, cond_false, Bool.and_true, Bool.true_and, Int.toNat_natCast, Int.reduceToNat, bI_s, bV_s, decide_true, decide_false, not_true_eq_false, not_false_eq_true, dT, dF, tk_18 hκ ht, e1, c4, lw_f5, b2]
    · have er : lwF T b V = 0 := by unfold lwF; rw [b1]; rfl
      rw [er]
      simp (disch := omega) only [cond_true, cond_false, Bool.and_true, Bool.true_and, Int.toNat_natCast, Int.reduceToNat, bI_s, bV_s, decide_true, decide_false, not_true_eq_false, not_false_eq_true, dT, dF, tk_18 hκ ht, e1, c4, lw_f5, b2]
