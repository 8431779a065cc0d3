/-! The class's law, by what it does: the steps of its descent. -/
def lw (D : Nat → Nat → Int) (t : Nat) (i z : Int) : Nat → Nat → Int := aup (aup D (t + 18) 4 i) (t + 18) 5 z
theorem lw_f4 {D : Nat → Nat → Int} {t : Nat} {i z : Int} : lw D t i z (t + 18) 4 = i := (aupJ (by decide)).trans (aupE ..)
theorem lw_f5 {D : Nat → Nat → Int} {t : Nat} {i z : Int} : lw D t i z (t + 18) 5 = z := aupE ..
theorem lw_j {D : Nat → Nat → Int} {t : Nat} {i z : Int} {j : Nat} (h4 : j ≠ 4) (h5 : j ≠ 5) : lw D t i z (t + 18) j = D (t + 18) j := (aupJ h5).trans (aupJ h4)
theorem lw_q {D : Nat → Nat → Int} {t : Nat} {i z : Int} {q : Nat} (h : q ≠ t + 18) : lw D t i z q = D q := (aupN h).trans (aupN h)
theorem lw_s4 {D : Nat → Nat → Int} {t : Nat} {i z x : Int} : aup (lw D t i z) (t + 18) 4 x = lw D t x z := by
  funext q j
  unfold lw aup
  by_cases h : q = t + 18
  · simp only [if_pos h]
    by_cases h4 : j = 4
    · subst h4; rfl
    · simp only [if_neg h4]
  · simp only [if_neg h]
theorem lw_s5 {D : Nat → Nat → Int} {t : Nat} {i z x : Int} : aup (lw D t i z) (t + 18) 5 x = lw D t i x := by
  funext q j
  unfold lw aup
  by_cases h : q = t + 18
  · simp only [if_pos h]
    by_cases h5 : j = 5
    · simp only [if_pos h5]
    · simp only [if_neg h5]
  · simp only [if_neg h]
set_option maxRecDepth 100000 in
theorem pd_lw {t : Nat} (ht : isT t) : ptrd (t + 18) 4 = false ∧ ptrd (t + 18) 5 = false := by
  rcases ht with rfl | rfl <;> decide
theorem lw_c {D : Nat → Nat → Int} {t : Nat} (ht : isT t) (hc : CPtr D) (i z : Int) : CPtr (lw D t i z) := (hc.up (pd_lw ht).1 _).up (pd_lw ht).2 _
/-- what the descent reads -/
def LwE (D : Nat → Nat → Int) (t : Nat) (T : Nat → TK) (b e : Nat) (V : Nat → Int) : Prop := CPtr D ∧ isT t ∧ b < e ∧ e < 400 ∧ D (t + 18) 1 = ((e - b : Nat) : Int) ∧ (∀ i, i < e - b → D (t + 20) i = (tkK (T (b + i)) : Int) ∧ (tkK (T (b + i)) = 3 → D (t + 21) i = (tkV (T (b + i)) : Int))) ∧ (∀ i, i < 6 → D (t + 19) i = V i) ∧ tkK (T e) = 59
/-- the kind that it sees -/
def kdL (T : Nat → TK) (e a : Nat) : Nat := if a < e then tkK (T a) else 0
theorem kdL_is {T : Nat → TK} {e a k : Nat} (ha : a ≤ e) (he : tkK (T e) = 59) (hk : k ≠ 59) (h0 : k ≠ 0) : kdL T e a = k ↔ tkK (T a) = k := by
  unfold kdL
  by_cases h : a < e
  · rw [if_pos h]
  · rw [if_neg h, show a = e by omega, he]
    exact ⟨fun q => absurd q.symm h0, fun q => absurd q.symm hk⟩
theorem lk_here (xs : List Int) (d : Nat) {κ : aK} {D : Nat → Nat → Int} (hκ : Shp κ) {t b e : Nat} {T : Nat → TK} {V : Nat → Int} (hL : LwE D t T b e V) {a : Nat} (ha : b ≤ a) (ha2 : a ≤ 800) (z : Int) : cl xs (d + 1) 6 [.inr (.inr ((t + 18 : Nat) : Int))] (κ, lw D t ((a - b : Nat) : Int) z) = some (some (.inl (kdL T e a : Int)), (κ, lw D t ((a - b : Nat) : Int) z)) := by
  obtain ⟨hc, ht, hb, he, h1, h2, h3, h4⟩ := hL
  have hc' := lw_c ht hc ((a - b : Nat) : Int) z
  have e1 : lw D t ((a - b : Nat) : Int) z (t + 18) 1 = ((e - b : Nat) : Int) := (lw_j (by decide) (by decide)).trans h1
  rw [c_6]
  unfold kdL
  by_cases h : a < e
  · have e2 : lw D t ((a - b : Nat) : Int) z (t + 20) (a - b) = (tkK (T a) : Int) := by
      rw [lw_q (by omega), (h2 (a - b) (by omega)).1, show b + (a - b) = a by omega]
    rw [if_pos h]
    simp (disch := omega) only [cond_true, cond_false, Bool.and_true, Bool.true_and, Bool.and_false, Bool.false_and, Int.toNat_natCast, Int.reduceToNat, bI_s, bJ_s, bV_s, bR_s, decide_true, decide_false, not_true_eq_false, not_false_eq_true, dT, dF, w_al, w_la, w_ab, w_sl, w_sb, w_dec, w_ml, w_lm, ol2i_n, aup_ne, aupE, aupJ, setc_self, setc_ne, tk_18 hκ ht, tp_18_2 hc' ht, tn_20 hκ ht, lw_f4, e1, e2]
  · rw [if_neg h]
    simp (disch := omega) only [cond_true, cond_false, Bool.and_true, Bool.true_and, Bool.and_false, Bool.false_and, Int.toNat_natCast, Int.reduceToNat, bI_s, bJ_s, bV_s, bR_s, decide_true, decide_false, not_true_eq_false, not_false_eq_true, dT, dF, w_al, w_la, w_ab, w_sl, w_sb, w_dec, w_ml, w_lm, ol2i_n, aup_ne, aupE, aupJ, setc_self, setc_ne, tk_18 hκ ht, lw_f4, e1]
    rfl
/-- a division by nothing, noted -/
def fvl (z0 : Int) (o : Option Int) (x z1 : Int) : Prop := (z0 = 0 → (o = some x ∧ z1 = 0) ∨ (o = none ∧ z1 = 1)) ∧ (z0 = 1 → z1 = 1)
def z01 (z : Int) : Prop := z = 0 ∨ z = 1
theorem fvl_z {z0 : Int} {o : Option Int} {x z1 : Int} (h : fvl z0 o x z1) (hz : z01 z0) : z01 z1 := by
  rcases hz with q | q
  · rcases h.1 q with q | q
    · exact Or.inl q.2
    · exact Or.inr q.2
  · exact Or.inr (h.2 q)
theorem fvl_some {z x : Int} : fvl z (some x) x z := ⟨fun h => Or.inl ⟨rfl, h⟩, fun h => h⟩
theorem fvl_bin {k : Nat} {f g : VF} {V : Nat → Int} {z0 x z1 y z2 w z3 : Int} (h1 : fvl z0 (f V) x z1) (h2 : fvl z1 (g V) y z2) (h3 : fvl z2 (bop k x y) w z3) : fvl z0 (bin2 k f g V) w z3 := by
  unfold bin2
  refine ⟨fun q => ?_, fun q => h3.2 (h2.2 (h1.2 q))⟩
  rcases h1.1 q with ⟨a1, a2⟩ | ⟨a1, a2⟩
  · rcases h2.1 a2 with ⟨b1, b2⟩ | ⟨b1, b2⟩
    · simp only [a1, b1]
      exact h3.1 b2
    · simp only [a1, b1]
      exact Or.inr ⟨trivial, h3.2 b2⟩
  · have := h3.2 (h2.2 a2)
    cases hg : g V <;> simp only [a1] <;> exact Or.inr ⟨trivial, this⟩
theorem fvl_43 {z x y : Int} : fvl z (bop 43 x y) (w32 (x + y)) z := by rw [bop_43]; exact fvl_some
theorem fvl_45 {z x y : Int} : fvl z (bop 45 x y) (w32 (x - y)) z := by rw [bop_45]; exact fvl_some
theorem fvl_42 {z x y : Int} : fvl z (bop 42 x y) (w32 (x * y)) z := by rw [bop_42]; exact fvl_some
