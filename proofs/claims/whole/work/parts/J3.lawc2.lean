/-! The class's law: its descent. -/
theorem exA_t40 {T : Nat → TK} {m a : Nat} {lv : List LV} {c : VF} {p : Nat} {F : VF} (h : exA T m a lv true c = (p, 0, F)) (hk : tkK (T a) = 40) : ∃ m1, m = m1 + 1 ∧ lv.length ≤ 6 ∧ exA T m1 (a + 1) ((none, none) :: lv) true c = (p, 0, F) := by
  cases m with
  | zero =>
    have h : (a, 2, c) = (p, 0, F) := h
    cases h
  | succ m =>
    refine ⟨m, rfl, ?_⟩
    unfold exA at h
    rw [if_pos hk] at h
    by_cases h6 : 6 < lv.length
    · rw [if_pos h6] at h
      cases h
    · rw [if_neg h6] at h
      by_cases h4 : 400 ≤ a
      · rw [if_pos h4] at h
        cases h
      · rw [if_neg h4] at h
        exact ⟨by omega, h⟩
theorem exA_tu {T : Nat → TK} {m a : Nat} {lv : List LV} {c : VF} {p : Nat} {F : VF} (h : exA T m a lv true c = (p, 0, F)) (hk : ¬ tkK (T a) = 40) : ∃ m1, m = m1 + 1 ∧ (tkK (T a) = 3 ∨ isv (tkK (T a)) = true) ∧ exA T m1 (a + 1) lv false (uni (T a)) = (p, 0, F) := by
  cases m with
  | zero =>
    have h : (a, 2, c) = (p, 0, F) := h
    cases h
  | succ m =>
    refine ⟨m, rfl, ?_⟩
    unfold exA at h
    rw [if_neg hk] at h
    by_cases h6 : tkK (T a) = 3 ∨ isv (tkK (T a)) = true
    · rw [if_pos h6] at h
      by_cases h4 : 400 ≤ a
      · rw [if_pos h4] at h
        cases h
      · rw [if_neg h4] at h
        exact ⟨h6, h⟩
    · rw [if_neg h6] at h
      cases h
theorem exA_f42 {T : Nat → TK} {m a : Nat} {l : LV} {r : List LV} {c : VF} {p : Nat} {F : VF} (h : exA T m a (l :: r) false c = (p, 0, F)) (hk : tkK (T a) = 42 ∨ tkK (T a) = 47) : ∃ m1, m = m1 + 1 ∧ exA T m1 (a + 1) ((l.1, some (apl l.2 c, tkK (T a))) :: r) true c = (p, 0, F) := by
  cases m with
  | zero =>
    have h : (a, 2, c) = (p, 0, F) := h
    cases h
  | succ m =>
    refine ⟨m, rfl, ?_⟩
    unfold exA at h
    rw [if_pos hk] at h
    by_cases h4 : 400 ≤ a
    · rw [if_pos h4] at h
      cases h
    · rw [if_neg h4] at h
      exact h
theorem exA_f43 {T : Nat → TK} {m a : Nat} {l : LV} {r : List LV} {c : VF} {p : Nat} {F : VF} (h : exA T m a (l :: r) false c = (p, 0, F)) (hn : ¬ (tkK (T a) = 42 ∨ tkK (T a) = 47)) (hk : tkK (T a) = 43 ∨ tkK (T a) = 45) : ∃ m1, m = m1 + 1 ∧ exA T m1 (a + 1) ((some (fin1 l c, tkK (T a)), none) :: r) true c = (p, 0, F) := by
  cases m with
  | zero =>
    have h : (a, 2, c) = (p, 0, F) := h
    cases h
  | succ m =>
    refine ⟨m, rfl, ?_⟩
    unfold exA at h
    rw [if_neg hn, if_pos hk] at h
    by_cases h4 : 400 ≤ a
    · rw [if_pos h4] at h
      cases h
    · rw [if_neg h4] at h
      exact h
theorem exA_f41 {T : Nat → TK} {m a : Nat} {l l2 : LV} {r : List LV} {c : VF} {p : Nat} {F : VF} (h : exA T m a (l :: l2 :: r) false c = (p, 0, F)) (hn : ¬ (tkK (T a) = 42 ∨ tkK (T a) = 47)) (hk : ¬ (tkK (T a) = 43 ∨ tkK (T a) = 45)) : ∃ m1, m = m1 + 1 ∧ exA T m1 (a + 1) (l2 :: r) false (fin1 l c) = (p, 0, F) := by
  cases m with
  | zero =>
    have h : (a, 2, c) = (p, 0, F) := h
    cases h
  | succ m =>
    refine ⟨m, rfl, ?_⟩
    unfold exA at h
    rw [if_neg hn, if_neg hk, if_neg (by simp)] at h
    by_cases h1 : tkK (T a) = 41
    · rw [if_pos h1] at h
      by_cases h4 : 400 ≤ a
      · rw [if_pos h4] at h
        cases h
      · rw [if_neg h4] at h
        exact h
    · rw [if_neg h1] at h
      cases h
theorem exA_f0 {T : Nat → TK} {m a : Nat} {l : LV} {c : VF} {p : Nat} {F : VF} (h : exA T m a [l] false c = (p, 0, F)) (hn : ¬ (tkK (T a) = 42 ∨ tkK (T a) = 47)) (hk : ¬ (tkK (T a) = 43 ∨ tkK (T a) = 45)) : p = a ∧ F = fin1 l c := by
  cases m with
  | zero =>
    have h : (a, 2, c) = (p, 0, F) := h
    cases h
  | succ m =>
    unfold exA at h
    rw [if_neg hn, if_neg hk, if_pos (by rfl)] at h
    cases h
    exact ⟨rfl, rfl⟩
theorem exA_p {T : Nat → TK} {m a : Nat} {lv : List LV} {due : Bool} {c : VF} {p : Nat} {F : VF} (h : exA T m a lv due c = (p, 0, F)) : a ≤ p ∧ (due = true → a < p) := by
  have h1 := exA_ge (T := T) m a lv due c
  have h2 := exA_tok (T := T) m a lv due c (by rw [h])
  rw [h] at h1 h2
  exact ⟨h1, h2.2⟩
/-- what a call of the descent comes to -/
def LqR (κ : aK) (D : Nat → Nat → Int) (t b : Nat) (V : Nat → Int) (o : aO) (a : Nat) (z : Int) (P : Nat → VF → Prop) : Prop := ∃ (x z' : Int) (a' : Nat) (c' : VF), o = some (some (.inl x), (κ, lw D t ((a' - b : Nat) : Int) z')) ∧ a ≤ a' ∧ fvl z (c' V) x z' ∧ P a' c'
def LuC (xs : List Int) (κ : aK) (D : Nat → Nat → Int) (t b : Nat) (T : Nat → TK) (V : Nat → Int) (p : Nat) (F : VF) (m : Nat) : Prop := ∀ (n g : Nat) (l0 : LV) (r : List LV) (c : VF) (a : Nat) (z : Int), 3 * n + 2 ≤ g → r.length + n = 6 → b ≤ a → z01 z → exA T m a (l0 :: r) true c = (p, 0, F) → LqR κ D t b V (cl xs g 10 [.inr (.inr ((t + 18 : Nat) : Int)), .inl (r.length : Int)] (κ, lw D t ((a - b : Nat) : Int) z)) a z (fun a1 c1 => ∃ m1, m1 < m ∧ exA T m1 a1 (l0 :: r) false c1 = (p, 0, F))
def LpC (xs : List Int) (κ : aK) (D : Nat → Nat → Int) (t b : Nat) (T : Nat → TK) (V : Nat → Int) (p : Nat) (F : VF) (m : Nat) : Prop := ∀ (n g : Nat) (pp : Option (VF × Nat)) (r : List LV) (c : VF) (a : Nat) (z : Int), 3 * n + 3 ≤ g → r.length + n = 6 → b ≤ a → z01 z → exA T m a ((pp, none) :: r) true c = (p, 0, F) → LqR κ D t b V (cl xs g 8 [.inr (.inr ((t + 18 : Nat) : Int)), .inl (r.length : Int)] (κ, lw D t ((a - b : Nat) : Int) z)) a z (fun a1 c1 => ∃ m1 q1 c2, c1 = apl q1 c2 ∧ m1 < m ∧ exA T m1 a1 ((pp, q1) :: r) false c2 = (p, 0, F) ∧ ¬ (tkK (T a1) = 42 ∨ tkK (T a1) = 47))
def LplC (xs : List Int) (κ : aK) (D : Nat → Nat → Int) (t b : Nat) (T : Nat → TK) (V : Nat → Int) (p : Nat) (F : VF) (m : Nat) : Prop := ∀ (n g : Nat) (pp q : Option (VF × Nat)) (r : List LV) (c : VF) (a : Nat) (z0 z v2 : Int) (v3 : Nat) (u4 u5 : Option aV), 3 * n + 2 ≤ g → r.length + n = 6 → b ≤ a → z01 z0 → fvl z0 (apl q c V) v2 z → v3 + b ≤ a → exA T m a ((pp, q) :: r) false c = (p, 0, F) → LqR κ D t b V (ev xs g mm_8 8 [some (.inr (.inr ((t + 18 : Nat) : Int))), some (.inl (r.length : Int)), some (.inl v2), some (.inl (v3 : Int)), u4, u5] [] (κ, lw D t ((a - b : Nat) : Int) z)) a z0 (fun a1 c1 => ∃ m1 q1 c2, c1 = apl q1 c2 ∧ m1 ≤ m ∧ exA T m1 a1 ((pp, q1) :: r) false c2 = (p, 0, F) ∧ ¬ (tkK (T a1) = 42 ∨ tkK (T a1) = 47))
def LsC (xs : List Int) (κ : aK) (D : Nat → Nat → Int) (t b : Nat) (T : Nat → TK) (V : Nat → Int) (p : Nat) (F : VF) (m : Nat) : Prop := ∀ (n g : Nat) (r : List LV) (c : VF) (a : Nat) (z : Int), 3 * n + 4 ≤ g → r.length + n = 6 → b ≤ a → z01 z → exA T m a ((none, none) :: r) true c = (p, 0, F) → LqR κ D t b V (cl xs g 7 [.inr (.inr ((t + 18 : Nat) : Int)), .inl (r.length : Int)] (κ, lw D t ((a - b : Nat) : Int) z)) a z (fun a1 c1 => ∃ m1 l1 c2, c1 = fin1 l1 c2 ∧ m1 < m ∧ exA T m1 a1 (l1 :: r) false c2 = (p, 0, F) ∧ ¬ (tkK (T a1) = 42 ∨ tkK (T a1) = 47) ∧ ¬ (tkK (T a1) = 43 ∨ tkK (T a1) = 45))
def LslC (xs : List Int) (κ : aK) (D : Nat → Nat → Int) (t b : Nat) (T : Nat → TK) (V : Nat → Int) (p : Nat) (F : VF) (m : Nat) : Prop := ∀ (n g : Nat) (l : LV) (r : List LV) (c : VF) (a : Nat) (z0 z v2 : Int) (v3 : Nat) (u4 u5 : Option aV), 3 * n + 3 ≤ g → r.length + n = 6 → b ≤ a → z01 z0 → fvl z0 (fin1 l c V) v2 z → v3 + b ≤ a → ¬ (tkK (T a) = 42 ∨ tkK (T a) = 47) → exA T m a (l :: r) false c = (p, 0, F) → LqR κ D t b V (ev xs g mm_7 8 [some (.inr (.inr ((t + 18 : Nat) : Int))), some (.inl (r.length : Int)), some (.inl v2), some (.inl (v3 : Int)), u4, u5] [] (κ, lw D t ((a - b : Nat) : Int) z)) a z0 (fun a1 c1 => ∃ m1 l1 c2, c1 = fin1 l1 c2 ∧ m1 ≤ m ∧ exA T m1 a1 (l1 :: r) false c2 = (p, 0, F) ∧ ¬ (tkK (T a1) = 42 ∨ tkK (T a1) = 47) ∧ ¬ (tkK (T a1) = 43 ∨ tkK (T a1) = 45))
theorem lu_all (xs : List Int) {κ : aK} {D : Nat → Nat → Int} (hκ : Shp κ) {t b e : Nat} {T : Nat → TK} {V : Nat → Int} (hL : LwE D t T b e V) {p : Nat} {F : VF} (hp : p ≤ e) {m : Nat} (iS : ∀ m1, m1 < m → LsC xs κ D t b T V p F m1) : LuC xs κ D t b T V p F m := by
  intro n g l0 r c a z hg hr ha hz h
  have hL' := hL
  obtain ⟨hc, ht, hb, he4, h1, h2, h3, h59⟩ := hL'
  obtain ⟨d, rfl⟩ : ∃ d, g = d + 2 := ⟨g - 2, by omega⟩
  have hap := (exA_p h).2 rfl
  have hae : a < e := by omega
  have hk : kdL T e a = tkK (T a) := if_pos hae
  have e6 := lk_here xs d hκ hL ha (by omega) z
  rw [hk] at e6
  have r1 : lw D t ((a - b : Nat) : Int) z (t + 18) 1 = ((e - b : Nat) : Int) := (lw_j (by decide) (by decide)).trans h1
  have hc' := lw_c ht hc ((a - b : Nat) : Int) z
  have ew : w32 (((a - b : Nat) : Int) + 1) = ((a + 1 - b : Nat) : Int) := by rw [w32_id (by omega) (by omega)]; omega
  have hc1 := lw_c ht hc ((a + 1 - b : Nat) : Int) z
  have hv := h2 (a - b) (by omega)
  rw [show b + (a - b) = a by omega] at hv
  have e21 : lw D t ((a - b : Nat) : Int) z (t + 21) (a - b) = D (t + 21) (a - b) := by rw [lw_q (by omega)]
  have iv := isVar_eq xs d (κ, lw D t ((a + 1 - b : Nat) : Int) z) (tkK (T a))
  have st1 : cl xs (d + 2) 10 [.inr (.inr ((t + 18 : Nat) : Int)), .inl (r.length : Int)] (κ, lw D t ((a - b : Nat) : Int) z) = ev xs (d + 1) mm_10 36 [some (.inr (.inr ((t + 18 : Nat) : Int))), some (.inl (r.length : Int)), some (.inl (tkK (T a) : Int)), none] [.inl (D (t + 21) (a - b))] (κ, lw D t ((a - b : Nat) : Int) z) := by
    rw [c_10]
    simp (disch := omega) only [cond_true, cond_false, Bool.and_true, Bool.true_and, Int.toNat_natCast, Int.reduceToNat, bI_s, bV_s, decide_true, decide_false, not_true_eq_false, not_false_eq_true, dT, dF, tk_18 hκ ht, tp_18_3 hc' ht, tn_21 hκ ht, e6, lw_f4, r1, e21]
  rw [st1, q_10_36]
  by_cases h40 : tkK (T a) = 40
  · obtain ⟨m1, rfl, hl6, hx⟩ := exA_t40 h h40
    have hl6 : r.length + 1 ≤ 6 := hl6
    obtain ⟨x, z1, a1, c1, i1, i2, i3, m2, l1, c2, j1, j2, j3, j4, j5⟩ := iS m1 (by omega) (n - 1) (d + 1) (l0 :: r) c (a + 1) z (by omega) (by show r.length + 1 + (n - 1) = 6; omega) (by omega) hz hx
    obtain ⟨m3, rfl, k1⟩ := exA_f41 j3 j4 j5
    have hap1 := (exA_p k1).1
    have ew1 : w32 (((a1 - b : Nat) : Int) + 1) = ((a1 + 1 - b : Nat) : Int) := by rw [w32_id (by omega) (by omega)]; omega
    have i1 : cl xs (d + 1) 7 [.inr (.inr ((t + 18 : Nat) : Int)), .inl ((r.length + 1 : Nat) : Int)] (κ, lw D t ((a + 1 - b : Nat) : Int) z) = some (some (.inl x), (κ, lw D t ((a1 - b : Nat) : Int) z1)) := i1
    have ewr : w32 ((r.length : Int) + 1) = ((r.length + 1 : Nat) : Int) := by rw [w32_id (by omega) (by omega)]; omega
    rw [h40] at iv
    have iv : cl xs (d + 1) 59 [.inl 40] (κ, lw D t ((a + 1 - b : Nat) : Int) z) = some (some (.inl 0), (κ, lw D t ((a + 1 - b : Nat) : Int) z)) := iv
    refine ⟨x, z1, a1 + 1, c1, ?_, by omega, i3, m3, by omega, by rw [j1]; exact k1⟩
    have h40' : ((tkK (T a) : Nat) : Int) = 40 := by omega
    simp (disch := omega) only [cond_true, cond_false, Bool.and_true, Bool.true_and, Int.toNat_natCast, Int.reduceToNat, bI_s, bV_s, decide_true, decide_false, not_true_eq_false, not_false_eq_true, dT, dF, tk_18 hκ ht, lw_f4, lw_s4, ew, h40', iv, ewr, i1, ew1]
  · obtain ⟨m1, rfl, hu, hx⟩ := exA_tu h h40
    have n40 : ¬ ((tkK (T a) : Nat) : Int) = 40 := by omega
    by_cases h3' : tkK (T a) = 3
    · have e3 : uni (T a) = fun _ => some (tkV (T a) : Int) := if_pos h3'
      rw [h3'] at iv
      have iv : cl xs (d + 1) 59 [.inl 3] (κ, lw D t ((a + 1 - b : Nat) : Int) z) = some (some (.inl 0), (κ, lw D t ((a + 1 - b : Nat) : Int) z)) := iv
      refine ⟨(tkV (T a) : Int), z, a + 1, uni (T a), ?_, by omega, by rw [e3]; exact fvl_some, m1, by omega, hx⟩
      have h3i : ((tkK (T a) : Nat) : Int) = 3 := by omega
      simp (disch := omega) only [cond_true, cond_false, Bool.and_true, Bool.true_and, Int.toNat_natCast, Int.reduceToNat, bI_s, bV_s, decide_true, decide_false, not_true_eq_false, not_false_eq_true, dT, dF, tk_18 hκ ht, lw_f4, lw_s4, ew, h3i, iv, hv.2 h3']
    · have hi : isv (tkK (T a)) = true := hu.resolve_left h3'
      have hi2 := isv_iff.mp hi
      have e3 : uni (T a) = fun V => some (V (tkK (T a) - 146)) := if_neg h3'
      rw [if_pos hi] at iv
      have e19 : lw D t ((a + 1 - b : Nat) : Int) z (t + 19) (tkK (T a) - 146) = V (tkK (T a) - 146) := by rw [lw_q (by omega)]; exact h3 _ (by omega)
      have ew2 : w32 (((tkK (T a) : Nat) : Int) - 146) = ((tkK (T a) - 146 : Nat) : Int) := by rw [w32_id (by omega) (by omega)]; omega
      refine ⟨V (tkK (T a) - 146), z, a + 1, uni (T a), ?_, by omega, by rw [e3]; exact fvl_some, m1, by omega, hx⟩
      simp (disch := omega) only [cond_true, cond_false, Bool.and_true, Bool.true_and, Int.toNat_natCast, Int.reduceToNat, bI_s, bV_s, decide_true, decide_false, not_true_eq_false, not_false_eq_true, dT, dF, tk_18 hκ ht, lw_f4, lw_s4, ew, iv, ew2, tp_18_0 hc1 ht, tn_19 hκ ht, e19]
theorem lpl_all (xs : List Int) {κ : aK} {D : Nat → Nat → Int} (hκ : Shp κ) {t b e : Nat} {T : Nat → TK} {V : Nat → Int} (hL : LwE D t T b e V) {p : Nat} {F : VF} (hp : p ≤ e) {m : Nat} (iU : ∀ m1, m1 < m → LuC xs κ D t b T V p F m1) (iL : ∀ m1, m1 < m → LplC xs κ D t b T V p F m1) : LplC xs κ D t b T V p F m := by
  intro n g pp q r c a z0 z v2 v3 u4 u5 hg hr ha hz hv h3 h
  have hL' := hL
  obtain ⟨hc, ht, hb, he4, -, -, -, h59⟩ := hL'
  obtain ⟨d, rfl⟩ : ∃ d, g = d + 1 := ⟨g - 1, by omega⟩
  have hap := (exA_p h).1
  have e6 := lk_here xs d hκ hL ha (by omega) z
  have i42 := kdL_is (T := T) (e := e) (a := a) (k := 42) (by omega) h59 (by decide) (by decide)
  have i47 := kdL_is (T := T) (e := e) (a := a) (k := 47) (by omega) h59 (by decide) (by decide)
  have ew : w32 (((a - b : Nat) : Int) + 1) = ((a + 1 - b : Nat) : Int) := by rw [w32_id (by omega) (by omega)]; omega
  have ew3 : w32 ((v3 : Int) + 1) = ((v3 + 1 : Nat) : Int) := by rw [w32_id (by omega) (by omega)]; omega
  rw [q_8_8]
  by_cases hk : tkK (T a) = 42 ∨ tkK (T a) = 47
  · obtain ⟨m1, rfl, hx⟩ := exA_f42 h hk
    obtain ⟨x, z1, a1, c1, i1, i2, i3, m2, j2, j3⟩ := iU m1 (by omega) n (d + 1) (pp, some (apl q c, tkK (T a))) r c (a + 1) z hg hr (by omega) (fvl_z hv hz) hx
    have hap1 := (exA_p j3).1
    by_cases hk2 : tkK (T a) = 42
    · have hk3 : kdL T e a = 42 := i42.mpr hk2
      rw [hk3] at e6
      have e6 : cl xs (d + 1) 6 [.inr (.inr ((t + 18 : Nat) : Int))] (κ, lw D t ((a - b : Nat) : Int) z) = some (some (.inl 42), (κ, lw D t ((a - b : Nat) : Int) z)) := e6
      rw [hk2] at j3
      obtain ⟨x', z', a', c', l1, l2, l3, m3, q1, c2, o1, o2, o3, o4⟩ := iL m2 (by omega) n (d + 1) pp (some (apl q c, 42)) r c1 a1 z0 z1 (w32 (v2 * x)) (v3 + 1) (some (.inl 42)) (some (.inl x)) hg hr (by omega) hz (fvl_bin hv i3 fvl_42) (by omega) j3
      refine ⟨x', z', a', c', ?_, by omega, l3, m3, q1, c2, o1, by omega, o3, o4⟩
      rw [← l1]
      simp (disch := omega) only [cond_true, cond_false, Bool.and_true, Bool.true_and, Int.toNat_natCast, Int.reduceToNat, bI_s, bV_s, decide_true, decide_false, not_true_eq_false, not_false_eq_true, dT, dF, tk_18 hκ ht, e6]
      rw [q_8_38]
      simp (disch := omega) only [cond_true, cond_false, Bool.and_true, Bool.true_and, Int.toNat_natCast, Int.reduceToNat, bI_s, bV_s, decide_true, decide_false, not_true_eq_false, not_false_eq_true, dT, dF, tk_18 hκ ht, lw_f4, lw_s4, ew, i1, ew3]
    · have hk7 : tkK (T a) = 47 := hk.resolve_left hk2
      have hk3 : kdL T e a = 47 := i47.mpr hk7
      rw [hk3] at e6
      have e6 : cl xs (d + 1) 6 [.inr (.inr ((t + 18 : Nat) : Int))] (κ, lw D t ((a - b : Nat) : Int) z) = some (some (.inl 47), (κ, lw D t ((a - b : Nat) : Int) z)) := e6
      rw [hk7] at j3
      by_cases hx0 : x = 0
      · have h9 : cl xs (d + 1) 9 [.inr (.inr ((t + 18 : Nat) : Int)), .inl v2, .inl x] (κ, lw D t ((a1 - b : Nat) : Int) z1) = some (some (.inl 0), (κ, lw D t ((a1 - b : Nat) : Int) 1)) := by
          rw [c_9]
          simp (disch := omega) only [cond_true, cond_false, Bool.and_true, Bool.true_and, Int.toNat_natCast, Int.reduceToNat, bI_s, bV_s, decide_true, decide_false, not_true_eq_false, not_false_eq_true, dT, dF, tk_18 hκ ht, lw_s5, hx0]
        obtain ⟨x', z', a', c', l1, l2, l3, m3, q1, c2, o1, o2, o3, o4⟩ := iL m2 (by omega) n (d + 1) pp (some (apl q c, 47)) r c1 a1 z0 1 0 (v3 + 1) (some (.inl 47)) (some (.inl x)) hg hr (by omega) hz (fvl_bin (w := 0) (z3 := 1) hv i3 (by rw [hx0, bop_470 rfl]; exact ⟨fun _ => Or.inr ⟨rfl, rfl⟩, fun _ => rfl⟩)) (by omega) j3
        refine ⟨x', z', a', c', ?_, by omega, l3, m3, q1, c2, o1, by omega, o3, o4⟩
        rw [← l1]
        simp (disch := omega) only [cond_true, cond_false, Bool.and_true, Bool.true_and, Int.toNat_natCast, Int.reduceToNat, bI_s, bV_s, decide_true, decide_false, not_true_eq_false, not_false_eq_true, dT, dF, tk_18 hκ ht, e6]
        rw [q_8_38]
        simp (disch := omega) only [cond_true, cond_false, Bool.and_true, Bool.true_and, Int.toNat_natCast, Int.reduceToNat, bI_s, bV_s, decide_true, decide_false, not_true_eq_false, not_false_eq_true, dT, dF, tk_18 hκ ht, lw_f4, lw_s4, ew, i1, ew3, h9]
      · have h9 : cl xs (d + 1) 9 [.inr (.inr ((t + 18 : Nat) : Int)), .inl v2, .inl x] (κ, lw D t ((a1 - b : Nat) : Int) z1) = some (some (.inl (odiv v2 x)), (κ, lw D t ((a1 - b : Nat) : Int) z1)) := by
          rw [c_9]
          simp (disch := omega) only [cond_true, cond_false, Bool.and_true, Bool.true_and, Int.toNat_natCast, Int.reduceToNat, bI_s, bV_s, decide_true, decide_false, not_true_eq_false, not_false_eq_true, dT, dF, tk_18 hκ ht, lw_s5]
        obtain ⟨x', z', a', c', l1, l2, l3, m3, q1, c2, o1, o2, o3, o4⟩ := iL m2 (by omega) n (d + 1) pp (some (apl q c, 47)) r c1 a1 z0 z1 (odiv v2 x) (v3 + 1) (some (.inl 47)) (some (.inl x)) hg hr (by omega) hz (fvl_bin hv i3 (by rw [bop_47 hx0]; exact fvl_some)) (by omega) j3
        refine ⟨x', z', a', c', ?_, by omega, l3, m3, q1, c2, o1, by omega, o3, o4⟩
        rw [← l1]
        simp (disch := omega) only [cond_true, cond_false, Bool.and_true, Bool.true_and, Int.toNat_natCast, Int.reduceToNat, bI_s, bV_s, decide_true, decide_false, not_true_eq_false, not_false_eq_true, dT, dF, tk_18 hκ ht, e6]
        rw [q_8_38]
        simp (disch := omega) only [cond_true, cond_false, Bool.and_true, Bool.true_and, Int.toNat_natCast, Int.reduceToNat, bI_s, bV_s, decide_true, decide_false, not_true_eq_false, not_false_eq_true, dT, dF, tk_18 hκ ht, lw_f4, lw_s4, ew, i1, ew3, h9]
  · have n42 : ¬ ((kdL T e a : Nat) : Int) = 42 := fun q => hk (Or.inl (i42.mp (by omega)))
    have n47 : ¬ ((kdL T e a : Nat) : Int) = 47 := fun q => hk (Or.inr (i47.mp (by omega)))
    refine ⟨v2, z, a, apl q c, ?_, Nat.le_refl _, hv, m, q, c, rfl, Nat.le_refl _, h, hk⟩
    simp (disch := omega) only [cond_true, cond_false, Bool.and_true, Bool.true_and, Int.toNat_natCast, Int.reduceToNat, bI_s, bV_s, decide_true, decide_false, not_true_eq_false, not_false_eq_true, dT, dF, tk_18 hκ ht, e6, n42, n47]
theorem lp_all (xs : List Int) {κ : aK} {D : Nat → Nat → Int} (hκ : Shp κ) {t b e : Nat} {T : Nat → TK} {V : Nat → Int} (hL : LwE D t T b e V) {p : Nat} {F : VF} (hp : p ≤ e) {m : Nat} (iU : LuC xs κ D t b T V p F m) (iL : ∀ m1, m1 < m → LplC xs κ D t b T V p F m1) : LpC xs κ D t b T V p F m := by
  intro n g pp r c a z hg hr ha hz h
  have hL' := hL
  obtain ⟨hc, ht, hb, he4, -, -, -, h59⟩ := hL'
  obtain ⟨d, rfl⟩ : ∃ d, g = d + 1 := ⟨g - 1, by omega⟩
  obtain ⟨x, z1, a1, c1, i1, i2, i3, m2, j2, j3⟩ := iU n d (pp, none) r c a z (by omega) hr ha hz h
  obtain ⟨x', z', a', c', l1, l2, l3, m3, q1, c2, o1, o2, o3, o4⟩ := iL m2 j2 n d pp none r c1 a1 z z1 x 0 none none (by omega) hr (by omega) hz i3 (by omega) j3
  refine ⟨x', z', a', c', ?_, by omega, l3, m3, q1, c2, o1, by omega, o3, o4⟩
  rw [← l1, c_8]
  simp (disch := omega) only [cond_true, cond_false, Bool.and_true, Bool.true_and, Int.toNat_natCast, Int.reduceToNat, bI_s, bV_s, decide_true, decide_false, not_true_eq_false, not_false_eq_true, dT, dF, tk_18 hκ ht, i1]
  rfl
theorem lsl_all (xs : List Int) {κ : aK} {D : Nat → Nat → Int} (hκ : Shp κ) {t b e : Nat} {T : Nat → TK} {V : Nat → Int} (hL : LwE D t T b e V) {p : Nat} {F : VF} (hp : p ≤ e) {m : Nat} (iP : ∀ m1, m1 < m → LpC xs κ D t b T V p F m1) (iL : ∀ m1, m1 < m → LslC xs κ D t b T V p F m1) : LslC xs κ D t b T V p F m := by
  intro n g l r c a z0 z v2 v3 u4 u5 hg hr ha hz hv h3 hno h
  have hL' := hL
  obtain ⟨hc, ht, hb, he4, -, -, -, h59⟩ := hL'
  obtain ⟨d, rfl⟩ : ∃ d, g = d + 1 := ⟨g - 1, by omega⟩
  have hap := (exA_p h).1
  have e6 := lk_here xs d hκ hL ha (by omega) z
  have i43 := kdL_is (T := T) (e := e) (a := a) (k := 43) (by omega) h59 (by decide) (by decide)
  have i45 := kdL_is (T := T) (e := e) (a := a) (k := 45) (by omega) h59 (by decide) (by decide)
  have ew : w32 (((a - b : Nat) : Int) + 1) = ((a + 1 - b : Nat) : Int) := by rw [w32_id (by omega) (by omega)]; omega
  have ew3 : w32 ((v3 : Int) + 1) = ((v3 + 1 : Nat) : Int) := by rw [w32_id (by omega) (by omega)]; omega
  rw [q_7_8]
  by_cases hk : tkK (T a) = 43 ∨ tkK (T a) = 45
  · obtain ⟨m1, rfl, hx⟩ := exA_f43 h hno hk
    obtain ⟨x, z1, a1, c1, i1, i2, i3, m2, q2, c3, j1, j2, j3, j4⟩ := iP m1 (by omega) n (d + 1) (some (fin1 l c, tkK (T a))) r c (a + 1) z hg hr (by omega) (fvl_z hv hz) hx
    have hap1 := (exA_p j3).1
    by_cases hk2 : tkK (T a) = 43
    · have hk3 : kdL T e a = 43 := i43.mpr hk2
      rw [hk3] at e6
      have e6 : cl xs (d + 1) 6 [.inr (.inr ((t + 18 : Nat) : Int))] (κ, lw D t ((a - b : Nat) : Int) z) = some (some (.inl 43), (κ, lw D t ((a - b : Nat) : Int) z)) := e6
      rw [hk2] at j3
      have hv' : fvl z0 (fin1 (some (fin1 l c, 43), q2) c3 V) (w32 (v2 + x)) z1 := by
        rw [j1] at i3
        exact fvl_bin hv i3 fvl_43
      obtain ⟨x', z', a', c', l1, l2, l3, m3, q1, c2, o1, o2, o3, o4⟩ := iL m2 (by omega) n (d + 1) (some (fin1 l c, 43), q2) r c3 a1 z0 z1 (w32 (v2 + x)) (v3 + 1) (some (.inl 43)) (some (.inl x)) hg hr (by omega) hz hv' (by omega) j4 j3
      refine ⟨x', z', a', c', ?_, by omega, l3, m3, q1, c2, o1, by omega, o3, o4⟩
      rw [← l1]
      simp (disch := omega) only [cond_true, cond_false, Bool.and_true, Bool.true_and, Int.toNat_natCast, Int.reduceToNat, bI_s, bV_s, decide_true, decide_false, not_true_eq_false, not_false_eq_true, dT, dF, tk_18 hκ ht, e6]
      rw [q_7_38]
      simp (disch := omega) only [cond_true, cond_false, Bool.and_true, Bool.true_and, Int.toNat_natCast, Int.reduceToNat, bI_s, bV_s, decide_true, decide_false, not_true_eq_false, not_false_eq_true, dT, dF, tk_18 hκ ht, lw_f4, lw_s4, ew, i1, ew3]
    · have hk7 : tkK (T a) = 45 := hk.resolve_left hk2
      have hk3 : kdL T e a = 45 := i45.mpr hk7
      rw [hk3] at e6
      have e6 : cl xs (d + 1) 6 [.inr (.inr ((t + 18 : Nat) : Int))] (κ, lw D t ((a - b : Nat) : Int) z) = some (some (.inl 45), (κ, lw D t ((a - b : Nat) : Int) z)) := e6
      rw [hk7] at j3
      have hv' : fvl z0 (fin1 (some (fin1 l c, 45), q2) c3 V) (w32 (v2 - x)) z1 := by
        rw [j1] at i3
        exact fvl_bin hv i3 fvl_45
      obtain ⟨x', z', a', c', l1, l2, l3, m3, q1, c2, o1, o2, o3, o4⟩ := iL m2 (by omega) n (d + 1) (some (fin1 l c, 45), q2) r c3 a1 z0 z1 (w32 (v2 - x)) (v3 + 1) (some (.inl 45)) (some (.inl x)) hg hr (by omega) hz hv' (by omega) j4 j3
      refine ⟨x', z', a', c', ?_, by omega, l3, m3, q1, c2, o1, by omega, o3, o4⟩
      rw [← l1]
      simp (disch := omega) only [cond_true, cond_false, Bool.and_true, Bool.true_and, Int.toNat_natCast, Int.reduceToNat, bI_s, bV_s, decide_true, decide_false, not_true_eq_false, not_false_eq_true, dT, dF, tk_18 hκ ht, e6]
      rw [q_7_38]
      simp (disch := omega) only [cond_true, cond_false, Bool.and_true, Bool.true_and, Int.toNat_natCast, Int.reduceToNat, bI_s, bV_s, decide_true, decide_false, not_true_eq_false, not_false_eq_true, dT, dF, tk_18 hκ ht, lw_f4, lw_s4, ew, i1, ew3]
  · have n43 : ¬ ((kdL T e a : Nat) : Int) = 43 := fun q => hk (Or.inl (i43.mp (by omega)))
    have n45 : ¬ ((kdL T e a : Nat) : Int) = 45 := fun q => hk (Or.inr (i45.mp (by omega)))
    refine ⟨v2, z, a, fin1 l c, ?_, Nat.le_refl _, hv, m, l, c, rfl, Nat.le_refl _, h, hno, hk⟩
    simp (disch := omega) only [cond_true, cond_false, Bool.and_true, Bool.true_and, Int.toNat_natCast, Int.reduceToNat, bI_s, bV_s, decide_true, decide_false, not_true_eq_false, not_false_eq_true, dT, dF, tk_18 hκ ht, e6, n43, n45]
theorem ls_all (xs : List Int) {κ : aK} {D : Nat → Nat → Int} (hκ : Shp κ) {t b e : Nat} {T : Nat → TK} {V : Nat → Int} (hL : LwE D t T b e V) {p : Nat} {F : VF} (hp : p ≤ e) {m : Nat} (iP : LpC xs κ D t b T V p F m) (iL : ∀ m1, m1 < m → LslC xs κ D t b T V p F m1) : LsC xs κ D t b T V p F m := by
  intro n g r c a z hg hr ha hz h
  have hL' := hL
  obtain ⟨hc, ht, hb, he4, -, -, -, h59⟩ := hL'
  obtain ⟨d, rfl⟩ : ∃ d, g = d + 1 := ⟨g - 1, by omega⟩
  obtain ⟨x, z1, a1, c1, i1, i2, i3, m2, q2, c3, j1, j2, j3, j4⟩ := iP n d none r c a z (by omega) hr ha hz h
  rw [j1] at i3
  obtain ⟨x', z', a', c', l1, l2, l3, m3, q1, c2, o1, o2, o3, o4⟩ := iL m2 j2 n d (none, q2) r c3 a1 z z1 x 0 none none (by omega) hr (by omega) hz i3 (by omega) j4 j3
  refine ⟨x', z', a', c', ?_, by omega, l3, m3, q1, c2, o1, by omega, o3, o4⟩
  rw [← l1, c_7]
  simp (disch := omega) only [cond_true, cond_false, Bool.and_true, Bool.true_and, Int.toNat_natCast, Int.reduceToNat, bI_s, bV_s, decide_true, decide_false, not_true_eq_false, not_false_eq_true, dT, dF, tk_18 hκ ht, i1]
  rfl
theorem lq_all (xs : List Int) {κ : aK} {D : Nat → Nat → Int} (hκ : Shp κ) {t b e : Nat} {T : Nat → TK} {V : Nat → Int} (hL : LwE D t T b e V) {p : Nat} {F : VF} (hp : p ≤ e) : ∀ m, LuC xs κ D t b T V p F m ∧ LplC xs κ D t b T V p F m ∧ LpC xs κ D t b T V p F m ∧ LslC xs κ D t b T V p F m ∧ LsC xs κ D t b T V p F m := fun m => by
  induction m using Nat.strongRecOn with
  | ind m ih =>
    have hU := lu_all xs hκ hL hp (m := m) (fun m1 h => (ih m1 h).2.2.2.2)
    have hPL := lpl_all xs hκ hL hp (m := m) (fun m1 h => (ih m1 h).1) (fun m1 h => (ih m1 h).2.1)
    have hP := lp_all xs hκ hL hp (m := m) hU (fun m1 h => (ih m1 h).2.1)
    have hSL := lsl_all xs hκ hL hp (m := m) (fun m1 h => (ih m1 h).2.2.1) (fun m1 h => (ih m1 h).2.2.2.1)
    have hS := ls_all xs hκ hL hp (m := m) hP (fun m1 h => (ih m1 h).2.2.2.1)
    exact ⟨hU, hPL, hP, hSL, hS⟩
