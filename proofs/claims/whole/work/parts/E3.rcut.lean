/-! The reference cuts the tape. -/
def prL : List Nat := [1, 3, 5, 6, 7, 8, 9, 20, 21, 22, 23, 24, 25, 26, 27, 28, 29, 30, 31, 32, 33, 34, 35, 36, 37, 38, 39, 40, 41, 42, 43, 44, 45, 46, 48, 49, 50, 51, 52, 54, 55, 58, 60, 61, 63, 64, 65, 71, 72, 73, 75, 76, 78, 80, 81, 82, 83, 84]
theorem PtrR.of {D E : Nat → Nat → Int} (hp : PtrR D) (h : ∀ j ∈ prL, E 256 j = D 256 j) : PtrR E := by
  unfold PtrR at hp ⊢
  rw [h 1 (by decide), h 3 (by decide), h 5 (by decide), h 6 (by decide), h 7 (by decide), h 8 (by decide), h 9 (by decide), h 20 (by decide), h 21 (by decide), h 22 (by decide), h 23 (by decide), h 24 (by decide), h 25 (by decide), h 26 (by decide), h 27 (by decide), h 28 (by decide), h 29 (by decide), h 30 (by decide), h 31 (by decide), h 32 (by decide), h 33 (by decide), h 34 (by decide), h 35 (by decide), h 36 (by decide), h 37 (by decide), h 38 (by decide), h 39 (by decide), h 40 (by decide), h 41 (by decide), h 42 (by decide), h 43 (by decide), h 44 (by decide), h 45 (by decide), h 46 (by decide), h 48 (by decide), h 49 (by decide), h 50 (by decide), h 51 (by decide), h 52 (by decide), h 54 (by decide), h 55 (by decide), h 58 (by decide), h 60 (by decide), h 61 (by decide), h 63 (by decide), h 64 (by decide), h 65 (by decide), h 71 (by decide), h 72 (by decide), h 73 (by decide), h 75 (by decide), h 76 (by decide), h 78 (by decide), h 80 (by decide), h 81 (by decide), h 82 (by decide), h 83 (by decide), h 84 (by decide)]
  exact hp
theorem prL_ne {j k : Nat} (hj : j ∈ prL) (hk : k ∉ prL) : j ≠ k := fun e => hk (e ▸ hj)
theorem ub_dec : ∀ k : Nat, k < 256 → oand ((k : Int) - 128) 255 = (if 128 ≤ k then (k : Int) - 128 else (k : Int) + 128) := by decide +kernel
def ubv (x : Int) : Int := if 0 ≤ x then x else x + 256
theorem ub_eq {x : Int} (h0 : -128 ≤ x) (h1 : x ≤ 127) : oand x 255 = ubv x := by
  have := ub_dec (x + 128).toNat (by omega)
  rw [show (((x + 128).toNat : Nat) : Int) - 128 = x by omega] at this
  rw [this]
  unfold ubv
  split <;> split <;> omega
def rtk (E : Nat → Nat → Int) (T : Nat → TK) (j : Nat) : Prop := E 259 j = (rho (tkK (T j)) : Int) ∧ E 260 j = (tkP (T j) : Int) ∧ (tkK (T j) = 3 → E 261 j = (tkV (T j) : Int)) ∧ (tkK (T j) = 2 → E 262 j = (p27 (tkN (T j)) : Int))
def RcI (D E : Nat → Nat → Int) (T : Nat → TK) (m : Nat) : Prop := (∀ q, q ≠ 256 → q < 259 ∨ 262 < q → E q = D q) ∧ (∀ j, j ≠ 10 → E 256 j = D 256 j) ∧ E 256 10 = (m : Int) ∧ ∀ j, j < m → rtk E T j
theorem RcI.ptr {D E : Nat → Nat → Int} {T : Nat → TK} {m : Nat} (h : RcI D E T m) (hp : PtrR D) : PtrR E := hp.of (fun j hj => h.2.1 j (prL_ne hj (by decide)))
theorem rtok_eq (xs : List Int) (d : Nat) {κ : aK} {D : Nat → Nat → Int} {E : Nat → Nat → Int} (hκ : Shp κ) (hpD : PtrR D) {T : Nat → TK} {m : Nat} (h : RcI D E T m) (hm : m ≤ 401) {k p v w : Int} (e1 : k = (rho (tkK (T m)) : Int)) (e2 : p = (tkP (T m) : Int)) (e3 : tkK (T m) = 3 → v = (tkV (T m) : Int)) (e4 : tkK (T m) = 2 → w = (p27 (tkN (T m)) : Int)) : ∃ E', cl xs (d + 1) 196 [.inr (.inr 256), .inl k, .inl p, .inl v, .inr (.inl w)] (κ, E) = some (none, (κ, E')) ∧ RcI D E' T (m + 1) := by
  have hp := h.ptr hpD
  have k256 := k_256 hκ
  obtain ⟨h1, h2, h3, h4⟩ := h
  refine ⟨aup (aup (aup (aup (aup E 259 m k) 260 m p) 261 m v) 262 m w) 256 10 ((m + 1 : Nat) : Int), ?_, fun q hq hq2 => ?_, fun j hj => ?_, ?_, fun j hj => ?_⟩
  · rw [c_196]
    simp (disch := omega) only [cond_true, cond_false, Bool.and_true, Bool.true_and, Bool.and_false, Bool.false_and, Int.toNat_natCast, Int.reduceToNat, bI_s, bJ_s, bV_s, bR_s, decide_true, decide_false, not_true_eq_false, not_false_eq_true, dT, dF, w_al, w_la, w_ab, w_sl, w_sb, w_dec, w_ml, w_lm, ol2i_n, aup_ne, aupE, aupJ, setc_self, setc_ne, k256, pr_5 hp, pr_6 hp, pr_7 hp, pr_8 hp, h3, n_259 hκ, n_260 hκ, n_261 hκ, n_262 hκ]
    rw [q_196_30]
    simp (disch := omega) only [cond_true, cond_false, Bool.and_true, Bool.true_and, Bool.and_false, Bool.false_and, Int.toNat_natCast, Int.reduceToNat, bI_s, bJ_s, bV_s, bR_s, decide_true, decide_false, not_true_eq_false, not_false_eq_true, dT, dF, w_al, w_la, w_ab, w_sl, w_sb, w_dec, w_ml, w_lm, ol2i_n, aup_ne, aupE, aupJ, setc_self, setc_ne, k256, pr_5 hp, pr_6 hp, pr_7 hp, pr_8 hp, h3, n_259 hκ, n_260 hκ, n_261 hκ, n_262 hκ]
  · rw [aupN hq, aupN (by omega), aupN (by omega), aupN (by omega), aupN (by omega)]
    exact h1 q hq hq2
  · rw [aupJ hj, aupN (by decide), aupN (by decide), aupN (by decide), aupN (by decide)]
    exact h2 j hj
  · rw [aupE]
  · unfold rtk
    rw [aupN (show 259 ≠ 256 by decide), aupN (show 260 ≠ 256 by decide), aupN (show 261 ≠ 256 by decide), aupN (show 262 ≠ 256 by decide), aupN (show 259 ≠ 262 by decide), aupN (show 259 ≠ 261 by decide), aupN (show 259 ≠ 260 by decide), aupN (show 260 ≠ 262 by decide), aupN (show 260 ≠ 261 by decide), aupN (show 261 ≠ 262 by decide)]
    by_cases hjm : j = m
    · subst hjm
      rw [aupE, aupE, aupE, aupE]
      exact ⟨e1, e2, e3, e4⟩
    · rw [aupJ hjm, aupJ hjm, aupJ hjm, aupJ hjm, aupN (show 260 ≠ 259 by decide), aupN (show 261 ≠ 260 by decide), aupN (show 261 ≠ 259 by decide), aupN (show 262 ≠ 261 by decide), aupN (show 262 ≠ 260 by decide), aupN (show 262 ≠ 259 by decide)]
      exact h4 j (by omega)
/-- the text that is cut -/
def RtI (E : Nat → Nat → Int) (n : Nat) (f : Nat → Int) : Prop := n ≤ 2000 ∧ E 256 4 = (n : Int) ∧ ∀ j, j < n → E 258 j = f j ∧ -128 ≤ f j ∧ f j ≤ 127
def byt (f : Nat → Int) (n i : Nat) : Int := if i < n then ubv (f i) else 0
theorem byteAt_eq (xs : List Int) (d : Nat) {κ : aK} {D : Nat → Nat → Int} (hκ : Shp κ) (hp : PtrR D) {n : Nat} {f : Nat → Int} (hf : RtI D n f) {i : Nat} (hi : i ≤ 5000) {j : Int} (hj : j = (i : Int)) : cl xs (d + 1) 191 [.inr (.inr 256), .inl j] (κ, D) = some (some (.inl (byt f n i)), (κ, D)) := by
  have k256 := k_256 hκ
  obtain ⟨f1, f2, f3⟩ := hf
  subst hj
  unfold byt
  rw [c_191]
  by_cases h : i < n
  · rw [if_pos h]
    obtain ⟨g1, g2, g3⟩ := f3 i h
    simp (disch := omega) only [cond_true, cond_false, Bool.and_true, Bool.true_and, Bool.and_false, Bool.false_and, Int.toNat_natCast, Int.reduceToNat, bI_s, bJ_s, bV_s, bR_s, decide_true, decide_false, not_true_eq_false, not_false_eq_true, dT, dF, w_al, w_la, w_ab, w_sl, w_sb, w_dec, w_ml, w_lm, ol2i_n, aup_ne, aupE, aupJ, setc_self, setc_ne, k256, pr_3 hp, n_258 hκ, f2, g1, ub_eq g2 g3]
  · rw [if_neg h]
    simp (disch := omega) only [cond_true, cond_false, Bool.and_true, Bool.true_and, Bool.and_false, Bool.false_and, Int.toNat_natCast, Int.reduceToNat, bI_s, bJ_s, bV_s, bR_s, decide_true, decide_false, not_true_eq_false, not_false_eq_true, dT, dF, w_al, w_la, w_ab, w_sl, w_sb, w_dec, w_ml, w_lm, ol2i_n, aup_ne, aupE, aupJ, setc_self, setc_ne, k256, f2]
theorem risL (xs : List Int) (d : Nat) (h : aH) (x : Int) : cl xs (d + 1) 193 [.inl x] h = some (some (.inl (if isLt x = true then 1 else 0)), h) := by
  rw [c_193]
  by_cases h1 : isLt x = true
  · have := isLt_iff.mp h1
    rw [if_pos h1]
    simp (disch := omega) only [cond_true, cond_false, Bool.and_true, Bool.true_and, Bool.and_false, Bool.false_and, Int.toNat_natCast, Int.reduceToNat, bI_s, bJ_s, bV_s, bR_s, decide_true, decide_false, not_true_eq_false, not_false_eq_true, dT, dF, w_al, w_la, w_ab, w_sl, w_sb, w_dec, w_ml, w_lm, ol2i_n, aup_ne, aupE, aupJ, setc_self, setc_ne]
  · have h2 : ¬ (97 ≤ x ∧ x ≤ 122) := fun q => h1 (isLt_iff.mpr q)
    rw [if_neg h1]
    by_cases h3 : x < 97
    · simp (disch := omega) only [cond_true, cond_false, Bool.and_true, Bool.true_and, Bool.and_false, Bool.false_and, Int.toNat_natCast, Int.reduceToNat, bI_s, bJ_s, bV_s, bR_s, decide_true, decide_false, not_true_eq_false, not_false_eq_true, dT, dF, w_al, w_la, w_ab, w_sl, w_sb, w_dec, w_ml, w_lm, ol2i_n, aup_ne, aupE, aupJ, setc_self, setc_ne]
    · simp (disch := omega) only [cond_true, cond_false, Bool.and_true, Bool.true_and, Bool.and_false, Bool.false_and, Int.toNat_natCast, Int.reduceToNat, bI_s, bJ_s, bV_s, bR_s, decide_true, decide_false, not_true_eq_false, not_false_eq_true, dT, dF, w_al, w_la, w_ab, w_sl, w_sb, w_dec, w_ml, w_lm, ol2i_n, aup_ne, aupE, aupJ, setc_self, setc_ne]
theorem risD (xs : List Int) (d : Nat) (h : aH) (x : Int) : cl xs (d + 1) 192 [.inl x] h = some (some (.inl (if isDg x = true then 1 else 0)), h) := by
  rw [c_192]
  by_cases h1 : isDg x = true
  · have := isDg_iff.mp h1
    rw [if_pos h1]
    simp (disch := omega) only [cond_true, cond_false, Bool.and_true, Bool.true_and, Bool.and_false, Bool.false_and, Int.toNat_natCast, Int.reduceToNat, bI_s, bJ_s, bV_s, bR_s, decide_true, decide_false, not_true_eq_false, not_false_eq_true, dT, dF, w_al, w_la, w_ab, w_sl, w_sb, w_dec, w_ml, w_lm, ol2i_n, aup_ne, aupE, aupJ, setc_self, setc_ne]
  · have h2 : ¬ (48 ≤ x ∧ x ≤ 57) := fun q => h1 (isDg_iff.mpr q)
    rw [if_neg h1]
    by_cases h3 : x < 48
    · simp (disch := omega) only [cond_true, cond_false, Bool.and_true, Bool.true_and, Bool.and_false, Bool.false_and, Int.toNat_natCast, Int.reduceToNat, bI_s, bJ_s, bV_s, bR_s, decide_true, decide_false, not_true_eq_false, not_false_eq_true, dT, dF, w_al, w_la, w_ab, w_sl, w_sb, w_dec, w_ml, w_lm, ol2i_n, aup_ne, aupE, aupJ, setc_self, setc_ne]
    · simp (disch := omega) only [cond_true, cond_false, Bool.and_true, Bool.true_and, Bool.and_false, Bool.false_and, Int.toNat_natCast, Int.reduceToNat, bI_s, bJ_s, bV_s, bR_s, decide_true, decide_false, not_true_eq_false, not_false_eq_true, dT, dF, w_al, w_la, w_ab, w_sl, w_sb, w_dec, w_ml, w_lm, ol2i_n, aup_ne, aupE, aupJ, setc_self, setc_ne]
theorem byt_lt {f : Nat → Int} {n i : Nat} (h : i < n) : byt f n i = ubv (f i) := if_pos h
theorem isLt_ub {x : Int} (h0 : -128 ≤ x) (h1 : x ≤ 127) : isLt (ubv x) = isLt x := by
  unfold ubv
  split
  · rfl
  · rw [show isLt x = false from by cases e : isLt x; rfl; have := isLt_iff.mp e; omega]
    cases e : isLt (x + 256)
    · rfl
    · have := isLt_iff.mp e; omega
theorem isDg_ub {x : Int} (h0 : -128 ≤ x) (h1 : x ≤ 127) : isDg (ubv x) = isDg x := by
  unfold ubv
  split
  · rfl
  · rw [show isDg x = false from by cases e : isDg x; rfl; have := isDg_iff.mp e; omega]
    cases e : isDg (x + 256)
    · rfl
    · have := isDg_iff.mp e; omega
/-- blanks -/
theorem rblank (xs : List Int) (d : Nat) {κ : aK} {D : Nat → Nat → Int} (hκ : Shp κ) (hp : PtrR D) {n : Nat} {f : Nat → Int} (hf : RtI D n f) {m : Nat} (ht : D 256 10 = (m : Int)) (hm : m ≤ 400) (u3 u4 u5 u6 u7 : Option aV) : ∀ (s i : Nat) (u2 : Option aV), n - i = s → i ≤ n → ∃ u2', ev xs (d + 1) mm_197 7 [some (.inr (.inr 256)), some (.inl (i : Int)), u2, u3, u4, u5, u6, u7] [] (κ, D) = ev xs (d + 1) mm_197 7 [some (.inr (.inr 256)), some (.inl (skp f n i : Int)), u2', u3, u4, u5, u6, u7] [] (κ, D)
  | 0, i, u2, hs, hi => by
    refine ⟨u2, ?_⟩
    rw [show skp f n i = i from by unfold skp; rw [hs]; rfl]
  | s + 1, i, u2, hs, hi => by
    have k256 := k_256 hκ
    have hn := hf.1
    have f2 := hf.2.1
    by_cases h : isBl (f i) = true
    · have hb := (hf.2.2 i (by omega)).2
      have hx : ubv (f i) = f i := if_pos (by rcases isBl_iff.mp h with h | h | h | h <;> omega)
      obtain ⟨u2', ih⟩ := rblank xs d hκ hp hf ht hm u3 u4 u5 u6 u7 s (i + 1) (some (.inl (f i))) (by omega) (by omega)
      refine ⟨u2', ?_⟩
      have hstep : skp f n i = skp f n (i + 1) := by
        unfold skp
        rw [hs, show n - (i + 1) = s by omega, show rlen isBl f (s + 1) i = rlen isBl f s (i + 1) + 1 from if_pos h]
        omega
      have eb := byteAt_eq xs d hκ hp hf (i := i) (by omega) rfl
      rw [byt_lt (by omega), hx] at eb
      rw [hstep, ← ih, q_197_7]
      rcases isBl_iff.mp h with h | h | h | h
      · rw [h] at eb ⊢
        simp (disch := omega) only [cond_true, cond_false, Bool.and_true, Bool.true_and, Bool.and_false, Bool.false_and, Int.toNat_natCast, Int.reduceToNat, bI_s, bJ_s, bV_s, bR_s, decide_true, decide_false, not_true_eq_false, not_false_eq_true, dT, dF, w_al, w_la, w_ab, w_sl, w_sb, w_dec, w_ml, w_lm, ol2i_n, aup_ne, aupE, aupJ, setc_self, setc_ne, k256, ht, eb, f2]
      · rw [h] at eb ⊢
        simp (disch := omega) only [cond_true, cond_false, Bool.and_true, Bool.true_and, Bool.and_false, Bool.false_and, Int.toNat_natCast, Int.reduceToNat, bI_s, bJ_s, bV_s, bR_s, decide_true, decide_false, not_true_eq_false, not_false_eq_true, dT, dF, w_al, w_la, w_ab, w_sl, w_sb, w_dec, w_ml, w_lm, ol2i_n, aup_ne, aupE, aupJ, setc_self, setc_ne, k256, ht, eb, f2]
      · rw [h] at eb ⊢
        simp (disch := omega) only [cond_true, cond_false, Bool.and_true, Bool.true_and, Bool.and_false, Bool.false_and, Int.toNat_natCast, Int.reduceToNat, bI_s, bJ_s, bV_s, bR_s, decide_true, decide_false, not_true_eq_false, not_false_eq_true, dT, dF, w_al, w_la, w_ab, w_sl, w_sb, w_dec, w_ml, w_lm, ol2i_n, aup_ne, aupE, aupJ, setc_self, setc_ne, k256, ht, eb, f2]
      · rw [h] at eb ⊢
        simp (disch := omega) only [cond_true, cond_false, Bool.and_true, Bool.true_and, Bool.and_false, Bool.false_and, Int.toNat_natCast, Int.reduceToNat, bI_s, bJ_s, bV_s, bR_s, decide_true, decide_false, not_true_eq_false, not_false_eq_true, dT, dF, w_al, w_la, w_ab, w_sl, w_sb, w_dec, w_ml, w_lm, ol2i_n, aup_ne, aupE, aupJ, setc_self, setc_ne, k256, ht, eb, f2]
    · refine ⟨u2, ?_⟩
      rw [show skp f n i = i from by
        unfold skp
        rw [hs, show rlen isBl f (s + 1) i = 0 from if_neg h]
        rfl]
theorem skp_nb {f : Nat → Int} {n : Nat} : ∀ (s i : Nat), n - i = s → skp f n i < n → ¬ isBl (f (skp f n i)) = true
  | 0, i, hs, h => by
    have : skp f n i = i := by unfold skp; rw [hs]; rfl
    omega
  | s + 1, i, hs, h => by
    by_cases hb : isBl (f i) = true
    · have hstep : skp f n i = skp f n (i + 1) := by
        unfold skp
        rw [hs, show n - (i + 1) = s by omega, show rlen isBl f (s + 1) i = rlen isBl f s (i + 1) + 1 from if_pos hb]
        omega
      rw [hstep] at h ⊢
      exact skp_nb s (i + 1) (by omega) h
    · rw [show skp f n i = i from by
        unfold skp
        rw [hs, show rlen isBl f (s + 1) i = 0 from if_neg hb]
        rfl]
      exact hb
/-- letters -/
theorem rname_loop (xs : List Int) (d : Nat) {κ : aK} {D : Nat → Nat → Int} (hκ : Shp κ) (hp : PtrR D) {n : Nat} {f : Nat → Int} (hf : RtI D n f) {i : Nat} (cc : Int) (u6 u7 : Option aV) : ∀ (m k : Nat) (u5 : Option aV), n - (i + k) = m → i + k ≤ n → (∀ j, j < k → isLt (f (i + j)) = true) → ∃ u5', ev xs (d + 1) mm_197 85 [some (.inr (.inr 256)), some (.inl (i : Int)), some (.inl cc), some (.inl (k : Int)), some (.inr (.inl (p27 (ltn f i (min k 8)) : Int))), u5, u6, u7] [] (κ, D) = ev xs (d + 1) mm_197 85 [some (.inr (.inr 256)), some (.inl (i : Int)), some (.inl cc), some (.inl ((k + rlen isLt f m (i + k) : Nat) : Int)), some (.inr (.inl (p27 (ltn f i (min (k + rlen isLt f m (i + k)) 8)) : Int))), u5', u6, u7] [] (κ, D)
  | 0, k, u5, hm, hi, hall => ⟨u5, rfl⟩
  | m + 1, k, u5, hm, hi, hall => by
    have hn := hf.1
    by_cases h : isLt (f (i + k)) = true
    · have hr : rlen isLt f (m + 1) (i + k) = rlen isLt f m (i + (k + 1)) + 1 := if_pos h
      have hl := isLt_iff.mp h
      have hb := (hf.2.2 (i + k) (by omega)).2
      have hx : ubv (f (i + k)) = f (i + k) := if_pos (by omega)
      have eb := byteAt_eq xs d hκ hp hf (i := i + k) (j := ((i + k : Nat) : Int)) (by omega) rfl
      rw [byt_lt (by omega), hx] at eb
      have hall' : ∀ j, j < k + 1 → isLt (f (i + j)) = true := fun j hj => by
        by_cases e : j = k
        · rw [e]; exact h
        · exact hall j (by omega)
      by_cases h8 : 8 ≤ k
      · obtain ⟨u', ih⟩ := rname_loop xs d hκ hp hf cc u6 u7 m (k + 1) u5 (by omega) (by omega) hall'
        refine ⟨u', ?_⟩
        rw [hr, show k + (rlen isLt f m (i + (k + 1)) + 1) = k + 1 + rlen isLt f m (i + (k + 1)) by omega, ← ih, show min (k + 1) 8 = min k 8 by omega, q_197_85]
        simp (disch := omega) only [cond_true, cond_false, Bool.and_true, Bool.true_and, Bool.and_false, Bool.false_and, Int.toNat_natCast, Int.reduceToNat, bI_s, bJ_s, bV_s, bR_s, decide_true, decide_false, not_true_eq_false, not_false_eq_true, dT, dF, w_al, w_la, w_ab, w_sl, w_sb, w_dec, w_ml, w_lm, ol2i_n, aup_ne, aupE, aupJ, setc_self, setc_ne, k_256 hκ, eb, risL xs d, h, if_true]
      · obtain ⟨u', ih⟩ := rname_loop xs d hκ hp hf cc u6 u7 m (k + 1) none (by omega) (by omega) hall'
        refine ⟨u', ?_⟩
        have hw := ltn_wv k hall
        have hp27 := p27_lt _ hw
        rw [ltn_len] at hp27
        have h7 : 27 ^ k ≤ 27 ^ 7 := Nat.pow_le_pow_right (by decide) (by omega)
        have e7 : (27 : Nat) ^ 7 = 10460353203 := by decide
        have e_a : w32 (w32 (f (i + k) - 97) + 1) = (((f (i + k) - 96).toNat : Nat) : Int) := by
          rw [w32_id (x := f (i + k) - 97) (by omega) (by omega), w32_id (by omega) (by omega)]; omega
        have e_d : w64 (w64 (27 * (p27 (ltn f i k) : Int)) + (((f (i + k) - 96).toNat : Nat) : Int)) = (p27 (ltn f i (k + 1)) : Int) := by
          rw [w64_id (x := 27 * _) (by omega) (by omega), w64_id (by omega) (by omega)]
          show _ = ((p27 (ltn f i k ++ [(f (i + k) - 96).toNat]) : Nat) : Int)
          rw [p27_snoc]
          omega
        have ap : cl xs (d + 1) 194 [.inr (.inl (p27 (ltn f i k) : Int)), .inl (f (i + k))] (κ, D) = some (some (.inr (.inl (p27 (ltn f i (k + 1)) : Int))), (κ, D)) := by
          rw [c_194]
          simp (disch := omega) only [cond_true, cond_false, Bool.and_true, Bool.true_and, Bool.and_false, Bool.false_and, Int.toNat_natCast, Int.reduceToNat, bI_s, bJ_s, bV_s, bR_s, decide_true, decide_false, not_true_eq_false, not_false_eq_true, dT, dF, w_al, w_la, w_ab, w_sl, w_sb, w_dec, w_ml, w_lm, ol2i_n, aup_ne, aupE, aupJ, setc_self, setc_ne, e_a, e_d]
        rw [hr, show k + (rlen isLt f m (i + (k + 1)) + 1) = k + 1 + rlen isLt f m (i + (k + 1)) by omega, ← ih, show min (k + 1) 8 = k + 1 by omega, show min k 8 = k by omega, q_197_85]
        simp (disch := omega) only [cond_true, cond_false, Bool.and_true, Bool.true_and, Bool.and_false, Bool.false_and, Int.toNat_natCast, Int.reduceToNat, bI_s, bJ_s, bV_s, bR_s, decide_true, decide_false, not_true_eq_false, not_false_eq_true, dT, dF, w_al, w_la, w_ab, w_sl, w_sb, w_dec, w_ml, w_lm, ol2i_n, aup_ne, aupE, aupJ, setc_self, setc_ne, k_256 hκ, eb, risL xs d, h, if_true, ap]
    · refine ⟨u5, ?_⟩
      have hr : rlen isLt f (m + 1) (i + k) = 0 := if_neg h
      simp only [hr, Nat.add_zero]
/-- the reference's keys -/
def KyR (D : Nat → Nat → Int) : Prop := ∀ q, q < 24 → D 263 q = (p27 (krL.getD q []) : Int)
theorem rkey_loop (xs : List Int) (d : Nat) {κ : aK} {D : Nat → Nat → Int} (hκ : Shp κ) (hp : PtrR D) (hq : KyR D) {l : List Nat} (hl : wv l) (v0 v1 v2 v3 : Option aV) (h0 : v0 = some (.inr (.inr 256))) {i k : Int} (h1 : v1 = some (.inl i)) (c : Int) (h2 : v2 = some (.inl c)) (h3 : v3 = some (.inl k)) : ∀ (m q v : Nat) (u5 : Option aV), q + m = 24 → ∃ u5' u7', ev xs d mm_197 146 [v0, v1, v2, v3, some (.inr (.inl (p27 l : Int))), u5, some (.inl (v : Int)), some (.inl (q : Int))] [] (κ, D) = ev xs d mm_197 179 [v0, v1, v2, v3, some (.inr (.inl (p27 l : Int))), u5', some (.inl (kri l (krL.drop q) q v : Int)), u7'] [] (κ, D)
  | 0, q, v, u5, hm => by
    subst h0 h1 h2 h3
    refine ⟨u5, some (.inl (q : Int)), ?_⟩
    rw [q_197_146, List.drop_eq_nil_of_le (show krL.length ≤ q by rw [show krL.length = 24 from rfl]; omega)]
    simp (disch := omega) only [cond_true, cond_false, Bool.and_true, Bool.true_and, Bool.and_false, Bool.false_and, Int.toNat_natCast, Int.reduceToNat, bI_s, bJ_s, bV_s, bR_s, decide_true, decide_false, not_true_eq_false, not_false_eq_true, dT, dF, w_al, w_la, w_ab, w_sl, w_sb, w_dec, w_ml, w_lm, ol2i_n, aup_ne, aupE, aupJ, setc_self, setc_ne]
    rfl
  | m + 1, q, v, u5, hm => by
    have k256 := k_256 hκ
    have hlen : q < krL.length := by rw [show krL.length = 24 from rfl]; omega
    have hmem : krL.getD q [] ∈ qwL := by
      rw [List.getD_eq_getElem?_getD, List.getElem?_eq_getElem hlen, Option.getD_some]
      exact kr_sub _ (List.getElem_mem hlen)
    have e6 := hq q (by omega)
    by_cases h : krL.getD q [] = l
    · obtain ⟨a, b, ih⟩ := rkey_loop xs d hκ hp hq hl v0 v1 v2 v3 h0 h1 c h2 h3 m (q + 1) (20 + q) (acl u5) (by omega)
      refine ⟨a, b, ?_⟩
      subst h0 h1 h2 h3
      rw [q_197_146, drop_getD (e := []) hlen]
      have hkri : kri l (krL.getD q [] :: krL.drop (q + 1)) q v = kri l (krL.drop (q + 1)) (q + 1) (20 + q) := by
        show kri l _ _ (if _ then _ else _) = _
        rw [if_pos h]
      have hz : olcmp (p27 (krL.getD q []) : Int) (p27 l : Int) = 0 := olcmp_eq.mpr (by rw [h])
      rw [hkri, ← ih]
      simp (disch := omega) only [cond_true, cond_false, Bool.and_true, Bool.true_and, Bool.and_false, Bool.false_and, Int.toNat_natCast, Int.reduceToNat, bI_s, bJ_s, bV_s, bR_s, decide_true, decide_false, not_true_eq_false, not_false_eq_true, dT, dF, w_al, w_la, w_ab, w_sl, w_sb, w_dec, w_ml, w_lm, ol2i_n, aup_ne, aupE, aupJ, setc_self, setc_ne, k256, pr_9 hp, n_263 hκ, e6, hz]
    · obtain ⟨a, b, ih⟩ := rkey_loop xs d hκ hp hq hl v0 v1 v2 v3 h0 h1 c h2 h3 m (q + 1) v u5 (by omega)
      refine ⟨a, b, ?_⟩
      subst h0 h1 h2 h3
      rw [q_197_146, drop_getD (e := []) hlen]
      have hkri : kri l (krL.getD q [] :: krL.drop (q + 1)) q v = kri l (krL.drop (q + 1)) (q + 1) v := by
        show kri l _ _ (if _ then _ else _) = _
        rw [if_neg h]
      have hz : ¬ olcmp (p27 (krL.getD q []) : Int) (p27 l : Int) = 0 := fun e => h (p27_inj (qw_prop _ hmem).2 hl (by have := olcmp_eq.mp e; omega))
      rw [hkri, ← ih]
      simp (disch := omega) only [cond_true, cond_false, Bool.and_true, Bool.true_and, Bool.and_false, Bool.false_and, Int.toNat_natCast, Int.reduceToNat, bI_s, bJ_s, bV_s, bR_s, decide_true, decide_false, not_true_eq_false, not_false_eq_true, dT, dF, w_al, w_la, w_ab, w_sl, w_sb, w_dec, w_ml, w_lm, ol2i_n, aup_ne, aupE, aupJ, setc_self, setc_ne, k256, pr_9 hp, n_263 hκ, e6, hz]
/-- figures -/
theorem rnum_loop (xs : List Int) (d : Nat) {κ : aK} {D : Nat → Nat → Int} (hκ : Shp κ) (hp : PtrR D) {n : Nat} {f : Nat → Int} (hf : RtI D n f) {i : Nat} (cc : Int) (u5 u6 u7 : Option aV) : ∀ (m k : Nat), n - (i + k) = m → i + k ≤ n → (∀ j, j < k → isDg (f (i + j)) = true) → ev xs (d + 1) mm_197 208 [some (.inr (.inr 256)), some (.inl (i : Int)), some (.inl cc), some (.inl (k : Int)), some (.inl (nmb f i (min k 4) : Int)), u5, u6, u7] [] (κ, D) = ev xs (d + 1) mm_197 208 [some (.inr (.inr 256)), some (.inl (i : Int)), some (.inl cc), some (.inl ((k + rlen isDg f m (i + k) : Nat) : Int)), some (.inl (nmb f i (min (k + rlen isDg f m (i + k)) 4) : Int)), u5, u6, u7] [] (κ, D)
  | 0, k, hm, hi, hall => rfl
  | m + 1, k, hm, hi, hall => by
    have hn := hf.1
    by_cases h : isDg (f (i + k)) = true
    · have hr : rlen isDg f (m + 1) (i + k) = rlen isDg f m (i + (k + 1)) + 1 := if_pos h
      have hl := isDg_iff.mp h
      have hx : ubv (f (i + k)) = f (i + k) := if_pos (by omega)
      have eb := byteAt_eq xs d hκ hp hf (i := i + k) (j := ((i + k : Nat) : Int)) (by omega) rfl
      rw [byt_lt (by omega), hx] at eb
      have hall' : ∀ j, j < k + 1 → isDg (f (i + j)) = true := fun j hj => by
        by_cases e : j = k
        · rw [e]; exact h
        · exact hall j (by omega)
      have ih := rnum_loop xs d hκ hp hf cc u5 u6 u7 m (k + 1) (by omega) (by omega) hall'
      rw [hr, show k + (rlen isDg f m (i + (k + 1)) + 1) = k + 1 + rlen isDg f m (i + (k + 1)) by omega, ← ih, q_197_208]
      by_cases h8 : 4 ≤ k
      · rw [show min (k + 1) 4 = min k 4 by omega]
        simp (disch := omega) only [cond_true, cond_false, Bool.and_true, Bool.true_and, Bool.and_false, Bool.false_and, Int.toNat_natCast, Int.reduceToNat, bI_s, bJ_s, bV_s, bR_s, decide_true, decide_false, not_true_eq_false, not_false_eq_true, dT, dF, w_al, w_la, w_ab, w_sl, w_sb, w_dec, w_ml, w_lm, ol2i_n, aup_ne, aupE, aupJ, setc_self, setc_ne, k_256 hκ, eb, risD xs d, h, if_true]
      · have hnm := nmb_lt k hall
        have hp10 : 10 ^ k ≤ 10 ^ 3 := Nat.pow_le_pow_right (by decide) (by omega)
        have e_a : w32 (w32 (((10 * nmb f i k : Nat) : Int) + f (i + k)) - 48) = ((nmb f i (k + 1) : Nat) : Int) := by
          show _ = ((nmb f i k * 10 + (f (i + k) - 48).toNat : Nat) : Int)
          rw [w32_id (x := _ + _) (by omega) (by omega), w32_id (by omega) (by omega)]; omega
        rw [show min (k + 1) 4 = k + 1 by omega, show min k 4 = k by omega]
        simp (disch := omega) only [cond_true, cond_false, Bool.and_true, Bool.true_and, Bool.and_false, Bool.false_and, Int.toNat_natCast, Int.reduceToNat, bI_s, bJ_s, bV_s, bR_s, decide_true, decide_false, not_true_eq_false, not_false_eq_true, dT, dF, w_al, w_la, w_ab, w_sl, w_sb, w_dec, w_ml, w_lm, ol2i_n, aup_ne, aupE, aupJ, setc_self, setc_ne, k_256 hκ, eb, risD xs d, h, if_true, e_a]
    · have hr : rlen isDg f (m + 1) (i + k) = 0 := if_neg h
      simp only [hr, Nat.add_zero]
def kdS (c : Int) : Int := if c = 59 then 4 else if c = 61 then 5 else if c = 40 then 6 else if c = 41 then 7 else if c = 43 then 8 else if c = 45 then 9 else if c = 42 then 10 else if c = 47 then 15 else if c = 60 then 13 else 3
theorem rsign (xs : List Int) (d : Nat) {κ : aK} {D : Nat → Nat → Int} (hκ : Shp κ) (i c u : Int) : cl xs (d + 2) 198 [.inr (.inr 256), .inl i, .inl c, .inl u] (κ, D) = bV (cl xs (d + 1) 196 [.inr (.inr 256), .inl (kdS c), .inl i, .inl 0, .inr (.inl 0)] (κ, D)) (fun h => some (some (.inl 1), h)) := by
  have k256 := k_256 hκ
  unfold kdS
  by_cases h1 : c = 59
  · subst h1
    rw [c_198]; simp (disch := omega) only [cond_true, cond_false, Bool.and_true, Bool.true_and, Bool.and_false, Bool.false_and, Int.toNat_natCast, Int.reduceToNat, bI_s, bJ_s, bV_s, bR_s, decide_true, decide_false, not_true_eq_false, not_false_eq_true, dT, dF, w_al, w_la, w_ab, w_sl, w_sb, w_dec, w_ml, w_lm, ol2i_n, aup_ne, aupE, aupJ, setc_self, setc_ne]; rw [q_198_55]; simp (disch := omega) only [cond_true, cond_false, Bool.and_true, Bool.true_and, Bool.and_false, Bool.false_and, Int.toNat_natCast, Int.reduceToNat, bI_s, bJ_s, bV_s, bR_s, decide_true, decide_false, not_true_eq_false, not_false_eq_true, dT, dF, w_al, w_la, w_ab, w_sl, w_sb, w_dec, w_ml, w_lm, ol2i_n, aup_ne, aupE, aupJ, setc_self, setc_ne]; rw [q_198_75]; simp (disch := omega) only [cond_true, cond_false, Bool.and_true, Bool.true_and, Bool.and_false, Bool.false_and, Int.toNat_natCast, Int.reduceToNat, bI_s, bJ_s, bV_s, bR_s, decide_true, decide_false, not_true_eq_false, not_false_eq_true, dT, dF, w_al, w_la, w_ab, w_sl, w_sb, w_dec, w_ml, w_lm, ol2i_n, aup_ne, aupE, aupJ, setc_self, setc_ne]; rw [q_198_95]; simp (disch := omega) only [cond_true, cond_false, Bool.and_true, Bool.true_and, Bool.and_false, Bool.false_and, Int.toNat_natCast, Int.reduceToNat, bI_s, bJ_s, bV_s, bR_s, decide_true, decide_false, not_true_eq_false, not_false_eq_true, dT, dF, w_al, w_la, w_ab, w_sl, w_sb, w_dec, w_ml, w_lm, ol2i_n, aup_ne, aupE, aupJ, setc_self, setc_ne, k256, if_true]
  by_cases h2 : c = 61
  · subst h2
    rw [c_198]; simp (disch := omega) only [cond_true, cond_false, Bool.and_true, Bool.true_and, Bool.and_false, Bool.false_and, Int.toNat_natCast, Int.reduceToNat, bI_s, bJ_s, bV_s, bR_s, decide_true, decide_false, not_true_eq_false, not_false_eq_true, dT, dF, w_al, w_la, w_ab, w_sl, w_sb, w_dec, w_ml, w_lm, ol2i_n, aup_ne, aupE, aupJ, setc_self, setc_ne]; rw [q_198_55]; simp (disch := omega) only [cond_true, cond_false, Bool.and_true, Bool.true_and, Bool.and_false, Bool.false_and, Int.toNat_natCast, Int.reduceToNat, bI_s, bJ_s, bV_s, bR_s, decide_true, decide_false, not_true_eq_false, not_false_eq_true, dT, dF, w_al, w_la, w_ab, w_sl, w_sb, w_dec, w_ml, w_lm, ol2i_n, aup_ne, aupE, aupJ, setc_self, setc_ne]; rw [q_198_75]; simp (disch := omega) only [cond_true, cond_false, Bool.and_true, Bool.true_and, Bool.and_false, Bool.false_and, Int.toNat_natCast, Int.reduceToNat, bI_s, bJ_s, bV_s, bR_s, decide_true, decide_false, not_true_eq_false, not_false_eq_true, dT, dF, w_al, w_la, w_ab, w_sl, w_sb, w_dec, w_ml, w_lm, ol2i_n, aup_ne, aupE, aupJ, setc_self, setc_ne]; rw [q_198_95]; simp (disch := omega) only [cond_true, cond_false, Bool.and_true, Bool.true_and, Bool.and_false, Bool.false_and, Int.toNat_natCast, Int.reduceToNat, bI_s, bJ_s, bV_s, bR_s, decide_true, decide_false, not_true_eq_false, not_false_eq_true, dT, dF, w_al, w_la, w_ab, w_sl, w_sb, w_dec, w_ml, w_lm, ol2i_n, aup_ne, aupE, aupJ, setc_self, setc_ne, k256, if_true]; rfl
  by_cases h3 : c = 40
  · subst h3
    rw [c_198]; simp (disch := omega) only [cond_true, cond_false, Bool.and_true, Bool.true_and, Bool.and_false, Bool.false_and, Int.toNat_natCast, Int.reduceToNat, bI_s, bJ_s, bV_s, bR_s, decide_true, decide_false, not_true_eq_false, not_false_eq_true, dT, dF, w_al, w_la, w_ab, w_sl, w_sb, w_dec, w_ml, w_lm, ol2i_n, aup_ne, aupE, aupJ, setc_self, setc_ne]; rw [q_198_55]; simp (disch := omega) only [cond_true, cond_false, Bool.and_true, Bool.true_and, Bool.and_false, Bool.false_and, Int.toNat_natCast, Int.reduceToNat, bI_s, bJ_s, bV_s, bR_s, decide_true, decide_false, not_true_eq_false, not_false_eq_true, dT, dF, w_al, w_la, w_ab, w_sl, w_sb, w_dec, w_ml, w_lm, ol2i_n, aup_ne, aupE, aupJ, setc_self, setc_ne]; rw [q_198_75]; simp (disch := omega) only [cond_true, cond_false, Bool.and_true, Bool.true_and, Bool.and_false, Bool.false_and, Int.toNat_natCast, Int.reduceToNat, bI_s, bJ_s, bV_s, bR_s, decide_true, decide_false, not_true_eq_false, not_false_eq_true, dT, dF, w_al, w_la, w_ab, w_sl, w_sb, w_dec, w_ml, w_lm, ol2i_n, aup_ne, aupE, aupJ, setc_self, setc_ne]; rw [q_198_95]; simp (disch := omega) only [cond_true, cond_false, Bool.and_true, Bool.true_and, Bool.and_false, Bool.false_and, Int.toNat_natCast, Int.reduceToNat, bI_s, bJ_s, bV_s, bR_s, decide_true, decide_false, not_true_eq_false, not_false_eq_true, dT, dF, w_al, w_la, w_ab, w_sl, w_sb, w_dec, w_ml, w_lm, ol2i_n, aup_ne, aupE, aupJ, setc_self, setc_ne, k256, if_true]; rfl
  by_cases h4 : c = 41
  · subst h4
    rw [c_198]; simp (disch := omega) only [cond_true, cond_false, Bool.and_true, Bool.true_and, Bool.and_false, Bool.false_and, Int.toNat_natCast, Int.reduceToNat, bI_s, bJ_s, bV_s, bR_s, decide_true, decide_false, not_true_eq_false, not_false_eq_true, dT, dF, w_al, w_la, w_ab, w_sl, w_sb, w_dec, w_ml, w_lm, ol2i_n, aup_ne, aupE, aupJ, setc_self, setc_ne]; rw [q_198_55]; simp (disch := omega) only [cond_true, cond_false, Bool.and_true, Bool.true_and, Bool.and_false, Bool.false_and, Int.toNat_natCast, Int.reduceToNat, bI_s, bJ_s, bV_s, bR_s, decide_true, decide_false, not_true_eq_false, not_false_eq_true, dT, dF, w_al, w_la, w_ab, w_sl, w_sb, w_dec, w_ml, w_lm, ol2i_n, aup_ne, aupE, aupJ, setc_self, setc_ne]; rw [q_198_75]; simp (disch := omega) only [cond_true, cond_false, Bool.and_true, Bool.true_and, Bool.and_false, Bool.false_and, Int.toNat_natCast, Int.reduceToNat, bI_s, bJ_s, bV_s, bR_s, decide_true, decide_false, not_true_eq_false, not_false_eq_true, dT, dF, w_al, w_la, w_ab, w_sl, w_sb, w_dec, w_ml, w_lm, ol2i_n, aup_ne, aupE, aupJ, setc_self, setc_ne]; rw [q_198_95]; simp (disch := omega) only [cond_true, cond_false, Bool.and_true, Bool.true_and, Bool.and_false, Bool.false_and, Int.toNat_natCast, Int.reduceToNat, bI_s, bJ_s, bV_s, bR_s, decide_true, decide_false, not_true_eq_false, not_false_eq_true, dT, dF, w_al, w_la, w_ab, w_sl, w_sb, w_dec, w_ml, w_lm, ol2i_n, aup_ne, aupE, aupJ, setc_self, setc_ne, k256, if_true]; rfl
  by_cases h5 : c = 43
  · subst h5
    rw [c_198]; simp (disch := omega) only [cond_true, cond_false, Bool.and_true, Bool.true_and, Bool.and_false, Bool.false_and, Int.toNat_natCast, Int.reduceToNat, bI_s, bJ_s, bV_s, bR_s, decide_true, decide_false, not_true_eq_false, not_false_eq_true, dT, dF, w_al, w_la, w_ab, w_sl, w_sb, w_dec, w_ml, w_lm, ol2i_n, aup_ne, aupE, aupJ, setc_self, setc_ne]; rw [q_198_55]; simp (disch := omega) only [cond_true, cond_false, Bool.and_true, Bool.true_and, Bool.and_false, Bool.false_and, Int.toNat_natCast, Int.reduceToNat, bI_s, bJ_s, bV_s, bR_s, decide_true, decide_false, not_true_eq_false, not_false_eq_true, dT, dF, w_al, w_la, w_ab, w_sl, w_sb, w_dec, w_ml, w_lm, ol2i_n, aup_ne, aupE, aupJ, setc_self, setc_ne]; rw [q_198_75]; simp (disch := omega) only [cond_true, cond_false, Bool.and_true, Bool.true_and, Bool.and_false, Bool.false_and, Int.toNat_natCast, Int.reduceToNat, bI_s, bJ_s, bV_s, bR_s, decide_true, decide_false, not_true_eq_false, not_false_eq_true, dT, dF, w_al, w_la, w_ab, w_sl, w_sb, w_dec, w_ml, w_lm, ol2i_n, aup_ne, aupE, aupJ, setc_self, setc_ne]; rw [q_198_95]; simp (disch := omega) only [cond_true, cond_false, Bool.and_true, Bool.true_and, Bool.and_false, Bool.false_and, Int.toNat_natCast, Int.reduceToNat, bI_s, bJ_s, bV_s, bR_s, decide_true, decide_false, not_true_eq_false, not_false_eq_true, dT, dF, w_al, w_la, w_ab, w_sl, w_sb, w_dec, w_ml, w_lm, ol2i_n, aup_ne, aupE, aupJ, setc_self, setc_ne, k256, if_true]; rfl
  by_cases h6 : c = 45
  · subst h6
    rw [c_198]; simp (disch := omega) only [cond_true, cond_false, Bool.and_true, Bool.true_and, Bool.and_false, Bool.false_and, Int.toNat_natCast, Int.reduceToNat, bI_s, bJ_s, bV_s, bR_s, decide_true, decide_false, not_true_eq_false, not_false_eq_true, dT, dF, w_al, w_la, w_ab, w_sl, w_sb, w_dec, w_ml, w_lm, ol2i_n, aup_ne, aupE, aupJ, setc_self, setc_ne]; rw [q_198_55]; simp (disch := omega) only [cond_true, cond_false, Bool.and_true, Bool.true_and, Bool.and_false, Bool.false_and, Int.toNat_natCast, Int.reduceToNat, bI_s, bJ_s, bV_s, bR_s, decide_true, decide_false, not_true_eq_false, not_false_eq_true, dT, dF, w_al, w_la, w_ab, w_sl, w_sb, w_dec, w_ml, w_lm, ol2i_n, aup_ne, aupE, aupJ, setc_self, setc_ne]; rw [q_198_75]; simp (disch := omega) only [cond_true, cond_false, Bool.and_true, Bool.true_and, Bool.and_false, Bool.false_and, Int.toNat_natCast, Int.reduceToNat, bI_s, bJ_s, bV_s, bR_s, decide_true, decide_false, not_true_eq_false, not_false_eq_true, dT, dF, w_al, w_la, w_ab, w_sl, w_sb, w_dec, w_ml, w_lm, ol2i_n, aup_ne, aupE, aupJ, setc_self, setc_ne]; rw [q_198_95]; simp (disch := omega) only [cond_true, cond_false, Bool.and_true, Bool.true_and, Bool.and_false, Bool.false_and, Int.toNat_natCast, Int.reduceToNat, bI_s, bJ_s, bV_s, bR_s, decide_true, decide_false, not_true_eq_false, not_false_eq_true, dT, dF, w_al, w_la, w_ab, w_sl, w_sb, w_dec, w_ml, w_lm, ol2i_n, aup_ne, aupE, aupJ, setc_self, setc_ne, k256, if_true]; rfl
  by_cases h7 : c = 42
  · subst h7
    rw [c_198]; simp (disch := omega) only [cond_true, cond_false, Bool.and_true, Bool.true_and, Bool.and_false, Bool.false_and, Int.toNat_natCast, Int.reduceToNat, bI_s, bJ_s, bV_s, bR_s, decide_true, decide_false, not_true_eq_false, not_false_eq_true, dT, dF, w_al, w_la, w_ab, w_sl, w_sb, w_dec, w_ml, w_lm, ol2i_n, aup_ne, aupE, aupJ, setc_self, setc_ne]; rw [q_198_55]; simp (disch := omega) only [cond_true, cond_false, Bool.and_true, Bool.true_and, Bool.and_false, Bool.false_and, Int.toNat_natCast, Int.reduceToNat, bI_s, bJ_s, bV_s, bR_s, decide_true, decide_false, not_true_eq_false, not_false_eq_true, dT, dF, w_al, w_la, w_ab, w_sl, w_sb, w_dec, w_ml, w_lm, ol2i_n, aup_ne, aupE, aupJ, setc_self, setc_ne]; rw [q_198_75]; simp (disch := omega) only [cond_true, cond_false, Bool.and_true, Bool.true_and, Bool.and_false, Bool.false_and, Int.toNat_natCast, Int.reduceToNat, bI_s, bJ_s, bV_s, bR_s, decide_true, decide_false, not_true_eq_false, not_false_eq_true, dT, dF, w_al, w_la, w_ab, w_sl, w_sb, w_dec, w_ml, w_lm, ol2i_n, aup_ne, aupE, aupJ, setc_self, setc_ne]; rw [q_198_95]; simp (disch := omega) only [cond_true, cond_false, Bool.and_true, Bool.true_and, Bool.and_false, Bool.false_and, Int.toNat_natCast, Int.reduceToNat, bI_s, bJ_s, bV_s, bR_s, decide_true, decide_false, not_true_eq_false, not_false_eq_true, dT, dF, w_al, w_la, w_ab, w_sl, w_sb, w_dec, w_ml, w_lm, ol2i_n, aup_ne, aupE, aupJ, setc_self, setc_ne, k256, if_true]; rfl
  by_cases h8 : c = 47
  · subst h8
    rw [c_198]; simp (disch := omega) only [cond_true, cond_false, Bool.and_true, Bool.true_and, Bool.and_false, Bool.false_and, Int.toNat_natCast, Int.reduceToNat, bI_s, bJ_s, bV_s, bR_s, decide_true, decide_false, not_true_eq_false, not_false_eq_true, dT, dF, w_al, w_la, w_ab, w_sl, w_sb, w_dec, w_ml, w_lm, ol2i_n, aup_ne, aupE, aupJ, setc_self, setc_ne]; rw [q_198_55]; simp (disch := omega) only [cond_true, cond_false, Bool.and_true, Bool.true_and, Bool.and_false, Bool.false_and, Int.toNat_natCast, Int.reduceToNat, bI_s, bJ_s, bV_s, bR_s, decide_true, decide_false, not_true_eq_false, not_false_eq_true, dT, dF, w_al, w_la, w_ab, w_sl, w_sb, w_dec, w_ml, w_lm, ol2i_n, aup_ne, aupE, aupJ, setc_self, setc_ne]; rw [q_198_75]; simp (disch := omega) only [cond_true, cond_false, Bool.and_true, Bool.true_and, Bool.and_false, Bool.false_and, Int.toNat_natCast, Int.reduceToNat, bI_s, bJ_s, bV_s, bR_s, decide_true, decide_false, not_true_eq_false, not_false_eq_true, dT, dF, w_al, w_la, w_ab, w_sl, w_sb, w_dec, w_ml, w_lm, ol2i_n, aup_ne, aupE, aupJ, setc_self, setc_ne]; rw [q_198_95]; simp (disch := omega) only [cond_true, cond_false, Bool.and_true, Bool.true_and, Bool.and_false, Bool.false_and, Int.toNat_natCast, Int.reduceToNat, bI_s, bJ_s, bV_s, bR_s, decide_true, decide_false, not_true_eq_false, not_false_eq_true, dT, dF, w_al, w_la, w_ab, w_sl, w_sb, w_dec, w_ml, w_lm, ol2i_n, aup_ne, aupE, aupJ, setc_self, setc_ne, k256, if_true]; rfl
  by_cases h9 : c = 60
  · subst h9
    rw [c_198]; simp (disch := omega) only [cond_true, cond_false, Bool.and_true, Bool.true_and, Bool.and_false, Bool.false_and, Int.toNat_natCast, Int.reduceToNat, bI_s, bJ_s, bV_s, bR_s, decide_true, decide_false, not_true_eq_false, not_false_eq_true, dT, dF, w_al, w_la, w_ab, w_sl, w_sb, w_dec, w_ml, w_lm, ol2i_n, aup_ne, aupE, aupJ, setc_self, setc_ne]; rw [q_198_55]; simp (disch := omega) only [cond_true, cond_false, Bool.and_true, Bool.true_and, Bool.and_false, Bool.false_and, Int.toNat_natCast, Int.reduceToNat, bI_s, bJ_s, bV_s, bR_s, decide_true, decide_false, not_true_eq_false, not_false_eq_true, dT, dF, w_al, w_la, w_ab, w_sl, w_sb, w_dec, w_ml, w_lm, ol2i_n, aup_ne, aupE, aupJ, setc_self, setc_ne]; rw [q_198_75]; simp (disch := omega) only [cond_true, cond_false, Bool.and_true, Bool.true_and, Bool.and_false, Bool.false_and, Int.toNat_natCast, Int.reduceToNat, bI_s, bJ_s, bV_s, bR_s, decide_true, decide_false, not_true_eq_false, not_false_eq_true, dT, dF, w_al, w_la, w_ab, w_sl, w_sb, w_dec, w_ml, w_lm, ol2i_n, aup_ne, aupE, aupJ, setc_self, setc_ne]; rw [q_198_95]; simp (disch := omega) only [cond_true, cond_false, Bool.and_true, Bool.true_and, Bool.and_false, Bool.false_and, Int.toNat_natCast, Int.reduceToNat, bI_s, bJ_s, bV_s, bR_s, decide_true, decide_false, not_true_eq_false, not_false_eq_true, dT, dF, w_al, w_la, w_ab, w_sl, w_sb, w_dec, w_ml, w_lm, ol2i_n, aup_ne, aupE, aupJ, setc_self, setc_ne, k256, if_true]; rfl
  rw [if_neg h1, if_neg h2, if_neg h3, if_neg h4, if_neg h5, if_neg h6, if_neg h7, if_neg h8, if_neg h9]
  rw [c_198]; simp (disch := omega) only [cond_true, cond_false, Bool.and_true, Bool.true_and, Bool.and_false, Bool.false_and, Int.toNat_natCast, Int.reduceToNat, bI_s, bJ_s, bV_s, bR_s, decide_true, decide_false, not_true_eq_false, not_false_eq_true, dT, dF, w_al, w_la, w_ab, w_sl, w_sb, w_dec, w_ml, w_lm, ol2i_n, aup_ne, aupE, aupJ, setc_self, setc_ne]; rw [q_198_55]; simp (disch := omega) only [cond_true, cond_false, Bool.and_true, Bool.true_and, Bool.and_false, Bool.false_and, Int.toNat_natCast, Int.reduceToNat, bI_s, bJ_s, bV_s, bR_s, decide_true, decide_false, not_true_eq_false, not_false_eq_true, dT, dF, w_al, w_la, w_ab, w_sl, w_sb, w_dec, w_ml, w_lm, ol2i_n, aup_ne, aupE, aupJ, setc_self, setc_ne]; rw [q_198_75]; simp (disch := omega) only [cond_true, cond_false, Bool.and_true, Bool.true_and, Bool.and_false, Bool.false_and, Int.toNat_natCast, Int.reduceToNat, bI_s, bJ_s, bV_s, bR_s, decide_true, decide_false, not_true_eq_false, not_false_eq_true, dT, dF, w_al, w_la, w_ab, w_sl, w_sb, w_dec, w_ml, w_lm, ol2i_n, aup_ne, aupE, aupJ, setc_self, setc_ne]; rw [q_198_95]; simp (disch := omega) only [cond_true, cond_false, Bool.and_true, Bool.true_and, Bool.and_false, Bool.false_and, Int.toNat_natCast, Int.reduceToNat, bI_s, bJ_s, bV_s, bR_s, decide_true, decide_false, not_true_eq_false, not_false_eq_true, dT, dF, w_al, w_la, w_ab, w_sl, w_sb, w_dec, w_ml, w_lm, ol2i_n, aup_ne, aupE, aupJ, setc_self, setc_ne, k256]
theorem kdS_sg : ∀ a ∈ sgL, kdS ((a : Nat) : Int) = (rho a : Int) := by decide
theorem kdS_no {c : Int} (h : ¬ (0 ≤ c ∧ c.toNat ∈ sgL)) : kdS c = 3 := by
  have hm : ∀ a ∈ sgL, ¬ c = ((a : Nat) : Int) := fun a ha e => h ⟨by omega, by rw [e, Int.toNat_natCast]; exact ha⟩
  unfold kdS
  rw [if_neg (show ¬ c = 59 from hm 59 (by decide)), if_neg (show ¬ c = 61 from hm 61 (by decide)), if_neg (show ¬ c = 40 from hm 40 (by decide)), if_neg (show ¬ c = 41 from hm 41 (by decide)), if_neg (show ¬ c = 43 from hm 43 (by decide)), if_neg (show ¬ c = 45 from hm 45 (by decide)), if_neg (show ¬ c = 42 from hm 42 (by decide)), if_neg (show ¬ c = 47 from hm 47 (by decide)), if_neg (show ¬ c = 60 from hm 60 (by decide))]
theorem sg_lt : ∀ a ∈ sgL, a < 100 := by decide
/-- one token -/
theorem rtok1 (xs : List Int) (d : Nat) {κ : aK} {D : Nat → Nat → Int} {E : Nat → Nat → Int} {n : Nat} {f : Nat → Int} (hκ : Shp κ) (hpD : PtrR D) (hq : KyR D) (hf : RtI D n f) {m : Nat} (h : RcI D E (tkT f n) m) (hm : m ≤ 400) (hi : skp f n (psE f n m) < n) (u2 u3 u4 u5 u6 u7 : Option aV) : ∃ E' u2' u3' u4' u5' u6' u7', ev xs (d + 2) mm_197 7 [some (.inr (.inr 256)), some (.inl (skp f n (psE f n m) : Int)), u2, u3, u4, u5, u6, u7] [] (κ, E) = ev xs (d + 2) mm_197 7 [some (.inr (.inr 256)), some (.inl (psE f n (m + 1) : Int)), u2', u3', u4', u5', u6', u7'] [] (κ, E') ∧ RcI D E' (tkT f n) (m + 1) := by
  have k256 := k_256 hκ
  have hn := hf.1
  have hp := h.ptr hpD
  have hqE : KyR E := fun q hq' => by rw [h.1 263 (by decide) (by omega)]; exact hq q hq'
  have hfE : RtI E n f := ⟨hn, (h.2.1 4 (by decide)).trans hf.2.1, fun j hj => by rw [h.1 258 (by decide) (by omega)]; exact hf.2.2 j hj⟩
  have hnb := skp_nb (f := f) (n := n) (n - psE f n m) (psE f n m) rfl hi
  have eT : tkT f n m = (tkAt f n (skp f n (psE f n m))).1 := if_pos hi
  have eP : psE f n (m + 1) = skp f n (psE f n m) + (tkAt f n (skp f n (psE f n m))).2 := rfl
  rw [eP]
  generalize skp f n (psE f n m) = i at *
  have f2 := hfE.2.1
  have hb := (hfE.2.2 i hi).2
  have hP : tkP (tkT f n m) = i := by rw [eT]; exact tkAt_p _ _ _
  have eb := byteAt_eq xs (d + 1) hκ hp hfE (i := i) (by omega) rfl
  rw [byt_lt hi] at eb
  have hbl : ¬ (f i = 9 ∨ f i = 10 ∨ f i = 13 ∨ f i = 32) := fun q => hnb (isBl_iff.mpr q)
  have hu : ¬ ubv (f i) = 9 ∧ ¬ ubv (f i) = 10 ∧ ¬ ubv (f i) = 13 ∧ ¬ ubv (f i) = 32 := by
    unfold ubv
    split <;> omega
  have iL := isLt_ub hb.1 hb.2
  have iD := isDg_ub hb.1 hb.2
  have h3 := h.2.2.1
  by_cases h1 : isLt (f i) = true
  · have eA : tkAt f n i = ((if 8 < rlen isLt f (n - i) i then 1 else kqi (ltn f i (min (rlen isLt f (n - i) i) 8)) qwL 0, i, ltn f i (min (rlen isLt f (n - i) i) 8), 0), rlen isLt f (n - i) i) := if_pos h1
    have hrl := rlen_le (p := isLt) (f := f) (n - i) i
    have hall : ∀ j, j < rlen isLt f (n - i) i → isLt (f (i + j)) = true := fun j hj => rlen_p (n - i) i j hj
    have hN : tkN (tkT f n m) = ltn f i (min (rlen isLt f (n - i) i) 8) := by rw [eT, eA]; rfl
    have hK : tkK (tkT f n m) = if 8 < rlen isLt f (n - i) i then 1 else kqi (ltn f i (min (rlen isLt f (n - i) i) 8)) qwL 0 := by rw [eT, eA]; rfl
    obtain ⟨E', q1, q2⟩ := rtok_eq xs (d + 1) hκ hpD h (by omega) (k := (rho (tkK (tkT f n m)) : Int)) (p := (i : Int)) (v := 0) (w := (p27 (ltn f i (min (rlen isLt f (n - i) i) 8)) : Int)) rfl (by rw [hP]) (fun e => by
      rw [hK] at e
      split at e
      · omega
      · exact absurd e (kqi_kv _).2.2) (fun _ => by rw [hN])
    obtain ⟨u5a, lp⟩ := rname_loop xs (d + 1) hκ hp hfE (i := i) (ubv (f i)) u6 u7 (n - i) 0 none (by omega) (by omega) (fun j hj => absurd hj (Nat.not_lt_zero j))
    rw [Nat.zero_add, Nat.add_zero] at lp
    have ewd : w32 ((i : Int) + ((rlen isLt f (n - i) i : Nat) : Int)) = ((i + rlen isLt f (n - i) i : Nat) : Int) := by rw [w32_id (by omega) (by omega)]; omega
    have eb2 := byteAt_eq xs (d + 1) hκ hp hfE (i := i + rlen isLt f (n - i) i) (j := w32 ((i : Int) + ((rlen isLt f (n - i) i : Nat) : Int))) (by omega) ewd
    have hstop : isLt (byt f n (i + rlen isLt f (n - i) i)) = false := by
      cases e : isLt (byt f n (i + rlen isLt f (n - i) i)) with
      | false => rfl
      | true =>
        exfalso
        have := rlen_stop (p := isLt) (f := f) (n - i) i
        by_cases hlt : i + rlen isLt f (n - i) i < n
        · rw [byt_lt hlt, isLt_ub (hfE.2.2 _ hlt).2.1 (hfE.2.2 _ hlt).2.2] at e
          exact this (by omega) e
        · rw [show byt f n (i + rlen isLt f (n - i) i) = 0 from if_neg hlt] at e
          have := isLt_iff.mp e
          omega
    have hw : wv (ltn f i (min (rlen isLt f (n - i) i) 8)) := ltn_wv _ (fun j hj => hall j (by omega))
    rw [eA]
    -- the first step, and the letters
    have go : ev xs (d + 2) mm_197 7 [some (.inr (.inr 256)), some (.inl (i : Int)), u2, u3, u4, u5, u6, u7] [] (κ, E) = ev xs (d + 2) mm_197 85 [some (.inr (.inr 256)), some (.inl (i : Int)), some (.inl (ubv (f i))), some (.inl ((rlen isLt f (n - i) i : Nat) : Int)), some (.inr (.inl (p27 (ltn f i (min (rlen isLt f (n - i) i) 8)) : Int))), u5a, u6, u7] [] (κ, E) := by
      refine Eq.trans ?_ lp
      rw [q_197_7]
      simp (disch := omega) only [cond_true, cond_false, Bool.and_true, Bool.true_and, Bool.and_false, Bool.false_and, Int.toNat_natCast, Int.reduceToNat, bI_s, bJ_s, bV_s, bR_s, decide_true, decide_false, not_true_eq_false, not_false_eq_true, dT, dF, w_al, w_la, w_ab, w_sl, w_sb, w_dec, w_ml, w_lm, ol2i_n, aup_ne, aupE, aupJ, setc_self, setc_ne, k256, h3, eb, f2, risL xs (d + 1), iL, h1, if_true]
      rfl
    have fin : ∀ (kd : Nat) (a5 a7 : Option aV), kd = rho (tkK (tkT f n m)) → ev xs (d + 2) mm_197 179 [some (.inr (.inr 256)), some (.inl (i : Int)), some (.inl (ubv (f i))), some (.inl ((rlen isLt f (n - i) i : Nat) : Int)), some (.inr (.inl (p27 (ltn f i (min (rlen isLt f (n - i) i) 8)) : Int))), a5, some (.inl (kd : Int)), a7] [] (κ, E) = ev xs (d + 2) mm_197 7 [some (.inr (.inr 256)), some (.inl ((i + rlen isLt f (n - i) i : Nat) : Int)), some (.inl (ubv (f i))), some (.inl ((rlen isLt f (n - i) i : Nat) : Int)), some (.inr (.inl (p27 (ltn f i (min (rlen isLt f (n - i) i) 8)) : Int))), a5, some (.inl (kd : Int)), a7] [] (κ, E') := fun kd a5 a7 hkd => by
      rw [q_197_179]
      rw [← hkd] at q1
      simp (disch := omega) only [cond_true, cond_false, Bool.and_true, Bool.true_and, Bool.and_false, Bool.false_and, Int.toNat_natCast, Int.reduceToNat, bI_s, bJ_s, bV_s, bR_s, decide_true, decide_false, not_true_eq_false, not_false_eq_true, dT, dF, w_al, w_la, w_ab, w_sl, w_sb, w_dec, w_ml, w_lm, ol2i_n, aup_ne, aupE, aupJ, setc_self, setc_ne, k256, q1, ewd]
    have h5 : (min (rlen isLt f (n - i) i) 8) = (ltn f i (min (rlen isLt f (n - i) i) 8)).length := (ltn_len _ _ _).symm
    by_cases h8 : 8 < rlen isLt f (n - i) i
    · refine ⟨E', some (.inl (ubv (f i))), some (.inl ((rlen isLt f (n - i) i : Nat) : Int)), some (.inr (.inl (p27 (ltn f i (min (rlen isLt f (n - i) i) 8)) : Int))), acl u5a, some (.inl ((3 : Nat) : Int)), u7, ?_, q2⟩
      rw [go, q_197_85, eb2]
      simp (disch := omega) only [cond_true, cond_false, Bool.and_true, Bool.true_and, Bool.and_false, Bool.false_and, Int.toNat_natCast, Int.reduceToNat, bI_s, bJ_s, bV_s, bR_s, decide_true, decide_false, not_true_eq_false, not_false_eq_true, dT, dF, w_al, w_la, w_ab, w_sl, w_sb, w_dec, w_ml, w_lm, ol2i_n, aup_ne, aupE, aupJ, setc_self, setc_ne, k256, risL xs (d + 1), hstop, Bool.false_eq_true, if_false]
      exact fin 3 _ _ (by rw [hK, if_pos h8]; rfl)
    · by_cases h7 : 7 < rlen isLt f (n - i) i
      · refine ⟨E', some (.inl (ubv (f i))), some (.inl ((rlen isLt f (n - i) i : Nat) : Int)), some (.inr (.inl (p27 (ltn f i (min (rlen isLt f (n - i) i) 8)) : Int))), acl u5a, some (.inl ((1 : Nat) : Int)), u7, ?_, q2⟩
        rw [go, q_197_85, eb2]
        simp (disch := omega) only [cond_true, cond_false, Bool.and_true, Bool.true_and, Bool.and_false, Bool.false_and, Int.toNat_natCast, Int.reduceToNat, bI_s, bJ_s, bV_s, bR_s, decide_true, decide_false, not_true_eq_false, not_false_eq_true, dT, dF, w_al, w_la, w_ab, w_sl, w_sb, w_dec, w_ml, w_lm, ol2i_n, aup_ne, aupE, aupJ, setc_self, setc_ne, k256, risL xs (d + 1), hstop, Bool.false_eq_true, if_false]
        refine fin 1 _ _ ?_
        rw [hK, if_neg h8, kqi_ne _ _ (fun e => by have := (qw_prop _ e).1; omega)]
        rfl
      · obtain ⟨a5, a7, kl⟩ := rkey_loop xs (d + 2) hκ hp hqE hw _ _ _ _ rfl (i := (i : Int)) rfl (ubv (f i)) rfl (k := ((rlen isLt f (n - i) i : Nat) : Int)) rfl 24 0 1 (acl u5a) rfl
        refine ⟨E', some (.inl (ubv (f i))), some (.inl ((rlen isLt f (n - i) i : Nat) : Int)), some (.inr (.inl (p27 (ltn f i (min (rlen isLt f (n - i) i) 8)) : Int))), a5, some (.inl (kri (ltn f i (min (rlen isLt f (n - i) i) 8)) (krL.drop 0) 0 1 : Int)), a7, ?_, q2⟩
        rw [go, q_197_85, eb2]
        simp (disch := omega) only [cond_true, cond_false, Bool.and_true, Bool.true_and, Bool.and_false, Bool.false_and, Int.toNat_natCast, Int.reduceToNat, bI_s, bJ_s, bV_s, bR_s, decide_true, decide_false, not_true_eq_false, not_false_eq_true, dT, dF, w_al, w_la, w_ab, w_sl, w_sb, w_dec, w_ml, w_lm, ol2i_n, aup_ne, aupE, aupJ, setc_self, setc_ne, k256, risL xs (d + 1), hstop, Bool.false_eq_true, if_false]
        refine Eq.trans kl (fin _ _ _ ?_)
        rw [hK, if_neg h8]
        exact kri_eq _
  · by_cases h2 : isDg (f i) = true
    · have eA : tkAt f n i = ((if 4 < rlen isDg f (n - i) i then 1 else 3, i, [], nmb f i (min (rlen isDg f (n - i) i) 4)), rlen isDg f (n - i) i) := (if_neg h1).trans (if_pos h2)
      have hrl := rlen_le (p := isDg) (f := f) (n - i) i
      have hK : tkK (tkT f n m) = if 4 < rlen isDg f (n - i) i then 1 else 3 := by rw [eT, eA]; rfl
      have hV : tkV (tkT f n m) = nmb f i (min (rlen isDg f (n - i) i) 4) := by rw [eT, eA]; rfl
      obtain ⟨E', q1, q2⟩ := rtok_eq xs (d + 1) hκ hpD h (by omega) (k := (rho (tkK (tkT f n m)) : Int)) (p := (i : Int)) (v := (nmb f i (min (rlen isDg f (n - i) i) 4) : Int)) (w := 0) rfl (by rw [hP]) (fun _ => by rw [hV]) (fun e => by
        rw [hK] at e
        split at e <;> omega)
      have lp := rnum_loop xs (d + 1) hκ hp hfE (i := i) (ubv (f i)) u5 u6 u7 (n - i) 0 (by omega) (by omega) (fun j hj => absurd hj (Nat.not_lt_zero j))
      rw [Nat.zero_add, Nat.add_zero] at lp
      have ewd : w32 ((i : Int) + ((rlen isDg f (n - i) i : Nat) : Int)) = ((i + rlen isDg f (n - i) i : Nat) : Int) := by rw [w32_id (by omega) (by omega)]; omega
      have eb2 := byteAt_eq xs (d + 1) hκ hp hfE (i := i + rlen isDg f (n - i) i) (j := w32 ((i : Int) + ((rlen isDg f (n - i) i : Nat) : Int))) (by omega) ewd
      have hstop : isDg (byt f n (i + rlen isDg f (n - i) i)) = false := by
        cases e : isDg (byt f n (i + rlen isDg f (n - i) i)) with
        | false => rfl
        | true =>
          exfalso
          have := rlen_stop (p := isDg) (f := f) (n - i) i
          by_cases hlt : i + rlen isDg f (n - i) i < n
          · rw [byt_lt hlt, isDg_ub (hfE.2.2 _ hlt).2.1 (hfE.2.2 _ hlt).2.2] at e
            exact this (by omega) e
          · rw [show byt f n (i + rlen isDg f (n - i) i) = 0 from if_neg hlt] at e
            have := isDg_iff.mp e
            omega
      have go : ev xs (d + 2) mm_197 7 [some (.inr (.inr 256)), some (.inl (i : Int)), u2, u3, u4, u5, u6, u7] [] (κ, E) = ev xs (d + 2) mm_197 208 [some (.inr (.inr 256)), some (.inl (i : Int)), some (.inl (ubv (f i))), some (.inl ((rlen isDg f (n - i) i : Nat) : Int)), some (.inl (nmb f i (min (rlen isDg f (n - i) i) 4) : Int)), u5, u6, u7] [] (κ, E) := by
        refine Eq.trans ?_ lp
        rw [q_197_7]
        simp (disch := omega) only [cond_true, cond_false, Bool.and_true, Bool.true_and, Bool.and_false, Bool.false_and, Int.toNat_natCast, Int.reduceToNat, bI_s, bJ_s, bV_s, bR_s, decide_true, decide_false, not_true_eq_false, not_false_eq_true, dT, dF, w_al, w_la, w_ab, w_sl, w_sb, w_dec, w_ml, w_lm, ol2i_n, aup_ne, aupE, aupJ, setc_self, setc_ne, k256, h3, eb, f2, risL xs (d + 1), risD xs (d + 1), iL, iD, h1, h2, if_true, Bool.false_eq_true, if_false]
        rfl
      rw [eA]
      refine ⟨E', some (.inl (ubv (f i))), some (.inl ((rlen isDg f (n - i) i : Nat) : Int)), some (.inl (nmb f i (min (rlen isDg f (n - i) i) 4) : Int)), u5, u6, u7, ?_, q2⟩
      rw [go, q_197_208, eb2]
      by_cases h4 : 4 < rlen isDg f (n - i) i
      · rw [hK, if_pos h4, show ((rho 1 : Nat) : Int) = 3 from rfl] at q1
        simp (disch := omega) only [cond_true, cond_false, Bool.and_true, Bool.true_and, Bool.and_false, Bool.false_and, Int.toNat_natCast, Int.reduceToNat, bI_s, bJ_s, bV_s, bR_s, decide_true, decide_false, not_true_eq_false, not_false_eq_true, dT, dF, w_al, w_la, w_ab, w_sl, w_sb, w_dec, w_ml, w_lm, ol2i_n, aup_ne, aupE, aupJ, setc_self, setc_ne, k256, risD xs (d + 1), hstop, Bool.false_eq_true, if_false]
        rw [q_197_261]
        simp (disch := omega) only [cond_true, cond_false, Bool.and_true, Bool.true_and, Bool.and_false, Bool.false_and, Int.toNat_natCast, Int.reduceToNat, bI_s, bJ_s, bV_s, bR_s, decide_true, decide_false, not_true_eq_false, not_false_eq_true, dT, dF, w_al, w_la, w_ab, w_sl, w_sb, w_dec, w_ml, w_lm, ol2i_n, aup_ne, aupE, aupJ, setc_self, setc_ne, k256, q1, ewd]
      · rw [hK, if_neg h4, show ((rho 3 : Nat) : Int) = 2 from rfl] at q1
        simp (disch := omega) only [cond_true, cond_false, Bool.and_true, Bool.true_and, Bool.and_false, Bool.false_and, Int.toNat_natCast, Int.reduceToNat, bI_s, bJ_s, bV_s, bR_s, decide_true, decide_false, not_true_eq_false, not_false_eq_true, dT, dF, w_al, w_la, w_ab, w_sl, w_sb, w_dec, w_ml, w_lm, ol2i_n, aup_ne, aupE, aupJ, setc_self, setc_ne, k256, risD xs (d + 1), hstop, Bool.false_eq_true, if_false]
        rw [q_197_261]
        simp (disch := omega) only [cond_true, cond_false, Bool.and_true, Bool.true_and, Bool.and_false, Bool.false_and, Int.toNat_natCast, Int.reduceToNat, bI_s, bJ_s, bV_s, bR_s, decide_true, decide_false, not_true_eq_false, not_false_eq_true, dT, dF, w_al, w_la, w_ab, w_sl, w_sb, w_dec, w_ml, w_lm, ol2i_n, aup_ne, aupE, aupJ, setc_self, setc_ne, k256, q1, ewd]
    · have eA : tkAt f n i = ((if 0 ≤ f i ∧ (f i).toNat ∈ sgL then (f i).toNat else 1, i, [], 0), 1) := (if_neg h1).trans (if_neg h2)
      have hK : tkK (tkT f n m) = if 0 ≤ f i ∧ (f i).toNat ∈ sgL then (f i).toNat else 1 := by rw [eT, eA]; rfl
      have hk23 : ¬ tkK (tkT f n m) = 2 ∧ ¬ tkK (tkT f n m) = 3 := by
        rw [hK]
        split
        · rename_i hs
          exact (sg_kv _ hs.2).2.2
        · decide
      have hkd : kdS (ubv (f i)) = (rho (tkK (tkT f n m)) : Int) := by
        rw [hK]
        by_cases hs : 0 ≤ f i ∧ (f i).toNat ∈ sgL
        · rw [if_pos hs, show ubv (f i) = f i from if_pos hs.1]
          have := kdS_sg _ hs.2
          rw [show (((f i).toNat : Nat) : Int) = f i by omega] at this
          exact this
        · rw [if_neg hs]
          refine kdS_no (fun z => hs ?_)
          unfold ubv at z
          split at z
          · exact z
          · have := sg_lt _ z.2
            omega
      obtain ⟨E', q1, q2⟩ := rtok_eq xs (d + 0) hκ hpD h (by omega) (k := kdS (ubv (f i))) (p := (i : Int)) (v := 0) (w := 0) hkd (by rw [hP]) (fun e => absurd e hk23.2) (fun e => absurd e hk23.1)
      have eb2 := byteAt_eq xs (d + 1) hκ hp hfE (i := i + 1) (j := w32 ((i : Int) + 1)) (by omega) (by rw [w32_id (by omega) (by omega)]; omega)
      have sg := rsign xs d hκ (D := E) (i : Int) (ubv (f i)) (byt f n (i + 1))
      rw [q1] at sg
      refine ⟨E', some (.inl (ubv (f i))), u3, u4, u5, u6, u7, ?_, q2⟩
      rw [q_197_7, eA, eb]
      simp (disch := omega) only [cond_true, cond_false, Bool.and_true, Bool.true_and, Bool.and_false, Bool.false_and, Int.toNat_natCast, Int.reduceToNat, bI_s, bJ_s, bV_s, bR_s, decide_true, decide_false, not_true_eq_false, not_false_eq_true, dT, dF, w_al, w_la, w_ab, w_sl, w_sb, w_dec, w_ml, w_lm, ol2i_n, aup_ne, aupE, aupJ, setc_self, setc_ne, k256, h3, f2, risL xs (d + 1), risD xs (d + 1), iL, iD, h1, h2, Bool.false_eq_true, if_false]
      rw [show w32 ((i : Int) + 1) = ((i + 1 : Nat) : Int) by rw [w32_id (by omega) (by omega)]; omega] at eb2
      simp (disch := omega) only [cond_true, cond_false, Bool.and_true, Bool.true_and, Bool.and_false, Bool.false_and, Int.toNat_natCast, Int.reduceToNat, bI_s, bJ_s, bV_s, bR_s, decide_true, decide_false, not_true_eq_false, not_false_eq_true, dT, dF, w_al, w_la, w_ab, w_sl, w_sb, w_dec, w_ml, w_lm, ol2i_n, aup_ne, aupE, aupJ, setc_self, setc_ne, k256, eb2, sg]
def RcE (D E : Nat → Nat → Int) (T : Nat → TK) : Prop := TkR E T ∧ (∀ q, q ≠ 256 → q < 259 ∨ 262 < q → E q = D q) ∧ (∀ j, j ≠ 10 → E 256 j = D 256 j)
theorem cut_loop (xs : List Int) (d : Nat) {κ : aK} {D : Nat → Nat → Int} {n : Nat} {f : Nat → Int} (hκ : Shp κ) (hpD : PtrR D) (hq : KyR D) (hf : RtI D n f) : ∀ (r m : Nat) (E : Nat → Nat → Int) (u2 u3 u4 u5 u6 u7 : Option aV), m + r = 401 → RcI D E (tkT f n) m → psE f n m ≤ n → live (tkT f n) m → ∃ E', ev xs (d + 2) mm_197 7 [some (.inr (.inr 256)), some (.inl (psE f n m : Int)), u2, u3, u4, u5, u6, u7] [] (κ, E) = some (none, (κ, E')) ∧ RcE D E' (tkT f n)
  | 0, m, E, u2, u3, u4, u5, u6, u7, hm, hs, hp', hl => by
    have hm' : m = 401 := by omega
    subst hm'
    refine ⟨E, ?_, fun j hj _ => hs.2.2.2 j (by omega), hs.1, hs.2.1⟩
    rw [q_197_7]
    simp (disch := omega) only [cond_true, cond_false, Bool.and_true, Bool.true_and, Bool.and_false, Bool.false_and, Int.toNat_natCast, Int.reduceToNat, bI_s, bJ_s, bV_s, bR_s, decide_true, decide_false, not_true_eq_false, not_false_eq_true, dT, dF, w_al, w_la, w_ab, w_sl, w_sb, w_dec, w_ml, w_lm, ol2i_n, aup_ne, aupE, aupJ, setc_self, setc_ne, k_256 hκ, hs.2.2.1]
  | r + 1, m, E, u2, u3, u4, u5, u6, u7, hm, hs, hp', hl => by
    have hn := hf.1
    have k256 := k_256 hκ
    have hp := hs.ptr hpD
    have hfE : RtI E n f := ⟨hn, (hs.2.1 4 (by decide)).trans hf.2.1, fun j hj => by rw [hs.1 258 (by decide) (by omega)]; exact hf.2.2 j hj⟩
    obtain ⟨u2', sb⟩ := rblank xs (d + 1) hκ hp hfE hs.2.2.1 (by omega) u3 u4 u5 u6 u7 (n - psE f n m) (psE f n m) u2 rfl hp'
    rw [sb]
    by_cases hi : skp f n (psE f n m) < n
    · obtain ⟨E1, a2, a3, a4, a5, a6, a7, t1, t2⟩ := rtok1 xs d hκ hpD hq hf hs (by omega) hi u2' u3 u4 u5 u6 u7
      have hk : ¬ tkK (tkT f n m) = 0 := by
        rw [show tkT f n m = (tkAt f n (skp f n (psE f n m))).1 from if_pos hi]
        exact (tkAt_k _ _ _).2
      obtain ⟨E', i1, i2⟩ := cut_loop xs d hκ hpD hq hf r (m + 1) E1 a2 a3 a4 a5 a6 a7 (by omega) t2 (psE_le hi) (live_s hl hk)
      exact ⟨E', t1.trans i1, i2⟩
    · have eT : tkT f n m = (0, n, [], 0) := if_neg hi
      have hsk := skp_le (f := f) (n := n) (i := psE f n m) hp'
      obtain ⟨E', q1, q2⟩ := rtok_eq xs (d + 1) hκ hpD hs (by omega) (k := 0) (p := (n : Int)) (v := 0) (w := 0) (by rw [eT]; rfl) (by rw [eT]; rfl) (fun e => by rw [eT] at e; exact absurd e (by show ¬ 0 = 3; decide)) (fun e => by rw [eT] at e; exact absurd e (by show ¬ 0 = 2; decide))
      refine ⟨E', ?_, fun j hj hlj => ?_, q2.1, q2.2.1⟩
      · have eb := byteAt_eq xs (d + 1) hκ hp hfE (i := skp f n (psE f n m)) (by omega) rfl
        have f2 := hfE.2.1
        rw [q_197_7, eb]
        simp (disch := omega) only [cond_true, cond_false, Bool.and_true, Bool.true_and, Bool.and_false, Bool.false_and, Int.toNat_natCast, Int.reduceToNat, bI_s, bJ_s, bV_s, bR_s, decide_true, decide_false, not_true_eq_false, not_false_eq_true, dT, dF, w_al, w_la, w_ab, w_sl, w_sb, w_dec, w_ml, w_lm, ol2i_n, aup_ne, aupE, aupJ, setc_self, setc_ne, k256, hs.2.2.1, f2, q1]
      · have : j ≤ m := by
          by_cases hjm : j ≤ m
          · exact hjm
          · exact absurd (show tkK (tkT f n m) = 0 by rw [eT]; rfl) (hlj m (by omega))
        exact q2.2.2.2 j (by omega)
theorem cut_eq (xs : List Int) (d : Nat) {κ : aK} {D : Nat → Nat → Int} {n : Nat} {f : Nat → Int} (hκ : Shp κ) (hpD : PtrR D) (hq : KyR D) (hf : RtI D n f) : ∃ E', cl xs (d + 3) 197 [.inr (.inr 256)] (κ, D) = some (none, (κ, E')) ∧ RcE D E' (tkT f n) := by
  have hs : RcI D (aup D 256 10 0) (tkT f n) 0 := ⟨fun q hq' _ => aupN hq', fun j hj => aupJ hj, by rw [aupE]; rfl, fun j hj => absurd hj (Nat.not_lt_zero j)⟩
  obtain ⟨E', i1, i2⟩ := cut_loop xs d hκ hpD hq hf 401 0 (aup D 256 10 0) none none none none none none rfl hs (Nat.zero_le _) (live_0 _)
  refine ⟨E', ?_, i2⟩
  rw [c_197]
  simp (disch := omega) only [cond_true, cond_false, Bool.and_true, Bool.true_and, Bool.and_false, Bool.false_and, Int.toNat_natCast, Int.reduceToNat, bI_s, bJ_s, bV_s, bR_s, decide_true, decide_false, not_true_eq_false, not_false_eq_true, dT, dF, w_al, w_la, w_ab, w_sl, w_sb, w_dec, w_ml, w_lm, ol2i_n, aup_ne, aupE, aupJ, setc_self, setc_ne, k_256 hκ]
  exact i1
