/-! The class scans the tape. -/
theorem ptrd_c {r k : Nat} (h : ptrd r k = true) : ptrc r = true := by
  unfold ptrd at h
  obtain ⟨p, hp, e⟩ := List.any_eq_true.mp h
  rw [Bool.and_eq_true] at e
  exact List.any_eq_true.mpr ⟨p, hp, e.1⟩
set_option maxRecDepth 100000 in
theorem pd_scan : ptrd 2 0 = false ∧ ptrc 3 = false ∧ ptrc 4 = false ∧ ptrc 5 = false ∧ ptrd 2 4 = false ∧ ptrd 2 5 = false ∧ ptrd 2 7 = false ∧ ptrc 7 = false ∧ ptrd 8 0 = false ∧ ptrd 8 1 = false ∧ ptrd 8 3 = false := by decide
def tkc (E : Nat → Nat → Int) (T : Nat → TK) (j : Nat) : Prop := E 3 j = (tkK (T j) : Int) ∧ E 4 j = (tkP (T j) : Int) ∧ (tkK (T j) = 2 → E 5 j = (p32 (tkN (T j)) : Int)) ∧ (tkK (T j) = 3 → E 5 j = (tkV (T j) : Int))
def ScI (D E : Nat → Nat → Int) (T : Nat → TK) (m : Nat) : Prop := (∀ q, q < 2 ∨ 5 < q → E q = D q) ∧ (∀ j, j ≠ 0 → E 2 j = D 2 j) ∧ E 2 0 = (m : Int) ∧ ∀ j, j < m → tkc E T j
theorem ScI.ptr {D E : Nat → Nat → Int} {T : Nat → TK} {m : Nat} (h : ScI D E T m) (hc : CPtr D) : CPtr E := by
  obtain ⟨p1, p2, p3, p4, _⟩ := pd_scan
  refine hc.congr (fun r k hr => ?_)
  have hc' := ptrd_c hr
  by_cases h2 : r = 2
  · subst h2
    refine h.2.1 k (fun e => ?_)
    subst e
    rw [p1] at hr
    cases hr
  · rw [h.1 r ?_]
    by_cases h3 : r = 3
    · subst h3; rw [p2] at hc'; cases hc'
    · by_cases h4 : r = 4
      · subst h4; rw [p3] at hc'; cases hc'
      · by_cases h5 : r = 5
        · subst h5; rw [p4] at hc'; cases hc'
        · omega
theorem sput_eq (xs : List Int) (d : Nat) {κ : aK} {D : Nat → Nat → Int} {E : Nat → Nat → Int} (hκ : Shp κ) (hc : CPtr D) {T : Nat → TK} {m : Nat} (h : ScI D E T m) (hm : m ≤ 401) {k p v : Int} (e1 : k = (tkK (T m) : Int)) (e2 : p = (tkP (T m) : Int)) (e3 : tkK (T m) = 2 → v = (p32 (tkN (T m)) : Int)) (e4 : tkK (T m) = 3 → v = (tkV (T m) : Int)) : ∃ E', cl xs (d + 1) 41 [.inr (.inr ((2 : Nat) : Int)), .inl k, .inl p, .inr (.inl v)] (κ, E) = some (none, (κ, E')) ∧ ScI D E' T (m + 1) := by
  have hcE := h.ptr hc
  obtain ⟨h1, h2, h3, h4⟩ := h
  refine ⟨aup (aup (aup (aup E 3 m k) 4 m p) 5 m v) 2 0 ((m + 1 : Nat) : Int), ?_, fun q hq => ?_, fun j hj => ?_, ?_, fun j hj => ?_⟩
  · rw [c_41]
    simp (disch := omega) only [cond_true, cond_false, Bool.and_true, Bool.true_and, Bool.and_false, Bool.false_and, Int.toNat_natCast, Int.reduceToNat, bI_s, bJ_s, bV_s, bR_s, decide_true, decide_false, not_true_eq_false, not_false_eq_true, dT, dF, w_al, w_la, w_ab, w_sl, w_sb, w_dec, w_ml, w_lm, ol2i_n, aup_ne, aupE, aupJ, setc_self, setc_ne, kc_2 hκ, pc_2_1 hcE, pc_2_2 hcE, pc_2_3 hcE, aoa_s hκ 3 (n := 402) (by decide) rfl (by decide), aln_s hκ 3 (n := 402) (by decide) rfl, h3, nc_3 hκ, nc_4 hκ, nc_5 hκ]
    rw [q_41_42]
    simp (disch := omega) only [cond_true, cond_false, Bool.and_true, Bool.true_and, Bool.and_false, Bool.false_and, Int.toNat_natCast, Int.reduceToNat, bI_s, bJ_s, bV_s, bR_s, decide_true, decide_false, not_true_eq_false, not_false_eq_true, dT, dF, w_al, w_la, w_ab, w_sl, w_sb, w_dec, w_ml, w_lm, ol2i_n, aup_ne, aupE, aupJ, setc_self, setc_ne, kc_2 hκ, h3]
  · rw [aupN (by omega), aupN (by omega), aupN (by omega), aupN (by omega)]
    exact h1 q hq
  · rw [aupJ hj, aupN (by decide), aupN (by decide), aupN (by decide)]
    exact h2 j hj
  · rw [aupE]
  · unfold tkc
    by_cases hjm : j = m
    · subst hjm
      simp (disch := omega) only [aup_ne, aupE, aupJ]
      exact ⟨e1, e2, e3, e4⟩
    · simp (disch := omega) only [aup_ne, aupE, aupJ]
      exact h4 j (by omega)
theorem sblank (xs : List Int) (d : Nat) {κ : aK} {D : Nat → Nat → Int} {n : Nat} (hκ : Shp κ) (hn : n ≤ 2000) {f : Nat → Int} (hf : ∀ j, j < n → D 1 j = f j) (u : Int) : ∀ (m i : Nat), n - i = m → i ≤ n → ev xs d mm_42 2 [some (.inr (.inr ((1 : Nat) : Int))), some (.inl (n : Int)), some (.inl u), some (.inl (i : Int))] [] (κ, D) = some (some (.inl (skp f n i : Int)), (κ, D))
  | 0, i, hm, hi => by
    have e : skp f n i = i := by unfold skp; rw [hm]; rfl
    rw [e, q_42_2]
    simp (disch := omega) only [cond_true, cond_false, Bool.and_true, Bool.true_and, Bool.and_false, Bool.false_and, Int.toNat_natCast, Int.reduceToNat, bI_s, bJ_s, bV_s, bR_s, decide_true, decide_false, not_true_eq_false, not_false_eq_true, dT, dF, w_al, w_la, w_ab, w_sl, w_sb, w_dec, w_ml, w_lm, ol2i_n, aup_ne, aupE, aupJ, setc_self, setc_ne]
  | m + 1, i, hm, hi => by
    have ih := sblank xs d hκ hn hf u m (i + 1) (by omega) (by omega)
    have e0 := hf i (by omega)
    have n1 := nc_1 hκ (i := (i : Int)) (by omega) (by omega)
    have hstep : isBl (f i) = true → skp f n i = skp f n (i + 1) := fun h => by
      unfold skp
      rw [hm, show n - (i + 1) = m by omega, show rlen isBl f (m + 1) i = rlen isBl f m (i + 1) + 1 from if_pos h]
      omega
    rw [q_42_2]
    by_cases h : isBl (f i) = true
    · rw [hstep h, ← ih]
      rcases isBl_iff.mp h with h | h | h | h
      · simp (disch := omega) only [cond_true, cond_false, Bool.and_true, Bool.true_and, Bool.and_false, Bool.false_and, Int.toNat_natCast, Int.reduceToNat, bI_s, bJ_s, bV_s, bR_s, decide_true, decide_false, not_true_eq_false, not_false_eq_true, dT, dF, w_al, w_la, w_ab, w_sl, w_sb, w_dec, w_ml, w_lm, ol2i_n, aup_ne, aupE, aupJ, setc_self, setc_ne, n1, e0, h]
      · simp (disch := omega) only [cond_true, cond_false, Bool.and_true, Bool.true_and, Bool.and_false, Bool.false_and, Int.toNat_natCast, Int.reduceToNat, bI_s, bJ_s, bV_s, bR_s, decide_true, decide_false, not_true_eq_false, not_false_eq_true, dT, dF, w_al, w_la, w_ab, w_sl, w_sb, w_dec, w_ml, w_lm, ol2i_n, aup_ne, aupE, aupJ, setc_self, setc_ne, n1, e0, h]
      · simp (disch := omega) only [cond_true, cond_false, Bool.and_true, Bool.true_and, Bool.and_false, Bool.false_and, Int.toNat_natCast, Int.reduceToNat, bI_s, bJ_s, bV_s, bR_s, decide_true, decide_false, not_true_eq_false, not_false_eq_true, dT, dF, w_al, w_la, w_ab, w_sl, w_sb, w_dec, w_ml, w_lm, ol2i_n, aup_ne, aupE, aupJ, setc_self, setc_ne, n1, e0, h]
      · simp (disch := omega) only [cond_true, cond_false, Bool.and_true, Bool.true_and, Bool.and_false, Bool.false_and, Int.toNat_natCast, Int.reduceToNat, bI_s, bJ_s, bV_s, bR_s, decide_true, decide_false, not_true_eq_false, not_false_eq_true, dT, dF, w_al, w_la, w_ab, w_sl, w_sb, w_dec, w_ml, w_lm, ol2i_n, aup_ne, aupE, aupJ, setc_self, setc_ne, n1, e0, h]
    · have e : skp f n i = i := by
        unfold skp
        rw [hm, show rlen isBl f (m + 1) i = 0 from if_neg h]
        rfl
      have h' : ¬ (f i = 9 ∨ f i = 10 ∨ f i = 13 ∨ f i = 32) := fun q => h (isBl_iff.mpr q)
      rw [e]
      simp (disch := omega) only [cond_true, cond_false, Bool.and_true, Bool.true_and, Bool.and_false, Bool.false_and, Int.toNat_natCast, Int.reduceToNat, bI_s, bJ_s, bV_s, bR_s, decide_true, decide_false, not_true_eq_false, not_false_eq_true, dT, dF, w_al, w_la, w_ab, w_sl, w_sb, w_dec, w_ml, w_lm, ol2i_n, aup_ne, aupE, aupJ, setc_self, setc_ne, n1, e0]
theorem or_snoc {l : List Nat} (hw : wv l) (hl : l.length ≤ 7) {x : Nat} (hx : x ≤ 26) : olor (p32 l : Int) (olshl (x : Int) ((5 * l.length : Nat) : Int)) = ((p32 (l ++ [x]) : Nat) : Int) := by
  have hwacc := p32_lt _ hw
  have h8 : 32 ^ l.length ≤ 32 ^ 7 := Nat.pow_le_pow_right (by decide) hl
  have e7 : (32 : Nat) ^ 7 = 34359738368 := by decide
  have hsn := p32_snoc l x
  have hsh : x * 2 ^ (5 * l.length) = 32 ^ l.length * x := by rw [pow32_eq, Nat.mul_comm]
  have hmul : 32 ^ l.length * x ≤ 34359738368 * 26 := Nat.mul_le_mul (by omega) hx
  rw [olshl_nat (by omega) (by rw [hsh]; omega), hsh, olor_nat (by omega) (by omega), hsn, Nat.or_comm, ← pow32_eq, ← Nat.two_pow_add_eq_or_of_lt (by rw [pow32_eq]; exact hwacc), Nat.add_comm]
theorem cisL (xs : List Int) (d : Nat) (h : aH) (x : Int) : cl xs (d + 1) 44 [.inl x] h = some (some (.inl (if isLt x = true then 1 else 0)), h) := by
  rw [c_44]
  by_cases h1 : isLt x = true
  · have := isLt_iff.mp h1
    rw [if_pos h1]
    simp (disch := omega) only [cond_true, cond_false, Bool.and_true, Bool.true_and, Bool.and_false, Bool.false_and, Int.toNat_natCast, Int.reduceToNat, bI_s, bJ_s, bV_s, bR_s, decide_true, decide_false, not_true_eq_false, not_false_eq_true, dT, dF, w_al, w_la, w_ab, w_sl, w_sb, w_dec, w_ml, w_lm, ol2i_n, aup_ne, aupE, aupJ, setc_self, setc_ne]
  · have h2 : ¬ (97 ≤ x ∧ x ≤ 122) := fun q => h1 (isLt_iff.mpr q)
    rw [if_neg h1]
    by_cases h3 : x < 97
    · simp (disch := omega) only [cond_true, cond_false, Bool.and_true, Bool.true_and, Bool.and_false, Bool.false_and, Int.toNat_natCast, Int.reduceToNat, bI_s, bJ_s, bV_s, bR_s, decide_true, decide_false, not_true_eq_false, not_false_eq_true, dT, dF, w_al, w_la, w_ab, w_sl, w_sb, w_dec, w_ml, w_lm, ol2i_n, aup_ne, aupE, aupJ, setc_self, setc_ne]
    · simp (disch := omega) only [cond_true, cond_false, Bool.and_true, Bool.true_and, Bool.and_false, Bool.false_and, Int.toNat_natCast, Int.reduceToNat, bI_s, bJ_s, bV_s, bR_s, decide_true, decide_false, not_true_eq_false, not_false_eq_true, dT, dF, w_al, w_la, w_ab, w_sl, w_sb, w_dec, w_ml, w_lm, ol2i_n, aup_ne, aupE, aupJ, setc_self, setc_ne]
theorem cisD (xs : List Int) (d : Nat) (h : aH) (x : Int) : cl xs (d + 1) 45 [.inl x] h = some (some (.inl (if isDg x = true then 1 else 0)), h) := by
  rw [c_45]
  by_cases h1 : isDg x = true
  · have := isDg_iff.mp h1
    rw [if_pos h1]
    simp (disch := omega) only [cond_true, cond_false, Bool.and_true, Bool.true_and, Bool.and_false, Bool.false_and, Int.toNat_natCast, Int.reduceToNat, bI_s, bJ_s, bV_s, bR_s, decide_true, decide_false, not_true_eq_false, not_false_eq_true, dT, dF, w_al, w_la, w_ab, w_sl, w_sb, w_dec, w_ml, w_lm, ol2i_n, aup_ne, aupE, aupJ, setc_self, setc_ne]
  · have h2 : ¬ (48 ≤ x ∧ x ≤ 57) := fun q => h1 (isDg_iff.mpr q)
    rw [if_neg h1]
    by_cases h3 : x < 48
    · simp (disch := omega) only [cond_true, cond_false, Bool.and_true, Bool.true_and, Bool.and_false, Bool.false_and, Int.toNat_natCast, Int.reduceToNat, bI_s, bJ_s, bV_s, bR_s, decide_true, decide_false, not_true_eq_false, not_false_eq_true, dT, dF, w_al, w_la, w_ab, w_sl, w_sb, w_dec, w_ml, w_lm, ol2i_n, aup_ne, aupE, aupJ, setc_self, setc_ne]
    · simp (disch := omega) only [cond_true, cond_false, Bool.and_true, Bool.true_and, Bool.and_false, Bool.false_and, Int.toNat_natCast, Int.reduceToNat, bI_s, bJ_s, bV_s, bR_s, decide_true, decide_false, not_true_eq_false, not_false_eq_true, dT, dF, w_al, w_la, w_ab, w_sl, w_sb, w_dec, w_ml, w_lm, ol2i_n, aup_ne, aupE, aupJ, setc_self, setc_ne]
theorem sname_loop (xs : List Int) (d : Nat) {κ : aK} {D : Nat → Nat → Int} {n : Nat} (hκ : Shp κ) (hn : n ≤ 2000) {f : Nat → Int} (hf : ∀ j, j < n → D 1 j = f j) {i : Nat} : ∀ (m k : Nat) (u5 : Option aV), n - (i + k) = m → i + k ≤ n → (∀ j, j < k → isLt (f (i + j)) = true) → ∃ u5', ev xs (d + 1) mm_46 6 [some (.inr (.inr ((2 : Nat) : Int))), some (.inr (.inr ((1 : Nat) : Int))), some (.inl (n : Int)), some (.inl (i : Int)), some (.inr (.inl (p32 (ltn f i (min k 8)) : Int))), u5, some (.inl ((i + k : Nat) : Int))] [] (κ, D) = ev xs (d + 1) mm_46 59 [some (.inr (.inr ((2 : Nat) : Int))), some (.inr (.inr ((1 : Nat) : Int))), some (.inl (n : Int)), some (.inl (i : Int)), some (.inr (.inl (p32 (ltn f i (min (k + rlen isLt f m (i + k)) 8)) : Int))), u5', some (.inl ((i + (k + rlen isLt f m (i + k)) : Nat) : Int))] [] (κ, D)
  | 0, k, u5, hm, hi, hall => by
    refine ⟨u5, ?_⟩
    rw [q_46_6]
    show _ = ev xs (d + 1) mm_46 59 [_, _, _, _, some (.inr (.inl (p32 (ltn f i (min k 8)) : Int))), u5, some (.inl ((i + k : Nat) : Int))] [] (κ, D)
    simp (disch := omega) only [cond_true, cond_false, Bool.and_true, Bool.true_and, Bool.and_false, Bool.false_and, Int.toNat_natCast, Int.reduceToNat, bI_s, bJ_s, bV_s, bR_s, decide_true, decide_false, not_true_eq_false, not_false_eq_true, dT, dF, w_al, w_la, w_ab, w_sl, w_sb, w_dec, w_ml, w_lm, ol2i_n, aup_ne, aupE, aupJ, setc_self, setc_ne]
  | m + 1, k, u5, hm, hi, hall => by
    have e0 := hf (i + k) (by omega)
    have n1 := nc_1 hκ (i := ((i + k : Nat) : Int)) (by omega) (by omega)
    rw [q_46_6]
    by_cases h : isLt (f (i + k)) = true
    · have hr : rlen isLt f (m + 1) (i + k) = rlen isLt f m (i + (k + 1)) + 1 := if_pos h
      have hl := isLt_iff.mp h
      have e_b : w32 (((i + k : Nat) : Int) - (i : Int)) = (k : Int) := by rw [w32_id (by omega) (by omega)]; omega
      have hall' : ∀ j, j < k + 1 → isLt (f (i + j)) = true := fun j hj => by
        by_cases e : j = k
        · rw [e]; exact h
        · exact hall j (by omega)
      by_cases h8 : 8 ≤ k
      · obtain ⟨u', ih⟩ := sname_loop xs d hκ hn hf m (k + 1) (acl u5) (by omega) (by omega) hall'
        refine ⟨u', ?_⟩
        rw [hr, show k + (rlen isLt f m (i + (k + 1)) + 1) = k + 1 + rlen isLt f m (i + (k + 1)) by omega, ← ih, show min (k + 1) 8 = min k 8 by omega]
        simp (disch := omega) only [cond_true, cond_false, Bool.and_true, Bool.true_and, Bool.and_false, Bool.false_and, Int.toNat_natCast, Int.reduceToNat, bI_s, bJ_s, bV_s, bR_s, decide_true, decide_false, not_true_eq_false, not_false_eq_true, dT, dF, w_al, w_la, w_ab, w_sl, w_sb, w_dec, w_ml, w_lm, ol2i_n, aup_ne, aupE, aupJ, setc_self, setc_ne, n1, e0, cisL xs d, h, if_true, e_b]
        rw [show i + k + 1 = i + (k + 1) by omega]
      · obtain ⟨u', ih⟩ := sname_loop xs d hκ hn hf m (k + 1) none (by omega) (by omega) hall'
        refine ⟨u', ?_⟩
        have e_a : w32 (w32 (f (i + k) - 97) + 1) = (((f (i + k) - 96).toNat : Nat) : Int) := by
          rw [w32_id (x := f (i + k) - 97) (by omega) (by omega), w32_id (by omega) (by omega)]; omega
        have e_c : w32 (5 * (k : Int)) = ((5 * (ltn f i k).length : Nat) : Int) := by
          rw [ltn_len, w32_id (by omega) (by omega)]; omega
        have e_d := or_snoc (ltn_wv k hall) (by rw [ltn_len]; omega) (x := (f (i + k) - 96).toNat) (by omega)
        rw [hr, show k + (rlen isLt f m (i + (k + 1)) + 1) = k + 1 + rlen isLt f m (i + (k + 1)) by omega, ← ih, show min (k + 1) 8 = k + 1 by omega, show min k 8 = k by omega]
        simp (disch := omega) only [cond_true, cond_false, Bool.and_true, Bool.true_and, Bool.and_false, Bool.false_and, Int.toNat_natCast, Int.reduceToNat, bI_s, bJ_s, bV_s, bR_s, decide_true, decide_false, not_true_eq_false, not_false_eq_true, dT, dF, w_al, w_la, w_ab, w_sl, w_sb, w_dec, w_ml, w_lm, ol2i_n, aup_ne, aupE, aupJ, setc_self, setc_ne, n1, e0, cisL xs d, h, if_true, e_b, e_a, e_c, e_d]
        rw [show i + k + 1 = i + (k + 1) by omega]
        rfl
    · refine ⟨u5, ?_⟩
      have hr : rlen isLt f (m + 1) (i + k) = 0 := if_neg h
      rw [hr]
      show _ = ev xs (d + 1) mm_46 59 [_, _, _, _, some (.inr (.inl (p32 (ltn f i (min k 8)) : Int))), u5, some (.inl ((i + k : Nat) : Int))] [] (κ, D)
      simp (disch := omega) only [cond_true, cond_false, Bool.and_true, Bool.true_and, Bool.and_false, Bool.false_and, Int.toNat_natCast, Int.reduceToNat, bI_s, bJ_s, bV_s, bR_s, decide_true, decide_false, not_true_eq_false, not_false_eq_true, dT, dF, w_al, w_la, w_ab, w_sl, w_sb, w_dec, w_ml, w_lm, ol2i_n, aup_ne, aupE, aupJ, setc_self, setc_ne, n1, e0, cisL xs d, h, Bool.false_eq_true, if_false]
/-- the class's quoted words -/
def QwC (D : Nat → Nat → Int) : Prop := ∀ q, q < 24 → D 6 q = (p32 (qwL.getD q []) : Int)
theorem drop_getD {α : Type} {l : List α} {q : Nat} {e : α} (h : q < l.length) : l.drop q = l.getD q e :: l.drop (q + 1) := by
  rw [List.getD_eq_getElem?_getD, List.getElem?_eq_getElem h, Option.getD_some]
  exact List.drop_eq_getElem_cons h
theorem skind_loop (xs : List Int) (d : Nat) {κ : aK} {D : Nat → Nat → Int} (hκ : Shp κ) (hc : CPtr D) (hq : QwC D) {l : List Nat} (hl : wv l) : ∀ (m q : Nat) (u2 : Option aV), q + m = 24 → ev xs d mm_47 2 [some (.inr (.inr ((2 : Nat) : Int))), some (.inr (.inl (p32 l : Int))), u2, some (.inl (q : Int))] [] (κ, D) = some (some (.inl (kqi l (qwL.drop q) q : Int)), (κ, D))
  | 0, q, u2, hm => by
    rw [q_47_2, List.drop_eq_nil_of_le (show qwL.length ≤ q by rw [show qwL.length = 24 from rfl]; omega)]
    simp (disch := omega) only [cond_true, cond_false, Bool.and_true, Bool.true_and, Bool.and_false, Bool.false_and, Int.toNat_natCast, Int.reduceToNat, bI_s, bJ_s, bV_s, bR_s, decide_true, decide_false, not_true_eq_false, not_false_eq_true, dT, dF, w_al, w_la, w_ab, w_sl, w_sb, w_dec, w_ml, w_lm, ol2i_n, aup_ne, aupE, aupJ, setc_self, setc_ne]
    rfl
  | m + 1, q, u2, hm => by
    have ih := skind_loop xs d hκ hc hq hl m (q + 1) (acl u2) (by omega)
    have hlen : q < qwL.length := by rw [show qwL.length = 24 from rfl]; omega
    have hmem : qwL.getD q [] ∈ qwL := by
      rw [List.getD_eq_getElem?_getD, List.getElem?_eq_getElem hlen, Option.getD_some]
      exact List.getElem_mem hlen
    rw [q_47_2, drop_getD (e := []) hlen]
    have hkq : kqi l (qwL.getD q [] :: qwL.drop (q + 1)) q = (if qwL.getD q [] = l then 128 + q else kqi l (qwL.drop (q + 1)) (q + 1)) := rfl
    rw [hkq]
    have k2 := kc_2 hκ
    have n6 := nc_6 hκ (i := (q : Int)) (by omega) (by omega)
    have e6 := hq q (by omega)
    by_cases h : qwL.getD q [] = l
    · rw [if_pos h]
      have hz : olcmp (p32 (qwL.getD q []) : Int) (p32 l : Int) = 0 := olcmp_eq.mpr (by rw [h])
      simp (disch := omega) only [cond_true, cond_false, Bool.and_true, Bool.true_and, Bool.and_false, Bool.false_and, Int.toNat_natCast, Int.reduceToNat, bI_s, bJ_s, bV_s, bR_s, decide_true, decide_false, not_true_eq_false, not_false_eq_true, dT, dF, w_al, w_la, w_ab, w_sl, w_sb, w_dec, w_ml, w_lm, ol2i_n, aup_ne, aupE, aupJ, setc_self, setc_ne, k2, n6, pc_2_6 hc, e6, hz]
    · rw [if_neg h]
      have hz : ¬ olcmp (p32 (qwL.getD q []) : Int) (p32 l : Int) = 0 := fun e => h (p32_inj (qw_prop _ hmem).2 hl (by have := olcmp_eq.mp e; omega))
      rw [← ih]
      simp (disch := omega) only [cond_true, cond_false, Bool.and_true, Bool.true_and, Bool.and_false, Bool.false_and, Int.toNat_natCast, Int.reduceToNat, bI_s, bJ_s, bV_s, bR_s, decide_true, decide_false, not_true_eq_false, not_false_eq_true, dT, dF, w_al, w_la, w_ab, w_sl, w_sb, w_dec, w_ml, w_lm, ol2i_n, aup_ne, aupE, aupJ, setc_self, setc_ne, k2, n6, pc_2_6 hc, e6, hz]
theorem skind_eq (xs : List Int) (d : Nat) {κ : aK} {D : Nat → Nat → Int} (hκ : Shp κ) (hc : CPtr D) (hq : QwC D) {l : List Nat} (hl : wv l) : cl xs (d + 1) 47 [.inr (.inr ((2 : Nat) : Int)), .inr (.inl (p32 l : Int))] (κ, D) = some (some (.inl (kqi l qwL 0 : Int)), (κ, D)) := by
  rw [c_47]
  exact skind_loop xs d hκ hc hq hl 24 0 none rfl
theorem snum_loop (xs : List Int) (d : Nat) {κ : aK} {D : Nat → Nat → Int} {n : Nat} (hκ : Shp κ) (hn : n ≤ 2000) {f : Nat → Int} (hf : ∀ j, j < n → D 1 j = f j) {i : Nat} : ∀ (m k : Nat), n - (i + k) = m → i + k ≤ n → (∀ j, j < k → isDg (f (i + j)) = true) → ev xs (d + 1) mm_48 6 [some (.inr (.inr ((2 : Nat) : Int))), some (.inr (.inr ((1 : Nat) : Int))), some (.inl (n : Int)), some (.inl (i : Int)), some (.inl (nmb f i (min k 4) : Int)), some (.inl ((i + k : Nat) : Int))] [] (κ, D) = ev xs (d + 1) mm_48 65 [some (.inr (.inr ((2 : Nat) : Int))), some (.inr (.inr ((1 : Nat) : Int))), some (.inl (n : Int)), some (.inl (i : Int)), some (.inl (nmb f i (min (k + rlen isDg f m (i + k)) 4) : Int)), some (.inl ((i + (k + rlen isDg f m (i + k)) : Nat) : Int))] [.inl (if 4 < k + rlen isDg f m (i + k) then 1 else 3), .inr (.inr ((2 : Nat) : Int))] (κ, D)
  | 0, k, hm, hi, hall => by
    have e_b : w32 (((i + k : Nat) : Int) - (i : Int)) = (k : Int) := by rw [w32_id (by omega) (by omega)]; omega
    rw [q_48_6]
    show _ = ev xs (d + 1) mm_48 65 [_, _, _, _, some (.inl (nmb f i (min k 4) : Int)), some (.inl ((i + k : Nat) : Int))] [.inl (if 4 < k then 1 else 3), .inr (.inr ((2 : Nat) : Int))] (κ, D)
    by_cases h4 : 4 < k
    · rw [if_pos h4]
      simp (disch := omega) only [cond_true, cond_false, Bool.and_true, Bool.true_and, Bool.and_false, Bool.false_and, Int.toNat_natCast, Int.reduceToNat, bI_s, bJ_s, bV_s, bR_s, decide_true, decide_false, not_true_eq_false, not_false_eq_true, dT, dF, w_al, w_la, w_ab, w_sl, w_sb, w_dec, w_ml, w_lm, ol2i_n, aup_ne, aupE, aupJ, setc_self, setc_ne, e_b]
    · rw [if_neg h4]
      simp (disch := omega) only [cond_true, cond_false, Bool.and_true, Bool.true_and, Bool.and_false, Bool.false_and, Int.toNat_natCast, Int.reduceToNat, bI_s, bJ_s, bV_s, bR_s, decide_true, decide_false, not_true_eq_false, not_false_eq_true, dT, dF, w_al, w_la, w_ab, w_sl, w_sb, w_dec, w_ml, w_lm, ol2i_n, aup_ne, aupE, aupJ, setc_self, setc_ne, e_b]
  | m + 1, k, hm, hi, hall => by
    have e0 := hf (i + k) (by omega)
    have n1 := nc_1 hκ (i := ((i + k : Nat) : Int)) (by omega) (by omega)
    have e_b : w32 (((i + k : Nat) : Int) - (i : Int)) = (k : Int) := by rw [w32_id (by omega) (by omega)]; omega
    rw [q_48_6]
    by_cases h : isDg (f (i + k)) = true
    · have hr : rlen isDg f (m + 1) (i + k) = rlen isDg f m (i + (k + 1)) + 1 := if_pos h
      have hl := isDg_iff.mp h
      have hall' : ∀ j, j < k + 1 → isDg (f (i + j)) = true := fun j hj => by
        by_cases e : j = k
        · rw [e]; exact h
        · exact hall j (by omega)
      have ih := snum_loop xs d hκ hn hf m (k + 1) (by omega) (by omega) hall'
      rw [hr, show k + (rlen isDg f m (i + (k + 1)) + 1) = k + 1 + rlen isDg f m (i + (k + 1)) by omega, ← ih]
      by_cases h8 : 4 ≤ k
      · rw [show min (k + 1) 4 = min k 4 by omega]
        simp (disch := omega) only [cond_true, cond_false, Bool.and_true, Bool.true_and, Bool.and_false, Bool.false_and, Int.toNat_natCast, Int.reduceToNat, bI_s, bJ_s, bV_s, bR_s, decide_true, decide_false, not_true_eq_false, not_false_eq_true, dT, dF, w_al, w_la, w_ab, w_sl, w_sb, w_dec, w_ml, w_lm, ol2i_n, aup_ne, aupE, aupJ, setc_self, setc_ne, n1, e0, cisD xs d, h, if_true, e_b]
        rw [show i + k + 1 = i + (k + 1) by omega]
      · have hnm := nmb_lt k hall
        have hp : 10 ^ k ≤ 10 ^ 3 := Nat.pow_le_pow_right (by decide) (by omega)
        have e_a : w32 (w32 (((nmb f i k * 10 : Nat) : Int) + f (i + k)) - 48) = ((nmb f i (k + 1) : Nat) : Int) := by
          show _ = ((nmb f i k * 10 + (f (i + k) - 48).toNat : Nat) : Int)
          rw [w32_id (x := _ + _) (by omega) (by omega), w32_id (by omega) (by omega)]; omega
        rw [show min (k + 1) 4 = k + 1 by omega, show min k 4 = k by omega]
        simp (disch := omega) only [cond_true, cond_false, Bool.and_true, Bool.true_and, Bool.and_false, Bool.false_and, Int.toNat_natCast, Int.reduceToNat, bI_s, bJ_s, bV_s, bR_s, decide_true, decide_false, not_true_eq_false, not_false_eq_true, dT, dF, w_al, w_la, w_ab, w_sl, w_sb, w_dec, w_ml, w_lm, ol2i_n, aup_ne, aupE, aupJ, setc_self, setc_ne, n1, e0, cisD xs d, h, if_true, e_b, e_a]
        rw [show i + k + 1 = i + (k + 1) by omega]
    · have hr : rlen isDg f (m + 1) (i + k) = 0 := if_neg h
      rw [hr]
      show _ = ev xs (d + 1) mm_48 65 [_, _, _, _, some (.inl (nmb f i (min k 4) : Int)), some (.inl ((i + k : Nat) : Int))] [.inl (if 4 < k then 1 else 3), .inr (.inr ((2 : Nat) : Int))] (κ, D)
      by_cases h4 : 4 < k
      · rw [if_pos h4]
        simp (disch := omega) only [cond_true, cond_false, Bool.and_true, Bool.true_and, Bool.and_false, Bool.false_and, Int.toNat_natCast, Int.reduceToNat, bI_s, bJ_s, bV_s, bR_s, decide_true, decide_false, not_true_eq_false, not_false_eq_true, dT, dF, w_al, w_la, w_ab, w_sl, w_sb, w_dec, w_ml, w_lm, ol2i_n, aup_ne, aupE, aupJ, setc_self, setc_ne, n1, e0, cisD xs d, h, Bool.false_eq_true, if_false, e_b]
      · rw [if_neg h4]
        simp (disch := omega) only [cond_true, cond_false, Bool.and_true, Bool.true_and, Bool.and_false, Bool.false_and, Int.toNat_natCast, Int.reduceToNat, bI_s, bJ_s, bV_s, bR_s, decide_true, decide_false, not_true_eq_false, not_false_eq_true, dT, dF, w_al, w_la, w_ab, w_sl, w_sb, w_dec, w_ml, w_lm, ol2i_n, aup_ne, aupE, aupJ, setc_self, setc_ne, n1, e0, cisD xs d, h, Bool.false_eq_true, if_false, e_b]
theorem oi2c_id {x : Int} (h0 : 0 ≤ x) (h1 : x < 65536) : oi2c x = x := by
  obtain ⟨a, rfl⟩ := Int.eq_ofNat_of_zero_le h0
  unfold oi2c
  refine i32_of_nat _ (n := a) ?_ (by omega)
  show ((Int32.ofNat a).toUInt32 % 65536).toBitVec.toNat = a
  rw [UInt32.toBitVec_mod, BitVec.toNat_umod]
  have : (Int32.ofNat a).toUInt32.toBitVec.toNat = a := bv32 (by omega)
  rw [this]
  show a % 65536 = a
  omega
theorem aidx_sg {x : Nat} (hx : x < 128) : decide (aidx str1 (x : Int) 0 < 0) = !decide (x ∈ sgL) := by
  revert x
  decide +kernel
theorem stok_eq (xs : List Int) (d : Nat) {κ : aK} {D : Nat → Nat → Int} {E : Nat → Nat → Int} {n : Nat} (hκ : Shp κ) (hc : CPtr D) (hq : QwC D) (hn : n ≤ 2000) {f : Nat → Int} (hf : ∀ j, j < n → D 1 j = f j ∧ -128 ≤ f j ∧ f j ≤ 127) {m : Nat} (h : ScI D E (tkT f n) m) (hm : m ≤ 400) (hi : skp f n (psE f n m) < n) : ∃ E', cl xs (d + 10) 43 [.inr (.inr ((2 : Nat) : Int)), .inr (.inr ((1 : Nat) : Int)), .inl (n : Int), .inl (skp f n (psE f n m) : Int)] (κ, E) = some (some (.inl (psE f n (m + 1) : Int)), (κ, E')) ∧ ScI D E' (tkT f n) (m + 1) := by
  have hcE := h.ptr hc
  have hqE : QwC E := fun q hq' => by rw [h.1 6 (by omega)]; exact hq q hq'
  have hfE : ∀ j, j < n → E 1 j = f j := fun j hj => by rw [h.1 1 (by omega)]; exact (hf j hj).1
  have eT : tkT f n m = (tkAt f n (skp f n (psE f n m))).1 := if_pos hi
  have eP : psE f n (m + 1) = skp f n (psE f n m) + (tkAt f n (skp f n (psE f n m))).2 := rfl
  rw [eP]
  generalize skp f n (psE f n m) = i at *
  have e0 := hfE i hi
  have n1 := nc_1 hκ (i := (i : Int)) (by omega) (by omega)
  have hb := (hf i hi).2
  have hP : tkP (tkT f n m) = i := by rw [eT]; exact tkAt_p _ _ _
  by_cases h1 : isLt (f i) = true
  · have eA : tkAt f n i = ((if 8 < rlen isLt f (n - i) i then 1 else kqi (ltn f i (min (rlen isLt f (n - i) i) 8)) qwL 0, i, ltn f i (min (rlen isLt f (n - i) i) 8), 0), rlen isLt f (n - i) i) := if_pos h1
    have hrl := rlen_le (p := isLt) (f := f) (n - i) i
    have hall : ∀ j, j < rlen isLt f (n - i) i → isLt (f (i + j)) = true := fun j hj => rlen_p (n - i) i j hj
    have hN : tkN (tkT f n m) = ltn f i (min (rlen isLt f (n - i) i) 8) := by rw [eT, eA]; rfl
    have hK : tkK (tkT f n m) = if 8 < rlen isLt f (n - i) i then 1 else kqi (ltn f i (min (rlen isLt f (n - i) i) 8)) qwL 0 := by rw [eT, eA]; rfl
    obtain ⟨E', q1, q2⟩ := sput_eq xs (d + 7) hκ hc h (by omega) (k := ((tkK (tkT f n m) : Nat) : Int)) (p := (i : Int)) (v := (p32 (ltn f i (min (rlen isLt f (n - i) i) 8)) : Int)) rfl (by rw [hP]) (fun _ => by rw [hN]) (fun e => by
      rw [hK] at e
      split at e
      · omega
      · exact absurd e (kqi_kv _).2.2)
    refine ⟨E', ?_, q2⟩
    obtain ⟨u', lp⟩ := sname_loop xs (d + 7) hκ hn hfE (i := i) (n - i) 0 none (by omega) (by omega) (fun j hj => absurd hj (Nat.not_lt_zero j))
    simp only [Nat.zero_add, Nat.add_zero] at lp
    have sk := skind_eq xs (d + 7) hκ hcE hqE (ltn_wv (f := f) (i := i) (min (rlen isLt f (n - i) i) 8) (fun j hj => hall j (by omega)))
    have e_b : w32 (((i + rlen isLt f (n - i) i : Nat) : Int) - (i : Int)) = (rlen isLt f (n - i) i : Int) := by rw [w32_id (by omega) (by omega)]; omega
    have main : cl xs (d + 9) 46 [.inr (.inr ((2 : Nat) : Int)), .inr (.inr ((1 : Nat) : Int)), .inl (n : Int), .inl (i : Int)] (κ, E) = some (some (.inl ((i + rlen isLt f (n - i) i : Nat) : Int)), (κ, E')) := by
      rw [c_46]
      refine Eq.trans ?_ ((congrArg id lp).trans ?_)
      · rfl
      · show ev xs (d + 7 + 1) mm_46 59 _ _ _ = _
        rw [q_46_59]
        rw [hK] at q1
        by_cases h8 : 8 < rlen isLt f (n - i) i
        · rw [if_pos h8] at q1
          rw [show ((1 : Nat) : Int) = 1 from rfl] at q1
          simp (disch := omega) only [cond_true, cond_false, Bool.and_true, Bool.true_and, Bool.and_false, Bool.false_and, Int.toNat_natCast, Int.reduceToNat, bI_s, bJ_s, bV_s, bR_s, decide_true, decide_false, not_true_eq_false, not_false_eq_true, dT, dF, w_al, w_la, w_ab, w_sl, w_sb, w_dec, w_ml, w_lm, ol2i_n, aup_ne, aupE, aupJ, setc_self, setc_ne, e_b]
          rw [q_46_79]
          simp (disch := omega) only [cond_true, cond_false, Bool.and_true, Bool.true_and, Bool.and_false, Bool.false_and, Int.toNat_natCast, Int.reduceToNat, bI_s, bJ_s, bV_s, bR_s, decide_true, decide_false, not_true_eq_false, not_false_eq_true, dT, dF, w_al, w_la, w_ab, w_sl, w_sb, w_dec, w_ml, w_lm, ol2i_n, aup_ne, aupE, aupJ, setc_self, setc_ne, kc_2 hκ, q1]
        · rw [if_neg h8] at q1
          simp (disch := omega) only [cond_true, cond_false, Bool.and_true, Bool.true_and, Bool.and_false, Bool.false_and, Int.toNat_natCast, Int.reduceToNat, bI_s, bJ_s, bV_s, bR_s, decide_true, decide_false, not_true_eq_false, not_false_eq_true, dT, dF, w_al, w_la, w_ab, w_sl, w_sb, w_dec, w_ml, w_lm, ol2i_n, aup_ne, aupE, aupJ, setc_self, setc_ne, kc_2 hκ, e_b, sk]
          rw [q_46_79]
          simp (disch := omega) only [cond_true, cond_false, Bool.and_true, Bool.true_and, Bool.and_false, Bool.false_and, Int.toNat_natCast, Int.reduceToNat, bI_s, bJ_s, bV_s, bR_s, decide_true, decide_false, not_true_eq_false, not_false_eq_true, dT, dF, w_al, w_la, w_ab, w_sl, w_sb, w_dec, w_ml, w_lm, ol2i_n, aup_ne, aupE, aupJ, setc_self, setc_ne, kc_2 hκ, q1]
    rw [c_43, eA]
    simp (disch := omega) only [cond_true, cond_false, Bool.and_true, Bool.true_and, Bool.and_false, Bool.false_and, Int.toNat_natCast, Int.reduceToNat, bI_s, bJ_s, bV_s, bR_s, decide_true, decide_false, not_true_eq_false, not_false_eq_true, dT, dF, w_al, w_la, w_ab, w_sl, w_sb, w_dec, w_ml, w_lm, ol2i_n, aup_ne, aupE, aupJ, setc_self, setc_ne, n1, e0, cisL xs (d + 8), kc_2 hκ, h1, if_true, main]
  · have h1' : ¬ (97 ≤ f i ∧ f i ≤ 122) := fun q => h1 (isLt_iff.mpr q)
    by_cases h2 : isDg (f i) = true
    · have eA : tkAt f n i = ((if 4 < rlen isDg f (n - i) i then 1 else 3, i, [], nmb f i (min (rlen isDg f (n - i) i) 4)), rlen isDg f (n - i) i) := (if_neg h1).trans (if_pos h2)
      have hrl := rlen_le (p := isDg) (f := f) (n - i) i
      have hK : tkK (tkT f n m) = if 4 < rlen isDg f (n - i) i then 1 else 3 := by rw [eT, eA]; rfl
      have hV : tkV (tkT f n m) = nmb f i (min (rlen isDg f (n - i) i) 4) := by rw [eT, eA]; rfl
      obtain ⟨E', q1, q2⟩ := sput_eq xs (d + 7) hκ hc h (by omega) (k := (if 4 < rlen isDg f (n - i) i then 1 else 3)) (p := (i : Int)) (v := (nmb f i (min (rlen isDg f (n - i) i) 4) : Int)) (by rw [hK]; split <;> rfl) (by rw [hP]) (fun e => by
        rw [hK] at e
        split at e <;> omega) (fun _ => by rw [hV])
      refine ⟨E', ?_, q2⟩
      have lp := snum_loop xs (d + 7) hκ hn hfE (i := i) (n - i) 0 (by omega) (by omega) (fun j hj => absurd hj (Nat.not_lt_zero j))
      simp only [Nat.zero_add, Nat.add_zero] at lp
      have main : cl xs (d + 9) 48 [.inr (.inr ((2 : Nat) : Int)), .inr (.inr ((1 : Nat) : Int)), .inl (n : Int), .inl (i : Int)] (κ, E) = some (some (.inl ((i + rlen isDg f (n - i) i : Nat) : Int)), (κ, E')) := by
        rw [c_48]
        refine Eq.trans ?_ ((congrArg id lp).trans ?_)
        · rfl
        · show ev xs (d + 7 + 1) mm_48 65 _ _ _ = _
          rw [q_48_65]
          simp (disch := omega) only [cond_true, cond_false, Bool.and_true, Bool.true_and, Bool.and_false, Bool.false_and, Int.toNat_natCast, Int.reduceToNat, bI_s, bJ_s, bV_s, bR_s, decide_true, decide_false, not_true_eq_false, not_false_eq_true, dT, dF, w_al, w_la, w_ab, w_sl, w_sb, w_dec, w_ml, w_lm, ol2i_n, aup_ne, aupE, aupJ, setc_self, setc_ne, kc_2 hκ, q1]
      rw [c_43, eA]
      simp (disch := omega) only [cond_true, cond_false, Bool.and_true, Bool.true_and, Bool.and_false, Bool.false_and, Int.toNat_natCast, Int.reduceToNat, bI_s, bJ_s, bV_s, bR_s, decide_true, decide_false, not_true_eq_false, not_false_eq_true, dT, dF, w_al, w_la, w_ab, w_sl, w_sb, w_dec, w_ml, w_lm, ol2i_n, aup_ne, aupE, aupJ, setc_self, setc_ne, n1, e0, cisL xs (d + 8), cisD xs (d + 8), h1, Bool.false_eq_true, if_false, h2, kc_2 hκ, if_true, main]
    · have eA : tkAt f n i = ((if 0 ≤ f i ∧ (f i).toNat ∈ sgL then (f i).toNat else 1, i, [], 0), 1) := (if_neg h1).trans (if_neg h2)
      have hK : tkK (tkT f n m) = if 0 ≤ f i ∧ (f i).toNat ∈ sgL then (f i).toNat else 1 := by rw [eT, eA]; rfl
      have hk23 : ¬ tkK (tkT f n m) = 2 ∧ ¬ tkK (tkT f n m) = 3 := by
        rw [hK]
        split
        · rename_i hs
          exact (sg_kv _ hs.2).2.2
        · decide
      obtain ⟨E', q1, q2⟩ := sput_eq xs (d + 8) hκ hc h (by omega) (k := ((tkK (tkT f n m) : Nat) : Int)) (p := (i : Int)) (v := 0) rfl (by rw [hP]) (fun e => absurd e hk23.1) (fun e => absurd e hk23.2)
      refine ⟨E', ?_, q2⟩
      rw [c_43, eA]
      rw [hK] at q1
      by_cases h3 : 0 ≤ f i
      · obtain ⟨a, ha⟩ := Int.eq_ofNat_of_zero_le h3
        have hi2 := oi2c_id h3 (by omega)
        have hs := aidx_sg (x := a) (by omega)
        rw [← ha] at hs
        by_cases h0 : f i ≤ 0
        · have hns : ¬ (0 ≤ f i ∧ (f i).toNat ∈ sgL) := by
            rw [show f i = 0 by omega]
            decide
          rw [if_neg hns] at q1
          simp (disch := omega) only [cond_true, cond_false, Bool.and_true, Bool.true_and, Bool.and_false, Bool.false_and, Int.toNat_natCast, Int.reduceToNat, bI_s, bJ_s, bV_s, bR_s, decide_true, decide_false, not_true_eq_false, not_false_eq_true, dT, dF, w_al, w_la, w_ab, w_sl, w_sb, w_dec, w_ml, w_lm, ol2i_n, aup_ne, aupE, aupJ, setc_self, setc_ne, n1, e0, cisL xs (d + 8), cisD xs (d + 8), h1, h2, Bool.false_eq_true, if_false]
          rw [q_43_72]
          rw [show ((1 : Nat) : Int) = 1 from rfl] at q1
          simp (disch := omega) only [cond_true, cond_false, Bool.and_true, Bool.true_and, Bool.and_false, Bool.false_and, Int.toNat_natCast, Int.reduceToNat, bI_s, bJ_s, bV_s, bR_s, decide_true, decide_false, not_true_eq_false, not_false_eq_true, dT, dF, w_al, w_la, w_ab, w_sl, w_sb, w_dec, w_ml, w_lm, ol2i_n, aup_ne, aupE, aupJ, setc_self, setc_ne, kc_2 hκ, q1]
        · by_cases hm2 : a ∈ sgL
          · rw [decide_eq_true hm2] at hs
            rw [if_pos ⟨h3, by rw [ha, Int.toNat_natCast]; exact hm2⟩, show (((f i).toNat : Nat) : Int) = f i by omega] at q1
            simp (disch := omega) only [cond_true, cond_false, Bool.and_true, Bool.true_and, Bool.and_false, Bool.false_and, Int.toNat_natCast, Int.reduceToNat, bI_s, bJ_s, bV_s, bR_s, decide_true, decide_false, not_true_eq_false, not_false_eq_true, dT, dF, w_al, w_la, w_ab, w_sl, w_sb, w_dec, w_ml, w_lm, ol2i_n, aup_ne, aupE, aupJ, setc_self, setc_ne, n1, e0, cisL xs (d + 8), cisD xs (d + 8), h1, h2, Bool.false_eq_true, if_false, hi2, hs, Bool.not_true, show Nat.ble 8 (d + 9) = true from Nat.ble_eq_true_of_le (by omega)]
            rw [q_43_72]
            simp (disch := omega) only [cond_true, cond_false, Bool.and_true, Bool.true_and, Bool.and_false, Bool.false_and, Int.toNat_natCast, Int.reduceToNat, bI_s, bJ_s, bV_s, bR_s, decide_true, decide_false, not_true_eq_false, not_false_eq_true, dT, dF, w_al, w_la, w_ab, w_sl, w_sb, w_dec, w_ml, w_lm, ol2i_n, aup_ne, aupE, aupJ, setc_self, setc_ne, kc_2 hκ, q1]
          · rw [decide_eq_false hm2] at hs
            rw [if_neg (fun z => hm2 (by have := z.2; rw [ha, Int.toNat_natCast] at this; exact this))] at q1
            simp (disch := omega) only [cond_true, cond_false, Bool.and_true, Bool.true_and, Bool.and_false, Bool.false_and, Int.toNat_natCast, Int.reduceToNat, bI_s, bJ_s, bV_s, bR_s, decide_true, decide_false, not_true_eq_false, not_false_eq_true, dT, dF, w_al, w_la, w_ab, w_sl, w_sb, w_dec, w_ml, w_lm, ol2i_n, aup_ne, aupE, aupJ, setc_self, setc_ne, n1, e0, cisL xs (d + 8), cisD xs (d + 8), h1, h2, Bool.false_eq_true, if_false, hi2, hs, Bool.not_false, show Nat.ble 8 (d + 9) = true from Nat.ble_eq_true_of_le (by omega)]
            rw [q_43_72]
            rw [show ((1 : Nat) : Int) = 1 from rfl] at q1
            simp (disch := omega) only [cond_true, cond_false, Bool.and_true, Bool.true_and, Bool.and_false, Bool.false_and, Int.toNat_natCast, Int.reduceToNat, bI_s, bJ_s, bV_s, bR_s, decide_true, decide_false, not_true_eq_false, not_false_eq_true, dT, dF, w_al, w_la, w_ab, w_sl, w_sb, w_dec, w_ml, w_lm, ol2i_n, aup_ne, aupE, aupJ, setc_self, setc_ne, kc_2 hκ, q1]
      · rw [if_neg (fun z => h3 z.1)] at q1
        simp (disch := omega) only [cond_true, cond_false, Bool.and_true, Bool.true_and, Bool.and_false, Bool.false_and, Int.toNat_natCast, Int.reduceToNat, bI_s, bJ_s, bV_s, bR_s, decide_true, decide_false, not_true_eq_false, not_false_eq_true, dT, dF, w_al, w_la, w_ab, w_sl, w_sb, w_dec, w_ml, w_lm, ol2i_n, aup_ne, aupE, aupJ, setc_self, setc_ne, n1, e0, cisL xs (d + 8), cisD xs (d + 8), h1, h2, Bool.false_eq_true, if_false]
        rw [q_43_72]
        rw [show ((1 : Nat) : Int) = 1 from rfl] at q1
        simp (disch := omega) only [cond_true, cond_false, Bool.and_true, Bool.true_and, Bool.and_false, Bool.false_and, Int.toNat_natCast, Int.reduceToNat, bI_s, bJ_s, bV_s, bR_s, decide_true, decide_false, not_true_eq_false, not_false_eq_true, dT, dF, w_al, w_la, w_ab, w_sl, w_sb, w_dec, w_ml, w_lm, ol2i_n, aup_ne, aupE, aupJ, setc_self, setc_ne, kc_2 hκ, q1]
theorem psE_le {f : Nat → Int} {n : Nat} {m : Nat} (h : skp f n (psE f n m) < n) : psE f n (m + 1) ≤ n := by
  have e : psE f n (m + 1) = skp f n (psE f n m) + (tkAt f n (skp f n (psE f n m))).2 := rfl
  rw [e]
  generalize skp f n (psE f n m) = i at *
  have a1 := rlen_le (p := isLt) (f := f) (n - i) i
  have a2 := rlen_le (p := isDg) (f := f) (n - i) i
  unfold tkAt
  split
  · show i + rlen isLt f (n - i) i ≤ n
    omega
  · split
    · show i + rlen isDg f (n - i) i ≤ n
      omega
    · show i + 1 ≤ n
      omega
/-- the scan's end: how many tokens there are -/
def ScE (D E : Nat → Nat → Int) (T : Nat → TK) : Prop := TkC E T ∧ (∀ q, q < 2 ∨ 5 < q → E q = D q) ∧ (∀ j, j ≠ 0 → E 2 j = D 2 j)
theorem scan_loop (xs : List Int) (d : Nat) {κ : aK} {D : Nat → Nat → Int} {n : Nat} (hκ : Shp κ) (hc : CPtr D) (hq : QwC D) (hn : n ≤ 2000) {f : Nat → Int} (hf : ∀ j, j < n → D 1 j = f j ∧ -128 ≤ f j ∧ f j ≤ 127) : ∀ (r m : Nat) (E : Nat → Nat → Int), m + r = 401 → ScI D E (tkT f n) m → psE f n m ≤ n → live (tkT f n) m → ∃ E', ev xs (d + 10) mm_40 10 [some (.inr (.inr ((2 : Nat) : Int))), some (.inr (.inr ((1 : Nat) : Int))), some (.inl (n : Int)), some (.inl (psE f n m : Int)), some (.inl (m : Int))] [] (κ, E) = some (none, (κ, E')) ∧ ScE D E' (tkT f n)
  | 0, m, E, hm, hs, hp, hl => by
    have hm' : m = 401 := by omega
    subst hm'
    have hT : ∀ j, j < 401 → tkc E (tkT f n) j := hs.2.2.2
    -- the place behind is put without a look at what stands there
    refine ⟨aup (aup (aup (aup E 3 401 0) 4 401 (n : Int)) 5 401 0) 2 0 ((402 : Nat) : Int), ?_, ⟨402, by omega, by rw [aupE], fun j hj => ⟨fun _ => ?_, fun q => by omega, fun _ => by omega⟩⟩, fun q hq' => ?_, fun j hj => ?_⟩
    · have hcE := hs.ptr hc
      have h3 := hs.2.2.1
      rw [q_40_10]
      simp (disch := omega) only [cond_true, cond_false, Bool.and_true, Bool.true_and, Bool.and_false, Bool.false_and, Int.toNat_natCast, Int.reduceToNat, bI_s, bJ_s, bV_s, bR_s, decide_true, decide_false, not_true_eq_false, not_false_eq_true, dT, dF, w_al, w_la, w_ab, w_sl, w_sb, w_dec, w_ml, w_lm, ol2i_n, aup_ne, aupE, aupJ, setc_self, setc_ne]
      rw [q_40_47]
      simp (disch := omega) only [cond_true, cond_false, Bool.and_true, Bool.true_and, Bool.and_false, Bool.false_and, Int.toNat_natCast, Int.reduceToNat, bI_s, bJ_s, bV_s, bR_s, decide_true, decide_false, not_true_eq_false, not_false_eq_true, dT, dF, w_al, w_la, w_ab, w_sl, w_sb, w_dec, w_ml, w_lm, ol2i_n, aup_ne, aupE, aupJ, setc_self, setc_ne]
      rw [c_41]
      simp (disch := omega) only [cond_true, cond_false, Bool.and_true, Bool.true_and, Bool.and_false, Bool.false_and, Int.toNat_natCast, Int.reduceToNat, bI_s, bJ_s, bV_s, bR_s, decide_true, decide_false, not_true_eq_false, not_false_eq_true, dT, dF, w_al, w_la, w_ab, w_sl, w_sb, w_dec, w_ml, w_lm, ol2i_n, aup_ne, aupE, aupJ, setc_self, setc_ne, kc_2 hκ, pc_2_1 hcE, pc_2_2 hcE, pc_2_3 hcE, aoa_s hκ 3 (n := 402) (by decide) rfl (by decide), aln_s hκ 3 (n := 402) (by decide) rfl, h3, nc_3 hκ, nc_4 hκ, nc_5 hκ]
      rw [q_41_42]
      simp (disch := omega) only [cond_true, cond_false, Bool.and_true, Bool.true_and, Bool.and_false, Bool.false_and, Int.toNat_natCast, Int.reduceToNat, bI_s, bJ_s, bV_s, bR_s, decide_true, decide_false, not_true_eq_false, not_false_eq_true, dT, dF, w_al, w_la, w_ab, w_sl, w_sb, w_dec, w_ml, w_lm, ol2i_n, aup_ne, aupE, aupJ, setc_self, setc_ne, kc_2 hκ, h3]
    · have := hT j (by omega)
      unfold tkc at this
      simp (disch := omega) only [aup_ne, aupE, aupJ]
      exact this
    · rw [aupN (by omega), aupN (by omega), aupN (by omega), aupN (by omega)]
      exact hs.1 q hq'
    · rw [aupJ hj, aupN (by decide), aupN (by decide), aupN (by decide)]
      exact hs.2.1 j hj
  | r + 1, m, E, hm, hs, hp, hl => by
    have hfE : ∀ j, j < n → E 1 j = f j := fun j hj => by rw [hs.1 1 (by omega)]; exact (hf j hj).1
    have sb : cl xs (d + 10) 42 [.inr (.inr ((1 : Nat) : Int)), .inl (n : Int), .inl (psE f n m : Int)] (κ, E) = some (some (.inl (skp f n (psE f n m) : Int)), (κ, E)) := by
      rw [c_42]
      exact sblank xs (d + 9) hκ hn hfE _ (n - psE f n m) (psE f n m) rfl hp
    rw [q_40_10]
    by_cases hi : skp f n (psE f n m) < n
    · obtain ⟨E1, t1, t2⟩ := stok_eq xs d hκ hc hq hn hf hs (by omega) hi
      have hk : ¬ tkK (tkT f n m) = 0 := by
        rw [show tkT f n m = (tkAt f n (skp f n (psE f n m))).1 from if_pos hi]
        exact (tkAt_k _ _ _).2
      obtain ⟨E', i1, i2⟩ := scan_loop xs d hκ hc hq hn hf r (m + 1) E1 (by omega) t2 (psE_le hi) (live_s hl hk)
      refine ⟨E', ?_, i2⟩
      rw [← i1]
      simp (disch := omega) only [cond_true, cond_false, Bool.and_true, Bool.true_and, Bool.and_false, Bool.false_and, Int.toNat_natCast, Int.reduceToNat, bI_s, bJ_s, bV_s, bR_s, decide_true, decide_false, not_true_eq_false, not_false_eq_true, dT, dF, w_al, w_la, w_ab, w_sl, w_sb, w_dec, w_ml, w_lm, ol2i_n, aup_ne, aupE, aupJ, setc_self, setc_ne, kc_2 hκ, sb, t1]
    · have eT : tkT f n m = (0, n, [], 0) := if_neg hi
      obtain ⟨E', q1, q2⟩ := sput_eq xs (d + 9) hκ hc hs (by omega) (k := 0) (p := (n : Int)) (v := 0) (by rw [eT]; rfl) (by rw [eT]; rfl) (fun e => by rw [eT] at e; exact absurd e (by show ¬ 0 = 2; decide)) (fun e => by rw [eT] at e; exact absurd e (by show ¬ 0 = 3; decide))
      have hz : ∀ j, m ≤ j → tkK (tkT f n j) = 0 := by
        intro j hj
        induction j with
        | zero =>
          have : m = 0 := by omega
          subst this
          rw [eT]; rfl
        | succ j ih =>
          by_cases hjm : m = j + 1
          · rw [← hjm, eT]; rfl
          · exact (tkT_ok hn).2.2.2.2.2 j (ih (by omega))
      refine ⟨E', ?_, ⟨m + 1, by omega, q2.2.2.1, fun j hj => ⟨fun h => q2.2.2.2 j h, fun h => hz j (by omega), fun h => ?_⟩⟩, q2.1, q2.2.1⟩
      · simp (disch := omega) only [cond_true, cond_false, Bool.and_true, Bool.true_and, Bool.and_false, Bool.false_and, Int.toNat_natCast, Int.reduceToNat, bI_s, bJ_s, bV_s, bR_s, decide_true, decide_false, not_true_eq_false, not_false_eq_true, dT, dF, w_al, w_la, w_ab, w_sl, w_sb, w_dec, w_ml, w_lm, ol2i_n, aup_ne, aupE, aupJ, setc_self, setc_ne, sb]
        rw [q_40_47]
        simp (disch := omega) only [cond_true, cond_false, Bool.and_true, Bool.true_and, Bool.and_false, Bool.false_and, Int.toNat_natCast, Int.reduceToNat, bI_s, bJ_s, bV_s, bR_s, decide_true, decide_false, not_true_eq_false, not_false_eq_true, dT, dF, w_al, w_la, w_ab, w_sl, w_sb, w_dec, w_ml, w_lm, ol2i_n, aup_ne, aupE, aupJ, setc_self, setc_ne, kc_2 hκ, q1]
      · by_cases hjm : j ≤ m
        · omega
        · exact absurd (hz m (Nat.le_refl _)) (h m (by omega))
theorem scan_eq (xs : List Int) (d : Nat) {κ : aK} {D : Nat → Nat → Int} {n : Nat} (hκ : Shp κ) (hc : CPtr D) (hq : QwC D) (hn : n ≤ 2000) {f : Nat → Int} (hf : ∀ j, j < n → D 1 j = f j ∧ -128 ≤ f j ∧ f j ≤ 127) : ∃ E', cl xs (d + 11) 40 [.inr (.inr ((2 : Nat) : Int)), .inr (.inr ((1 : Nat) : Int)), .inl (n : Int)] (κ, D) = some (none, (κ, E')) ∧ ScE D E' (tkT f n) := by
  have hs : ScI D (aup D 2 0 0) (tkT f n) 0 := ⟨fun q hq' => aupN (by omega), fun j hj => aupJ hj, by rw [aupE]; rfl, fun j hj => absurd hj (Nat.not_lt_zero j)⟩
  obtain ⟨E', i1, i2⟩ := scan_loop xs d hκ hc hq hn hf 401 0 (aup D 2 0 0) rfl hs (Nat.zero_le _) (live_0 _)
  refine ⟨E', ?_, i2⟩
  rw [c_40]
  simp (disch := omega) only [cond_true, cond_false, Bool.and_true, Bool.true_and, Bool.and_false, Bool.false_and, Int.toNat_natCast, Int.reduceToNat, bI_s, bJ_s, bV_s, bR_s, decide_true, decide_false, not_true_eq_false, not_false_eq_true, dT, dF, w_al, w_la, w_ab, w_sl, w_sb, w_dec, w_ml, w_lm, ol2i_n, aup_ne, aupE, aupJ, setc_self, setc_ne, kc_2 hκ]
  exact i1
