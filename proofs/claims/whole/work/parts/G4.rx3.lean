/-! The reference reads: an expression. -/
def rsL : List LV → List Nat
  | [] => []
  | l :: r => 6 :: (pw l.2 ++ (pw l.1 ++ rsL r))
def fsL : List LV → List VF
  | [] => []
  | l :: r => pf l.2 ++ (pf l.1 ++ fsL r)
theorem pw_le (p : Option (VF × Nat)) : (pw p).length ≤ 1 := by cases p <;> simp [pw]
theorem pf_le (p : Option (VF × Nat)) : (pf p).length ≤ 1 := by cases p <;> simp [pf]
theorem rsL_len : ∀ r : List LV, (rsL r).length ≤ 3 * r.length
  | [] => Nat.le_refl _
  | l :: r => by
    have ih := rsL_len r
    have h1 := pw_le l.1
    have h2 := pw_le l.2
    show (6 :: (pw l.2 ++ (pw l.1 ++ rsL r))).length ≤ 3 * (r.length + 1)
    rw [List.length_cons, List.length_append, List.length_append]
    omega
theorem rsL_or (r : List LV) : rsL r = [] ∨ ∃ Q, rsL r = 6 :: Q := by
  cases r with
  | nil => exact Or.inl rfl
  | cons l r => exact Or.inr ⟨_, rfl⟩
theorem fsL_len (l : LV) (r : List LV) : (fsL (l :: r)).length = (pf l.2).length + (pf l.1).length + (fsL r).length := by
  show (pf l.2 ++ (pf l.1 ++ fsL r)).length = _
  rw [List.length_append, List.length_append]
  omega
/-- a unit -/
theorem r_unit (xs : List Int) (d : Nat) {κ : aK} {D E : Nat → Nat → Int} {v u : Nat} (hκ : Shp κ) (hpD : PtrR D) {T : Nat → TK} (hT : TKok T) (hk : TkR D T) {a : Nat} {w : SS} (h : RpS D E v T (a, 0) w) (hsd : RsD D v u) {p0 k : Nat} {W : List Nat} {S : List VF} (hk4 : k < 420) (hX : XI E u p0 k W S) : (tkK (T a) = 3 ∨ isv (tkK (T a)) = true → ∃ E', cl xs (d + 3) 224 [.inr (.inr 256)] (κ, E) = some (none, (κ, E')) ∧ RpS D E' v T (goG (a, 0)) w ∧ XI E' u p0 (k + 1) W (uni (T a) :: S) ∧ RxF E E' u k ∧ E' 256 12 = E 256 12) ∧ (¬ (tkK (T a) = 3 ∨ isv (tkK (T a)) = true) → ∃ E', cl xs (d + 3) 224 [.inr (.inr 256)] (κ, E) = some (none, (κ, E')) ∧ RpS D E' v T (a, 1) w ∧ RxF E E' u k) := by
  have k256 := k_256 hκ
  have hp := h.1.ptr hpD
  obtain ⟨g1, g2, g3, _⟩ := h.2.2.2.2 rfl
  have g1 : E 256 11 = (a : Int) := g1
  have g2 : a ≤ 400 := g2
  have g3 : live T a := g3
  have h13 : E 256 13 = 0 := h.2.1
  have tk := (h.1.tk hk) a g2 g3
  have is := r_is xs (d + 1) hκ hpD hT hk h (k := 3) (by decide) (kk := 2) rfl
  have kv := hT.1 a
  refine ⟨fun hu => ?_, fun hu => ?_⟩
  · have hz : ¬ tkK (T a) = 0 := by rcases hu with e | e; omega; have := isv_iff.mp e; omega
    by_cases h3 : tkK (T a) = 3
    · rw [if_pos ⟨rfl, h3⟩] at is
      have eV := tk.2.2.1 h3
      have em := r_emit xs (d + 1) hκ hp hsd.2.2.2.1 hk4 hX.1 0 (tkV (T a) : Int)
      have s1 := emD_S h hk4 hsd.2.2.2.2 0 (tkV (T a) : Int)
      have X1 : XI (emD E u k 0 (tkV (T a) : Int)) u p0 (k + 1) W (uni (T a) :: S) := hX.emit ⟨by decide, by decide, fun z => absurd z (by decide)⟩ (fun V C I hC hI => seq_unit (z := (tkV (T a) : Int)) (by unfold uni; rw [if_pos h3]) (Or.inl ⟨hC, hI⟩))
      obtain ⟨E', b1, b2, b3⟩ := r_go xs d hκ hpD hT hk s1 (fun _ => hz)
      refine ⟨E', ?_, b2, X1.same (b3.f (by decide)) (b3.f (by decide)) (fun q h1 h2 => b3.cell (by omega)), (emD_F _ _).trans (b3.xf u k) (Nat.le_refl _), ?_⟩
      · rw [c_224]
        have em' : cl xs (d + 2) 221 [.inr (.inr 256), .inl 0, .inl (tkV (T a) : Int)] (κ, E) = some (none, (κ, emD E u k 0 (tkV (T a) : Int))) := em
        simp (disch := omega) only [k256, is, pr_7 hp, g1, n_261 hκ, eV, em', b1, cond_true, cond_false, Bool.and_true, Bool.true_and, Bool.and_false, Bool.false_and, Int.toNat_natCast, Int.reduceToNat, bI_s, bJ_s, bV_s, bR_s, decide_true, decide_false, not_true_eq_false, not_false_eq_true, dT, dF, w_al, w_la, w_ab, w_sl, w_sb, w_dec, w_ml, w_lm, ol2i_n, aup_ne, aupE, aupJ, setc_self, setc_ne]
      · rw [b3.f (by decide)]
        unfold emD
        rw [aupJ (by decide), aupN (by decide), aupN (by decide)]
    · rw [if_neg (fun z => h3 z.2)] at is
      have hv : isv (tkK (T a)) = true := by rcases hu with e | e; exact absurd e h3; exact e
      have hr := isv_iff.mp hv
      have eK : E 259 a = ((tkK (T a) - 108 : Nat) : Int) := by
        rw [tk.1]
        congr 1
        unfold rho
        rw [if_neg (by omega), if_neg (by omega), if_neg (by omega), if_neg (by omega), if_neg (by omega), if_neg (by omega), if_neg (by omega), if_neg (by omega), if_neg (by omega), if_neg (by omega), if_neg (by omega), if_neg (by omega), if_neg (by omega), if_neg (by omega), if_neg (by omega), if_neg (by omega)]
      have ew : w32 (((tkK (T a) - 108 : Nat) : Int) - 38) = ((tkK (T a) - 146 : Nat) : Int) := by rw [w32_id (by omega) (by omega)]; omega
      have em := r_emit xs (d + 1) hκ hp hsd.2.2.2.1 hk4 hX.1 1 ((tkK (T a) - 146 : Nat) : Int)
      have s1 := emD_S h hk4 hsd.2.2.2.2 1 ((tkK (T a) - 146 : Nat) : Int)
      have X1 : XI (emD E u k 1 ((tkK (T a) - 146 : Nat) : Int)) u p0 (k + 1) W (uni (T a) :: S) := hX.emit ⟨by decide, by decide, fun _ => ⟨by omega, by omega⟩⟩ (fun V C I hC hI => seq_unit (z := V (tkK (T a) - 146)) (by unfold uni; rw [if_neg h3]) (Or.inr ⟨hC, by rw [hI, Int.toNat_natCast]⟩))
      obtain ⟨E', b1, b2, b3⟩ := r_go xs d hκ hpD hT hk s1 (fun _ => hz)
      refine ⟨E', ?_, b2, X1.same (b3.f (by decide)) (b3.f (by decide)) (fun q h1 h2 => b3.cell (by omega)), (emD_F _ _).trans (b3.xf u k) (Nat.le_refl _), ?_⟩
      · rw [c_224]
        have em' : cl xs (d + 2) 221 [.inr (.inr 256), .inl 1, .inl ((tkK (T a) - 146 : Nat) : Int)] (κ, E) = some (none, (κ, emD E u k 1 ((tkK (T a) - 146 : Nat) : Int))) := em
        simp (disch := omega) only [k256, is, h13, pr_5 hp, g1, n_259 hκ, eK, ew, em', b1, cond_true, cond_false, Bool.and_true, Bool.true_and, Bool.and_false, Bool.false_and, Int.toNat_natCast, Int.reduceToNat, bI_s, bJ_s, bV_s, bR_s, decide_true, decide_false, not_true_eq_false, not_false_eq_true, dT, dF, w_al, w_la, w_ab, w_sl, w_sb, w_dec, w_ml, w_lm, ol2i_n, aup_ne, aupE, aupJ, setc_self, setc_ne]
      · rw [b3.f (by decide)]
        unfold emD
        rw [aupJ (by decide), aupN (by decide), aupN (by decide)]
  · have h3 : ¬ tkK (T a) = 3 := fun e => hu (Or.inl e)
    have hnv : ¬ (146 ≤ tkK (T a) ∧ tkK (T a) ≤ 151) := fun e => hu (Or.inr (isv_iff.mpr e))
    rw [if_neg (fun z => h3 z.2)] at is
    obtain ⟨E', f1, f2, f3⟩ := r_fail xs (d + 1) hκ hpD hT hk h (k := 1) (by decide) (kk := 1) rfl
    refine ⟨E', ?_, f2, f3.xf u k⟩
    have eK := tk.1
    have hrl : ¬ (38 ≤ rho (tkK (T a)) ∧ rho (tkK (T a)) ≤ 43) := fun z => by
      have : ∀ x ∈ kvL, 38 ≤ rho x ∧ rho x ≤ 43 → 146 ≤ x ∧ x ≤ 151 := by decide +kernel
      exact hnv (this _ kv z)
    rw [c_224]
    by_cases h38 : rho (tkK (T a)) < 38
    · simp (disch := omega) only [k256, is, h13, pr_5 hp, g1, n_259 hκ, eK, cond_true, cond_false, Bool.and_true, Bool.true_and, Bool.and_false, Bool.false_and, Int.toNat_natCast, Int.reduceToNat, bI_s, bJ_s, bV_s, bR_s, decide_true, decide_false, not_true_eq_false, not_false_eq_true, dT, dF, w_al, w_la, w_ab, w_sl, w_sb, w_dec, w_ml, w_lm, ol2i_n, aup_ne, aupE, aupJ, setc_self, setc_ne]
      rw [q_224_88]
      simp (disch := omega) only [cond_true, cond_false, Bool.and_true, Bool.true_and, Bool.and_false, Bool.false_and, Int.toNat_natCast, Int.reduceToNat, bI_s, bJ_s, bV_s, bR_s, decide_true, decide_false, not_true_eq_false, not_false_eq_true, dT, dF, w_al, w_la, w_ab, w_sl, w_sb, w_dec, w_ml, w_lm, ol2i_n, aup_ne, aupE, aupJ, setc_self, setc_ne, k256, f1]
    · simp (disch := omega) only [k256, is, h13, pr_5 hp, g1, n_259 hκ, eK, cond_true, cond_false, Bool.and_true, Bool.true_and, Bool.and_false, Bool.false_and, Int.toNat_natCast, Int.reduceToNat, bI_s, bJ_s, bV_s, bR_s, decide_true, decide_false, not_true_eq_false, not_false_eq_true, dT, dF, w_al, w_la, w_ab, w_sl, w_sb, w_dec, w_ml, w_lm, ol2i_n, aup_ne, aupE, aupJ, setc_self, setc_ne]
      rw [q_224_88]
      simp (disch := omega) only [cond_true, cond_false, Bool.and_true, Bool.true_and, Bool.and_false, Bool.false_and, Int.toNat_natCast, Int.reduceToNat, bI_s, bJ_s, bV_s, bR_s, decide_true, decide_false, not_true_eq_false, not_false_eq_true, dT, dF, w_al, w_la, w_ab, w_sl, w_sb, w_dec, w_ml, w_lm, ol2i_n, aup_ne, aupE, aupJ, setc_self, setc_ne, k256, f1]
/-- with a fault nothing more is read -/
theorem r_dead23 (xs : List Int) (d : Nat) {κ : aK} {D E : Nat → Nat → Int} (hκ : Shp κ) (hpD : PtrR D) {v : Nat} {T : Nat → TK} (hT : TKok T) (hk : TkR D T) {s w : SS} (h : RpS D E v T s w) (hs0 : ¬ s.2 = 0) {u k : Nat} (v1 v2 : Int) : ∃ E', ev xs (d + 3) mm_223 23 [some (.inr (.inr 256)), some (.inl v1), some (.inl v2)] [] (κ, E) = some (none, (κ, E')) ∧ RpS D E' v T s w ∧ RxF E E' u k := by
  have k256 := k_256 hκ
  have h13 := h.2.1
  have is := r_is xs (d + 2) hκ hpD hT hk h (k := 40) (by decide) (kk := 6) rfl
  have is2 := r_is xs (d + 1) hκ hpD hT hk h (k := 3) (by decide) (kk := 2) rfl
  rw [if_neg (fun z => hs0 z.1)] at is is2
  obtain ⟨E', f1, f2, f3⟩ := r_fail xs (d + 1) hκ hpD hT hk h (k := 1) (by decide) (kk := 1) rfl
  rw [fl_f hs0] at f2
  have h13b := f2.2.1
  refine ⟨E', ?_, f2, f3.xf u k⟩
  have un : cl xs (d + 3) 224 [.inr (.inr 256)] (κ, E) = some (none, (κ, E')) := by
    rw [c_224]
    simp (disch := omega) only [cond_true, cond_false, Bool.and_true, Bool.true_and, Bool.and_false, Bool.false_and, Int.toNat_natCast, Int.reduceToNat, bI_s, bJ_s, bV_s, bR_s, decide_true, decide_false, not_true_eq_false, not_false_eq_true, dT, dF, w_al, w_la, w_ab, w_sl, w_sb, w_dec, w_ml, w_lm, ol2i_n, aup_ne, aupE, aupJ, setc_self, setc_ne, k256, is2, h13]
    rw [q_224_88]
    simp (disch := omega) only [cond_true, cond_false, Bool.and_true, Bool.true_and, Bool.and_false, Bool.false_and, Int.toNat_natCast, Int.reduceToNat, bI_s, bJ_s, bV_s, bR_s, decide_true, decide_false, not_true_eq_false, not_false_eq_true, dT, dF, w_al, w_la, w_ab, w_sl, w_sb, w_dec, w_ml, w_lm, ol2i_n, aup_ne, aupE, aupJ, setc_self, setc_ne, k256, f1]
  rw [q_223_23]
  simp (disch := omega) only [cond_true, cond_false, Bool.and_true, Bool.true_and, Bool.and_false, Bool.false_and, Int.toNat_natCast, Int.reduceToNat, bI_s, bJ_s, bV_s, bR_s, decide_true, decide_false, not_true_eq_false, not_false_eq_true, dT, dF, w_al, w_la, w_ab, w_sl, w_sb, w_dec, w_ml, w_lm, ol2i_n, aup_ne, aupE, aupJ, setc_self, setc_ne, k256, is, un, h13b]
/-- the end of an expression: nothing follows that goes on with it -/
theorem r_end (xs : List Int) (d : Nat) {κ : aK} {D E : Nat → Nat → Int} (hκ : Shp κ) (hpD : PtrR D) {v : Nat} {T : Nat → TK} (hT : TKok T) (hk : TkR D T) {s w : SS} (h : RpS D E v T s w) {u : Nat} (hsd : RsD D v u) {p0 k : Nat} {l : LV} {r : List LV} (hl : lok l) (hr : r.length ≤ 7) {c : VF} (hk4 : k + 2 < 420) (e12 : E 256 12 = (r.length : Int)) (hX : XI E u p0 k (pw l.2 ++ (pw l.1 ++ rsL r)) (c :: (pf l.2 ++ (pf l.1 ++ fsL r)))) (hno : s.2 = 0 → ¬ tkK (T s.1) = 42 ∧ ¬ tkK (T s.1) = 43 ∧ ¬ tkK (T s.1) = 45 ∧ ¬ tkK (T s.1) = 47) (v2 : Int) : ∃ E', ev xs (d + 3) mm_223 145 [some (.inr (.inr 256)), some (.inl 0), some (.inl v2)] [] (κ, E) = some (none, (κ, E')) ∧ RpS D E' v T (if r.length = 0 then s else fl 1 s) w ∧ RxF E E' u k ∧ (r.length = 0 → E' 256 12 = 0 ∧ XI E' u p0 (k + (pf l.2).length + (pf l.1).length) [] [fin1 l c]) := by
  have k256 := k_256 hκ
  have is1 := r_is xs (d + 2) hκ hpD hT hk h (k := 43) (by decide) (kk := 8) rfl
  have is2 := r_is xs (d + 2) hκ hpD hT hk h (k := 45) (by decide) (kk := 9) rfl
  have is3 := r_is xs (d + 2) hκ hpD hT hk h (k := 42) (by decide) (kk := 10) rfl
  have is4 := r_is xs (d + 2) hκ hpD hT hk h (k := 47) (by decide) (kk := 15) rfl
  rw [if_neg (fun z => (hno z.1).2.1 z.2)] at is1
  rw [if_neg (fun z => (hno z.1).2.2.1 z.2)] at is2
  rw [if_neg (fun z => (hno z.1).1 z.2)] at is3
  rw [if_neg (fun z => (hno z.1).2.2.2 z.2)] at is4
  have rl := rsL_len r
  rw [q_223_145]
  simp (disch := omega) only [cond_true, cond_false, Bool.and_true, Bool.true_and, Bool.and_false, Bool.false_and, Int.toNat_natCast, Int.reduceToNat, bI_s, bJ_s, bV_s, bR_s, decide_true, decide_false, not_true_eq_false, not_false_eq_true, dT, dF, w_al, w_la, w_ab, w_sl, w_sb, w_dec, w_ml, w_lm, ol2i_n, aup_ne, aupE, aupJ, setc_self, setc_ne, k256, is1, is2, is3, is4]
  rw [q_223_186]
  by_cases h0 : r.length = 0
  · have hr0 : r = [] := List.length_eq_zero_iff.mp h0
    subst hr0
    obtain ⟨E', a1, a2, a3, a4, a5⟩ := co_all xs (d + 1) hκ hpD h hsd hl hk4 (R := rsL []) (Or.inl rfl) (by decide) hX
    rw [if_pos h0]
    have e12' : E 256 12 = 0 := e12
    refine ⟨E', ?_, a2, a4, fun _ => ⟨a5.trans e12', a3⟩⟩
    simp (disch := omega) only [cond_true, cond_false, Bool.and_true, Bool.true_and, Bool.and_false, Bool.false_and, Int.toNat_natCast, Int.reduceToNat, bI_s, bJ_s, bV_s, bR_s, decide_true, decide_false, not_true_eq_false, not_false_eq_true, dT, dF, w_al, w_la, w_ab, w_sl, w_sb, w_dec, w_ml, w_lm, ol2i_n, aup_ne, aupE, aupJ, setc_self, setc_ne, k256, e12']
    rw [q_223_204]
    simp (disch := omega) only [cond_true, cond_false, Bool.and_true, Bool.true_and, Bool.and_false, Bool.false_and, Int.toNat_natCast, Int.reduceToNat, bI_s, bJ_s, bV_s, bR_s, decide_true, decide_false, not_true_eq_false, not_false_eq_true, dT, dF, w_al, w_la, w_ab, w_sl, w_sb, w_dec, w_ml, w_lm, ol2i_n, aup_ne, aupE, aupJ, setc_self, setc_ne, k256, a1]
  · rw [if_neg h0]
    obtain ⟨E1, f1, f2, f3⟩ := r_fail xs (d + 2) hκ hpD hT hk h (k := 1) (by decide) (kk := 1) rfl
    have X1 := hX.same (E' := E1) (f3.f (by decide)) (f3.f (by decide)) (fun q h1 h2 => f3.cell (by omega))
    obtain ⟨E', a1, a2, a3, a4, a5⟩ := co_all xs (d + 1) hκ hpD f2 hsd hl hk4 (rsL_or r) (by omega) X1
    refine ⟨E', ?_, a2, (f3.xf u k).trans a4 (Nat.le_refl _), fun z => absurd z h0⟩
    simp (disch := omega) only [cond_true, cond_false, Bool.and_true, Bool.true_and, Bool.and_false, Bool.false_and, Int.toNat_natCast, Int.reduceToNat, bI_s, bJ_s, bV_s, bR_s, decide_true, decide_false, not_true_eq_false, not_false_eq_true, dT, dF, w_al, w_la, w_ab, w_sl, w_sb, w_dec, w_ml, w_lm, ol2i_n, aup_ne, aupE, aupJ, setc_self, setc_ne, k256, e12, f1]
    rw [q_223_204]
    simp (disch := omega) only [cond_true, cond_false, Bool.and_true, Bool.true_and, Bool.and_false, Bool.false_and, Int.toNat_natCast, Int.reduceToNat, bI_s, bJ_s, bV_s, bR_s, decide_true, decide_false, not_true_eq_false, not_false_eq_true, dT, dF, w_al, w_la, w_ab, w_sl, w_sb, w_dec, w_ml, w_lm, ol2i_n, aup_ne, aupE, aupJ, setc_self, setc_ne, k256, a1]
