/-! What follows the grammar, by itself; the class's check. -/
abbrev VF : Type := (Nat → Int) → Option Int
abbrev LV : Type := Option (VF × Nat) × Option (VF × Nat)
def bop (k : Nat) (x y : Int) : Option Int := if k = 43 then some (w32 (x + y)) else if k = 45 then some (w32 (x - y)) else if k = 42 then some (w32 (x * y)) else if y = 0 then none else some (odiv x y)
def bin2 (k : Nat) (f g : VF) : VF := fun V => match f V, g V with
  | some x, some y => bop k x y
  | _, _ => none
def apl (p : Option (VF × Nat)) (c : VF) : VF := match p with
  | some q => bin2 q.2 q.1 c
  | none => c
def fin1 (l : LV) (c : VF) : VF := apl l.1 (apl l.2 c)
def isv (k : Nat) : Bool := decide (146 ≤ k) && decide (k ≤ 151)
def uni (t : TK) : VF := if tkK t = 3 then fun _ => some (tkV t : Int) else fun V => some (V (tkK t - 146))
def exA (T : Nat → TK) : Nat → Nat → List LV → Bool → VF → Nat × Nat × VF
  | 0, a, _, _, c => (a, 2, c)
  | m + 1, a, lv, true, c =>
    if tkK (T a) = 40 then (if 6 < lv.length then (a, 2, c) else if 400 ≤ a then (a, 2, c) else exA T m (a + 1) ((none, none) :: lv) true c)
    else if tkK (T a) = 3 ∨ isv (tkK (T a)) = true then (if 400 ≤ a then (a, 2, c) else exA T m (a + 1) lv false (uni (T a)))
    else (a, 1, c)
  | _ + 1, a, [], false, c => (a, 0, c)
  | m + 1, a, l :: r, false, c =>
    if tkK (T a) = 42 ∨ tkK (T a) = 47 then (if 400 ≤ a then (a, 2, c) else exA T m (a + 1) ((l.1, some (apl l.2 c, tkK (T a))) :: r) true c)
    else if tkK (T a) = 43 ∨ tkK (T a) = 45 then (if 400 ≤ a then (a, 2, c) else exA T m (a + 1) ((some (fin1 l c, tkK (T a)), none) :: r) true c)
    else if r.isEmpty = true then (a, 0, fin1 l c)
    else if tkK (T a) = 41 then (if 400 ≤ a then (a, 2, c) else exA T m (a + 1) r false (fin1 l c))
    else (a, 1, c)
abbrev SS : Type := Nat × Nat
def mu (T : Nat → TK) (k : Nat) (s : SS) : SS := if s.2 = 0 then (if tkK (T s.1) = k then (if 400 ≤ s.1 then (s.1, 2) else (s.1 + 1, 0)) else (s.1, 1)) else s
def fl (k : Nat) (s : SS) : SS := if s.2 = 0 then (s.1, k) else s
def cz : VF := fun _ => some 0
def smE (T : Nat → TK) (a : Nat) : Nat × Nat × VF := exA T (401 - a) a [(none, none)] true cz
def sm (T : Nat → TK) (s : SS) : SS := if s.2 = 0 then ((smE T s.1).1, (smE T s.1).2.1) else s
def ifk (T : Nat → TK) (k : Nat) (s : SS) (p q : SS) : SS := if s.2 = 0 then (if tkK (T s.1) = k then p else q) else s
def nbr (T : Nat → TK) (s : SS) : SS := ifk T 142 s (mu T 142 s) (mu T 2 s)
def optA (T : Nat → TK) (k : Nat) (s : SS) : SS := ifk T k s (nbr T (mu T k s)) s
def non (T : Nat → TK) (s : SS) : SS := ifk T 131 s (mu T 131 s) (mu T 2 s)
def stnG (T : Nat → TK) (s : SS) : SS := optA T 133 (optA T 132 (non T (mu T 130 (mu T 2 s))))
def opt2 (T : Nat → TK) (s : SS) : SS := ifk T 2 s (mu T 2 s) s
def wntG (T : Nat → TK) : Nat → SS → SS
  | 0, s => ifk T 2 s (fl 2 s) s
  | r + 1, s => ifk T 2 s (wntG T r (mu T 3 (mu T 2 s))) s
def ifG (T : Nat → TK) (s : SS) : SS := mu T 145 (sm T (mu T 144 (sm T (mu T 60 (sm T (mu T 143 s))))))
def lawL (T : Nat → TK) : Nat → SS → SS
  | 0, s => ifk T 143 s (fl 2 s) (sm T s)
  | r + 1, s => ifk T 143 s (lawL T r (ifG T s)) (sm T s)
def lawG (T : Nat → TK) (s : SS) : SS := lawL T 4 (mu T 61 s)
def fstG (T : Nat → TK) (k has most : Nat) (s : SS) : SS := if s.2 = 0 then (if most ≤ has then (s.1, 2) else mu T k s) else s
def rtG (T : Nat → TK) (c : Nat → Nat) (a : Nat) : SS :=
  if tkK (T a) = 128 then mu T 59 (mu T 2 (mu T 2 (fstG T 128 (c 0) 6 (a, 0))))
  else if tkK (T a) = 129 then mu T 59 (stnG T (fstG T 129 (c 1) 7 (a, 0)))
  else if tkK (T a) = 134 then mu T 59 (mu T 3 (mu T 2 (fstG T 134 (c 6) 8 (a, 0))))
  else if tkK (T a) = 135 then mu T 59 (mu T 3 (mu T 2 (fstG T 135 (c 7) 6 (a, 0))))
  else if tkK (T a) = 136 then mu T 59 (mu T 3 (mu T 2 (fstG T 136 (c 8) 4 (a, 0))))
  else if tkK (T a) = 137 then mu T 59 (mu T 2 (fstG T 137 (c 9) 10 (a, 0)))
  else if tkK (T a) = 138 then mu T 59 (opt2 T (mu T 2 (mu T 2 (fstG T 138 (c 10) 8 (a, 0)))))
  else if tkK (T a) = 139 then mu T 59 (wntG T 4 (mu T 3 (fstG T 139 (c 11) 5 (a, 0))))
  else if tkK (T a) = 140 then mu T 59 (lawG T (mu T 140 (a, 0)))
  else if tkK (T a) = 141 then mu T 59 (mu T 3 (mu T 141 (a, 0)))
  else (a, 1)
def cnU (c : Nat → Nat) (k : Nat) : Nat → Nat := fun j => if j + 128 = k then c j + 1 else c j
def rcG (T : Nat → TK) : Nat → (Nat → Nat) → Nat → SS
  | 0, _, a => (a, 0)
  | m + 1, c, a => if tkK (T a) = 0 then (a, 0) else if (rtG T c a).2 = 0 then rcG T m (cnU c (tkK (T a))) (rtG T c a).1 else rtG T c a
theorem mu_f {T : Nat → TK} {k : Nat} {s : SS} (h : ¬ s.2 = 0) : mu T k s = s := if_neg h
theorem fl_f {k : Nat} {s : SS} (h : ¬ s.2 = 0) : fl k s = s := if_neg h
theorem sm_f {T : Nat → TK} {s : SS} (h : ¬ s.2 = 0) : sm T s = s := if_neg h
theorem ifk_f {T : Nat → TK} {k : Nat} {s p q : SS} (h : ¬ s.2 = 0) : ifk T k s p q = s := if_neg h
theorem nbr_f {T : Nat → TK} {s : SS} (h : ¬ s.2 = 0) : nbr T s = s := ifk_f h
theorem optA_f {T : Nat → TK} {k : Nat} {s : SS} (h : ¬ s.2 = 0) : optA T k s = s := ifk_f h
theorem non_f {T : Nat → TK} {s : SS} (h : ¬ s.2 = 0) : non T s = s := ifk_f h
theorem opt2_f {T : Nat → TK} {s : SS} (h : ¬ s.2 = 0) : opt2 T s = s := ifk_f h
theorem stnG_f {T : Nat → TK} {s : SS} (h : ¬ s.2 = 0) : stnG T s = s := by
  unfold stnG
  rw [mu_f h, mu_f h, non_f h, optA_f h, optA_f h]
theorem wntG_f {T : Nat → TK} {r : Nat} {s : SS} (h : ¬ s.2 = 0) : wntG T r s = s := by
  cases r <;> exact ifk_f h
theorem lawL_f {T : Nat → TK} {r : Nat} {s : SS} (h : ¬ s.2 = 0) : lawL T r s = s := by
  cases r <;> exact ifk_f h
theorem lawG_f {T : Nat → TK} {s : SS} (h : ¬ s.2 = 0) : lawG T s = s := by
  unfold lawG
  rw [mu_f h, lawL_f h]
theorem fstG_f {T : Nat → TK} {k has most : Nat} {s : SS} (h : ¬ s.2 = 0) : fstG T k has most s = s := if_neg h
/-- the class's place in the tokens, and its fault -/
def CkS (D E : Nat → Nat → Int) (T : Nat → TK) (s : SS) (g : Nat → Int) : Prop := (∀ q, q ≠ 2 → q ≠ 7 → E q = D q) ∧ (∀ j, j ≠ 4 → j ≠ 5 → j ≠ 7 → E 2 j = D 2 j) ∧ E 7 = g ∧ E 2 7 = (s.1 : Int) ∧ E 2 4 = (s.2 : Int) ∧ E 2 5 = (if s.2 = 0 then -1 else (tkP (T s.1) : Int)) ∧ s.1 ≤ 400 ∧ live T s.1
theorem CkS.ptr {D E : Nat → Nat → Int} {T : Nat → TK} {s : SS} {g : Nat → Int} (h : CkS D E T s g) (hc : CPtr D) : CPtr E := by
  obtain ⟨_, _, _, _, p4, p5, p7, c7, _⟩ := pd_scan
  refine hc.congr (fun r k hr => ?_)
  by_cases h2 : r = 2
  · subst h2
    refine h.2.1 k (fun e => ?_) (fun e => ?_) (fun e => ?_)
    · subst e; rw [p4] at hr; cases hr
    · subst e; rw [p5] at hr; cases hr
    · subst e; rw [p7] at hr; cases hr
  · rw [h.1 r h2 (fun e => ?_)]
    subst e
    have := ptrd_c hr
    rw [c7] at this
    cases this
theorem TkC.congr {D E : Nat → Nat → Int} {T : Nat → TK} (h : TkC D T) (h0 : E 2 0 = D 2 0) (hd : ∀ q, 3 ≤ q → q ≤ 5 → E q = D q) : TkC E T := by
  unfold TkC at h ⊢
  rw [h0, hd 3 (by omega) (by omega), hd 4 (by omega) (by omega), hd 5 (by omega) (by omega)]
  exact h
theorem CkS.tk {D E : Nat → Nat → Int} {T : Nat → TK} {s : SS} {g : Nat → Int} (h : CkS D E T s g) (ht : TkC D T) : TkC E T := ht.congr (h.2.1 0 (by decide) (by decide) (by decide)) (fun q h1 h2 => h.1 q (by omega) (by omega))
theorem kindAt_eq (xs : List Int) (d : Nat) {κ : aK} {D : Nat → Nat → Int} (hκ : Shp κ) (hc : CPtr D) {T : Nat → TK} (ht : TkC D T) {a : Nat} (ha : a ≤ 400) {j : Int} (hj : j = (a : Int)) : cl xs (d + 1) 37 [.inr (.inr ((2 : Nat) : Int)), .inl j] (κ, D) = some (some (.inl (tkK (T a) : Int)), (κ, D)) := by
  obtain ⟨sz, s1, s2, s3⟩ := ht
  subst hj
  rw [c_37]
  by_cases h : a < sz
  · have e := ((s3 a ha).1 h).1
    simp (disch := omega) only [cond_true, cond_false, Bool.and_true, Bool.true_and, Bool.and_false, Bool.false_and, Int.toNat_natCast, Int.reduceToNat, bI_s, bJ_s, bV_s, bR_s, decide_true, decide_false, not_true_eq_false, not_false_eq_true, dT, dF, w_al, w_la, w_ab, w_sl, w_sb, w_dec, w_ml, w_lm, ol2i_n, aup_ne, aupE, aupJ, setc_self, setc_ne, kc_2 hκ, s2, pc_2_1 hc, nc_3 hκ, e]
  · rw [(s3 a ha).2.1 (by omega)]
    simp (disch := omega) only [cond_true, cond_false, Bool.and_true, Bool.true_and, Bool.and_false, Bool.false_and, Int.toNat_natCast, Int.reduceToNat, bI_s, bJ_s, bV_s, bR_s, decide_true, decide_false, not_true_eq_false, not_false_eq_true, dT, dF, w_al, w_la, w_ab, w_sl, w_sb, w_dec, w_ml, w_lm, ol2i_n, aup_ne, aupE, aupJ, setc_self, setc_ne, kc_2 hκ, s2]
    rfl
theorem startAt_eq (xs : List Int) (d : Nat) {κ : aK} {D : Nat → Nat → Int} (hκ : Shp κ) (hc : CPtr D) {T : Nat → TK} (ht : TkC D T) {a : Nat} (ha : a ≤ 400) (hl : live T a) {j : Int} (hj : j = (a : Int)) : cl xs (d + 1) 39 [.inr (.inr ((2 : Nat) : Int)), .inl j] (κ, D) = some (some (.inl (tkP (T a) : Int)), (κ, D)) := by
  obtain ⟨sz, s1, s2, s3⟩ := ht
  subst hj
  have h := (s3 a ha).2.2 hl
  have e := ((s3 a ha).1 h).2.1
  rw [c_39]
  simp (disch := omega) only [cond_true, cond_false, Bool.and_true, Bool.true_and, Bool.and_false, Bool.false_and, Int.toNat_natCast, Int.reduceToNat, bI_s, bJ_s, bV_s, bR_s, decide_true, decide_false, not_true_eq_false, not_false_eq_true, dT, dF, w_al, w_la, w_ab, w_sl, w_sb, w_dec, w_ml, w_lm, ol2i_n, aup_ne, aupE, aupJ, setc_self, setc_ne, kc_2 hκ, s2, pc_2_2 hc, nc_4 hκ, e]
theorem sfail_eq (xs : List Int) (d : Nat) {κ : aK} {D : Nat → Nat → Int} {E : Nat → Nat → Int} (hκ : Shp κ) (hc : CPtr D) {T : Nat → TK} (ht : TkC D T) {a : Nat} {g : Nat → Int} (h : CkS D E T (a, 0) g) {k : Nat} (hk : ¬ k = 0) {kk : Int} (hkk : kk = (k : Int)) : ∃ E', cl xs (d + 2) 50 [.inr (.inr ((2 : Nat) : Int)), .inl kk] (κ, E) = some (some (.inl 0), (κ, E')) ∧ CkS D E' T (a, k) g := by
  subst hkk
  have hcE := h.ptr hc
  have htE := h.tk ht
  obtain ⟨h1, h2, h3, h4, h5, h6, h7, h8⟩ := h
  have hc1 : CPtr (aup E 2 4 (k : Int)) := hcE.up pd_scan.2.2.2.2.1 _
  have ht1 : TkC (aup E 2 4 (k : Int)) T := htE.congr (by rw [aupJ (by decide)]) (fun q a b => aupN (by omega))
  refine ⟨aup (aup E 2 4 (k : Int)) 2 5 (tkP (T a) : Int), ?_, fun q hq hq2 => ?_, fun j a b c => ?_, ?_, ?_, ?_, ?_, h7, h8⟩
  · have st := startAt_eq xs d hκ hc1 ht1 h7 h8 (j := E 2 7) h4
    rw [c_50]
    simp (disch := omega) only [cond_true, cond_false, Bool.and_true, Bool.true_and, Bool.and_false, Bool.false_and, Int.toNat_natCast, Int.reduceToNat, bI_s, bJ_s, bV_s, bR_s, decide_true, decide_false, not_true_eq_false, not_false_eq_true, dT, dF, w_al, w_la, w_ab, w_sl, w_sb, w_dec, w_ml, w_lm, ol2i_n, aup_ne, aupE, aupJ, setc_self, setc_ne, kc_2 hκ, st]
  · rw [aupN hq, aupN hq]; exact h1 q hq hq2
  · rw [aupJ b, aupJ a]; exact h2 j a b c
  · rw [aupN (by decide), aupN (by decide)]; exact h3
  · rw [aupJ (by decide), aupJ (by decide)]; exact h4
  · rw [aupJ (by decide), aupE]
  · rw [aupE, if_neg hk]
/-- a check: what it answers, and where it ends -/
def Ck (κ : aK) (D : Nat → Nat → Int) (T : Nat → TK) (M : aH → aO) (φ : SS → SS) : Prop := ∀ E g a, CkS D E T (a, 0) g → ∃ E', M (κ, E) = some (some (.inl (if (φ (a, 0)).2 = 0 then 1 else 0)), (κ, E')) ∧ CkS D E' T (φ (a, 0)) g
theorem Ck.one {κ : aK} {D : Nat → Nat → Int} {T : Nat → TK} : Ck κ D T (fun h => some (some (.inl 1), h)) (fun s => s) := fun E _ _ h => ⟨E, rfl, h⟩
theorem Ck.fail (xs : List Int) (d : Nat) {κ : aK} {D : Nat → Nat → Int} (hκ : Shp κ) (hc : CPtr D) {T : Nat → TK} (ht : TkC D T) {k : Nat} (hk : ¬ k = 0) {kk : Int} (hkk : kk = (k : Int)) : Ck κ D T (fun h => bif aok h.1 ((2 : Nat) : Int) 4 && true then bI (cl xs (d + 2) 50 [.inr (.inr ((2 : Nat) : Int)), .inl kk] h) (fun x h1 => bif decide (x = 0) || decide (x = 1) then some (some (.inl x), h1) else none) else none) (fl k) := fun E g a h => by
  obtain ⟨E', e1, e2⟩ := sfail_eq xs d hκ hc ht h hk hkk
  refine ⟨E', ?_, e2⟩
  have : (fl k (a, 0)) = (a, k) := if_pos rfl
  rw [this]
  show (bif aok κ ((2 : Nat) : Int) 4 && true then bI (cl xs (d + 2) 50 [.inr (.inr ((2 : Nat) : Int)), .inl kk] (κ, E)) _ else none) = some (some (.inl (if k = 0 then 1 else 0)), (κ, E'))
  rw [if_neg hk, e1, kc_2 hκ]
  rfl
theorem Ck.due (xs : List Int) (d : Nat) {κ : aK} {D : Nat → Nat → Int} (hκ : Shp κ) (hc : CPtr D) {T : Nat → TK} (ht : TkC D T) {k : Nat} (hk : ¬ k = 0) {kk : Int} (hkk : kk = (k : Int)) : Ck κ D T (fun h => cl xs (d + 3) 51 [.inr (.inr ((2 : Nat) : Int)), .inl kk] h) (mu T k) := fun E g a h => by
  have hcE := h.ptr hc
  have htE := h.tk ht
  have h' := h
  obtain ⟨h1, h2, h3, h4, h5, h6, h7, h8⟩ := h
  have h7 : a ≤ 400 := h7
  have h4 : E 2 7 = (a : Int) := h4
  have ka := kindAt_eq xs (d + 1) hκ hcE htE h7 (j := (a : Int)) rfl
  show ∃ E', cl xs (d + 3) 51 _ (κ, E) = some (some (.inl (if (mu T k (a, 0)).2 = 0 then 1 else 0)), (κ, E')) ∧ CkS D E' T (mu T k (a, 0)) g
  have emu : mu T k (a, 0) = (if tkK (T a) = k then (if 400 ≤ a then (a, 2) else (a + 1, 0)) else (a, 1)) := if_pos rfl
  rw [emu]
  by_cases hkk' : tkK (T a) = k
  · rw [if_pos hkk']
    have ek : ((tkK (T a) : Nat) : Int) = kk := by rw [hkk, hkk']
    by_cases h400 : 400 ≤ a
    · rw [if_pos h400]
      obtain ⟨E', e1, e2⟩ := sfail_eq xs d hκ hc ht h' (k := 2) (by decide) (kk := 2) rfl
      refine ⟨E', ?_, e2⟩
      rw [c_51]
      simp (disch := omega) only [cond_true, cond_false, Bool.and_true, Bool.true_and, Bool.and_false, Bool.false_and, Int.toNat_natCast, Int.reduceToNat, bI_s, bJ_s, bV_s, bR_s, decide_true, decide_false, not_true_eq_false, not_false_eq_true, dT, dF, w_al, w_la, w_ab, w_sl, w_sb, w_dec, w_ml, w_lm, ol2i_n, aup_ne, aupE, aupJ, setc_self, setc_ne, kc_2 hκ, ka, ek, h4, e1]
      rfl
    · rw [if_neg h400]
      refine ⟨aup E 2 7 ((a + 1 : Nat) : Int), ?_, fun q hq hq2 => ?_, fun j a b c => ?_, ?_, ?_, ?_, ?_, by show a + 1 ≤ 400; omega, live_s h8 (by rw [hkk']; exact hk)⟩
      · rw [c_51]
        simp (disch := omega) only [cond_true, cond_false, Bool.and_true, Bool.true_and, Bool.and_false, Bool.false_and, Int.toNat_natCast, Int.reduceToNat, bI_s, bJ_s, bV_s, bR_s, decide_true, decide_false, not_true_eq_false, not_false_eq_true, dT, dF, w_al, w_la, w_ab, w_sl, w_sb, w_dec, w_ml, w_lm, ol2i_n, aup_ne, aupE, aupJ, setc_self, setc_ne, kc_2 hκ, ka, ek, h4]
        rfl
      · rw [aupN hq]; exact h1 q hq hq2
      · rw [aupJ c]; exact h2 j a b c
      · rw [aupN (by decide)]; exact h3
      · rw [aupE]
      · rw [aupJ (by decide)]; exact h5
      · rw [aupJ (by decide)]; exact h6
  · rw [if_neg hkk']
    obtain ⟨E', e1, e2⟩ := sfail_eq xs d hκ hc ht h' (k := 1) (by decide) (kk := 1) rfl
    have ek : ¬ ((tkK (T a) : Nat) : Int) = kk := by rw [hkk]; omega
    refine ⟨E', ?_, e2⟩
    rw [c_51]
    simp (disch := omega) only [cond_true, cond_false, Bool.and_true, Bool.true_and, Bool.and_false, Bool.false_and, Int.toNat_natCast, Int.reduceToNat, bI_s, bJ_s, bV_s, bR_s, decide_true, decide_false, not_true_eq_false, not_false_eq_true, dT, dF, w_al, w_la, w_ab, w_sl, w_sb, w_dec, w_ml, w_lm, ol2i_n, aup_ne, aupE, aupJ, setc_self, setc_ne, kc_2 hκ, h4, ka, ek, e1]
    rfl
theorem Ck.seq {κ : aK} {D : Nat → Nat → Int} {T : Nat → TK} (hκ : Shp κ) {M N : aH → aO} {φ ψ : SS → SS} (h1 : Ck κ D T M φ) (h2 : Ck κ D T N ψ) (hf : ∀ s : SS, ¬ s.2 = 0 → ψ s = s) : Ck κ D T (fun h => bif aok h.1 ((2 : Nat) : Int) 4 && true then bI (M h) (fun x h1 => bif decide (x = 0) then some (some (.inl 0), h1) else N h1) else none) (fun s => ψ (φ s)) := fun E g a h => by
  obtain ⟨E1, e1, c1⟩ := h1 E g a h
  show ∃ E', (bif aok κ ((2 : Nat) : Int) 4 && true then bI (M (κ, E)) _ else none) = some (some (.inl (if (ψ (φ (a, 0))).2 = 0 then 1 else 0)), (κ, E')) ∧ CkS D E' T (ψ (φ (a, 0))) g
  rw [e1, kc_2 hκ]
  by_cases hz : (φ (a, 0)).2 = 0
  · rw [if_pos hz]
    have hs : φ (a, 0) = ((φ (a, 0)).1, 0) := Prod.ext rfl hz
    rw [hs] at c1 ⊢
    exact h2 E1 g _ c1
  · rw [if_neg hz, hf _ hz, if_neg hz]
    exact ⟨E1, rfl, c1⟩
/-- as seq, the test the other way round -/
theorem Ck.seqN {κ : aK} {D : Nat → Nat → Int} {T : Nat → TK} (hκ : Shp κ) {M N : aH → aO} {φ ψ : SS → SS} (h1 : Ck κ D T M φ) (h2 : Ck κ D T N ψ) (hf : ∀ s : SS, ¬ s.2 = 0 → ψ s = s) : Ck κ D T (fun h => bif aok h.1 ((2 : Nat) : Int) 4 && true then bI (M h) (fun x h1 => bif decide (¬ x = 0) then N h1 else some (some (.inl 0), h1)) else none) (fun s => ψ (φ s)) := fun E g a h => by
  obtain ⟨E1, e1, c1⟩ := h1 E g a h
  show ∃ E', (bif aok κ ((2 : Nat) : Int) 4 && true then bI (M (κ, E)) _ else none) = some (some (.inl (if (ψ (φ (a, 0))).2 = 0 then 1 else 0)), (κ, E')) ∧ CkS D E' T (ψ (φ (a, 0))) g
  rw [e1, kc_2 hκ]
  by_cases hz : (φ (a, 0)).2 = 0
  · rw [if_pos hz]
    have hs : φ (a, 0) = ((φ (a, 0)).1, 0) := Prod.ext rfl hz
    rw [hs] at c1 ⊢
    exact h2 E1 g _ c1
  · rw [if_neg hz, hf _ hz, if_neg hz]
    exact ⟨E1, rfl, c1⟩
/-- a call whose answer is handed on -/
theorem Ck.ret {κ : aK} {D : Nat → Nat → Int} {T : Nat → TK} (hκ : Shp κ) {M : aH → aO} {φ : SS → SS} (h1 : Ck κ D T M φ) : Ck κ D T (fun h => bif aok h.1 ((2 : Nat) : Int) 4 && true then bI (M h) (fun x h1 => bif decide (x = 0) || decide (x = 1) then some (some (.inl x), h1) else none) else none) φ := fun E g a h => by
  obtain ⟨E1, e1, c1⟩ := h1 E g a h
  refine ⟨E1, ?_, c1⟩
  show (bif aok κ ((2 : Nat) : Int) 4 && true then bI (M (κ, E)) _ else none) = _
  rw [e1, kc_2 hκ]
  by_cases hz : (φ (a, 0)).2 = 0
  · rw [if_pos hz]; rfl
  · rw [if_neg hz]; rfl
/-- a look at the kind -/
theorem Ck.look (xs : List Int) (d : Nat) {κ : aK} {D : Nat → Nat → Int} (hκ : Shp κ) (hc : CPtr D) {T : Nat → TK} (ht : TkC D T) {k : Nat} {kk : Int} (hkk : kk = (k : Int)) {M N : aH → aO} {φ ψ : SS → SS} (h1 : Ck κ D T M φ) (h2 : Ck κ D T N ψ) : Ck κ D T (fun h => bif aok h.1 ((2 : Nat) : Int) 4 then bif aok h.1 ((2 : Nat) : Int) 4 && true then bI (cl xs (d + 1) 37 [.inr (.inr ((2 : Nat) : Int)), .inl (h.2 ((2 : Nat) : Int).toNat 7)] h) (fun x h1 => bif decide (¬ x = kk) then N h1 else M h1) else none else none) (fun s => ifk T k s (φ s) (ψ s)) := fun E g a h => by
  have hcE := h.ptr hc
  have htE := h.tk ht
  have h7 : a ≤ 400 := h.2.2.2.2.2.2.1
  have h4 : E 2 7 = (a : Int) := h.2.2.2.1
  have ka := kindAt_eq xs d hκ hcE htE h7 (j := E 2 7) h4
  have ei : ∀ p q : SS, ifk T k (a, 0) p q = (if tkK (T a) = k then p else q) := fun p q => if_pos rfl
  show ∃ E', (bif aok κ ((2 : Nat) : Int) 4 then bif aok κ ((2 : Nat) : Int) 4 && true then bI (cl xs (d + 1) 37 [.inr (.inr ((2 : Nat) : Int)), .inl (E 2 7)] (κ, E)) _ else none else none) = some (some (.inl (if (ifk T k (a, 0) (φ (a, 0)) (ψ (a, 0))).2 = 0 then 1 else 0)), (κ, E')) ∧ CkS D E' T (ifk T k (a, 0) (φ (a, 0)) (ψ (a, 0))) g
  rw [ka, kc_2 hκ, ei]
  by_cases hk : tkK (T a) = k
  · rw [if_pos hk]
    obtain ⟨E', e1, e2⟩ := h1 E g a h
    refine ⟨E', ?_, e2⟩
    rw [← e1]
    have : ((tkK (T a) : Nat) : Int) = kk := by rw [hkk, hk]
    simp (disch := omega) only [cond_true, cond_false, Bool.and_true, Bool.true_and, Bool.and_false, Bool.false_and, Int.toNat_natCast, Int.reduceToNat, bI_s, bJ_s, bV_s, bR_s, decide_true, decide_false, not_true_eq_false, not_false_eq_true, dT, dF, w_al, w_la, w_ab, w_sl, w_sb, w_dec, w_ml, w_lm, ol2i_n, aup_ne, aupE, aupJ, setc_self, setc_ne, this]
  · rw [if_neg hk]
    obtain ⟨E', e1, e2⟩ := h2 E g a h
    refine ⟨E', ?_, e2⟩
    rw [← e1]
    have : ¬ ((tkK (T a) : Nat) : Int) = kk := by rw [hkk]; omega
    simp (disch := omega) only [cond_true, cond_false, Bool.and_true, Bool.true_and, Bool.and_false, Bool.false_and, Int.toNat_natCast, Int.reduceToNat, bI_s, bJ_s, bV_s, bR_s, decide_true, decide_false, not_true_eq_false, not_false_eq_true, dT, dF, w_al, w_la, w_ab, w_sl, w_sb, w_dec, w_ml, w_lm, ol2i_n, aup_ne, aupE, aupJ, setc_self, setc_ne, this]
theorem isVar_eq (xs : List Int) (d : Nat) (h : aH) (k : Nat) : cl xs (d + 1) 59 [.inl (k : Int)] h = some (some (.inl (if isv k = true then 1 else 0)), h) := by
  rw [c_59]
  unfold isv
  by_cases h1 : k < 146
  · simp (disch := omega) only [cond_true, cond_false, Bool.and_true, Bool.true_and, Bool.and_false, Bool.false_and, Int.toNat_natCast, Int.reduceToNat, bI_s, bJ_s, bV_s, bR_s, decide_true, decide_false, not_true_eq_false, not_false_eq_true, dT, dF, w_al, w_la, w_ab, w_sl, w_sb, w_dec, w_ml, w_lm, ol2i_n, aup_ne, aupE, aupJ, setc_self, setc_ne, Bool.false_eq_true, if_false]
  · by_cases h2 : 151 < k
    · simp (disch := omega) only [cond_true, cond_false, Bool.and_true, Bool.true_and, Bool.and_false, Bool.false_and, Int.toNat_natCast, Int.reduceToNat, bI_s, bJ_s, bV_s, bR_s, decide_true, decide_false, not_true_eq_false, not_false_eq_true, dT, dF, w_al, w_la, w_ab, w_sl, w_sb, w_dec, w_ml, w_lm, ol2i_n, aup_ne, aupE, aupJ, setc_self, setc_ne, Bool.false_eq_true, if_false]
    · simp (disch := omega) only [cond_true, cond_false, Bool.and_true, Bool.true_and, Bool.and_false, Bool.false_and, Int.toNat_natCast, Int.reduceToNat, bI_s, bJ_s, bV_s, bR_s, decide_true, decide_false, not_true_eq_false, not_false_eq_true, dT, dF, w_al, w_la, w_ab, w_sl, w_sb, w_dec, w_ml, w_lm, ol2i_n, aup_ne, aupE, aupJ, setc_self, setc_ne, if_true]
theorem isv_iff {k : Nat} : isv k = true ↔ 146 ≤ k ∧ k ≤ 151 := by
  unfold isv
  rw [Bool.and_eq_true, decide_eq_true_iff, decide_eq_true_iff]
/-- E of the grammar -/
theorem dueSum_loop (xs : List Int) (d : Nat) {κ : aK} {D : Nat → Nat → Int} (hκ : Shp κ) (hc : CPtr D) {T : Nat → TK} (ht : TkC D T) (g : Nat → Int) : ∀ (m a : Nat) (lv : List LV) (due : Bool) (c : VF) (n : Nat) (u4 : Option aV) (E : Nat → Nat → Int), a + m = 401 → n ≤ a → 1 ≤ lv.length → lv.length ≤ 7 → CkS D E T (a, 0) g → ∃ E', ev xs (d + 3) mm_58 6 [some (.inr (.inr ((2 : Nat) : Int))), some (.inl ((lv.length - 1 : Nat) : Int)), some (.inl (if due = true then 1 else 0)), some (.inl (n : Int)), u4] [] (κ, E) = some (some (.inl (if (exA T m a lv due c).2.1 = 0 then 1 else 0)), (κ, E')) ∧ CkS D E' T ((exA T m a lv due c).1, (exA T m a lv due c).2.1) g
  | 0, a, lv, due, c, n, u4, E, hm, hn, hl1, hl7, h => absurd h.2.2.2.2.2.2.1 (by show ¬ a ≤ 400; omega)
  | m + 1, a, lv, due, c, n, u4, E, hm, hn, hl1, hl7, h => by
    have k2 := kc_2 hκ
    have hcE := h.ptr hc
    have htE := h.tk ht
    have h7 : a ≤ 400 := h.2.2.2.2.2.2.1
    have h4 : E 2 7 = (a : Int) := h.2.2.2.1
    have ka := kindAt_eq xs (d + 2) hκ hcE htE h7 (j := E 2 7) h4
    have f1 : ∃ E', cl xs (d + 3) 50 [.inr (.inr ((2 : Nat) : Int)), .inl 1] (κ, E) = some (some (.inl 0), (κ, E')) ∧ CkS D E' T (a, 1) g := sfail_eq xs (d + 1) hκ hc ht h (k := 1) (by decide) rfl
    have f2 : ∃ E', cl xs (d + 3) 50 [.inr (.inr ((2 : Nat) : Int)), .inl 2] (κ, E) = some (some (.inl 0), (κ, E')) ∧ CkS D E' T (a, 2) g := sfail_eq xs (d + 1) hκ hc ht h (k := 2) (by decide) rfl
    -- the token is due, and then the loop goes on
    have go : ∀ (lv' : List LV) (due' : Bool) (c' : VF), ¬ tkK (T a) = 0 → 1 ≤ lv'.length → lv'.length ≤ 7 → ∃ E', ev xs (d + 3) mm_58 136 [some (.inr (.inr ((2 : Nat) : Int))), some (.inl ((lv'.length - 1 : Nat) : Int)), some (.inl (if due' = true then 1 else 0)), some (.inl (n : Int)), some (.inl (tkK (T a) : Int))] [] (κ, E) = some (some (.inl (if (if 400 ≤ a then (a, 2, c) else exA T m (a + 1) lv' due' c').2.1 = 0 then 1 else 0)), (κ, E')) ∧ CkS D E' T ((if 400 ≤ a then (a, 2, c) else exA T m (a + 1) lv' due' c').1, (if 400 ≤ a then (a, 2, c) else exA T m (a + 1) lv' due' c').2.1) g := fun lv' due' c' hz hl1' hl7' => by
      obtain ⟨E1, d1, d2⟩ := Ck.due xs d hκ hc ht hz (kk := (tkK (T a) : Int)) rfl E g a h
      have emu : mu T (tkK (T a)) (a, 0) = (if 400 ≤ a then (a, 2) else (a + 1, 0)) := (if_pos rfl).trans (if_pos rfl)
      rw [emu] at d1 d2
      rw [q_58_136]
      by_cases h400 : 400 ≤ a
      · rw [if_pos h400] at d1 d2 ⊢
        refine ⟨E1, ?_, d2⟩
        change cl xs (d + 3) 51 _ (κ, E) = some (some (.inl (if 2 = 0 then 1 else 0)), (κ, E1)) at d1
        rw [if_neg (by decide)] at d1
        simp (disch := omega) only [cond_true, cond_false, Bool.and_true, Bool.true_and, Bool.and_false, Bool.false_and, Int.toNat_natCast, Int.reduceToNat, bI_s, bJ_s, bV_s, bR_s, decide_true, decide_false, not_true_eq_false, not_false_eq_true, dT, dF, w_al, w_la, w_ab, w_sl, w_sb, w_dec, w_ml, w_lm, ol2i_n, aup_ne, aupE, aupJ, setc_self, setc_ne, k2, d1]
        rfl
      · rw [if_neg h400] at d1 d2 ⊢
        change cl xs (d + 3) 51 _ (κ, E) = some (some (.inl (if 0 = 0 then 1 else 0)), (κ, E1)) at d1
        rw [if_pos rfl] at d1
        obtain ⟨E', i1, i2⟩ := dueSum_loop xs d hκ hc ht g m (a + 1) lv' due' c' (n + 1) (some (.inl (tkK (T a) : Int))) E1 (by omega) (by omega) hl1' hl7' d2
        refine ⟨E', ?_, i2⟩
        rw [← i1]
        simp (disch := omega) only [cond_true, cond_false, Bool.and_true, Bool.true_and, Bool.and_false, Bool.false_and, Int.toNat_natCast, Int.reduceToNat, bI_s, bJ_s, bV_s, bR_s, decide_true, decide_false, not_true_eq_false, not_false_eq_true, dT, dF, w_al, w_la, w_ab, w_sl, w_sb, w_dec, w_ml, w_lm, ol2i_n, aup_ne, aupE, aupJ, setc_self, setc_ne, k2, d1]
    rw [q_58_6]
    cases due with
    | true =>
      rw [if_pos rfl]
      by_cases h40 : tkK (T a) = 40
      · have ex : exA T (m + 1) a lv true c = (if 6 < lv.length then (a, 2, c) else if 400 ≤ a then (a, 2, c) else exA T m (a + 1) ((none, none) :: lv) true c) := if_pos h40
        rw [ex]
        by_cases h6 : 6 < lv.length
        · rw [if_pos h6]
          obtain ⟨E', e1, e2⟩ := f2
          refine ⟨E', ?_, e2⟩
          simp (disch := omega) only [cond_true, cond_false, Bool.and_true, Bool.true_and, Bool.and_false, Bool.false_and, Int.toNat_natCast, Int.reduceToNat, bI_s, bJ_s, bV_s, bR_s, decide_true, decide_false, not_true_eq_false, not_false_eq_true, dT, dF, w_al, w_la, w_ab, w_sl, w_sb, w_dec, w_ml, w_lm, ol2i_n, aup_ne, aupE, aupJ, setc_self, setc_ne, k2, ka, h40, e1]
          rfl
        · rw [if_neg h6]
          obtain ⟨E', e1, e2⟩ := go ((none, none) :: lv) true c (by omega) (by rw [List.length_cons]; omega) (by rw [List.length_cons]; omega)
          refine ⟨E', ?_, e2⟩
          rw [← e1, List.length_cons, if_pos rfl]
          simp (disch := omega) only [cond_true, cond_false, Bool.and_true, Bool.true_and, Bool.and_false, Bool.false_and, Int.toNat_natCast, Int.reduceToNat, bI_s, bJ_s, bV_s, bR_s, decide_true, decide_false, not_true_eq_false, not_false_eq_true, dT, dF, w_al, w_la, w_ab, w_sl, w_sb, w_dec, w_ml, w_lm, ol2i_n, aup_ne, aupE, aupJ, setc_self, setc_ne, k2, ka, h40]
          rw [show lv.length - 1 + 1 = lv.length + 1 - 1 by omega]
      · by_cases hu : tkK (T a) = 3 ∨ isv (tkK (T a)) = true
        · have ex : exA T (m + 1) a lv true c = (if 400 ≤ a then (a, 2, c) else exA T m (a + 1) lv false (uni (T a))) := (if_neg h40).trans (if_pos hu)
          rw [ex]
          obtain ⟨E', e1, e2⟩ := go lv false (uni (T a)) (by rcases hu with hu | hu; omega; have := isv_iff.mp hu; omega) hl1 hl7
          refine ⟨E', ?_, e2⟩
          rw [← e1]
          have ne40 : ¬ ((tkK (T a) : Nat) : Int) = 40 := by omega
          simp (disch := omega) only [cond_true, cond_false, Bool.and_true, Bool.true_and, Bool.and_false, Bool.false_and, Int.toNat_natCast, Int.reduceToNat, bI_s, bJ_s, bV_s, bR_s, decide_true, decide_false, not_true_eq_false, not_false_eq_true, dT, dF, w_al, w_la, w_ab, w_sl, w_sb, w_dec, w_ml, w_lm, ol2i_n, aup_ne, aupE, aupJ, setc_self, setc_ne, k2, ka, ne40]
          rw [q_58_49]
          by_cases h3 : tkK (T a) = 3
          · simp (disch := omega) only [cond_true, cond_false, Bool.and_true, Bool.true_and, Bool.and_false, Bool.false_and, Int.toNat_natCast, Int.reduceToNat, bI_s, bJ_s, bV_s, bR_s, decide_true, decide_false, not_true_eq_false, not_false_eq_true, dT, dF, w_al, w_la, w_ab, w_sl, w_sb, w_dec, w_ml, w_lm, ol2i_n, aup_ne, aupE, aupJ, setc_self, setc_ne, k2, h3]
            rfl
          · have hv : isv (tkK (T a)) = true := by rcases hu with hu | hu; exact absurd hu h3; exact hu
            have ne3 : ¬ ((tkK (T a) : Nat) : Int) = 3 := by omega
            simp (disch := omega) only [cond_true, cond_false, Bool.and_true, Bool.true_and, Bool.and_false, Bool.false_and, Int.toNat_natCast, Int.reduceToNat, bI_s, bJ_s, bV_s, bR_s, decide_true, decide_false, not_true_eq_false, not_false_eq_true, dT, dF, w_al, w_la, w_ab, w_sl, w_sb, w_dec, w_ml, w_lm, ol2i_n, aup_ne, aupE, aupJ, setc_self, setc_ne, k2, ne3, isVar_eq xs (d + 2), hv, if_true]
            rfl
        · have ex : exA T (m + 1) a lv true c = (a, 1, c) := (if_neg h40).trans (if_neg hu)
          rw [ex]
          obtain ⟨E', e1, e2⟩ := f1
          refine ⟨E', ?_, e2⟩
          have ne40 : ¬ ((tkK (T a) : Nat) : Int) = 40 := by omega
          have ne3 : ¬ ((tkK (T a) : Nat) : Int) = 3 := fun e => hu (Or.inl (by omega))
          have hv : ¬ isv (tkK (T a)) = true := fun e => hu (Or.inr e)
          simp (disch := omega) only [cond_true, cond_false, Bool.and_true, Bool.true_and, Bool.and_false, Bool.false_and, Int.toNat_natCast, Int.reduceToNat, bI_s, bJ_s, bV_s, bR_s, decide_true, decide_false, not_true_eq_false, not_false_eq_true, dT, dF, w_al, w_la, w_ab, w_sl, w_sb, w_dec, w_ml, w_lm, ol2i_n, aup_ne, aupE, aupJ, setc_self, setc_ne, k2, ka, ne40]
          rw [q_58_49]
          simp (disch := omega) only [cond_true, cond_false, Bool.and_true, Bool.true_and, Bool.and_false, Bool.false_and, Int.toNat_natCast, Int.reduceToNat, bI_s, bJ_s, bV_s, bR_s, decide_true, decide_false, not_true_eq_false, not_false_eq_true, dT, dF, w_al, w_la, w_ab, w_sl, w_sb, w_dec, w_ml, w_lm, ol2i_n, aup_ne, aupE, aupJ, setc_self, setc_ne, k2, ne3, isVar_eq xs (d + 2), hv, if_false, e1]
          rfl
    | false =>
      rw [if_neg (by decide)]
      simp (disch := omega) only [cond_true, cond_false, Bool.and_true, Bool.true_and, Bool.and_false, Bool.false_and, Int.toNat_natCast, Int.reduceToNat, bI_s, bJ_s, bV_s, bR_s, decide_true, decide_false, not_true_eq_false, not_false_eq_true, dT, dF, w_al, w_la, w_ab, w_sl, w_sb, w_dec, w_ml, w_lm, ol2i_n, aup_ne, aupE, aupJ, setc_self, setc_ne, k2, ka]
      rw [q_58_49]
      cases lv with
      | nil => exact absurd hl1 (by decide)
      | cons l r =>
        rw [List.length_cons] at hl1 hl7
        by_cases h42 : tkK (T a) = 42 ∨ tkK (T a) = 47
        · have ex : exA T (m + 1) a (l :: r) false c = (if 400 ≤ a then (a, 2, c) else exA T m (a + 1) ((l.1, some (apl l.2 c, tkK (T a))) :: r) true c) := if_pos h42
          rw [ex]
          obtain ⟨E', e1, e2⟩ := go ((l.1, some (apl l.2 c, tkK (T a))) :: r) true c (by omega) (by rw [List.length_cons]; omega) (by rw [List.length_cons]; omega)
          refine ⟨E', ?_, e2⟩
          rw [← e1, if_pos rfl]
          rcases h42 with h42 | h42
          · simp (disch := omega) only [cond_true, cond_false, Bool.and_true, Bool.true_and, Bool.and_false, Bool.false_and, Int.toNat_natCast, Int.reduceToNat, bI_s, bJ_s, bV_s, bR_s, decide_true, decide_false, not_true_eq_false, not_false_eq_true, dT, dF, w_al, w_la, w_ab, w_sl, w_sb, w_dec, w_ml, w_lm, ol2i_n, aup_ne, aupE, aupJ, setc_self, setc_ne, k2, h42]
            rfl
          · simp (disch := omega) only [cond_true, cond_false, Bool.and_true, Bool.true_and, Bool.and_false, Bool.false_and, Int.toNat_natCast, Int.reduceToNat, bI_s, bJ_s, bV_s, bR_s, decide_true, decide_false, not_true_eq_false, not_false_eq_true, dT, dF, w_al, w_la, w_ab, w_sl, w_sb, w_dec, w_ml, w_lm, ol2i_n, aup_ne, aupE, aupJ, setc_self, setc_ne, k2, h42]
            rfl
        · by_cases h43 : tkK (T a) = 43 ∨ tkK (T a) = 45
          · have ex : exA T (m + 1) a (l :: r) false c = (if 400 ≤ a then (a, 2, c) else exA T m (a + 1) ((some (fin1 l c, tkK (T a)), none) :: r) true c) := (if_neg h42).trans (if_pos h43)
            rw [ex]
            obtain ⟨E', e1, e2⟩ := go ((some (fin1 l c, tkK (T a)), none) :: r) true c (by omega) (by rw [List.length_cons]; omega) (by rw [List.length_cons]; omega)
            refine ⟨E', ?_, e2⟩
            rw [← e1, if_pos rfl]
            rcases h43 with h43 | h43
            · simp (disch := omega) only [cond_true, cond_false, Bool.and_true, Bool.true_and, Bool.and_false, Bool.false_and, Int.toNat_natCast, Int.reduceToNat, bI_s, bJ_s, bV_s, bR_s, decide_true, decide_false, not_true_eq_false, not_false_eq_true, dT, dF, w_al, w_la, w_ab, w_sl, w_sb, w_dec, w_ml, w_lm, ol2i_n, aup_ne, aupE, aupJ, setc_self, setc_ne, k2, h43]
              rfl
            · simp (disch := omega) only [cond_true, cond_false, Bool.and_true, Bool.true_and, Bool.and_false, Bool.false_and, Int.toNat_natCast, Int.reduceToNat, bI_s, bJ_s, bV_s, bR_s, decide_true, decide_false, not_true_eq_false, not_false_eq_true, dT, dF, w_al, w_la, w_ab, w_sl, w_sb, w_dec, w_ml, w_lm, ol2i_n, aup_ne, aupE, aupJ, setc_self, setc_ne, k2, h43]
              rfl
          · have n42 : ¬ ((tkK (T a) : Nat) : Int) = 42 := by omega
            have n47 : ¬ ((tkK (T a) : Nat) : Int) = 47 := by omega
            have n43 : ¬ ((tkK (T a) : Nat) : Int) = 43 := by omega
            have n45 : ¬ ((tkK (T a) : Nat) : Int) = 45 := by omega
            cases r with
            | nil =>
              have ex : exA T (m + 1) a [l] false c = (a, 0, fin1 l c) := (if_neg h42).trans ((if_neg h43).trans (if_pos rfl))
              rw [ex]
              refine ⟨E, ?_, h⟩
              simp (disch := omega) only [cond_true, cond_false, Bool.and_true, Bool.true_and, Bool.and_false, Bool.false_and, Int.toNat_natCast, Int.reduceToNat, bI_s, bJ_s, bV_s, bR_s, decide_true, decide_false, not_true_eq_false, not_false_eq_true, dT, dF, w_al, w_la, w_ab, w_sl, w_sb, w_dec, w_ml, w_lm, ol2i_n, aup_ne, aupE, aupJ, setc_self, setc_ne, k2, n42, n43, n45, n47, List.length_cons, List.length_nil]
              rfl
            | cons l2 r2 =>
              have e0 : exA T (m + 1) a (l :: l2 :: r2) false c = (if tkK (T a) = 41 then (if 400 ≤ a then (a, 2, c) else exA T m (a + 1) (l2 :: r2) false (fin1 l c)) else (a, 1, c)) := (if_neg h42).trans ((if_neg h43).trans (if_neg (by simp)))
              rw [e0]
              rw [List.length_cons] at hl7
              by_cases h41 : tkK (T a) = 41
              · rw [if_pos h41]
                obtain ⟨E', e1, e2⟩ := go (l2 :: r2) false (fin1 l c) (by omega) (by rw [List.length_cons]; omega) (by rw [List.length_cons]; omega)
                refine ⟨E', ?_, e2⟩
                rw [← e1, if_neg (by decide)]
                simp (disch := omega) only [cond_true, cond_false, Bool.and_true, Bool.true_and, Bool.and_false, Bool.false_and, Int.toNat_natCast, Int.reduceToNat, bI_s, bJ_s, bV_s, bR_s, decide_true, decide_false, not_true_eq_false, not_false_eq_true, dT, dF, w_al, w_la, w_ab, w_sl, w_sb, w_dec, w_ml, w_lm, ol2i_n, aup_ne, aupE, aupJ, setc_self, setc_ne, k2, h41, List.length_cons]
                rw [show r2.length + 1 + 1 - 1 - 1 = r2.length + 1 - 1 by omega]
              · rw [if_neg h41]
                obtain ⟨E', e1, e2⟩ := f1
                refine ⟨E', ?_, e2⟩
                have n41 : ¬ ((tkK (T a) : Nat) : Int) = 41 := by omega
                simp (disch := omega) only [cond_true, cond_false, Bool.and_true, Bool.true_and, Bool.and_false, Bool.false_and, Int.toNat_natCast, Int.reduceToNat, bI_s, bJ_s, bV_s, bR_s, decide_true, decide_false, not_true_eq_false, not_false_eq_true, dT, dF, w_al, w_la, w_ab, w_sl, w_sb, w_dec, w_ml, w_lm, ol2i_n, aup_ne, aupE, aupJ, setc_self, setc_ne, k2, n42, n43, n45, n47, n41, List.length_cons, e1]
                rfl
theorem Ck.sum (xs : List Int) (d : Nat) {κ : aK} {D : Nat → Nat → Int} (hκ : Shp κ) (hc : CPtr D) {T : Nat → TK} (ht : TkC D T) : Ck κ D T (fun h => cl xs (d + 4) 58 [.inr (.inr ((2 : Nat) : Int))] h) (sm T) := fun E g a h => by
  have h7 : a ≤ 400 := h.2.2.2.2.2.2.1
  obtain ⟨E', e1, e2⟩ := dueSum_loop xs d hκ hc ht g (401 - a) a [(none, none)] true cz 0 none E (by omega) (by omega) (by decide) (by decide) h
  have es : sm T (a, 0) = ((smE T a).1, (smE T a).2.1) := if_pos rfl
  rw [es]
  exact ⟨E', (c_58 xs (d + 3) ((2 : Nat) : Int) (κ, E)).trans e1, e2⟩
