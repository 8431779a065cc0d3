/-! The reference reads: an expression, all of it. -/
def cOf (due : Bool) (c : VF) : List VF := if due = true then [] else [c]
/-- where the reference's loop stands -/
def pcX (due : Bool) : Nat := if due = true then 23 else 96
theorem rexL (xs : List Int) (d : Nat) {κ : aK} {D : Nat → Nat → Int} {v u : Nat} (hκ : Shp κ) (hpD : PtrR D) {T : Nat → TK} (hT : TKok T) (hk : TkR D T) (hsd : RsD D v u) {p0 : Nat} {w : SS} : ∀ (m a : Nat) (l : LV) (r : List LV) (due : Bool) (c : VF) (E : Nat → Nat → Int) (k : Nat), a + m = 401 → r.length ≤ 6 → lok l → (∀ l' ∈ r, lok l') → RpS D E v T (a, 0) w → k + (fsL (l :: r)).length ≤ a → E 256 12 = (r.length : Int) → XI E u p0 k (pw l.2 ++ (pw l.1 ++ rsL r)) (cOf due c ++ (pf l.2 ++ (pf l.1 ++ fsL r))) → ∃ E', ev xs (d + 3) mm_223 (pcX due) [some (.inr (.inr 256)), some (.inl 0), some (.inl 1)] [] (κ, E) = some (none, (κ, E')) ∧ RpS D E' v T ((exA T m a (l :: r) due c).1, (exA T m a (l :: r) due c).2.1) w ∧ RxF E E' u k ∧ ((exA T m a (l :: r) due c).2.1 = 0 → E' 256 12 = 0 ∧ ∃ k', k ≤ k' ∧ k' ≤ (exA T m a (l :: r) due c).1 ∧ XI E' u p0 k' [] [(exA T m a (l :: r) due c).2.2]) := by
  intro m
  induction m with
  | zero =>
    intro a l r due c E k hm hr hl hlr h hb e12 hX
    have : a ≤ 400 := (h.2.2.2.2 rfl).2.1
    omega
  | succ m ih =>
    intro a l r due c E k hm hr hl hlr h hb e12 hX
    have k256 := k_256 hκ
    have h13 : E 256 13 = 0 := h.2.1
    have ha4 : a ≤ 400 := (h.2.2.2.2 rfl).2.1
    have flh := fsL_len l r
    have rl := rsL_len r
    have lw1 := pw_le l.1
    have lw2 := pw_le l.2
    have hWl : (pw l.2 ++ (pw l.1 ++ rsL r)).length ≤ 20 := by
      rw [List.length_append, List.length_append]
      omega
    cases due with
    | true =>
      have hX : XI E u p0 k (pw l.2 ++ (pw l.1 ++ rsL r)) (pf l.2 ++ (pf l.1 ++ fsL r)) := hX
      show ∃ E', ev xs (d + 3) mm_223 23 _ _ _ = _ ∧ _
      have is := r_is xs (d + 2) hκ hpD hT hk h (k := 40) (by decide) (kk := 6) rfl
      by_cases h40 : tkK (T a) = 40
      · rw [if_pos ⟨rfl, h40⟩] at is
        have ex : exA T (m + 1) a (l :: r) true c = (if 6 < (l :: r).length then (a, 2, c) else if 400 ≤ a then (a, 2, c) else exA T m (a + 1) ((none, none) :: l :: r) true c) := if_pos h40
        rw [List.length_cons] at ex
        -- the bracket is taken up, with or without a fault
        have push : ∀ (E1 : Nat → Nat → Int) (s1 : SS), RpS D E1 v T s1 w → (s1.2 = 0 → ¬ tkK (T s1.1) = 0) → Rq E E1 → ∃ E2, ev xs (d + 3) mm_223 46 [some (.inr (.inr 256)), some (.inl 0), some (.inl 1)] [] (κ, E1) = ev xs (d + 3) mm_223 23 [some (.inr (.inr 256)), some (.inl 0), some (.inl 1)] [] (κ, E2) ∧ RpS D E2 v T (goG s1) w ∧ RxF E E2 u k ∧ E2 256 12 = ((r.length + 1 : Nat) : Int) ∧ XI E2 u p0 k (6 :: (pw l.2 ++ (pw l.1 ++ rsL r))) (pf l.2 ++ (pf l.1 ++ fsL r)) := fun E1 s1 g1 gz rq1 => by
          have e12a : E1 256 12 = (r.length : Int) := (rq1.f (by decide)).trans e12
          have t1 := fld_S g1 (j := 12) (by omega) ((r.length + 1 : Nat) : Int)
          obtain ⟨E2, b1, b2, b3⟩ := r_go xs (d + 1) hκ hpD hT hk t1 gz
          have X1 := hX.same (E' := E1) (rq1.f (by decide)) (rq1.f (by decide)) (fun q h1 h2 => rq1.cell (by omega))
          have X2 := X1.same (E' := E2) ((b3.f (by decide)).trans (aupJ (by decide))) ((b3.f (by decide)).trans (aupJ (by decide))) (fun q h1 h2 => (b3.cell (by omega)).trans (aupN (by omega)))
          have X3 := X2.wait (o := 6) (x := 6) rfl
          have hp2 := b2.1.ptr hpD
          have e59 := X2.2.2.1
          refine ⟨_, ?_, fld_S (w98_S b2 _ 6) (j := 59) (by omega) _, ((rq1.xf u k).trans ((RxF.fld (by omega) _).trans (b3.xf u k) (Nat.le_refl _)) (Nat.le_refl _)).trans ((RxF.u298 _).trans (RxF.fld (by omega) _) (Nat.le_refl _)) (Nat.le_refl _), ?_, X3⟩
          · rw [q_223_46]
            simp (disch := omega) only [k256, e12a, b1, pr_58 hp2, e59, n_298 hκ, cond_true, cond_false, Bool.and_true, Bool.true_and, Bool.and_false, Bool.false_and, Int.toNat_natCast, Int.reduceToNat, bI_s, bJ_s, bV_s, bR_s, decide_true, decide_false, not_true_eq_false, not_false_eq_true, dT, dF, w_al, w_la, w_ab, w_sl, w_sb, w_dec, w_ml, w_lm, ol2i_n, aup_ne, aupE, aupJ, setc_self, setc_ne]
            rw [q_223_81]
          · rw [aupJ (by decide), aupN (by decide), b3.f (by decide), aupE]
        rw [q_223_23]
        by_cases h6 : 6 < r.length + 1
        · rw [ex, if_pos h6]
          have e12b : E 256 12 = 6 := by rw [e12]; omega
          obtain ⟨E1, f1, f2, f3⟩ := r_fail xs (d + 2) hκ hpD hT hk h (k := 2) (by decide) (kk := 2) rfl
          have f2 : RpS D E1 v T (a, 2) w := f2
          obtain ⟨E2, p1, p2, p3, p4, p5⟩ := push E1 (a, 2) f2 (fun z => absurd z (show ¬ 2 = 0 by decide)) f3
          rw [goG_f (show ¬ (a, 2).2 = 0 from (show ¬ 2 = 0 by decide))] at p2
          obtain ⟨E', q1, q2, q3⟩ := r_dead23 xs d hκ hpD hT hk p2 (show ¬ 2 = 0 by decide) (u := u) (k := k) 0 1
          refine ⟨E', ?_, q2, p3.trans q3 (Nat.le_refl _), fun z => absurd z (show ¬ 2 = 0 by decide)⟩
          rw [← q1, ← p1]
          simp (disch := omega) only [cond_true, cond_false, Bool.and_true, Bool.true_and, Bool.and_false, Bool.false_and, Int.toNat_natCast, Int.reduceToNat, bI_s, bJ_s, bV_s, bR_s, decide_true, decide_false, not_true_eq_false, not_false_eq_true, dT, dF, w_al, w_la, w_ab, w_sl, w_sb, w_dec, w_ml, w_lm, ol2i_n, aup_ne, aupE, aupJ, setc_self, setc_ne, k256, is, e12b, f1]
        · rw [ex, if_neg h6]
          have e12b : ¬ (r.length : Int) = 6 := by omega
          obtain ⟨E2, p1, p2, p3, p4, p5⟩ := push E (a, 0) h (fun _ => by show ¬ tkK (T a) = 0; omega) Rq.rfl'
          have eg : goG (a, 0) = (if 400 ≤ a then (a, 2) else (a + 1, 0)) := if_pos rfl
          rw [eg] at p2
          by_cases h400 : 400 ≤ a
          · rw [if_pos h400] at p2 ⊢
            obtain ⟨E', q1, q2, q3⟩ := r_dead23 xs d hκ hpD hT hk p2 (show ¬ 2 = 0 by decide) (u := u) (k := k) 0 1
            refine ⟨E', ?_, q2, p3.trans q3 (Nat.le_refl _), fun z => absurd z (show ¬ 2 = 0 by decide)⟩
            rw [← q1, ← p1]
            simp (disch := omega) only [cond_true, cond_false, Bool.and_true, Bool.true_and, Bool.and_false, Bool.false_and, Int.toNat_natCast, Int.reduceToNat, bI_s, bJ_s, bV_s, bR_s, decide_true, decide_false, not_true_eq_false, not_false_eq_true, dT, dF, w_al, w_la, w_ab, w_sl, w_sb, w_dec, w_ml, w_lm, ol2i_n, aup_ne, aupE, aupJ, setc_self, setc_ne, k256, is, e12, e12b]
          · rw [if_neg h400] at p2 ⊢
            obtain ⟨E', i1, i2, i3, i4⟩ := ih (a + 1) (none, none) (l :: r) true c E2 k (by omega) (by rw [List.length_cons]; omega) ⟨fun _ z => (by cases z), fun _ z => (by cases z)⟩ (fun l' hl' => by rcases List.mem_cons.mp hl' with e | e; rw [e]; exact hl; exact hlr l' e) p2 (by
              have := fsL_len (none, none) (l :: r)
              rw [this]
              show k + (0 + 0 + (fsL (l :: r)).length) ≤ a + 1
              omega) (by rw [List.length_cons]; exact p4) p5
            refine ⟨E', ?_, i2, p3.trans i3 (Nat.le_refl _), i4⟩
            have i1 : ev xs (d + 3) mm_223 23 [some (.inr (.inr 256)), some (.inl 0), some (.inl 1)] [] (κ, E2) = some (none, (κ, E')) := i1
            rw [← i1, ← p1]
            simp (disch := omega) only [cond_true, cond_false, Bool.and_true, Bool.true_and, Bool.and_false, Bool.false_and, Int.toNat_natCast, Int.reduceToNat, bI_s, bJ_s, bV_s, bR_s, decide_true, decide_false, not_true_eq_false, not_false_eq_true, dT, dF, w_al, w_la, w_ab, w_sl, w_sb, w_dec, w_ml, w_lm, ol2i_n, aup_ne, aupE, aupJ, setc_self, setc_ne, k256, is, e12, e12b]
      · rw [if_neg (fun z => h40 z.2)] at is
        have un := r_unit xs d hκ hpD hT hk h hsd (show k < 420 by omega) hX
        rw [q_223_23]
        by_cases hu : tkK (T a) = 3 ∨ isv (tkK (T a)) = true
        · have ex : exA T (m + 1) a (l :: r) true c = (if 400 ≤ a then (a, 2, c) else exA T m (a + 1) (l :: r) false (uni (T a))) := (if_neg h40).trans (if_pos hu)
          rw [ex]
          obtain ⟨E1, b1, b2, b3, b4, b5⟩ := un.1 hu
          have eg : goG (a, 0) = (if 400 ≤ a then (a, 2) else (a + 1, 0)) := if_pos rfl
          rw [eg] at b2
          by_cases h400 : 400 ≤ a
          · rw [if_pos h400] at b2 ⊢
            have h13b : E1 256 13 = 2 := b2.2.1
            refine ⟨E1, ?_, b2, b4, fun z => absurd z (show ¬ 2 = 0 by decide)⟩
            simp (disch := omega) only [cond_true, cond_false, Bool.and_true, Bool.true_and, Bool.and_false, Bool.false_and, Int.toNat_natCast, Int.reduceToNat, bI_s, bJ_s, bV_s, bR_s, decide_true, decide_false, not_true_eq_false, not_false_eq_true, dT, dF, w_al, w_la, w_ab, w_sl, w_sb, w_dec, w_ml, w_lm, ol2i_n, aup_ne, aupE, aupJ, setc_self, setc_ne, k256, is, b1, h13b]
          · rw [if_neg h400] at b2 ⊢
            have h13b : E1 256 13 = 0 := b2.2.1
            obtain ⟨E', i1, i2, i3, i4⟩ := ih (a + 1) l r false (uni (T a)) E1 (k + 1) (by omega) hr hl hlr b2 (by omega) (b5.trans e12) b3
            refine ⟨E', ?_, i2, b4.trans i3 (by omega), fun z => ?_⟩
            · have i1 : ev xs (d + 3) mm_223 96 [some (.inr (.inr 256)), some (.inl 0), some (.inl 1)] [] (κ, E1) = some (none, (κ, E')) := i1
              rw [← i1]
              simp (disch := omega) only [cond_true, cond_false, Bool.and_true, Bool.true_and, Bool.and_false, Bool.false_and, Int.toNat_natCast, Int.reduceToNat, bI_s, bJ_s, bV_s, bR_s, decide_true, decide_false, not_true_eq_false, not_false_eq_true, dT, dF, w_al, w_la, w_ab, w_sl, w_sb, w_dec, w_ml, w_lm, ol2i_n, aup_ne, aupE, aupJ, setc_self, setc_ne, k256, is, b1, h13b]
            · obtain ⟨j1, k', j2, j3, j4⟩ := i4 z
              exact ⟨j1, k', by omega, j3, j4⟩
        · have ex : exA T (m + 1) a (l :: r) true c = (a, 1, c) := (if_neg h40).trans (if_neg hu)
          rw [ex]
          obtain ⟨E1, b1, b2, b3⟩ := un.2 hu
          have h13b : E1 256 13 = 1 := b2.2.1
          refine ⟨E1, ?_, b2, b3, fun z => absurd z (show ¬ 1 = 0 by decide)⟩
          simp (disch := omega) only [cond_true, cond_false, Bool.and_true, Bool.true_and, Bool.and_false, Bool.false_and, Int.toNat_natCast, Int.reduceToNat, bI_s, bJ_s, bV_s, bR_s, decide_true, decide_false, not_true_eq_false, not_false_eq_true, dT, dF, w_al, w_la, w_ab, w_sl, w_sb, w_dec, w_ml, w_lm, ol2i_n, aup_ne, aupE, aupJ, setc_self, setc_ne, k256, is, b1, h13b]
    | false =>
      have hX : XI E u p0 k (pw l.2 ++ (pw l.1 ++ rsL r)) (c :: (pf l.2 ++ (pf l.1 ++ fsL r))) := hX
      show ∃ E', ev xs (d + 3) mm_223 96 _ _ _ = _ ∧ _
      have is7 := r_is xs (d + 2) hκ hpD hT hk h (k := 41) (by decide) (kk := 7) rfl
      have is8 := r_is xs (d + 2) hκ hpD hT hk h (k := 43) (by decide) (kk := 8) rfl
      have is9 := r_is xs (d + 2) hκ hpD hT hk h (k := 45) (by decide) (kk := 9) rfl
      have is10 := r_is xs (d + 2) hκ hpD hT hk h (k := 42) (by decide) (kk := 10) rfl
      have is15 := r_is xs (d + 2) hκ hpD hT hk h (k := 47) (by decide) (kk := 15) rfl
      have hp := h.1.ptr hpD
      obtain ⟨g1, g2, g3, _⟩ := h.2.2.2.2 rfl
      have g1 : E 256 11 = (a : Int) := g1
      have g3 : live T a := g3
      have eK := ((h.1.tk hk) a ha4 g3).1
      -- a sign is taken up
      have sign : ∀ (E1 : Nat → Nat → Int) (k1 : Nat) (o : Nat) (st : Int) (W : List Nat) (S : List VF), isop o → tkK (T a) = o → cl xs (d + 3) 222 [.inr (.inr 256), .inl st] (κ, E) = some (none, (κ, E1)) → RpS D E1 v T (a, 0) w → XI E1 u p0 k1 W S → W.length ≤ 20 → RxF E E1 u k → k ≤ k1 → E1 256 12 = E 256 12 → ∃ E2, ev xs (d + 3) mm_223 234 [some (.inr (.inr 256)), some (.inl 0), some (.inl 1)] [.inl st, .inr (.inr 256)] (κ, E) = ev xs (d + 3) mm_223 12 [some (.inr (.inr 256)), some (.inl 0), some (.inl 1)] [] (κ, E2) ∧ RpS D E2 v T (goG (a, 0)) w ∧ XI E2 u p0 k1 (rho o :: W) S ∧ RxF E E2 u k ∧ E2 256 12 = E 256 12 := fun E1 k1 o st W S ho hKo e1 s1 X1 hWl2 F1 hk1 e12a => by
        have hp1 := s1.1.ptr hpD
        obtain ⟨g1', _, _, _⟩ := s1.2.2.2.2 rfl
        have g1' : E1 256 11 = (a : Int) := g1'
        have eK1 : E1 259 a = (rho o : Int) := by rw [F1.1 259 (by decide) (by decide) (by decide) (by decide), eK, hKo]
        have e59 := X1.2.2.1
        have X2 := X1.wait (o := rho o) (x := (rho o : Int)) rfl
        have s2 := fld_S (w98_S s1 W.length (rho o : Int)) (j := 59) (by omega) ((W.length + 1 : Nat) : Int)
        obtain ⟨E2, b1, b2, b3⟩ := r_go xs (d + 1) hκ hpD hT hk s2 (fun _ => by show ¬ tkK (T a) = 0; rcases ho with z | z | z | z <;> omega)
        refine ⟨E2, ?_, b2, X2.same (b3.f (by decide)) (b3.f (by decide)) (fun q h1 h2 => b3.cell (by omega)), (F1.trans ((RxF.u298 _).trans (RxF.fld (by omega) _) (Nat.le_refl _)) (Nat.le_refl _)).trans (b3.xf u k) (Nat.le_refl _), ?_⟩
        · rw [q_223_234]
          simp (disch := omega) only [k256, e1, pr_58 hp1, pr_5 hp1, g1', n_259 hκ, eK1, e59, n_298 hκ, b1, cond_true, cond_false, Bool.and_true, Bool.true_and, Bool.and_false, Bool.false_and, Int.toNat_natCast, Int.reduceToNat, bI_s, bJ_s, bV_s, bR_s, decide_true, decide_false, not_true_eq_false, not_false_eq_true, dT, dF, w_al, w_la, w_ab, w_sl, w_sb, w_dec, w_ml, w_lm, ol2i_n, aup_ne, aupE, aupJ, setc_self, setc_ne]
        · rw [b3.f (by decide), aupJ (by decide), aupN (by decide)]; exact e12a
      -- the loop's head
      have head : ∀ (E2 : Nat → Nat → Int) (l2 : LV) (k1 : Nat), RpS D E2 v T (goG (a, 0)) w → lok l2 → k ≤ k1 → k1 + (fsL (l2 :: r)).length ≤ a + 1 → E2 256 12 = (r.length : Int) → XI E2 u p0 k1 (pw l2.2 ++ (pw l2.1 ++ rsL r)) (pf l2.2 ++ (pf l2.1 ++ fsL r)) → RxF E E2 u k → ∃ E', ev xs (d + 3) mm_223 12 [some (.inr (.inr 256)), some (.inl 0), some (.inl 1)] [] (κ, E2) = some (none, (κ, E')) ∧ RpS D E' v T ((if 400 ≤ a then (a, 2, c) else exA T m (a + 1) (l2 :: r) true c).1, (if 400 ≤ a then (a, 2, c) else exA T m (a + 1) (l2 :: r) true c).2.1) w ∧ RxF E E' u k ∧ ((if 400 ≤ a then (a, 2, c) else exA T m (a + 1) (l2 :: r) true c).2.1 = 0 → E' 256 12 = 0 ∧ ∃ k', k ≤ k' ∧ k' ≤ (if 400 ≤ a then (a, 2, c) else exA T m (a + 1) (l2 :: r) true c).1 ∧ XI E' u p0 k' [] [(if 400 ≤ a then (a, 2, c) else exA T m (a + 1) (l2 :: r) true c).2.2]) := fun E2 l2 k1 s2 hl2 hk1 hb2 e12b X2 F2 => by
        have eg : goG (a, 0) = (if 400 ≤ a then (a, 2) else (a + 1, 0)) := if_pos rfl
        rw [eg] at s2
        rw [q_223_12]
        by_cases h400 : 400 ≤ a
        · rw [if_pos h400] at s2 ⊢
          have h13b : E2 256 13 = 2 := s2.2.1
          refine ⟨E2, ?_, s2, F2, fun z => absurd z (show ¬ 2 = 0 by decide)⟩
          simp (disch := omega) only [cond_true, cond_false, Bool.and_true, Bool.true_and, Bool.and_false, Bool.false_and, Int.toNat_natCast, Int.reduceToNat, bI_s, bJ_s, bV_s, bR_s, decide_true, decide_false, not_true_eq_false, not_false_eq_true, dT, dF, w_al, w_la, w_ab, w_sl, w_sb, w_dec, w_ml, w_lm, ol2i_n, aup_ne, aupE, aupJ, setc_self, setc_ne, k256, h13b]
        · rw [if_neg h400] at s2 ⊢
          have h13b : E2 256 13 = 0 := s2.2.1
          obtain ⟨E', i1, i2, i3, i4⟩ := ih (a + 1) l2 r true c E2 k1 (by omega) hr hl2 hlr s2 hb2 e12b X2
          have i1 : ev xs (d + 3) mm_223 23 [some (.inr (.inr 256)), some (.inl 0), some (.inl 1)] [] (κ, E2) = some (none, (κ, E')) := i1
          refine ⟨E', ?_, i2, F2.trans i3 hk1, fun z => ?_⟩
          · rw [← i1]
            simp (disch := omega) only [cond_true, cond_false, Bool.and_true, Bool.true_and, Bool.and_false, Bool.false_and, Int.toNat_natCast, Int.reduceToNat, bI_s, bJ_s, bV_s, bR_s, decide_true, decide_false, not_true_eq_false, not_false_eq_true, dT, dF, w_al, w_la, w_ab, w_sl, w_sb, w_dec, w_ml, w_lm, ol2i_n, aup_ne, aupE, aupJ, setc_self, setc_ne, k256, h13b]
          · obtain ⟨j1, k', j2, j3, j4⟩ := i4 z
            exact ⟨j1, k', by omega, j3, j4⟩
      have n145 : ∀ v, (tkK (T a) = 41 → (r.length : Int) ≤ 0) → ev xs (d + 3) mm_223 145 [some (.inr (.inr 256)), some (.inl 0), some (.inl 1)] [] (κ, E) = v → ev xs (d + 3) mm_223 96 [some (.inr (.inr 256)), some (.inl 0), some (.inl 1)] [] (κ, E) = v := fun v hv e => by
        rw [← e, q_223_96]
        by_cases h41 : tkK (T a) = 41
        · rw [if_pos ⟨rfl, h41⟩] at is7
          have := hv h41
          simp (disch := omega) only [cond_true, cond_false, Bool.and_true, Bool.true_and, Bool.and_false, Bool.false_and, Int.toNat_natCast, Int.reduceToNat, bI_s, bJ_s, bV_s, bR_s, decide_true, decide_false, not_true_eq_false, not_false_eq_true, dT, dF, w_al, w_la, w_ab, w_sl, w_sb, w_dec, w_ml, w_lm, ol2i_n, aup_ne, aupE, aupJ, setc_self, setc_ne, k256, is7, e12]
        · rw [if_neg (fun z => h41 z.2)] at is7
          simp (disch := omega) only [cond_true, cond_false, Bool.and_true, Bool.true_and, Bool.and_false, Bool.false_and, Int.toNat_natCast, Int.reduceToNat, bI_s, bJ_s, bV_s, bR_s, decide_true, decide_false, not_true_eq_false, not_false_eq_true, dT, dF, w_al, w_la, w_ab, w_sl, w_sb, w_dec, w_ml, w_lm, ol2i_n, aup_ne, aupE, aupJ, setc_self, setc_ne, k256, is7]
      by_cases h42 : tkK (T a) = 42 ∨ tkK (T a) = 47
      · have ex : exA T (m + 1) a (l :: r) false c = (if 400 ≤ a then (a, 2, c) else exA T m (a + 1) ((l.1, some (apl l.2 c, tkK (T a))) :: r) true c) := if_pos h42
        rw [ex]
        obtain ⟨E1, a1, a2, a3, a4, a5⟩ := co_strong xs (d + 1) hκ hpD h hsd hl (by omega) (rsL_or r) (by omega) hX
        obtain ⟨E2, b1, b2, b3, b4, b5⟩ := sign E1 _ (tkK (T a)) 1 _ _ (by rcases h42 with z | z; exact Or.inl z; exact Or.inr (Or.inr (Or.inr z))) rfl a1 a2 a3 (by rw [List.length_append]; omega) a4 (Nat.le_add_right _ _) a5
        have pl2 := pf_le l.2
        obtain ⟨E', c1, c2⟩ := head E2 (l.1, some (apl l.2 c, tkK (T a))) _ b2 ⟨hl.1, fun q hq => by cases hq; exact h42⟩ (Nat.le_add_right k (pf l.2).length) (by
          rw [fsL_len]
          show k + (pf l.2).length + (1 + (pf l.1).length + (fsL r).length) ≤ a + 1
          omega) (b5.trans e12) b3 b4
        refine ⟨E', n145 _ (fun z => by omega) ?_, c2⟩
        rw [← c1, ← b1, q_223_145]
        rw [if_neg (fun z => by have := z.2; change tkK (T a) = 43 at this; omega)] at is8
        rw [if_neg (fun z => by have := z.2; change tkK (T a) = 45 at this; omega)] at is9
        rcases h42 with z | z
        · rw [if_pos ⟨rfl, z⟩] at is10
          simp (disch := omega) only [cond_true, cond_false, Bool.and_true, Bool.true_and, Bool.and_false, Bool.false_and, Int.toNat_natCast, Int.reduceToNat, bI_s, bJ_s, bV_s, bR_s, decide_true, decide_false, not_true_eq_false, not_false_eq_true, dT, dF, w_al, w_la, w_ab, w_sl, w_sb, w_dec, w_ml, w_lm, ol2i_n, aup_ne, aupE, aupJ, setc_self, setc_ne, k256, is8, is9, is10]
          rw [q_223_186]
          simp (disch := omega) only [cond_true, cond_false, Bool.and_true, Bool.true_and, Bool.and_false, Bool.false_and, Int.toNat_natCast, Int.reduceToNat, bI_s, bJ_s, bV_s, bR_s, decide_true, decide_false, not_true_eq_false, not_false_eq_true, dT, dF, w_al, w_la, w_ab, w_sl, w_sb, w_dec, w_ml, w_lm, ol2i_n, aup_ne, aupE, aupJ, setc_self, setc_ne, k256, is10]
        · rw [if_neg (fun y => by have := y.2; change tkK (T a) = 42 at this; omega)] at is10
          rw [if_pos ⟨rfl, z⟩] at is15
          simp (disch := omega) only [cond_true, cond_false, Bool.and_true, Bool.true_and, Bool.and_false, Bool.false_and, Int.toNat_natCast, Int.reduceToNat, bI_s, bJ_s, bV_s, bR_s, decide_true, decide_false, not_true_eq_false, not_false_eq_true, dT, dF, w_al, w_la, w_ab, w_sl, w_sb, w_dec, w_ml, w_lm, ol2i_n, aup_ne, aupE, aupJ, setc_self, setc_ne, k256, is8, is9, is10, is15]
          rw [q_223_186]
          simp (disch := omega) only [cond_true, cond_false, Bool.and_true, Bool.true_and, Bool.and_false, Bool.false_and, Int.toNat_natCast, Int.reduceToNat, bI_s, bJ_s, bV_s, bR_s, decide_true, decide_false, not_true_eq_false, not_false_eq_true, dT, dF, w_al, w_la, w_ab, w_sl, w_sb, w_dec, w_ml, w_lm, ol2i_n, aup_ne, aupE, aupJ, setc_self, setc_ne, k256, is10, is15]
      · by_cases h43 : tkK (T a) = 43 ∨ tkK (T a) = 45
        · have ex : exA T (m + 1) a (l :: r) false c = (if 400 ≤ a then (a, 2, c) else exA T m (a + 1) ((some (fin1 l c, tkK (T a)), none) :: r) true c) := (if_neg h42).trans (if_pos h43)
          rw [ex]
          obtain ⟨E1, a1, a2, a3, a4, a5⟩ := co_all xs (d + 1) hκ hpD h hsd hl (by omega) (rsL_or r) (by omega) hX
          obtain ⟨E2, b1, b2, b3, b4, b5⟩ := sign E1 _ (tkK (T a)) 0 _ _ (by rcases h43 with z | z; exact Or.inr (Or.inl z); exact Or.inr (Or.inr (Or.inl z))) rfl a1 a2 a3 (by omega) a4 (by omega) a5
          obtain ⟨E', c1, c2⟩ := head E2 (some (fin1 l c, tkK (T a)), none) _ b2 ⟨fun q hq => by cases hq; exact h43, fun q hq => by cases hq⟩ (show k ≤ k + (pf l.2).length + (pf l.1).length by omega) (by
            rw [fsL_len]
            show k + (pf l.2).length + (pf l.1).length + (0 + 1 + (fsL r).length) ≤ a + 1
            omega) (b5.trans e12) b3 b4
          refine ⟨E', n145 _ (fun z => by omega) ?_, c2⟩
          rw [if_neg (fun y => by have := y.2; change tkK (T a) = 42 at this; omega)] at is10
          rw [if_neg (fun y => by have := y.2; change tkK (T a) = 47 at this; omega)] at is15
          rw [← c1, ← b1, q_223_145]
          rcases h43 with z | z
          · rw [if_pos ⟨rfl, z⟩] at is8
            simp (disch := omega) only [cond_true, cond_false, Bool.and_true, Bool.true_and, Bool.and_false, Bool.false_and, Int.toNat_natCast, Int.reduceToNat, bI_s, bJ_s, bV_s, bR_s, decide_true, decide_false, not_true_eq_false, not_false_eq_true, dT, dF, w_al, w_la, w_ab, w_sl, w_sb, w_dec, w_ml, w_lm, ol2i_n, aup_ne, aupE, aupJ, setc_self, setc_ne, k256, is8]
            rw [q_223_186]
            simp (disch := omega) only [cond_true, cond_false, Bool.and_true, Bool.true_and, Bool.and_false, Bool.false_and, Int.toNat_natCast, Int.reduceToNat, bI_s, bJ_s, bV_s, bR_s, decide_true, decide_false, not_true_eq_false, not_false_eq_true, dT, dF, w_al, w_la, w_ab, w_sl, w_sb, w_dec, w_ml, w_lm, ol2i_n, aup_ne, aupE, aupJ, setc_self, setc_ne, k256, is10, is15]
          · rw [if_neg (fun y => by have := y.2; change tkK (T a) = 43 at this; omega)] at is8
            rw [if_pos ⟨rfl, z⟩] at is9
            simp (disch := omega) only [cond_true, cond_false, Bool.and_true, Bool.true_and, Bool.and_false, Bool.false_and, Int.toNat_natCast, Int.reduceToNat, bI_s, bJ_s, bV_s, bR_s, decide_true, decide_false, not_true_eq_false, not_false_eq_true, dT, dF, w_al, w_la, w_ab, w_sl, w_sb, w_dec, w_ml, w_lm, ol2i_n, aup_ne, aupE, aupJ, setc_self, setc_ne, k256, is8, is9]
            rw [q_223_186]
            simp (disch := omega) only [cond_true, cond_false, Bool.and_true, Bool.true_and, Bool.and_false, Bool.false_and, Int.toNat_natCast, Int.reduceToNat, bI_s, bJ_s, bV_s, bR_s, decide_true, decide_false, not_true_eq_false, not_false_eq_true, dT, dF, w_al, w_la, w_ab, w_sl, w_sb, w_dec, w_ml, w_lm, ol2i_n, aup_ne, aupE, aupJ, setc_self, setc_ne, k256, is10, is15]
        · have hno : (a, 0).2 = 0 → ¬ tkK (T (a, 0).1) = 42 ∧ ¬ tkK (T (a, 0).1) = 43 ∧ ¬ tkK (T (a, 0).1) = 45 ∧ ¬ tkK (T (a, 0).1) = 47 := fun _ => by
            show ¬ tkK (T a) = 42 ∧ ¬ tkK (T a) = 43 ∧ ¬ tkK (T a) = 45 ∧ ¬ tkK (T a) = 47
            omega
          cases r with
          | nil =>
            have ex : exA T (m + 1) a [l] false c = (a, 0, fin1 l c) := (if_neg h42).trans ((if_neg h43).trans (if_pos rfl))
            rw [ex]
            obtain ⟨E', q1, q2, q3, q4⟩ := r_end xs d hκ hpD hT hk h hsd hl (r := []) (by decide) (by omega) e12 hX hno 1
            rw [if_pos (show ([] : List LV).length = 0 from rfl)] at q2
            obtain ⟨q5, q6⟩ := q4 rfl
            refine ⟨E', n145 _ (fun _ => by show ((0 : Nat) : Int) ≤ 0; decide) q1, q2, q3, fun _ => ⟨q5, k + (pf l.2).length + (pf l.1).length, by omega, ?_, q6⟩⟩
            show k + (pf l.2).length + (pf l.1).length ≤ a
            have : (fsL ([] : List LV)).length = 0 := rfl
            omega
          | cons l2 r2 =>
            have e0 : exA T (m + 1) a (l :: l2 :: r2) false c = (if tkK (T a) = 41 then (if 400 ≤ a then (a, 2, c) else exA T m (a + 1) (l2 :: r2) false (fin1 l c)) else (a, 1, c)) := (if_neg h42).trans ((if_neg h43).trans (if_neg (by simp)))
            rw [e0]
            rw [List.length_cons] at hr e12
            have rl3 : (rsL (l2 :: r2)).length ≤ 3 * (r2.length + 1) := rsL_len (l2 :: r2)
            by_cases h41 : tkK (T a) = 41
            · rw [if_pos h41]
              rw [if_pos ⟨rfl, h41⟩] at is7
              obtain ⟨E1, a1, a2, a3, a4, a5⟩ := co_all xs (d + 1) hκ hpD h hsd hl (by omega) (rsL_or (l2 :: r2)) (by omega) hX
              have X2 := XI.unwait (o := 6) (W := pw l2.2 ++ (pw l2.1 ++ rsL r2)) a3
              have e59 : E1 256 59 = (((pw l2.2 ++ (pw l2.1 ++ rsL r2)).length + 1 : Nat) : Int) := (XI.top (o := 6) (W := pw l2.2 ++ (pw l2.1 ++ rsL r2)) a3).1
              have lx1 := pw_le l2.1
              have lx2 := pw_le l2.2
              have rl2 := rsL_len r2
              have hW2 : (pw l2.2 ++ (pw l2.1 ++ rsL r2)).length ≤ 30 := by rw [List.length_append, List.length_append]; omega
              have ew59 : w32 ((((pw l2.2 ++ (pw l2.1 ++ rsL r2)).length + 1 : Nat) : Int) - 1) = ((pw l2.2 ++ (pw l2.1 ++ rsL r2)).length : Int) := by rw [w32_id (by omega) (by omega)]; omega
              have e12c : E1 256 12 = ((r2.length + 1 : Nat) : Int) := a5.trans e12
              have ew12 : w32 (((r2.length + 1 : Nat) : Int) - 1) = (r2.length : Int) := by rw [w32_id (by omega) (by omega)]; omega
              have s2 := fld_S (fld_S a2 (j := 59) (by omega) ((pw l2.2 ++ (pw l2.1 ++ rsL r2)).length : Int)) (j := 12) (by omega) (r2.length : Int)
              obtain ⟨E2, b1, b2, b3⟩ := r_go xs (d + 1) hκ hpD hT hk s2 (fun _ => by show ¬ tkK (T a) = 0; omega)
              have X3 : XI E2 u p0 (k + (pf l.2).length + (pf l.1).length) (pw l2.2 ++ (pw l2.1 ++ rsL r2)) (fin1 l c :: (pf l2.2 ++ (pf l2.1 ++ fsL r2))) := X2.same ((b3.f (by decide)).trans (aupJ (by decide))) ((b3.f (by decide)).trans (aupJ (by decide))) (fun q h1 h2 => (b3.cell (by omega)).trans (aupN (by omega)))
              have e12d : E2 256 12 = (r2.length : Int) := by rw [b3.f (by decide), aupE]
              have F2 : RxF E E2 u k := (a4.trans ((RxF.fld (by omega) _).trans (RxF.fld (by omega) _) (Nat.le_refl _)) (Nat.le_refl _)).trans (b3.xf u k) (Nat.le_refl _)
              have to : ev xs (d + 3) mm_223 96 [some (.inr (.inr 256)), some (.inl 0), some (.inl 1)] [] (κ, E) = ev xs (d + 3) mm_223 96 [some (.inr (.inr 256)), some (.inl 0), some (.inl 1)] [] (κ, E2) := by
                rw [q_223_96]
                simp (disch := omega) only [k256, is7, e12, a1, e59, ew59, e12c, ew12, b1, cond_true, cond_false, Bool.and_true, Bool.true_and, Bool.and_false, Bool.false_and, Int.toNat_natCast, Int.reduceToNat, bI_s, bJ_s, bV_s, bR_s, decide_true, decide_false, not_true_eq_false, not_false_eq_true, dT, dF, w_al, w_la, w_ab, w_sl, w_sb, w_dec, w_ml, w_lm, ol2i_n, aup_ne, aupE, aupJ, setc_self, setc_ne]
              have eg : goG (a, 0) = (if 400 ≤ a then (a, 2) else (a + 1, 0)) := if_pos rfl
              rw [eg] at b2
              rw [to]
              have fl2 := fsL_len l2 r2
              by_cases h400 : 400 ≤ a
              · rw [if_pos h400] at b2 ⊢
                obtain ⟨E', q1, q2, q3, q4⟩ := r_end xs d hκ hpD hT hk b2 hsd (hlr l2 List.mem_cons_self) (r := r2) (by omega) (by omega) e12d X3 (fun z => absurd z (show ¬ 2 = 0 by decide)) 1
                have eq2 : (if r2.length = 0 then ((a, 2) : SS) else fl 1 (a, 2)) = (a, 2) := by split <;> rfl
                rw [eq2] at q2
                refine ⟨E', ?_, q2, F2.trans q3 (by omega), fun z => absurd z (show ¬ 2 = 0 by decide)⟩
                rw [← q1, q_223_96]
                have is7b := r_is xs (d + 2) hκ hpD hT hk b2 (k := 41) (by decide) (kk := 7) rfl
                rw [if_neg (fun z => absurd z.1 (show ¬ 2 = 0 by decide))] at is7b
                simp (disch := omega) only [cond_true, cond_false, Bool.and_true, Bool.true_and, Bool.and_false, Bool.false_and, Int.toNat_natCast, Int.reduceToNat, bI_s, bJ_s, bV_s, bR_s, decide_true, decide_false, not_true_eq_false, not_false_eq_true, dT, dF, w_al, w_la, w_ab, w_sl, w_sb, w_dec, w_ml, w_lm, ol2i_n, aup_ne, aupE, aupJ, setc_self, setc_ne, k256, is7b]
              · rw [if_neg h400] at b2 ⊢
                obtain ⟨E', i1, i2, i3, i4⟩ := ih (a + 1) l2 r2 false (fin1 l c) E2 (k + (pf l.2).length + (pf l.1).length) (by omega) (by omega) (hlr l2 List.mem_cons_self) (fun l' hl' => hlr l' (List.mem_cons_of_mem _ hl')) b2 (by omega) e12d X3
                refine ⟨E', i1, i2, F2.trans i3 (by omega), fun z => ?_⟩
                obtain ⟨j1, k', j2, j3, j4⟩ := i4 z
                exact ⟨j1, k', by omega, j3, j4⟩
            · rw [if_neg h41]
              obtain ⟨E', q1, q2, q3, q4⟩ := r_end xs d hκ hpD hT hk h hsd hl (r := l2 :: r2) (by rw [List.length_cons]; omega) (by omega) (by rw [List.length_cons]; exact e12) hX hno 1
              rw [if_neg (by rw [List.length_cons]; omega)] at q2
              refine ⟨E', n145 _ (fun z => absurd z h41) q1, q2, q3, fun z => absurd z (show ¬ 1 = 0 by decide)⟩
