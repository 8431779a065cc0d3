/-! The reference reads: stones. -/
theorem r_letter (xs : List Int) (d : Nat) {κ : aK} {D E : Nat → Nat → Int} (hκ : Shp κ) (hpD : PtrR D) {v : Nat} {T : Nat → TK} (hT : TKok T) (hk : TkR D T) {s w : SS} (h : RpS D E v T s w) (hb : s.2 = 0 → wbf T w s.1) : ∃ (x : Int) (E' : Nat → Nat → Int), cl xs (d + 4) 212 [.inr (.inr 256)] (κ, E) = some (some (.inl x), (κ, E')) ∧ RpS D E' v T (mu T 2 s) (w1L T s.1 w) ∧ Rq E E' ∧ ((mu T 2 s).2 = 0 → wbf T (w1L T s.1 w) (s.1 + 1) ∧ ((tkN (T s.1)).length < 2 → x = ((tkN (T s.1)).headD 0 : Int))) := by
  have k256 := k_256 hκ
  obtain ⟨t, t1, t2⟩ := h.2.2.1
  obtain ⟨E1, a1, a2, a3⟩ := r_must xs d hκ hpD hT hk h (k := 2) (by decide) (by decide) (kk := 1) rfl
  have hp1 := a2.1.ptr hpD
  have h13 := a2.2.1
  rw [c_212]
  by_cases q : (mu T 2 s).2 = 0
  · rw [q] at h13
    have h13' : E1 256 13 = 0 := h13
    obtain ⟨m1, m2, m3, m4⟩ := mu_ok q
    obtain ⟨g1, g2, g3, g4, g5⟩ := h.2.2.2.2 m1
    have hN := hT.2.2.1 _ m2
    have hpl := p27_1 hN.1 hN.2
    have eN : E1 262 s.1 = (p27 (tkN (T s.1)) : Int) := ((a2.1.tk hk) s.1 g2 g3).2.2.2 m2
    have hlt := p27_lt _ hN.1.1
    have h12 := pow27_12 (n := (tkN (T s.1)).length) (by have := hN.1.2; omega)
    have em : olrem ((p27 (tkN (T s.1)) : Nat) : Int) 27 = ((p27 (tkN (T s.1)) % 27 : Nat) : Int) := by
      have := olrem_nat (a := p27 (tkN (T s.1))) (b := 27) (by omega) (by decide)
      rw [show (27 : Int) = ((27 : Nat) : Int) from rfl, this]
    have el : ol2i ((p27 (tkN (T s.1)) % 27 : Nat) : Int) = ((p27 (tkN (T s.1)) % 27 : Nat) : Int) := ol2i_id (by omega) (by omega)
    have hx : (tkN (T s.1)).length < 2 → ((p27 (tkN (T s.1)) % 27 : Nat) : Int) = ((tkN (T s.1)).headD 0 : Int) := fun z => by
      rw [← hpl.2 z, Nat.mod_eq_of_lt (hpl.1.mpr z)]
    unfold w1L
    by_cases hlen : 1 < (tkN (T s.1)).length
    · rw [if_pos hlen]
      obtain ⟨E2, f1, f2, f3⟩ := r_wrong xs (d + 2) hκ hpD hT hk a2 (j := s.1) g2 (fun _ => g3) (k := 5) (by decide) (kk := 5) (jj := (s.1 : Int)) rfl rfl (fun _ => Or.inl (hb m1))
      have hp2 := f2.1.ptr hpD
      have eN2 : E2 262 s.1 = (p27 (tkN (T s.1)) : Int) := by rw [f3.cell (by decide)]; exact eN
      refine ⟨((p27 (tkN (T s.1)) % 27 : Nat) : Int), E2, ?_, f2, a3.trans f3, fun _ => ⟨wbf_w hT (hb m1) (by omega), hx⟩⟩
      have hz0 : ¬ p27 (tkN (T s.1)) < 27 := fun y => by have := hpl.1.mp y; omega
      have hz : ¬ olcmp ((p27 (tkN (T s.1)) : Nat) : Int) 26 ≤ 0 := fun z => by have := olcmp_le.mp z; omega
      simp (disch := omega) only [k256, g1, a1, h13', pr_8 hp1, n_262 hκ, eN, hz, f1, pr_8 hp2, eN2, em, el, cond_true, cond_false, Bool.and_true, Bool.true_and, Bool.and_false, Bool.false_and, Int.toNat_natCast, Int.reduceToNat, bI_s, bJ_s, bV_s, bR_s, decide_true, decide_false, not_true_eq_false, not_false_eq_true, dT, dF, w_al, w_la, w_ab, w_sl, w_sb, w_dec, w_ml, w_lm, ol2i_n, aup_ne, aupE, aupJ, setc_self, setc_ne]
    · rw [if_neg hlen]
      refine ⟨((p27 (tkN (T s.1)) % 27 : Nat) : Int), E1, ?_, a2, a3, fun _ => ⟨wbf_s hT (hb m1) (by omega), hx⟩⟩
      have hz : olcmp ((p27 (tkN (T s.1)) : Nat) : Int) 26 ≤ 0 := olcmp_le.mpr (by have := hpl.1.mpr (by omega); omega)
      simp (disch := omega) only [k256, g1, a1, h13', pr_8 hp1, n_262 hκ, eN, hz, em, el, cond_true, cond_false, Bool.and_true, Bool.true_and, Bool.and_false, Bool.false_and, Int.toNat_natCast, Int.reduceToNat, bI_s, bJ_s, bV_s, bR_s, decide_true, decide_false, not_true_eq_false, not_false_eq_true, dT, dF, w_al, w_la, w_ab, w_sl, w_sb, w_dec, w_ml, w_lm, ol2i_n, aup_ne, aupE, aupJ, setc_self, setc_ne]
  · refine ⟨ol2i (olrem (E1 262 t) 27), E1, ?_, a2.any q _, a3, fun z => absurd z q⟩
    simp (disch := omega) only [k256, t2, a1, h13, pr_8 hp1, n_262 hκ, cond_true, cond_false, Bool.and_true, Bool.true_and, Bool.and_false, Bool.false_and, Int.toNat_natCast, Int.reduceToNat, bI_s, bJ_s, bV_s, bR_s, decide_true, decide_false, not_true_eq_false, not_false_eq_true, dT, dF, w_al, w_la, w_ab, w_sl, w_sb, w_dec, w_ml, w_lm, ol2i_n, aup_ne, aupE, aupJ, setc_self, setc_ne]
def RsF (E E' : Nat → Nat → Int) (k : Nat) : Prop := (∀ q, q ≠ 256 → q < 268 ∨ 273 < q → E' q = E q) ∧ (∀ q, 268 ≤ q → q ≤ 273 → ∀ j, j ≠ k → E' q j = E q j) ∧ (∀ j, ¬ (j = 11 ∨ j = 13 ∨ j = 14 ∨ j = 15 ∨ j = 16 ∨ j = 56 ∨ j = 57) → E' 256 j = E 256 j)
theorem RsF.trans {E E1 E2 : Nat → Nat → Int} {k : Nat} (h1 : RsF E E1 k) (h2 : RsF E1 E2 k) : RsF E E2 k := ⟨fun q a b => (h2.1 q a b).trans (h1.1 q a b), fun q a b j c => (h2.2.1 q a b j c).trans (h1.2.1 q a b j c), fun j a => (h2.2.2 j a).trans (h1.2.2 j a)⟩
theorem Rq.st {E E' : Nat → Nat → Int} (h : Rq E E') (k : Nat) : RsF E E' k := ⟨fun q a _ => h.1 q a, fun q a b j _ => by rw [h.1 q (by omega)], fun j a => h.2 j (by omega)⟩
theorem RsF.up {E : Nat → Nat → Int} {q k : Nat} (h1 : 268 ≤ q) (h2 : q ≤ 273) (x : Int) : RsF E (aup E q k x) k := ⟨fun q' a b => aupN (by omega), fun q' a b j c => by
  by_cases e : q' = q
  · subst e; rw [aupJ c]
  · rw [aupN e], fun j a => by rw [aupN (by omega)]⟩
/-- what stands beside a letter -/
theorem r_beside (xs : List Int) (d : Nat) {κ : aK} {D E : Nat → Nat → Int} (hκ : Shp κ) (hpD : PtrR D) {v : Nat} {T : Nat → TK} (hT : TKok T) (hk : TkR D T) {s w : SS} (h : RpS D E v T s w) {u : Nat} (hs : RsD D v u) (hs0 : s.2 = 0) {k : Nat} (hK : tkK (T s.1) = k) (hk0 : ¬ k = 0) (hb : wbf T w s.1) {n : Nat} (hn : n ≤ 6) (en : E 264 u = (n : Int)) : ∃ (w' : SS) (E' : Nat → Nat → Int), cl xs (d + 4) 213 [.inr (.inr 256)] (κ, E) = some (none, (κ, E')) ∧ RpS D E' v T (nbr T (mu T k s)) w' ∧ (∀ q, q ≠ 256 → E' q = E q) ∧ (∀ j, ¬ (j = 11 ∨ j = 13 ∨ j = 14 ∨ j = 15 ∨ j = 16 ∨ j = 56 ∨ j = 57) → E' 256 j = E 256 j) ∧ ((nbr T (mu T k s)).2 = 0 → (¬ w.1 = 0 → w' = w) ∧ wbf T w' (s.1 + 2) ∧ ∀ Y, n = xnc Y.1 → YOk Y → RlC E u Y → w' = (nbM T Y s.1 k w).2.2 ∧ (w'.1 = 0 → (∀ x : Nat, x ≤ 26 → isbR (sid E u) (E' 256 56) (E' 256 57) (x : Int) = (nbM T Y s.1 k w).1 x) ∧ (¬ E' 256 56 = 0 → ¬ E' 256 56 = 3 → ¬ E' 256 56 = 1 → 0 ≤ E' 256 57 ∧ E' 256 57 < (n : Int)))) := by
  have k256 := k_256 hκ
  obtain ⟨v1, v2, v3, v4, v5⟩ := hs
  obtain ⟨E1, a1, a2, a3⟩ := r_go xs (d + 1) hκ hpD hT hk h (fun _ => by rw [hK]; exact hk0)
  rw [← goG_mu hK] at a2
  obtain ⟨t, t1, t2⟩ := a2.2.2.1
  have s1 := a2.fr (E' := aup E1 256 57 0) (a2.1.fld (by decide) _) (fun j hj => by rw [aupJ (by omega)])
  have h13 := s1.2.1
  have is := r_is xs (d + 2) hκ hpD hT hk s1 (k := 142) (by decide) (kk := 26) rfl
  have e19 : E 256 19 = (u : Int) := by rw [h.1.2.1 19 (by decide)]; exact v2
  have nbe : ∀ b, nbr T (b, 0) = (if tkK (T b) = 142 then mu T 142 (b, 0) else mu T 2 (b, 0)) := fun b => ifk_0
  rw [c_213]
  by_cases q0 : (mu T k s).2 = 0
  · obtain ⟨m1, m2, m3, m4⟩ := mu_ok q0
    rw [q0] at h13
    have h13' : aup E1 256 57 0 256 13 = 0 := h13
    obtain ⟨g1, g2, g3, g4, g5⟩ := a2.2.2.2.2 q0
    rw [m4] at g1 g2 g3
    have g1 : E1 256 11 = ((s.1 + 1 : Nat) : Int) := g1
    have g2 : s.1 + 1 ≤ 400 := g2
    have g3 : live T (s.1 + 1) := g3
    have hb1 : wbf T w (s.1 + 1) := wbf_s hT hb (by omega)
    rw [m4] at s1 is
    rw [m4, nbe]
    by_cases h142 : tkK (T (s.1 + 1)) = 142
    · rw [if_pos h142]
      rw [if_pos ⟨rfl, h142⟩] at is
      have s2 := s1.fr (E' := aup (aup E1 256 57 0) 256 56 3) (s1.1.fld (by decide) _) (fun j hj => by rw [aupJ (by omega)])
      obtain ⟨E2, b1, b2, b3⟩ := r_go xs (d + 1) hκ hpD hT hk s2 (fun _ => by show ¬ tkK (T (s.1 + 1)) = 0; omega)
      rw [← goG_mu (T := T) (k := 142) (s := (s.1 + 1, 0)) h142] at b2
      have e56 : E2 256 56 = 3 := by rw [b3.f (by decide), aupE]
      refine ⟨w, E2, ?_, b2, fun q' hq => by rw [b3.cell hq, aupN hq, aupN hq]; exact a3.cell hq, fun j hj => by rw [b3.f (by omega), aupJ (by omega), aupJ (by omega)]; exact a3.f (by omega), fun _ => ⟨fun _ => rfl, wbf_s hT hb1 (by omega), fun Y hY hO hR => ?_⟩⟩
      · have h13c : E1 256 13 = 0 := by rw [aupJ (by decide)] at h13'; exact h13'
        simp (disch := omega) only [cond_true, cond_false, Bool.and_true, Bool.true_and, Bool.and_false, Bool.false_and, Int.toNat_natCast, Int.reduceToNat, bI_s, bJ_s, bV_s, bR_s, decide_true, decide_false, not_true_eq_false, not_false_eq_true, dT, dF, w_al, w_la, w_ab, w_sl, w_sb, w_dec, w_ml, w_lm, ol2i_n, aup_ne, aupE, aupJ, setc_self, setc_ne, k256, a1, h13c, is, b1]
      · have e : nbM T Y s.1 k w = (fun x => decide (x = 0), s.1 + 2, w) := by
          unfold nbM
          rw [if_pos hK, if_pos h142]
        rw [e]
        refine ⟨rfl, fun _ => ⟨fun x hx => ?_, fun a b c => absurd e56 b⟩⟩
        rw [e56]
        unfold isbR
        rw [if_neg (by decide), if_pos rfl]
        show decide ((x : Int) = 0) = decide (x = 0)
        by_cases z : x = 0
        · rw [z]; rfl
        · rw [decide_eq_false z, decide_eq_false (by omega)]
    · rw [if_neg h142]
      rw [if_neg (fun z => h142 z.2)] at is
      obtain ⟨E2, b1, b2, b3⟩ := r_must xs d hκ hpD hT hk s1 (k := 2) (by decide) (by decide) (kk := 1) rfl
      have h13b := b2.2.1
      have h13c : E1 256 13 = 0 := by rw [aupJ (by decide)] at h13'; exact h13'
      have to40 : (bif aok (κ, E).1 256 12 && true then bV (cl xs (d + 3) 202 [.inr (.inr 256)] (κ, E)) (fun h1 => some (none, h1)) else none) = some (none, (κ, E1)) := by
        simp (disch := omega) only [cond_true, cond_false, Bool.and_true, Bool.true_and, Bool.and_false, Bool.false_and, Int.toNat_natCast, Int.reduceToNat, bI_s, bJ_s, bV_s, bR_s, decide_true, decide_false, not_true_eq_false, not_false_eq_true, dT, dF, w_al, w_la, w_ab, w_sl, w_sb, w_dec, w_ml, w_lm, ol2i_n, aup_ne, aupE, aupJ, setc_self, setc_ne, k256, a1]
      by_cases q2 : (mu T 2 (s.1 + 1, 0)).2 = 0
      · rw [q2] at h13b
        have h13d : E2 256 13 = 0 := h13b
        obtain ⟨n1, n2, n3, n4⟩ := mu_ok q2
        have n2 : tkK (T (s.1 + 1)) = 2 := n2
        have hN := hT.2.2.1 _ n2
        have hpl := p27_1 hN.1 hN.2
        have hp2 := b2.1.ptr hpD
        have eN : E2 262 (s.1 + 1) = (p27 (tkN (T (s.1 + 1))) : Int) := ((b2.1.tk hk) (s.1 + 1) g2 g3).2.2.2 n2
        have hlt := p27_lt _ hN.1.1
        have h12 := pow27_12 (n := (tkN (T (s.1 + 1))).length) (by have := hN.1.2; omega)
        by_cases hlen : (tkN (T (s.1 + 1))).length < 2
        · have el : ol2i ((p27 (tkN (T (s.1 + 1))) : Nat) : Int) = ((p27 (tkN (T (s.1 + 1))) : Nat) : Int) := ol2i_id (by omega) (by have := hpl.1.mpr hlen; omega)
          have hz : ¬ 0 ≤ olcmp ((p27 (tkN (T (s.1 + 1))) : Nat) : Int) 27 := fun z => by have := olcmp_ge.mp z; have := hpl.1.mpr hlen; omega
          have s3 := b2.fr (E' := aup (aup E2 256 56 1) 256 57 ((p27 (tkN (T (s.1 + 1))) : Nat) : Int)) ((b2.1.fld (by decide) _).fld (by decide) _) (fun j hj => by rw [aupJ (by omega), aupJ (by omega)])
          refine ⟨w, aup (aup E2 256 56 1) 256 57 ((p27 (tkN (T (s.1 + 1))) : Nat) : Int), ?_, s3, fun q' hq => by rw [aupN hq, aupN hq, b3.cell hq, aupN hq]; exact a3.cell hq, fun j hj => by rw [aupJ (by omega), aupJ (by omega), b3.f (by omega), aupJ (by omega)]; exact a3.f (by omega), fun _ => ⟨fun _ => rfl, wbf_s hT hb1 (by omega), fun Y hY hO hR => ?_⟩⟩
          · simp (disch := omega) only [cond_true, cond_false, Bool.and_true, Bool.true_and, Bool.and_false, Bool.false_and, Int.toNat_natCast, Int.reduceToNat, bI_s, bJ_s, bV_s, bR_s, decide_true, decide_false, not_true_eq_false, not_false_eq_true, dT, dF, w_al, w_la, w_ab, w_sl, w_sb, w_dec, w_ml, w_lm, ol2i_n, aup_ne, aupE, aupJ, setc_self, setc_ne, k256, a1, h13c, is, g1]
            rw [q_213_40]
            simp (disch := omega) only [k256, b1, h13d, pr_8 hp2, n_262 hκ, eN, hz, cond_true, cond_false, Bool.and_true, Bool.true_and, Bool.and_false, Bool.false_and, Int.toNat_natCast, Int.reduceToNat, bI_s, bJ_s, bV_s, bR_s, decide_true, decide_false, not_true_eq_false, not_false_eq_true, dT, dF, w_al, w_la, w_ab, w_sl, w_sb, w_dec, w_ml, w_lm, ol2i_n, aup_ne, aupE, aupJ, setc_self, setc_ne]
            rw [q_213_72]
            simp (disch := omega) only [k256, pr_8 hp2, n_262 hκ, eN, el, cond_true, cond_false, Bool.and_true, Bool.true_and, Bool.and_false, Bool.false_and, Int.toNat_natCast, Int.reduceToNat, bI_s, bJ_s, bV_s, bR_s, decide_true, decide_false, not_true_eq_false, not_false_eq_true, dT, dF, w_al, w_la, w_ab, w_sl, w_sb, w_dec, w_ml, w_lm, ol2i_n, aup_ne, aupE, aupJ, setc_self, setc_ne]
            rw [q_213_104]
            simp (disch := omega) only [k256, el, cond_true, cond_false, Bool.and_true, Bool.true_and, Bool.and_false, Bool.false_and, Int.toNat_natCast, Int.reduceToNat, bI_s, bJ_s, bV_s, bR_s, decide_true, decide_false, not_true_eq_false, not_false_eq_true, dT, dF, w_al, w_la, w_ab, w_sl, w_sb, w_dec, w_ml, w_lm, ol2i_n, aup_ne, aupE, aupJ, setc_self, setc_ne]
          · have e : nbM T Y s.1 k w = (fun x => decide (x = (tkN (T (s.1 + 1))).headD 0), s.1 + 2, w) := by
              unfold nbM
              rw [if_pos hK, if_neg h142, if_pos (by have := hN.2; omega)]
            rw [e]
            have hh := headD_ok hN.1 hN.2
            have e2 := hpl.2 hlen
            refine ⟨rfl, fun _ => ⟨fun x hx => ?_, fun _ _ c => absurd (by rw [aupJ (by decide), aupE]) c⟩⟩
            rw [aupE, aupJ (by decide), aupE, e2]
            unfold isbR
            rw [if_neg (by decide), if_neg (by decide)]
            show (if (x : Int) ≤ 0 then false else if (1 : Int) = 1 then decide ((x : Int) = (((tkN (T (s.1 + 1))).headD 0 : Nat) : Int)) else _) = decide (x = (tkN (T (s.1 + 1))).headD 0)
            by_cases z : (x : Int) ≤ 0
            · rw [if_pos z, decide_eq_false (by omega)]
            · rw [if_neg z, if_pos rfl]
              by_cases y : x = (tkN (T (s.1 + 1))).headD 0
              · rw [y, decide_eq_true rfl, decide_eq_true rfl]
              · rw [decide_eq_false y, decide_eq_false (by omega)]
        · have hz : 0 ≤ olcmp ((p27 (tkN (T (s.1 + 1))) : Nat) : Int) 27 := olcmp_ge.mpr (by have : ¬ p27 (tkN (T (s.1 + 1))) < 27 := fun z => hlen (hpl.1.mp z); omega)
          have hp3 : PtrR (aup E2 256 56 2) := hp2.of (fun j hj => by rw [aupJ (prL_ne hj (by decide))])
          have f3q : ∀ q', q' ≠ 256 → E2 q' = E q' := fun q' hq => by rw [b3.cell hq, aupN hq]; exact a3.cell hq
          have e19c : aup E2 256 56 2 256 19 = (u : Int) := by rw [aupJ (by decide), b3.f (by decide), aupJ (by decide), a3.f (by decide)]; exact e19
          obtain ⟨x, x1, x2, x3, x4⟩ := classAt_eq xs (d + 2) hκ hp3 v4 e19c (n := n) hn (by rw [aupN (by decide), f3q 264 (by decide)]; exact en) (p27 (tkN (T (s.1 + 1))) : Int)
          have xY : ∀ Y, n = xnc Y.1 → YOk Y → RlC E u Y → x = oI (ycl Y (tkN (T (s.1 + 1)))) := fun Y hY hO hR => x4 Y _ hO hN.1 rfl hY (fun j hj => by
            rw [aupN (by decide), aupN (by decide), f3q 265 (by decide), f3q 266 (by decide)]
            exact hR j hj)
          have s3 := b2.fr (E' := aup (aup E2 256 56 2) 256 57 x) ((b2.1.fld (by decide) _).fld (by decide) _) (fun j hj => by rw [aupJ (by omega), aupJ (by omega)])
          by_cases hx : 0 ≤ x
          · refine ⟨w, aup (aup E2 256 56 2) 256 57 x, ?_, s3, fun q' hq => by rw [aupN hq, aupN hq]; exact f3q q' hq, fun j hj => by rw [aupJ (by omega), aupJ (by omega), b3.f (by omega), aupJ (by omega)]; exact a3.f (by omega), fun _ => ⟨fun _ => rfl, wbf_s hT hb1 (by omega), fun Y hY hO hR => ?_⟩⟩
            · simp (disch := omega) only [cond_true, cond_false, Bool.and_true, Bool.true_and, Bool.and_false, Bool.false_and, Int.toNat_natCast, Int.reduceToNat, bI_s, bJ_s, bV_s, bR_s, decide_true, decide_false, not_true_eq_false, not_false_eq_true, dT, dF, w_al, w_la, w_ab, w_sl, w_sb, w_dec, w_ml, w_lm, ol2i_n, aup_ne, aupE, aupJ, setc_self, setc_ne, k256, a1, h13c, is, g1]
              rw [q_213_40]
              simp (disch := omega) only [k256, b1, h13d, pr_8 hp2, n_262 hκ, eN, hz, cond_true, cond_false, Bool.and_true, Bool.true_and, Bool.and_false, Bool.false_and, Int.toNat_natCast, Int.reduceToNat, bI_s, bJ_s, bV_s, bR_s, decide_true, decide_false, not_true_eq_false, not_false_eq_true, dT, dF, w_al, w_la, w_ab, w_sl, w_sb, w_dec, w_ml, w_lm, ol2i_n, aup_ne, aupE, aupJ, setc_self, setc_ne]
              rw [q_213_72]
              simp (disch := omega) only [k256, pr_8 hp2, n_262 hκ, eN, x1, cond_true, cond_false, Bool.and_true, Bool.true_and, Bool.and_false, Bool.false_and, Int.toNat_natCast, Int.reduceToNat, bI_s, bJ_s, bV_s, bR_s, decide_true, decide_false, not_true_eq_false, not_false_eq_true, dT, dF, w_al, w_la, w_ab, w_sl, w_sb, w_dec, w_ml, w_lm, ol2i_n, aup_ne, aupE, aupJ, setc_self, setc_ne]
              rw [q_213_104]
              simp (disch := omega) only [k256, cond_true, cond_false, Bool.and_true, Bool.true_and, Bool.and_false, Bool.false_and, Int.toNat_natCast, Int.reduceToNat, bI_s, bJ_s, bV_s, bR_s, decide_true, decide_false, not_true_eq_false, not_false_eq_true, dT, dF, w_al, w_la, w_ab, w_sl, w_sb, w_dec, w_ml, w_lm, ol2i_n, aup_ne, aupE, aupJ, setc_self, setc_ne]
            · have hxY := xY Y hY hO hR
              cases ey : ycl Y (tkN (T (s.1 + 1))) with
              | none =>
                rw [ey] at hxY
                change x = -1 at hxY
                omega
              | some j =>
                rw [ey] at hxY
                change x = (j : Int) at hxY
                have hj := fndN_lt _ _ _ ey
                have e : nbM T Y s.1 k w = (fun x => decide (x ∈ Y.2.2 j), s.1 + 2, w) := by
                  unfold nbM
                  rw [if_pos hK, if_neg h142, if_neg (by omega), ey]
                rw [e]
                refine ⟨rfl, fun _ => ⟨fun y hy => ?_, fun _ _ _ => by rw [aupE]; exact ⟨hx, x3⟩⟩⟩
                rw [aupE, aupJ (by decide), aupE, hxY]
                obtain ⟨_, nn, l1, l2, l3⟩ := hR j (by omega)
                unfold isbR
                rw [if_neg (by decide), if_neg (by decide), if_neg (show ¬ (2 : Int) = 1 by decide), sid_18, sid_q (by decide), show (6 * (u : Int) + (j : Int)).toNat = 6 * u + j by omega, l2]
                show (if (y : Int) ≤ 0 then false else decide (oand (oshr (nn : Int) (y : Int)) 1 = 1)) = decide (y ∈ Y.2.2 j)
                by_cases z : (y : Int) ≤ 0
                · rw [if_pos z, decide_eq_false (fun m => by have := ((hO.2 j (by omega)).2.2.1 y m).1; omega)]
                · rw [if_neg z, obit (by omega) (by omega), ← l3 y, Nat.testBit_eq_decide_div_mod_eq]
                  by_cases z2 : nn / 2 ^ y % 2 = 1
                  · rw [decide_eq_true z2, decide_eq_true (by omega)]
                  · rw [decide_eq_false z2, decide_eq_false (by omega)]
          · obtain ⟨E3, f1, f2, f3⟩ := r_wrong xs (d + 2) hκ hpD hT hk s3 (j := s.1 + 1) g2 (fun _ => g3) (k := 4) (by decide) (kk := 4) (jj := ((s.1 + 1 : Nat) : Int)) rfl rfl (fun _ => Or.inl hb1)
            refine ⟨_, E3, ?_, f2, fun q' hq => by rw [f3.cell hq, aupN hq, aupN hq]; exact f3q q' hq, fun j hj => by rw [f3.f (by omega), aupJ (by omega), aupJ (by omega), b3.f (by omega), aupJ (by omega)]; exact a3.f (by omega), fun _ => ⟨fun z => wrg_k z, wbf_w hT hb1 (by omega), fun Y hY hO hR => ?_⟩⟩
            · simp (disch := omega) only [cond_true, cond_false, Bool.and_true, Bool.true_and, Bool.and_false, Bool.false_and, Int.toNat_natCast, Int.reduceToNat, bI_s, bJ_s, bV_s, bR_s, decide_true, decide_false, not_true_eq_false, not_false_eq_true, dT, dF, w_al, w_la, w_ab, w_sl, w_sb, w_dec, w_ml, w_lm, ol2i_n, aup_ne, aupE, aupJ, setc_self, setc_ne, k256, a1, h13c, is, g1]
              rw [q_213_40]
              simp (disch := omega) only [k256, b1, h13d, pr_8 hp2, n_262 hκ, eN, hz, cond_true, cond_false, Bool.and_true, Bool.true_and, Bool.and_false, Bool.false_and, Int.toNat_natCast, Int.reduceToNat, bI_s, bJ_s, bV_s, bR_s, decide_true, decide_false, not_true_eq_false, not_false_eq_true, dT, dF, w_al, w_la, w_ab, w_sl, w_sb, w_dec, w_ml, w_lm, ol2i_n, aup_ne, aupE, aupJ, setc_self, setc_ne]
              rw [q_213_72]
              simp (disch := omega) only [k256, pr_8 hp2, n_262 hκ, eN, x1, cond_true, cond_false, Bool.and_true, Bool.true_and, Bool.and_false, Bool.false_and, Int.toNat_natCast, Int.reduceToNat, bI_s, bJ_s, bV_s, bR_s, decide_true, decide_false, not_true_eq_false, not_false_eq_true, dT, dF, w_al, w_la, w_ab, w_sl, w_sb, w_dec, w_ml, w_lm, ol2i_n, aup_ne, aupE, aupJ, setc_self, setc_ne]
              rw [q_213_104]
              simp (disch := omega) only [k256, f1, cond_true, cond_false, Bool.and_true, Bool.true_and, Bool.and_false, Bool.false_and, Int.toNat_natCast, Int.reduceToNat, bI_s, bJ_s, bV_s, bR_s, decide_true, decide_false, not_true_eq_false, not_false_eq_true, dT, dF, w_al, w_la, w_ab, w_sl, w_sb, w_dec, w_ml, w_lm, ol2i_n, aup_ne, aupE, aupJ, setc_self, setc_ne]
            · have hxY := xY Y hY hO hR
              cases ey : ycl Y (tkN (T (s.1 + 1))) with
              | none =>
                have e : nbM T Y s.1 k w = (fun _ => false, s.1 + 2, wrg w 4 (tkP (T (s.1 + 1)))) := by
                  unfold nbM
                  rw [if_pos hK, if_neg h142, if_neg (by omega), ey]
                rw [e]
                exact ⟨rfl, fun z => (wrg_z (by decide) z).elim⟩
              | some j =>
                rw [ey] at hxY
                change x = (j : Int) at hxY
                omega
      · refine ⟨w, E2, ?_, b2, fun q' hq => by rw [b3.cell hq, aupN hq]; exact a3.cell hq, fun j hj => by rw [b3.f (by omega), aupJ (by omega)]; exact a3.f (by omega), fun z => absurd z q2⟩
        simp (disch := omega) only [cond_true, cond_false, Bool.and_true, Bool.true_and, Bool.and_false, Bool.false_and, Int.toNat_natCast, Int.reduceToNat, bI_s, bJ_s, bV_s, bR_s, decide_true, decide_false, not_true_eq_false, not_false_eq_true, dT, dF, w_al, w_la, w_ab, w_sl, w_sb, w_dec, w_ml, w_lm, ol2i_n, aup_ne, aupE, aupJ, setc_self, setc_ne, k256, a1, h13c, is, g1]
        rw [q_213_40]
        simp (disch := omega) only [k256, b1, h13b, cond_true, cond_false, Bool.and_true, Bool.true_and, Bool.and_false, Bool.false_and, Int.toNat_natCast, Int.reduceToNat, bI_s, bJ_s, bV_s, bR_s, decide_true, decide_false, not_true_eq_false, not_false_eq_true, dT, dF, w_al, w_la, w_ab, w_sl, w_sb, w_dec, w_ml, w_lm, ol2i_n, aup_ne, aupE, aupJ, setc_self, setc_ne]
  · rw [nbr_f q0]
    obtain ⟨E2, b1, b2, b3⟩ := r_must xs d hκ hpD hT hk s1 (k := 2) (by decide) (by decide) (kk := 1) rfl
    rw [mu_f q0] at b2
    have h13b := b2.2.1
    refine ⟨w, E2, ?_, b2, fun q' hq => by rw [b3.cell hq, aupN hq]; exact a3.cell hq, fun j hj => by rw [b3.f (by omega), aupJ (by omega)]; exact a3.f (by omega), fun z => absurd z q0⟩
    have h13c : E1 256 13 = ((mu T k s).2 : Int) := by rw [aupJ (by decide)] at h13; exact h13
    simp (disch := omega) only [cond_true, cond_false, Bool.and_true, Bool.true_and, Bool.and_false, Bool.false_and, Int.toNat_natCast, Int.reduceToNat, bI_s, bJ_s, bV_s, bR_s, decide_true, decide_false, not_true_eq_false, not_false_eq_true, dT, dF, w_al, w_la, w_ab, w_sl, w_sb, w_dec, w_ml, w_lm, ol2i_n, aup_ne, aupE, aupJ, setc_self, setc_ne, k256, a1, h13c, t2]
    rw [q_213_40]
    simp (disch := omega) only [k256, b1, h13b, cond_true, cond_false, Bool.and_true, Bool.true_and, Bool.and_false, Bool.false_and, Int.toNat_natCast, Int.reduceToNat, bI_s, bJ_s, bV_s, bR_s, decide_true, decide_false, not_true_eq_false, not_false_eq_true, dT, dF, w_al, w_la, w_ab, w_sl, w_sb, w_dec, w_ml, w_lm, ol2i_n, aup_ne, aupE, aupJ, setc_self, setc_ne]
