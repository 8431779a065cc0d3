/-! The reference reads: the law's terms, one after another. -/
theorem ifG_low {T : Nat → TK} {b : Nat} (h : (ifG T (b, 0)).2 = 0) : b + 7 ≤ (ifG T (b, 0)).1 := by
  obtain ⟨m1, m2, m3, m4⟩ := mu_ok h
  obtain ⟨n1, n2, n3, n4, n5⟩ := sm_ok m1
  obtain ⟨o1, o2, o3, o4⟩ := mu_ok n1
  obtain ⟨p1, p2, p3, p4, p5⟩ := sm_ok o1
  obtain ⟨q1, q2, q3, q4⟩ := mu_ok p1
  obtain ⟨r1, r2, r3, r4, r5⟩ := sm_ok q1
  obtain ⟨s1, s2, s3, s4⟩ := mu_ok r1
  show b + 7 ≤ (mu T 145 _).1
  rw [m4]
  have a1 := congrArg Prod.fst s4
  have a2 := congrArg Prod.fst r3
  have a3 := congrArg Prod.fst q4
  have a4 := congrArg Prod.fst p3
  have a5 := congrArg Prod.fst o4
  have a6 := congrArg Prod.fst n3
  simp only at a1 a2 a3 a4 a5 a6
  show b + 7 ≤ (sm T (mu T 144 (sm T (mu T 60 (sm T (mu T 143 (b, 0))))))).1 + 1
  omega
theorem ifG_pos {T : Nat → TK} {b : Nat} (h : (ifG T (b, 0)).2 = 0) : (ifG T (b, 0)).1 = (smE T ((smE T ((smE T (b + 1)).1 + 1)).1 + 1)).1 + 1 := by
  obtain ⟨m1, m2, m3, m4⟩ := mu_ok h
  obtain ⟨n1, n2, n3, n4, n5⟩ := sm_ok m1
  obtain ⟨o1, o2, o3, o4⟩ := mu_ok n1
  obtain ⟨p1, p2, p3, p4, p5⟩ := sm_ok o1
  obtain ⟨q1, q2, q3, q4⟩ := mu_ok p1
  obtain ⟨r1, r2, r3, r4, r5⟩ := sm_ok q1
  obtain ⟨s1, s2, s3, s4⟩ := mu_ok r1
  show (mu T 145 (sm T (mu T 144 (sm T (mu T 60 (sm T (mu T 143 (b, 0)))))))).1 = _
  rw [m4, n3, o4, p3, q4, r3, s4]
theorem RwO.cons {E E1 E' : Nat → Nat → Int} {T : Nat → TK} {u b r k0 k1 k2 k3 : Nat} {s : SS} {v1 : Int} (hs0 : s.2 = 0) (hK : tkK (T s.1) = 143) (hz : (ifG T s).2 = 0) (h01 : k0 ≤ k1) (h12 : k1 ≤ k2) (h23 : k2 ≤ k3) (h34 : k3 ≤ 400) (hu : u < 2) (hb : b < 118) (c1 : E1 291 (130 * u + b) = 1) (c2 : E1 292 (130 * u + b) = ((420 * u + k0 : Nat) : Int)) (c3 : E1 293 (130 * u + b) = ((420 * u + k1 : Nat) : Int)) (c4 : E1 294 (130 * u + b) = ((420 * u + k2 : Nat) : Int)) (c5 : E1 295 (130 * u + b) = ((420 * u + k3 : Nat) : Int)) (g1 : seg E1 (420 * u + k0) (420 * u + k1) (smE T (s.1 + 1)).2.2) (g2 : seg E1 (420 * u + k1) (420 * u + k2) (smE T ((smE T (s.1 + 1)).1 + 1)).2.2) (g3 : seg E1 (420 * u + k2) (420 * u + k3) (smE T ((smE T ((smE T (s.1 + 1)).1 + 1)).1 + 1)).2.2) (hG : RwG E1 E' u (b + 1) k3) (hO : RwO E' T u (b + 1) r (ifG T s) v1) : RwO E' T u b (r + 1) s v1 := by
  have es : s = (s.1, 0) := Prod.ext rfl hs0
  rw [es] at hz hO
  have eL : lawL T (r + 1) s = lawL T r (ifG T (s.1, 0)) := by rw [es]; exact lawL_s hK
  have hlow := ifG_low hz
  have hpos := ifG_pos hz
  have ev : lwV T (r + 1) s.1 = (fun V => match (smE T (s.1 + 1)).2.2 V, (smE T ((smE T (s.1 + 1)).1 + 1)).2.2 V with
      | some x, some y => if x < y then (smE T ((smE T ((smE T (s.1 + 1)).1 + 1)).1 + 1)).2.2 V else lwV T r (ifG T (s.1, 0)).1 V
      | _, _ => none) := by rw [hpos]; exact if_pos hK
  obtain ⟨n', k', o1, o2, o3, o4, o5, o6, o7, o8, o9, o10⟩ := hO
  have fr : ∀ q, 291 ≤ q → q ≤ 295 → E' q (130 * u + b) = E1 q (130 * u + b) := fun q a c => hG.2.1 q a c _ (by omega)
  have fs : ∀ {p q : Nat} {g : VF}, q ≤ 420 * u + k3 → seg E1 p q g → seg E' p q g := fun hq hg => seg_same hg (fun j hj => hG.2.2.1 j (by omega))
  unfold RwO
  rw [eL, ev]
  refine ⟨n' + 1, k', by omega, by omega, ?_, o4, o5, o6, o7, ?_, by omega, ?_⟩
  · rw [o3, show 130 * u + (b + 1) + n' = 130 * u + b + (n' + 1) by omega]
  · rw [o8, show 130 * u + (b + 1) + n' = 130 * u + b + (n' + 1) by omega]
  · refine ⟨420 * u + k0, 420 * u + k1, 420 * u + k2, 420 * u + k3, by omega, by omega, by omega, by omega, by rw [fr 294 (by decide) (by decide)]; exact c4, by rw [fr 295 (by decide) (by decide)]; exact c5, Or.inr ⟨by omega, by rw [fr 291 (by decide) (by decide)]; exact c1, by rw [fr 292 (by decide) (by decide)]; exact c2, by rw [fr 293 (by decide) (by decide)]; exact c3, _, _, _, _, fs (by omega) g1, fs (by omega) g2, fs (Nat.le_refl _) g3, ?_, rfl⟩⟩
    exact o10
theorem rLawL (xs : List Int) (d : Nat) {κ : aK} {D : Nat → Nat → Int} {v u : Nat} (hκ : Shp κ) (hpD : PtrR D) {T : Nat → TK} (hT : TKok T) (hk : TkR D T) (hsd : RsD D v u) {w : SS} (v1 : Int) : ∀ (r n b k : Nat) (E : Nat → Nat → Int) (s : SS), r + n = 4 → b + r < 118 → RpS D E v T s w → E 256 47 = ((130 * u + b : Nat) : Int) → (s.2 = 0 → ∃ k0 : Nat, E 256 53 = ((420 * u + k0 : Nat) : Int) ∧ k ≤ k0 ∧ E 256 12 = 0 ∧ k0 ≤ s.1) → ∃ E', ev xs (d + 5) mm_219 12 [some (.inr (.inr 256)), some (.inl v1), some (.inl (n : Int))] [] (κ, E) = some (none, (κ, E')) ∧ RpS D E' v T (mu T 59 (lawL T r s)) w ∧ RwG E E' u b k ∧ ((mu T 59 (lawL T r s)).2 = 0 → RwO E' T u b r s v1) := by
  intro r
  induction r with
  | zero =>
    intro n b k E s hn hb h e47 hc
    have k256 := k_256 hκ
    have h13 := h.2.1
    rw [q_219_12]
    by_cases hs : s.2 = 0
    · have es : s = (s.1, 0) := Prod.ext rfl hs
      rw [hs] at h13
      have h13' : E 256 13 = 0 := h13
      by_cases hK : tkK (T s.1) = 143
      · have ei := r_is xs (d + 4) hκ hpD hT hk h (k := 143) (by decide) (kk := 35) rfl
        rw [if_pos ⟨hs, hK⟩] at ei
        obtain ⟨E1, a1, a2, a3⟩ := r_fail xs (d + 4) hκ hpD hT hk h (k := 2) (by decide) (kk := 2) rfl
        have el : lawL T 0 s = fl 2 s := by rw [es]; exact (ifk_0 (T := T)).trans (if_pos hK)
        have hf : ¬ (fl 2 s).2 = 0 := by rw [es]; exact (by decide : ¬ (2 : Nat) = 0)
        rw [el, mu_f hf]
        refine ⟨E1, ?_, a2, (a3.wf u b k).g, fun z => absurd z hf⟩
        have n4 : n = 4 := by omega
        subst n4
        have h13b := a2.2.1
        have h13c : E1 256 13 = 2 := by rw [h13b, es]; rfl
        simp (disch := omega) only [cond_true, cond_false, Bool.and_true, Bool.true_and, Bool.and_false, Bool.false_and, Int.toNat_natCast, Int.reduceToNat, bI_s, bJ_s, bV_s, bR_s, decide_true, decide_false, not_true_eq_false, not_false_eq_true, dT, dF, w_al, w_la, w_ab, w_sl, w_sb, w_dec, w_ml, w_lm, ol2i_n, aup_ne, aupE, aupJ, setc_self, setc_ne, k256, h13', ei, a1]
        rw [q_219_38]
        simp (disch := omega) only [cond_true, cond_false, Bool.and_true, Bool.true_and, Bool.and_false, Bool.false_and, Int.toNat_natCast, Int.reduceToNat, bI_s, bJ_s, bV_s, bR_s, decide_true, decide_false, not_true_eq_false, not_false_eq_true, dT, dF, w_al, w_la, w_ab, w_sl, w_sb, w_dec, w_ml, w_lm, ol2i_n, aup_ne, aupE, aupJ, setc_self, setc_ne, k256, h13c]
      · have ei := r_is xs (d + 4) hκ hpD hT hk h (k := 143) (by decide) (kk := 35) rfl
        rw [if_neg (fun z => hK z.2)] at ei
        obtain ⟨E', b1, b2, b3, b4⟩ := rLawEnd xs d hκ hpD hT hk h (r := 0) hsd (k := k) (by omega) e47 hc (fun _ => hK) v1 (n : Int)
        have el : lawL T 0 s = sm T s := by rw [es]; exact lawL_0 hK
        rw [el]
        refine ⟨E', ?_, b2, b3, b4⟩
        simp (disch := omega) only [cond_true, cond_false, Bool.and_true, Bool.true_and, Bool.and_false, Bool.false_and, Int.toNat_natCast, Int.reduceToNat, bI_s, bJ_s, bV_s, bR_s, decide_true, decide_false, not_true_eq_false, not_false_eq_true, dT, dF, w_al, w_la, w_ab, w_sl, w_sb, w_dec, w_ml, w_lm, ol2i_n, aup_ne, aupE, aupJ, setc_self, setc_ne, k256, h13', ei, b1]
    · obtain ⟨E', b1, b2, b3, b4⟩ := rLawEnd xs d hκ hpD hT hk h (r := 0) hsd (k := k) (by omega) e47 hc (fun z => absurd z hs) v1 (n : Int)
      rw [lawL_f hs]
      rw [sm_f hs] at b2 b4
      refine ⟨E', ?_, b2, b3, b4⟩
      simp (disch := omega) only [cond_true, cond_false, Bool.and_true, Bool.true_and, Bool.and_false, Bool.false_and, Int.toNat_natCast, Int.reduceToNat, bI_s, bJ_s, bV_s, bR_s, decide_true, decide_false, not_true_eq_false, not_false_eq_true, dT, dF, w_al, w_la, w_ab, w_sl, w_sb, w_dec, w_ml, w_lm, ol2i_n, aup_ne, aupE, aupJ, setc_self, setc_ne, k256, h13, b1]
  | succ r ih =>
    intro n b k E s hn hb h e47 hc
    have k256 := k_256 hκ
    have h13 := h.2.1
    rw [q_219_12]
    by_cases hs : s.2 = 0
    · have es : s = (s.1, 0) := Prod.ext rfl hs
      rw [hs] at h13
      have h13' : E 256 13 = 0 := h13
      by_cases hK : tkK (T s.1) = 143
      · have ei := r_is xs (d + 4) hκ hpD hT hk h (k := 143) (by decide) (kk := 35) rfl
        rw [if_pos ⟨hs, hK⟩] at ei
        obtain ⟨k0, e53, hk0, e12, hks⟩ := hc hs
        obtain ⟨E1, a1, a2, a3, a4, a5⟩ := rLawIf xs d hκ hpD hT hk h hsd (k := k) (by omega) hs hK e47 e53 hk0 e12 hks (v1 := v1) (n := n) (by omega)
        have el : lawL T (r + 1) s = lawL T r (ifG T s) := by rw [es]; exact lawL_s hK
        have n4 : ¬ (n : Int) = 4 := by omega
        rw [el]
        by_cases hz : (ifG T s).2 = 0
        · obtain ⟨q12, k1, k2, k3, q1, q2, q3, q4, q5, q6, c1, c2, c3, c4, c5, g1, g2, g3⟩ := a5 hz
          obtain ⟨E', b1, b2, b3, b4⟩ := ih (n + 1) (b + 1) k3 E1 (ifG T s) (by omega) (by omega) a2 a4 (fun _ => ⟨k3, q5, Nat.le_refl _, q12, q6⟩)
          refine ⟨E', ?_, b2, a3.tg b3 (by omega) (by omega), fun z => RwO.cons (E := E1) hs hK hz q1 q2 q3 q4 hsd.2.2.2.1 (by omega) c1 c2 c3 c4 c5 g1 g2 g3 b3 (b4 z)⟩
          simp (disch := omega) only [cond_true, cond_false, Bool.and_true, Bool.true_and, Bool.and_false, Bool.false_and, Int.toNat_natCast, Int.reduceToNat, bI_s, bJ_s, bV_s, bR_s, decide_true, decide_false, not_true_eq_false, not_false_eq_true, dT, dF, w_al, w_la, w_ab, w_sl, w_sb, w_dec, w_ml, w_lm, ol2i_n, aup_ne, aupE, aupJ, setc_self, setc_ne, k256, h13', ei, n4, a1, b1]
        · obtain ⟨E', b1, b2, b3, b4⟩ := ih (n + 1) (b + 1) k E1 (ifG T s) (by omega) (by omega) a2 a4 (fun z => absurd z hz)
          refine ⟨E', ?_, b2, a3.tg b3 (by omega) (by omega), fun z => ?_⟩
          · simp (disch := omega) only [cond_true, cond_false, Bool.and_true, Bool.true_and, Bool.and_false, Bool.false_and, Int.toNat_natCast, Int.reduceToNat, bI_s, bJ_s, bV_s, bR_s, decide_true, decide_false, not_true_eq_false, not_false_eq_true, dT, dF, w_al, w_la, w_ab, w_sl, w_sb, w_dec, w_ml, w_lm, ol2i_n, aup_ne, aupE, aupJ, setc_self, setc_ne, k256, h13', ei, n4, a1, b1]
          · rw [lawL_f hz, mu_f hz] at z
            exact absurd z hz
      · have ei := r_is xs (d + 4) hκ hpD hT hk h (k := 143) (by decide) (kk := 35) rfl
        rw [if_neg (fun z => hK z.2)] at ei
        obtain ⟨E', b1, b2, b3, b4⟩ := rLawEnd xs d hκ hpD hT hk h (r := r + 1) hsd (k := k) (by omega) e47 hc (fun _ => hK) v1 (n : Int)
        have el : lawL T (r + 1) s = sm T s := by rw [es]; exact lawL_0 hK
        rw [el]
        refine ⟨E', ?_, b2, b3, b4⟩
        simp (disch := omega) only [cond_true, cond_false, Bool.and_true, Bool.true_and, Bool.and_false, Bool.false_and, Int.toNat_natCast, Int.reduceToNat, bI_s, bJ_s, bV_s, bR_s, decide_true, decide_false, not_true_eq_false, not_false_eq_true, dT, dF, w_al, w_la, w_ab, w_sl, w_sb, w_dec, w_ml, w_lm, ol2i_n, aup_ne, aupE, aupJ, setc_self, setc_ne, k256, h13', ei, b1]
    · obtain ⟨E', b1, b2, b3, b4⟩ := rLawEnd xs d hκ hpD hT hk h (r := r + 1) hsd (k := k) (by omega) e47 hc (fun z => absurd z hs) v1 (n : Int)
      rw [lawL_f hs]
      rw [sm_f hs] at b2 b4
      refine ⟨E', ?_, b2, b3, b4⟩
      simp (disch := omega) only [cond_true, cond_false, Bool.and_true, Bool.true_and, Bool.and_false, Bool.false_and, Int.toNat_natCast, Int.reduceToNat, bI_s, bJ_s, bV_s, bR_s, decide_true, decide_false, not_true_eq_false, not_false_eq_true, dT, dF, w_al, w_la, w_ab, w_sl, w_sb, w_dec, w_ml, w_lm, ol2i_n, aup_ne, aupE, aupJ, setc_self, setc_ne, k256, h13, b1]
