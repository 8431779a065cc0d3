/-! The reference reads: the law. -/
theorem rLaw (xs : List Int) (d : Nat) {κ : aK} {D E : Nat → Nat → Int} {v u : Nat} (hκ : Shp κ) (hpD : PtrR D) {T : Nat → TK} (hT : TKok T) (hk : TkR D T) {a : Nat} {w : SS} (h : RpS D E v T (a, 0) w) (hs : RsD D v u) {c : Nat → Nat} (hc : RvC E u c) (hb : wbf T w a) (hL : LB E u a) (hK : tkK (T a) = 140) (u1 : Option aV) : ∃ E', ev xs (d + 6) mm_208 281 [some (.inr (.inr 256)), u1] [] (κ, E) = some (none, (κ, E')) ∧ RTc D E E' v u T c a w := by
  have k256 := k_256 hκ
  have hcc := hc
  have hu2 : u < 2 := hs.2.2.2.1
  obtain ⟨c0, c1, c6, c9, c10, c11, cb⟩ := hc
  have er : rtG T c a = mu T 59 (lawL T 4 (mu T 61 (mu T 140 (a, 0)))) := by
    unfold rtG
    rw [if_neg (by omega), if_neg (by omega), if_neg (by omega), if_neg (by omega), if_neg (by omega), if_neg (by omega), if_neg (by omega), if_neg (by omega), if_pos hK]
    rfl
  obtain ⟨b, k, e47, hb4, e53, hka, e12⟩ := hL
  have ha4 : a ≤ 400 := (h.2.2.2.2 rfl).2.1
  obtain ⟨E1, a1, a2, a3⟩ := r_go xs (d + 4) hκ hpD hT hk h (fun _ => by show ¬ tkK (T a) = 0; omega)
  rw [← goG_mu (T := T) (k := 140) (show tkK (T ((a, 0) : SS).1) = 140 from hK)] at a2
  obtain ⟨E2, b1, b2, b3⟩ := r_must xs (d + 2) hκ hpD hT hk a2 (k := 61) (by decide) (by decide) (kk := 5) rfl
  have rq := a3.trans b3
  have e47b : E2 256 47 = ((130 * u + b : Nat) : Int) := (rq.f (by decide)).trans e47
  obtain ⟨E3, d1, d2, d3, d4⟩ := rLawL xs d hκ hpD hT hk hs (((130 * u + b : Nat) : Int)) 4 0 b k E2 (mu T 61 (mu T 140 (a, 0))) rfl (by omega) b2 e47b (fun z => by
    obtain ⟨m1, m2, m3, m4⟩ := mu_ok z
    have n4 := (mu_ok m1).2.2.2
    refine ⟨k, (rq.f (by decide)).trans e53, Nat.le_refl _, (rq.f (by decide)).trans e12, ?_⟩
    rw [m4, n4]
    show k ≤ a + 1 + 1
    omega)
  rw [← er] at d2 d4
  have d1 : ev xs (d + 5) mm_219 12 [some (.inr (.inr 256)), some (.inl ((130 * u + b : Nat) : Int)), some (.inl 0)] [] (κ, E2) = some (none, (κ, E3)) := d1
  have fr3 : ∀ q, q ≠ 256 → q < 289 → E3 q = E q := fun q q1 q2 => (d3.1 q q1 (by omega)).trans (rq.cell q1)
  refine ⟨E3, ?_, ?_⟩
  · rw [q_208_281]
    simp (disch := omega) only [cond_true, cond_false, Bool.and_true, Bool.true_and, Bool.and_false, Bool.false_and, Int.toNat_natCast, Int.reduceToNat, bI_s, bJ_s, bV_s, bR_s, decide_true, decide_false, not_true_eq_false, not_false_eq_true, dT, dF, w_al, w_la, w_ab, w_sl, w_sb, w_dec, w_ml, w_lm, ol2i_n, aup_ne, aupE, aupJ, setc_self, setc_ne, k256, a1]
    rw [c_219]
    simp (disch := omega) only [cond_true, cond_false, Bool.and_true, Bool.true_and, Bool.and_false, Bool.false_and, Int.toNat_natCast, Int.reduceToNat, bI_s, bJ_s, bV_s, bR_s, decide_true, decide_false, not_true_eq_false, not_false_eq_true, dT, dF, w_al, w_la, w_ab, w_sl, w_sb, w_dec, w_ml, w_lm, ol2i_n, aup_ne, aupE, aupJ, setc_self, setc_ne, k256, b1, e47b, d1]
  · by_cases hf : (rtG T c a).2 = 0
    · obtain ⟨z0, z1, e, z2, z3, z4, z5⟩ := sh140 hK hf
      have gt := rtG_gt hf
      have m1 : mu T 140 (a, 0) = (a + 1, 0) := by unfold mu; rw [if_pos rfl, if_pos hK, if_neg (by show ¬ 400 ≤ a; omega)]
      have m2 : mu T 61 (a + 1, 0) = (a + 2, 0) := by unfold mu; rw [if_pos rfl, if_pos z0, if_neg (by show ¬ 400 ≤ a + 1; omega)]
      have o := d4 hf
      rw [m1, m2] at o
      unfold RwO at o
      rw [z2] at o
      obtain ⟨n', k', o1, o2, o3, o4, o5, o6, o7, o8, o9, o10⟩ := o
      have o5 : k' ≤ e := o5
      have o9 : a + 2 + 7 * (n' - 1) + 1 ≤ e := o9
      refine ⟨w, d2, fun _ => ⟨wbf_le hT hb (rt_live (h.2.2.2.2 rfl).2.2.1 hf) (Nat.le_of_lt gt), ?_, fun _ => ?_, fun _ => rfl, fun Y _ hY _ hR => ?_⟩⟩
      · rw [hK]
        refine RvC.up hcc ?_ ?_ (fun s hs2 => ?_) ?_ ?_ ?_ (fun j hj e => by omega)
        · rw [fr3 264 (by decide) (by decide), c0]; rfl
        · rw [fr3 267 (by decide) (by decide), c1]; rfl
        · rw [fr3 274 (by decide) (by decide), c6 s hs2, if_neg (by omega)]
        · rw [fr3 277 (by decide) (by decide), c9]; rfl
        · rw [fr3 279 (by decide) (by decide), c10]; rfl
        · rw [fr3 283 (by decide) (by decide), c11]; rfl
      · rw [z5]
        refine ⟨b + n', k', by rw [o3, Nat.add_assoc], ?_, o4, ?_, o6⟩
        · show 4 * (b + n') ≤ e + 1
          omega
        · show k' ≤ e + 1
          omega
      · rw [mt140 hK]
        refine ⟨rfl, fun _ => ?_⟩
        obtain ⟨r1, r2, r3, r4⟩ := hR
        have sf : ∀ q, q ≠ 256 → q < 289 → sid E3 u q = sid E u q := fun q q1 q2 => by rw [sid_q q1, sid_q q1]; exact fr3 q q1 q2
        obtain ⟨t1, t2, t3, t4, t5, t6, t7⟩ := r1
        refine ⟨⟨V1.congr t1 (fun q a b => sf q (by omega) (by omega)) (by rw [sid_18, sid_18]), ?_, ?_, ?_, ?_, ?_, ?_⟩, fun k hk2 => ?_, fun s hs2 => ?_, Or.inr ⟨b, n', lwV T 4 (a + 2), by omega, by omega, by omega, o7, o8, o10, rfl⟩⟩
        · rw [sf 277 (by decide) (by decide), sf 278 (by decide) (by decide)]; exact t2
        · rw [sf 274 (by decide) (by decide), sf 275 (by decide) (by decide), sf 276 (by decide) (by decide)]; exact t3
        · rw [sf 279 (by decide) (by decide), sf 280 (by decide) (by decide), sf 281 (by decide) (by decide), sf 282 (by decide) (by decide)]; exact t4
        · rw [sf 283 (by decide) (by decide), sf 284 (by decide) (by decide), sf 285 (by decide) (by decide), sf 286 (by decide) (by decide), sf 287 (by decide) (by decide)]; exact t5
        · rw [sf 288 (by decide) (by decide)]; exact t6
        · rw [sf 264 (by decide) (by decide)]; exact t7
        · rw [fr3 265 (by decide) (by decide), fr3 266 (by decide) (by decide)]; exact r2 k hk2
        · rw [fr3 270 (by decide) (by decide), fr3 271 (by decide) (by decide), fr3 272 (by decide) (by decide), fr3 273 (by decide) (by decide)]; exact r3 s hs2
    · exact ⟨_, d2, fun q => absurd q hf⟩
