/-! The reference's law. -/
theorem seg_bk {D : Nat → Nat → Int} {r : Option Int} {p q : Nat} {f : VF} (h : seg D p q f) : seg (bk D r) p q f := seg_sd h (fun j _ _ => by rw [bk_q (by decide), bk_q (by decide)]; exact ⟨rfl, rfl⟩)
def LfR (D E : Nat → Nat → Int) : Prop := (∀ q, q ≠ 256 → q ≠ 300 → E q = D q) ∧ (∀ j, j ≠ 62 → E 256 j = D 256 j)
theorem lfr_bk {D : Nat → Nat → Int} {r : Option Int} {g : Nat → Int} : LfR D (setc (bk D r) 300 g) := ⟨fun q q1 q2 => by rw [setc_ne q2, bk_q q1], fun j hj => by rw [setc_ne (by decide), bk_f hj]⟩
theorem lfr_bk2 {D : Nat → Nat → Int} {r s : Option Int} {g : Nat → Int} : LfR D (setc (bk (bk D r) s) 300 g) := ⟨fun q q1 q2 => by rw [setc_ne q2, bk_q q1, bk_q q1], fun j hj => by rw [setc_ne (by decide), bk_f hj, bk_f hj]⟩
theorem lawR_116 (xs : List Int) (d : Nat) {κ : aK} {D : Nat → Nat → Int} (hκ : Shp κ) (hp : PtrR D) {V : Nat → Int} (hV : ∀ i, i < 6 → D 299 i = V i) (h62 : D 256 62 = 0) {b p q : Nat} (hb : b < 260) (hq : q ≤ 840) (e4 : D 294 b = (p : Int)) (e5 : D 295 b = (q : Int)) {f : VF} (hs : seg D p q f) (g : Nat → Int) (u2 u3 : Option aV) : ∃ g' : Nat → Int, ev xs (d + 1) mm_261 116 [some (.inr (.inr 256)), some (.inl (b : Int)), u2, u3] [] (κ, setc D 300 g) = some (some (.inl ((f V).getD 0)), (κ, setc (bk D (f V)) 300 g')) := by
  have k256 := k_256 hκ
  have hp' := hp.setc (r := 300) (by decide) g
  obtain ⟨g', i1⟩ := term_eq xs d hκ hp hV hq hs g rfl rfl
  refine ⟨g', ?_⟩
  have e4' : setc D 300 g 294 b = (p : Int) := by rw [setc_ne (by decide)]; exact e4
  have e5' : setc D 300 g 295 b = (q : Int) := by rw [setc_ne (by decide)]; exact e5
  rw [q_261_116]
  cases hf : f V with
  | none =>
    rw [hf] at i1
    have z : setc (bk D none) 300 g' 256 62 = 1 := by rw [setc_ne (by decide)]; exact aupE ..
    simp (disch := omega) only [decide_true, decide_false, cond_true, cond_false, Bool.and_true, Int.toNat_natCast, Int.reduceToNat, k256, pr_51 hp', pr_52 hp', n_294 hκ, n_295 hκ, e4', e5', i1, bI_s, z, dT, dF]
    rfl
  | some x =>
    rw [hf] at i1
    have z : setc (bk D (some x)) 300 g' 256 62 = 0 := by rw [setc_ne (by decide)]; exact h62
    simp (disch := omega) only [decide_true, decide_false, cond_true, cond_false, Bool.and_true, Int.toNat_natCast, Int.reduceToNat, k256, pr_51 hp', pr_52 hp', n_294 hκ, n_295 hκ, e4', e5', i1, bI_s, z, dT, dF]
theorem lawR_loop (xs : List Int) (d : Nat) {κ : aK} {D : Nat → Nat → Int} (hκ : Shp κ) (hp : PtrR D) {V : Nat → Int} (hV : ∀ i, i < 6 → D 299 i = V i) (h62 : D 256 62 = 0) {v last : Nat} (hv : v < 2) (e18 : D 256 18 = (v : Int)) (el : D 290 v = (last : Int)) (hl : last ≤ 260) : ∀ (n b : Nat) (F : VF) (u2 u3 : Option aV) (g : Nat → Int), b + n = last → lwB D n b F → ∃ E, ev xs (d + 1) mm_261 43 [some (.inr (.inr 256)), some (.inl (b : Int)), u2, u3] [] (κ, setc D 300 g) = some (some (.inl ((F V).getD 0)), (κ, E)) ∧ LfR D E := by
  intro n
  induction n with
  | zero => intro b F u2 u3 g _ h; exact absurd h id
  | succ n ih =>
    intro b F u2 u3 g hn h
    have k256 := k_256 hκ
    have hp' := hp.setc (r := 300) (by decide) g
    have a18 : setc D 300 g 256 18 = (v : Int) := by rw [setc_ne (by decide)]; exact e18
    have ael : setc D 300 g 290 v = (last : Int) := by rw [setc_ne (by decide)]; exact el
    unfold lwB at h
    obtain ⟨p0, p1, p2, p3, ⟨a0, a1, a2⟩, a3, a4, a5, a6, a7, a8⟩ := h
    rw [q_261_43]
    rcases a8 with ⟨b1, b2, b3⟩ | ⟨b1, b2, b3, b4, f1, f2, f3, F', c1, c2, c3, c4, c5⟩
    · obtain ⟨g', i1⟩ := lawR_116 xs d hκ hp hV h62 (by omega) (by omega) a6 a7 b3 g u2 u3
      have e1 : setc D 300 g 291 b = 0 := by rw [setc_ne (by decide)]; exact b2
      refine ⟨_, ?_, lfr_bk (r := F V) (g := g')⟩
      simp (disch := omega) only [decide_true, decide_false, cond_true, cond_false, Bool.and_true, Int.toNat_natCast, Int.reduceToNat, k256, pr_46 hp', a18, n_290 hκ, ael, dT, dF, pr_48 hp', n_291 hκ, e1, decide_true, i1]
    · obtain ⟨g1, i1⟩ := term_eq xs d hκ hp hV (by omega) c1 g rfl rfl
      obtain ⟨g2, i2⟩ := term_eq xs d hκ (bk_p (r := f1 V) hp) (V := V) (fun i hi => by rw [bk_q (by decide)]; exact hV i hi) (by omega) (seg_bk (r := f1 V) c2) g1 rfl rfl
      have hp1 := (bk_p (r := f1 V) hp).setc (r := 300) (by decide) g1
      have e1 : setc D 300 g 291 b = 1 := by rw [setc_ne (by decide)]; exact b2
      have e2 : setc D 300 g 292 b = (p0 : Int) := by rw [setc_ne (by decide)]; exact b3
      have e3 : setc D 300 g 293 b = (p1 : Int) := by rw [setc_ne (by decide)]; exact b4
      have e4 : setc (bk D (f1 V)) 300 g1 293 b = (p1 : Int) := by rw [setc_ne (by decide), bk_q (by decide)]; exact b4
      have e5 : setc (bk D (f1 V)) 300 g1 294 b = (p2 : Int) := by rw [setc_ne (by decide), bk_q (by decide)]; exact a6
      by_cases hz : (f1 V).isSome = true ∧ (f2 V).isSome = true
      · obtain ⟨x, hx⟩ := Option.isSome_iff_exists.mp hz.1
        obtain ⟨y, hy⟩ := Option.isSome_iff_exists.mp hz.2
        have eF : F V = (if x < y then f3 V else F' V) := by rw [c5]; simp only [hx, hy]
        rw [hx] at i1 i2 hp1 e4 e5
        rw [hy] at i2
        have i1 : cl xs (d + 1) 225 [.inr (.inr 256), .inl (p0 : Int), .inl (p1 : Int)] (κ, setc D 300 g) = some (some (.inl x), (κ, setc D 300 g1)) := i1
        have i2 : cl xs (d + 1) 225 [.inr (.inr 256), .inl (p1 : Int), .inl (p2 : Int)] (κ, setc D 300 g1) = some (some (.inl y), (κ, setc D 300 g2)) := i2
        have hp1 : PtrR (setc D 300 g1) := hp1
        have e4 : setc D 300 g1 293 b = (p1 : Int) := e4
        have e5 : setc D 300 g1 294 b = (p2 : Int) := e5
        have z : setc D 300 g2 256 62 = 0 := by rw [setc_ne (by decide)]; exact h62
        by_cases hxy : x < y
        · rw [if_pos hxy] at eF
          obtain ⟨g', i3⟩ := lawR_116 xs d hκ hp hV h62 (by omega) (by omega) a6 a7 c3 g2 (some (.inl x)) (some (.inl y))
          rw [eF]
          refine ⟨_, ?_, lfr_bk (r := f3 V) (g := g')⟩
          simp (disch := omega) only [decide_true, decide_false, cond_true, cond_false, Bool.and_true, Int.toNat_natCast, Int.reduceToNat, k256, pr_46 hp', a18, n_290 hκ, ael, dT, dF, pr_48 hp', n_291 hκ, e1, pr_49 hp', pr_50 hp', n_292 hκ, n_293 hκ, e2, e3, i1, bI_s, pr_50 hp1, pr_51 hp1, n_294 hκ, e4, e5, i2, z, i3]
        · rw [if_neg hxy] at eF
          obtain ⟨E, i3, i4⟩ := ih (b + 1) F' (some (.inl x)) (some (.inl y)) g2 (by omega) c4
          rw [eF]
          refine ⟨E, ?_, i4⟩
          simp (disch := omega) only [decide_true, decide_false, cond_true, cond_false, Bool.and_true, Int.toNat_natCast, Int.reduceToNat, k256, pr_46 hp', a18, n_290 hκ, ael, dT, dF, pr_48 hp', n_291 hκ, e1, pr_49 hp', pr_50 hp', n_292 hκ, n_293 hκ, e2, e3, i1, bI_s, pr_50 hp1, pr_51 hp1, n_294 hκ, e4, e5, i2, z, w_al, i3]
      · have eN : F V = none := by
          rw [c5]
          cases h1 : f1 V with
          | none => cases h2 : f2 V <;> simp only [h1, h2]
          | some x =>
            cases h2 : f2 V with
            | none => simp only [h1, h2]
            | some y => exact absurd ⟨by rw [h1]; rfl, by rw [h2]; rfl⟩ hz
        have z : setc (bk (bk D (f1 V)) (f2 V)) 300 g2 256 62 = 1 := by
          rw [setc_ne (by decide)]
          cases h2 : f2 V with
          | none => exact aupE ..
          | some y =>
            cases h1 : f1 V with
            | none => show aup D 256 62 1 256 62 = 1; exact aupE ..
            | some x => exact absurd ⟨by rw [h1]; rfl, by rw [h2]; rfl⟩ hz
        rw [eN]
        refine ⟨_, ?_, lfr_bk2 (r := f1 V) (s := f2 V) (g := g2)⟩
        simp (disch := omega) only [decide_true, decide_false, cond_true, cond_false, Bool.and_true, Int.toNat_natCast, Int.reduceToNat, k256, pr_46 hp', a18, n_290 hκ, ael, dT, dF, pr_48 hp', n_291 hκ, e1, pr_49 hp', pr_50 hp', n_292 hκ, n_293 hκ, e2, e3, i1, bI_s, pr_50 hp1, pr_51 hp1, n_294 hκ, e4, e5, i2, z]
        rfl
theorem LwR.law {κ : aK} {D : Nat → Nat → Int} {v : Nat} {X : TX} (hκ : Shp κ) (hv : v < 2) (h : LwR D v X) : LawR κ D v X := by
  intro xs d D' V hp e18 hd hV
  have k256 := k_256 hκ
  have h' : LwR D' v X := h.congr hd rfl
  rw [c_261]
  rcases h' with ⟨h1, h2⟩ | ⟨f, n, F, a1, a2, a3, a4, a5, a6, a7⟩
  · refine ⟨D', ?_, fun q _ _ => rfl, fun j _ => rfl⟩
    have e2 : D' 299 2 = V 2 := (hV 2 (by decide)).1
    rw [h2]
    simp (disch := omega) only [decide_true, decide_false, cond_true, cond_false, Bool.and_true, Int.toNat_natCast, Int.reduceToNat, k256, pr_45 hp, pr_46 hp, pr_60 hp, e18, n_289 hκ, n_290 hκ, h1, not_true_eq_false, decide_false, n_299 hκ, e2]
  · have p0 : PtrR (aup D' 256 62 0) := hp.of (fun j hj => aupJ (prL_ne hj (by decide)))
    have h0 : LwR (aup D' 256 62 0) v X := LwR.congr (E := D') (X := X) (Or.inr ⟨f, n, F, a1, a2, a3, a4, a5, a6, a7⟩) (fun q _ _ => aupN (by omega)) rfl
    have a6' : lwB (aup D' 256 62 0) n (130 * v + f) F := lwB_sd (v := v) (fun q _ _ j _ => by rw [aupN (by omega)]) n _ F (by omega) (by omega) a6
    obtain ⟨E, i1, i2⟩ := lawR_loop xs (d + 38) hκ p0 (V := V) (fun i hi => by rw [aupN (by decide)]; exact (hV i hi).1) (aupE ..) hv (by rw [aupJ (by decide)]; exact e18) (by rw [aupN (by decide)]; exact a5) (by omega) n (130 * v + f) F none none (aup D' 256 62 0 300) (by omega) a6'
    rw [setc_id] at i1
    refine ⟨E, ?_, fun q q1 q2 => by rw [i2.1 q q1 q2, aupN q1], fun j hj => by rw [i2.2 j hj, aupJ hj]⟩
    rw [a7]
    have a4' : aup D' 256 62 0 289 v = ((130 * v + f : Nat) : Int) := by rw [aupN (by decide)]; exact a4
    simp (disch := omega) only [decide_true, decide_false, cond_true, cond_false, Bool.and_true, Int.toNat_natCast, Int.reduceToNat, k256, pr_45 hp, pr_46 hp, e18, n_289 hκ, n_290 hκ, a4, a5, dT, dF, aupJ, a4', i1]
