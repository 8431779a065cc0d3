/-! Made: the reference's count. -/
def f01 (p : Prop) [Decidable p] : Int := if p then 1 else 0
theorem f01_t {p : Prop} [Decidable p] (h : p) : f01 p = 1 := if_pos h
theorem f01_f {p : Prop} [Decidable p] (h : ¬ p) : f01 p = 0 := if_neg h
/-- the flags when the names before j are seen -/
def fAh (e : Nat → ENT) (i j : Nat) : Int := f01 (occ (e i).1 (lst e (min j i)) ≠ 0)
def fBe (e : Nat → ENT) (i j : Nat) : Int := f01 (occ (e i).1 (lst e (i + 1)) < occ (e i).1 (lst e (max j (i + 1))))
theorem ri_loop (xs : List Int) (d : Nat) {κ : aK} {D : Nat → Nat → Int} (hκ : Shp κ) (hp : PtrR D) {e : Nat → ENT} {N : Nat} (hN : N ≤ 1720) (he : ∀ j, j < N → D 305 j = (p27 (e j).1 : Int) ∧ wv (e j).1) {i : Nat} (hi : i < N) (v1 v2 v4 v5 v6 : Int) : ∀ (m j : Nat), j + m = N → ev xs d mm_277 99 [some (.inr (.inr 256)), some (.inl v1), some (.inl v2), some (.inl (N : Int)), some (.inl v4), some (.inl v5), some (.inl v6), some (.inl (i : Int)), some (.inl (fAh e i j)), some (.inl (fBe e i j)), some (.inl (j : Int))] [] (κ, D) = ev xs d mm_277 99 [some (.inr (.inr 256)), some (.inl v1), some (.inl v2), some (.inl (N : Int)), some (.inl v4), some (.inl v5), some (.inl v6), some (.inl (i : Int)), some (.inl (fAh e i N)), some (.inl (fBe e i N)), some (.inl (N : Int))] [] (κ, D) := by
  have hk := k_256 hκ
  have p72 := pr_72 hp
  intro m
  induction m with
  | zero =>
    intro j h
    rw [show j = N by omega]
  | succ m ih =>
    intro j h
    have e2 := ih (j + 1) (by omega)
    obtain ⟨a1, a2⟩ := he i hi
    obtain ⟨b1, b2⟩ := he j (by omega)
    rw [q_277_99]
    rcases Nat.lt_trichotomy j i with hl | rfl | hl
    · have m1 : min j i = j := by omega
      have m2 : min (j + 1) i = j + 1 := by omega
      have m3 : max j (i + 1) = i + 1 := by omega
      have m4 : max (j + 1) (i + 1) = i + 1 := by omega
      have fb : fBe e i (j + 1) = fBe e i j := by unfold fBe; rw [m3, m4]
      have oc := occ_s (e i).1 e j
      by_cases hs : (e j).1 = (e i).1
      · have fa : fAh e i (j + 1) = 1 := f01_t (by rw [m2, oc, if_pos hs]; omega)
        rw [hs] at b1
        rw [fa, fb] at e2
        simp (disch := omega) only [cond_true, cond_false, Bool.and_true, Bool.true_and, Bool.and_false, Bool.false_and, Int.toNat_natCast, Int.reduceToNat, bI_s, bJ_s, bV_s, bR_s, decide_true, decide_false, not_true_eq_false, not_false_eq_true, dT, dF, w_al, w_la, w_ab, w_sl, w_sb, w_dec, w_ml, w_lm, ol2i_n, aup_ne, aupE, aupJ, setc_self, setc_ne, hk, p72, n_305 hκ, a1, b1, olcmp_eq, e2]
      · have hne := p27_ne b2 a2 hs
        have fa : fAh e i (j + 1) = fAh e i j := by unfold fAh; rw [m2, m1, oc, if_neg hs, Nat.add_zero]
        rw [fa, fb] at e2
        simp (disch := omega) only [cond_true, cond_false, Bool.and_true, Bool.true_and, Bool.and_false, Bool.false_and, Int.toNat_natCast, Int.reduceToNat, bI_s, bJ_s, bV_s, bR_s, decide_true, decide_false, not_true_eq_false, not_false_eq_true, dT, dF, w_al, w_la, w_ab, w_sl, w_sb, w_dec, w_ml, w_lm, ol2i_n, aup_ne, aupE, aupJ, setc_self, setc_ne, hk, p72, n_305 hκ, a1, b1, olcmp_eq, e2]
    · have fa : fAh e j (j + 1) = fAh e j j := by unfold fAh; rw [show min (j + 1) j = min j j by omega]
      have fb : fBe e j (j + 1) = fBe e j j := by unfold fBe; rw [show max (j + 1) (j + 1) = max j (j + 1) by omega]
      rw [fa, fb] at e2
      simp (disch := omega) only [cond_true, cond_false, Bool.and_true, Bool.true_and, Bool.and_false, Bool.false_and, Int.toNat_natCast, Int.reduceToNat, bI_s, bJ_s, bV_s, bR_s, decide_true, decide_false, not_true_eq_false, not_false_eq_true, dT, dF, w_al, w_la, w_ab, w_sl, w_sb, w_dec, w_ml, w_lm, ol2i_n, aup_ne, aupE, aupJ, setc_self, setc_ne, e2]
    · have m1 : min j i = i := by omega
      have m2 : min (j + 1) i = i := by omega
      have m3 : max j (i + 1) = j := by omega
      have m4 : max (j + 1) (i + 1) = j + 1 := by omega
      have fa : fAh e i (j + 1) = fAh e i j := by unfold fAh; rw [m2, m1]
      have oc := occ_s (e i).1 e j
      have om := occ_le (w := (e i).1) (e := e) (show i + 1 ≤ j by omega)
      by_cases hs : (e j).1 = (e i).1
      · have fb : fBe e i (j + 1) = 1 := f01_t (by rw [m4, oc, if_pos hs]; omega)
        rw [hs] at b1
        rw [fa, fb] at e2
        simp (disch := omega) only [cond_true, cond_false, Bool.and_true, Bool.true_and, Bool.and_false, Bool.false_and, Int.toNat_natCast, Int.reduceToNat, bI_s, bJ_s, bV_s, bR_s, decide_true, decide_false, not_true_eq_false, not_false_eq_true, dT, dF, w_al, w_la, w_ab, w_sl, w_sb, w_dec, w_ml, w_lm, ol2i_n, aup_ne, aupE, aupJ, setc_self, setc_ne, hk, p72, n_305 hκ, a1, b1, olcmp_eq, e2]
      · have hne := p27_ne b2 a2 hs
        have fb : fBe e i (j + 1) = fBe e i j := by unfold fBe; rw [m4, m3, oc, if_neg hs]; rfl
        rw [fa, fb] at e2
        simp (disch := omega) only [cond_true, cond_false, Bool.and_true, Bool.true_and, Bool.and_false, Bool.false_and, Int.toNat_natCast, Int.reduceToNat, bI_s, bJ_s, bV_s, bR_s, decide_true, decide_false, not_true_eq_false, not_false_eq_true, dT, dF, w_al, w_la, w_ab, w_sl, w_sb, w_dec, w_ml, w_lm, ol2i_n, aup_ne, aupE, aupJ, setc_self, setc_ne, hk, p72, n_305 hκ, a1, b1, olcmp_eq, e2]
theorem isF_s {e : Nat → ENT} {N i : Nat} {x : Int} (h : isF e N i x) (hp : ¬ pF e N i) : isF e N (i + 1) x := by
  rcases h with ⟨a, b⟩ | ⟨j, a, b, c, f⟩
  · refine Or.inl ⟨a, fun j hj q => ?_⟩
    by_cases hji : j = i
    · rw [hji] at q; exact hp q
    · exact b j (by omega) q
  · exact Or.inr ⟨j, by omega, b, c, f⟩
theorem isF_t {e : Nat → ENT} {N i : Nat} {x : Int} (h : isF e N i x) (hx : 0 ≤ x) : isF e N (i + 1) x := by
  rcases h with ⟨a, b⟩ | ⟨j, a, b, c, f⟩
  · omega
  · exact Or.inr ⟨j, by omega, b, c, f⟩
theorem isF_n {e : Nat → ENT} {N i : Nat} {x : Int} (h : isF e N i x) (hx : x < 0) (hp : pF e N i) : isF e N (i + 1) ((e i).2 : Int) := by
  rcases h with ⟨a, b⟩ | ⟨j, a, b, c, f⟩
  · exact Or.inr ⟨i, by omega, hp, b, rfl⟩
  · omega
theorem cP_le {p : Nat → Prop} [DecidablePred p] : ∀ N, cP p N ≤ N
  | 0 => Nat.le_refl _
  | N + 1 => by
    have := cP_le (p := p) N
    unfold cP
    split <;> omega
theorem cU_le (e : Nat → ENT) : ∀ N, cU e N ≤ N
  | 0 => Nat.le_refl _
  | N + 1 => by
    have := cU_le e N
    unfold cU
    split <;> omega
theorem ro_loop (xs : List Int) (d : Nat) {κ : aK} {D : Nat → Nat → Int} (hκ : Shp κ) (hp : PtrR D) {e : Nat → ENT} {N : Nat} (hN : N ≤ 1720) (he : ∀ j, j < N → D 305 j = (p27 (e j).1 : Int) ∧ wv (e j).1) (hg : ∀ j, j < N → D 306 j = ((e j).2 : Int)) (v1 v2 : Int) : ∀ (m i : Nat) (x : Int) (u8 u9 u10 : Option aV), i + m = N → isF e N i x → ∃ y, isF e N N y ∧ ev xs d mm_277 84 [some (.inr (.inr 256)), some (.inl v1), some (.inl v2), some (.inl (N : Int)), some (.inl (cU e i : Int)), some (.inl (cP (pF e N) i : Int)), some (.inl x), some (.inl (i : Int)), u8, u9, u10] [] (κ, D) = some (some (.inl (if v2 = 0 then (cU e N : Int) else if v2 = 1 then (cP (pF e N) N : Int) else y)), (κ, D)) := by
  have hk := k_256 hκ
  have p73 := pr_73 hp
  intro m
  induction m with
  | zero =>
    intro i x u8 u9 u10 h hF
    have hi : i = N := by omega
    subst hi
    refine ⟨x, hF, ?_⟩
    rw [q_277_84]
    by_cases h0 : v2 = 0
    · rw [if_pos h0]; simp (disch := omega) only [cond_true, cond_false, Bool.and_true, Bool.true_and, Bool.and_false, Bool.false_and, Int.toNat_natCast, Int.reduceToNat, bI_s, bJ_s, bV_s, bR_s, decide_true, decide_false, not_true_eq_false, not_false_eq_true, dT, dF, w_al, w_la, w_ab, w_sl, w_sb, w_dec, w_ml, w_lm, ol2i_n, aup_ne, aupE, aupJ, setc_self, setc_ne, h0]
    · rw [if_neg h0]
      by_cases h1 : v2 = 1
      · rw [if_pos h1]; simp (disch := omega) only [cond_true, cond_false, Bool.and_true, Bool.true_and, Bool.and_false, Bool.false_and, Int.toNat_natCast, Int.reduceToNat, bI_s, bJ_s, bV_s, bR_s, decide_true, decide_false, not_true_eq_false, not_false_eq_true, dT, dF, w_al, w_la, w_ab, w_sl, w_sb, w_dec, w_ml, w_lm, ol2i_n, aup_ne, aupE, aupJ, setc_self, setc_ne]
      · rw [if_neg h1]; simp (disch := omega) only [cond_true, cond_false, Bool.and_true, Bool.true_and, Bool.and_false, Bool.false_and, Int.toNat_natCast, Int.reduceToNat, bI_s, bJ_s, bV_s, bR_s, decide_true, decide_false, not_true_eq_false, not_false_eq_true, dT, dF, w_al, w_la, w_ab, w_sl, w_sb, w_dec, w_ml, w_lm, ol2i_n, aup_ne, aupE, aupJ, setc_self, setc_ne]
  | succ m ih =>
    intro i x u8 u9 u10 h hF
    have lu := cU_le e i
    have lp := cP_le (p := pF e N) i
    have z8 : fAh e i 0 = 0 := f01_f (by rw [Nat.zero_min]; intro q; exact q rfl)
    have z9 : fBe e i 0 = 0 := f01_f (by rw [Nat.zero_max]; omega)
    have lp2 := ri_loop xs d hκ hp hN he (i := i) (by omega) v1 v2 (cU e i : Int) (cP (pF e N) i : Int) x N 0 (by omega)
    rw [z8, z9] at lp2
    have mn : min N i = i := by omega
    have mx : max N (i + 1) = N := by omega
    have oa := occ_at (e := e) (show i < N by omega)
    have o1 := occ_s (e i).1 e i
    rw [if_pos rfl] at o1
    have su : cU e (i + 1) = cU e i + (if occ (e i).1 (lst e i) = 0 then 1 else 0) := rfl
    have sp : cP (pF e N) (i + 1) = cP (pF e N) i + (if pF e N i then 1 else 0) := rfl
    have gi := hg i (by omega)
    by_cases hA : occ (e i).1 (lst e i) = 0
    · have f8 : fAh e i N = 0 := f01_f (by rw [mn]; intro q; exact q hA)
      rw [if_pos hA] at su
      by_cases hB : 2 ≤ occ (e i).1 (lst e N)
      · have f9 : fBe e i N = 1 := f01_t (by rw [mx]; omega)
        have hpF : pF e N i := ⟨hA, hB⟩
        rw [if_pos hpF] at sp
        rw [f8, f9] at lp2
        by_cases hx : 0 ≤ x
        · obtain ⟨y, q1, q2⟩ := ih (i + 1) x (some (.inl 0)) (some (.inl 1)) (some (.inl (N : Int))) (by omega) (isF_t hF hx)
          refine ⟨y, q1, ?_⟩
          rw [su, sp] at q2
          rw [q_277_84]
          simp (disch := omega) only [cond_false, dF]
          refine (show _ = _ from lp2).trans ?_
          rw [q_277_99]
          simp (disch := omega) only [cond_true, cond_false, Bool.and_true, Bool.true_and, Bool.and_false, Bool.false_and, Int.toNat_natCast, Int.reduceToNat, bI_s, bJ_s, bV_s, bR_s, decide_true, decide_false, not_true_eq_false, not_false_eq_true, dT, dF, w_al, w_la, w_ab, w_sl, w_sb, w_dec, w_ml, w_lm, ol2i_n, aup_ne, aupE, aupJ, setc_self, setc_ne, q2]
        · obtain ⟨y, q1, q2⟩ := ih (i + 1) ((e i).2 : Int) (some (.inl 0)) (some (.inl 1)) (some (.inl (N : Int))) (by omega) (isF_n hF (by omega) hpF)
          refine ⟨y, q1, ?_⟩
          rw [su, sp] at q2
          rw [q_277_84]
          simp (disch := omega) only [cond_false, dF]
          refine (show _ = _ from lp2).trans ?_
          rw [q_277_99]
          simp (disch := omega) only [cond_true, cond_false, Bool.and_true, Bool.true_and, Bool.and_false, Bool.false_and, Int.toNat_natCast, Int.reduceToNat, bI_s, bJ_s, bV_s, bR_s, decide_true, decide_false, not_true_eq_false, not_false_eq_true, dT, dF, w_al, w_la, w_ab, w_sl, w_sb, w_dec, w_ml, w_lm, ol2i_n, aup_ne, aupE, aupJ, setc_self, setc_ne, hk, p73, n_306 hκ, gi, q2]
      · have f9 : fBe e i N = 0 := f01_f (by rw [mx]; omega)
        have hpF : ¬ pF e N i := fun q => hB q.2
        rw [if_neg hpF] at sp
        rw [f8, f9] at lp2
        obtain ⟨y, q1, q2⟩ := ih (i + 1) x (some (.inl 0)) (some (.inl 0)) (some (.inl (N : Int))) (by omega) (isF_s hF hpF)
        refine ⟨y, q1, ?_⟩
        rw [su, sp] at q2
        rw [q_277_84]
        simp (disch := omega) only [cond_false, dF]
        refine (show _ = _ from lp2).trans ?_
        rw [q_277_99]
        simp (disch := omega) only [cond_true, cond_false, Bool.and_true, Bool.true_and, Bool.and_false, Bool.false_and, Int.toNat_natCast, Int.reduceToNat, bI_s, bJ_s, bV_s, bR_s, decide_true, decide_false, not_true_eq_false, not_false_eq_true, dT, dF, w_al, w_la, w_ab, w_sl, w_sb, w_dec, w_ml, w_lm, ol2i_n, aup_ne, aupE, aupJ, setc_self, setc_ne]
        exact q2
    · have f8 : fAh e i N = 1 := f01_t (by rw [mn]; exact hA)
      have hpF : ¬ pF e N i := fun q => hA q.1
      rw [if_neg hA] at su
      rw [if_neg hpF] at sp
      rw [f8] at lp2
      obtain ⟨y, q1, q2⟩ := ih (i + 1) x (some (.inl 1)) (some (.inl (fBe e i N))) (some (.inl (N : Int))) (by omega) (isF_s hF hpF)
      refine ⟨y, q1, ?_⟩
      rw [su, sp] at q2
      rw [q_277_84]
      simp (disch := omega) only [cond_false, dF]
      refine (show _ = _ from lp2).trans ?_
      rw [q_277_99]
      simp (disch := omega) only [cond_true, cond_false, Bool.and_true, Bool.true_and, Bool.and_false, Bool.false_and, Int.toNat_natCast, Int.reduceToNat, bI_s, bJ_s, bV_s, bR_s, decide_true, decide_false, not_true_eq_false, not_false_eq_true, dT, dF, w_al, w_la, w_ab, w_sl, w_sb, w_dec, w_ml, w_lm, ol2i_n, aup_ne, aupE, aupJ, setc_self, setc_ne]
      exact q2
theorem mAll_ent {X : TX} (hX : TXok X) {n : Nat} {e : ENT} (h : e ∈ mAll X n) : wv e.1 := by
  rw [← mML_all] at h
  unfold mML at h
  obtain ⟨y, hy, rfl⟩ := List.mem_map.mp h
  exact nmW_wv hX (ways_wvd (List.mem_filter.mp hy).1)
theorem mAll_len {X : TX} (hX : TXok X) (n : Nat) : (mAll X n).length ≤ 1720 := by
  rw [← mML_all]
  exact Nat.le_trans (mML_len ..) (ways_len hX)
theorem rm_go (xs : List Int) (d : Nat) {κ : aK} {D : Nat → Nat → Int} (hκ : Shp κ) {v : Nat} {X : TX} (hX : TXok X) (hR : RI D v X) {n : Nat} (hn : n ≤ 12) (what : Int) (z0 : Int) : ∃ (f' g' : Nat → Int) (a b c z : Int), MdL f' g' (mAll X n) ∧ ev xs (d + 3) mm_277 27 [some (.inr (.inr 256)), some (.inl (n : Int)), some (.inl what), some (.inl 0), none, none, none, none, none, none, none] [] (κ, wyD D (-1) (-1) (-9) z0) = ev xs (d + 3) mm_277 84 [some (.inr (.inr 256)), some (.inl (n : Int)), some (.inl what), some (.inl ((mAll X n).length : Int)), some (.inl 0), some (.inl 0), some (.inl (-2)), some (.inl 0), none, none, none] [] (κ, wyD (setc (setc D 305 f') 306 g') a b c z) := by
  have hk := k_256 hκ
  have hp := hR.1
  have hln := ways_len hX
  have es : setc (setc D 305 (D 305)) 306 (D 306) = D := by rw [setc_id, setc_id]
  have q0 : MdL (D 305) (D 306) [] := fun j hj => by cases hj
  by_cases hr : 1 ≤ xnp X 0
  · obtain ⟨L, h1, h2, h3⟩ := ways_go (X := X) hr
    have e := next_first xs (d + 2) hκ hX hR z0 hr
    have el := wayLong_eq xs (d + 1) hκ hX hR h3
    rw [← mML_all, h1]
    rw [h1, List.length_cons] at hln
    by_cases h : (nmW X (0, 1, 0, 0)).length = n
    · rw [mML_pos h]
      have s1 := MdL_snoc q0 (nmW X (0, 1, 0, 0), cdW (0, 1, 0, 0))
      obtain ⟨f', g', a, b, c, z, q1, q2⟩ := rm_step xs d hκ hX hR hn what none none none none none none none L (0, 1, 0, 0) [(nmW X (0, 1, 0, 0), cdW (0, 1, 0, 0))] _ _ h3 h2 (by rw [List.length_singleton]; omega) s1
      rw [List.singleton_append] at q1 q2
      refine ⟨f', g', a, b, c, z, q1, ?_⟩
      have en := wayName_eq xs d hκ hX (RI_305 hR (D 305) (D 306)) h3 (by omega)
      have ec := wayCode_eq xs (d + 2) hκ hX (RI_305 hR (fun j => if j = 0 then (p27 (nmW X (0, 1, 0, 0)) : Int) else D 305 j) (D 306)) h3
      have p72 : ∀ f g, wyS (setc (setc D 305 f) 306 g) (0, 1, 0, 0) 256 72 = 305 := fun f g => by
        unfold wyS; rw [wy_o (by omega), setc_ne (by decide), setc_ne (by decide)]; exact pr_72 hp
      have p73 : ∀ f g, wyS (setc (setc D 305 f) 306 g) (0, 1, 0, 0) 256 73 = 306 := fun f g => by
        unfold wyS; rw [wy_o (by omega), setc_ne (by decide), setc_ne (by decide)]; exact pr_73 hp
      rw [← es] at e el
      rw [← es, q_277_27]
      have p0 := p72 (D 305) (D 306)
      have p1 := p73 (D 305) (D 306)
      have w01 : w32 (0 + 1) = (1 : Int) := rfl
      rw [es] at e el en p0 p1 ⊢
      have es2 := s256_305 (D := D) (f := D 305) (g := D 306) (y := (0, 1, 0, 0)) (k := 0) (x := (p27 (nmW X (0, 1, 0, 0)) : Int))
      rw [es] at es2
      simp (disch := omega) only [cond_true, cond_false, Bool.and_true, Bool.true_and, Bool.and_false, Bool.false_and, Int.toNat_natCast, Int.reduceToNat, bI_s, bJ_s, bV_s, bR_s, decide_true, decide_false, not_true_eq_false, not_false_eq_true, dT, dF, w_al, w_la, w_ab, w_sl, w_sb, w_dec, w_ml, w_lm, ol2i_n, aup_ne, aupE, aupJ, setc_self, setc_ne, hk, e, el, h, en, p0, n_305 hκ, es2, ec, p1, n_306 hκ, s256_306, w01]
      exact q2
    · rw [mML_neg h]
      obtain ⟨f', g', a, b, c, z, q1, q2⟩ := rm_step xs d hκ hX hR hn what none none none none none none none L (0, 1, 0, 0) [] (D 305) (D 306) h3 h2 (by rw [List.length_nil]; omega) q0
      rw [List.nil_append] at q1 q2
      rw [es] at q2
      refine ⟨f', g', a, b, c, z, q1, ?_⟩
      rw [q_277_27]
      simp (disch := omega) only [cond_true, cond_false, Bool.and_true, Bool.true_and, Bool.and_false, Bool.false_and, Int.toNat_natCast, Int.reduceToNat, bI_s, bJ_s, bV_s, bR_s, decide_true, decide_false, not_true_eq_false, not_false_eq_true, dT, dF, w_al, w_la, w_ab, w_sl, w_sb, w_dec, w_ml, w_lm, ol2i_n, aup_ne, aupE, aupJ, setc_self, setc_ne, hk, e, el]
      exact q2
  · obtain ⟨a, b, c, z, e⟩ := next_first0 xs (d + 2) hκ hX hR z0 (by omega)
    refine ⟨D 305, D 306, a, b, c, z, ?_, ?_⟩
    · rw [← mML_all, ways_nil (by omega)]
      exact q0
    · rw [← mML_all, ways_nil (by omega), es, q_277_27]
      simp (disch := omega) only [cond_true, cond_false, Bool.and_true, Bool.true_and, Bool.and_false, Bool.false_and, Int.toNat_natCast, Int.reduceToNat, bI_s, bJ_s, bV_s, bR_s, decide_true, decide_false, not_true_eq_false, not_false_eq_true, dT, dF, w_al, w_la, w_ab, w_sl, w_sb, w_dec, w_ml, w_lm, ol2i_n, aup_ne, aupE, aupJ, setc_self, setc_ne, hk, e]
      rfl
theorem rmade (xs : List Int) (d : Nat) {κ : aK} {D : Nat → Nat → Int} (hκ : Shp κ) {v : Nat} {X : TX} (hX : TXok X) (hR : RI D v X) (n w : Int) : ∃ D', RSame D D' ∧ cl xs (d + 4) 277 [.inr (.inr 256), .inl n, .inl w] (κ, D) = some (some (.inl (qMade X n w)), (κ, D')) := by
  have hk := k_256 hκ
  have hp := hR.1
  unfold qMade
  by_cases h : 1 ≤ n ∧ n ≤ 12 ∧ 0 ≤ w ∧ w < 3
  · rw [if_pos h]
    obtain ⟨h1, h2, h3, h4⟩ := h
    obtain ⟨N, rfl⟩ := Int.eq_ofNat_of_zero_le (show 0 ≤ n by omega)
    obtain ⟨W, rfl⟩ := Int.eq_ofNat_of_zero_le h3
    have fi := first_eq xs (d + 2) (D := D) hκ (D 256 66) (D 256 67) (D 256 68) (D 256 69)
    rw [wy_id] at fi
    obtain ⟨f, g, a, b, c, z, q1, q2⟩ := rm_go xs d hκ hX hR (n := N) (by omega) (W : Int) (D 256 69)
    generalize hE : wyD (setc (setc D 305 f) 306 g) a b c z = E at *
    have rs : RSame D E := by
      have r1 : RSame D (setc (setc D 305 f) 306 g) := ⟨fun q h1 h2 => by
        have h2' : q ≠ 305 ∧ q ≠ 306 := ⟨fun e => h2 (by rw [e]; decide), fun e => h2 (by rw [e]; decide)⟩
        rw [setc_ne h2'.2, setc_ne h2'.1], fun j _ => by rw [setc_ne (by decide), setc_ne (by decide)], by rw [setc_ne (by decide), setc_ne (by decide)]; exact hR.2.2.2.1⟩
      rw [← hE]
      exact r1.trans (wy_same r1.2.2 a b c z)
    have hp' := (hR.same rs).1
    have el := mAll_len hX N
    have e305 : E 305 = f := by rw [← hE, wy_q (by decide), setc_ne (by decide), setc_self]
    have e306 : E 306 = g := by rw [← hE, wy_q (by decide), setc_self]
    have gt : ∀ j, (hj : j < (mAll X N).length) → eA (mAll X N) j = (mAll X N)[j] := fun j hj => by
      unfold eA
      rw [List.getD_eq_getElem?_getD, List.getElem?_eq_getElem hj]
      rfl
    obtain ⟨y, y1, y2⟩ := ro_loop xs (d + 3) hκ hp' (e := eA (mAll X N)) el (fun j hj => by
      rw [e305]
      refine ⟨(q1 j hj).1, ?_⟩
      rw [gt j hj]
      exact mAll_ent hX (List.getElem_mem hj)) (fun j hj => by rw [e306]; exact (q1 j hj).2) (N : Int) (W : Int) (mAll X N).length 0 (-2) none none none (by omega) (Or.inl ⟨rfl, fun j hj => absurd hj (by omega)⟩)
    have hmono : ∀ i j, i < j → j < (mAll X N).length → (eA (mAll X N) i).2 < (eA (mAll X N) j).2 := fun i j hij hj => by
      rw [gt i (by omega), gt j hj]
      exact List.pairwise_iff_getElem.mp (mAll_pw hX N) i j (by omega) hj hij
    have hf := mdF_lst hmono (mAll X N).length (Nat.le_refl _)
    have u1 := isF_uniq y1 hf
    have u2 := mdU_lst (eA (mAll X N)) (mAll X N).length
    have u3 := (congrArg mdT (lst_all (mAll X N))).symm.trans (mdT_lst (eA (mAll X N)) (mAll X N).length)
    rw [lst_all] at u1 u2
    rw [u1, ← u2, ← u3] at y2
    refine ⟨E, rs, ?_⟩
    have en : (if (W : Int) = 0 then (mdU (mAll X N).reverse : Int) else if (W : Int) = 1 then (mdT (mAll X N).reverse : Int) else mdF (mAll X N).reverse) = mdA X N W := by
      unfold mdA
      have : W = 0 ∨ W = 1 ∨ W = 2 := by omega
      rcases this with rfl | rfl | rfl <;> rfl
    rw [en] at y2
    rw [c_277]
    have i1 : (if (1 : Int) ≤ (N : Int) ∧ (N : Int) ≤ 12 then (1 : Int) else 0) = 1 := if_pos ⟨h1, h2⟩
    have i2 : (if (0 : Int) ≤ (W : Int) ∧ (W : Int) ≤ 2 then (1 : Int) else 0) = 1 := if_pos ⟨h3, by omega⟩
    simp (disch := omega) only [cond_true, cond_false, Bool.and_true, Bool.true_and, Bool.and_false, Bool.false_and, Int.toNat_natCast, Int.reduceToNat, bI_s, bJ_s, bV_s, bR_s, decide_true, decide_false, not_true_eq_false, not_false_eq_true, dT, dF, w_al, w_la, w_ab, w_sl, w_sb, w_dec, w_ml, w_lm, ol2i_n, aup_ne, aupE, aupJ, setc_self, setc_ne, in_eq, i1, i2, hk, fi]
    exact q2.trans y2
  · rw [if_neg h]
    refine ⟨D, RSame.rfl' hR.2.2.2.1, ?_⟩
    rw [c_277]
    by_cases h1 : 1 ≤ n ∧ n ≤ 12
    · have i1 : (if (1 : Int) ≤ n ∧ n ≤ 12 then (1 : Int) else 0) = 1 := if_pos h1
      have i2 : (if (0 : Int) ≤ w ∧ w ≤ 2 then (1 : Int) else 0) = 0 := if_neg (by omega)
      simp (disch := omega) only [cond_true, cond_false, Bool.and_true, Bool.true_and, Bool.and_false, Bool.false_and, Int.toNat_natCast, Int.reduceToNat, bI_s, bJ_s, bV_s, bR_s, decide_true, decide_false, not_true_eq_false, not_false_eq_true, dT, dF, w_al, w_la, w_ab, w_sl, w_sb, w_dec, w_ml, w_lm, ol2i_n, aup_ne, aupE, aupJ, setc_self, setc_ne, in_eq, i1, i2]
    · have i1 : (if (1 : Int) ≤ n ∧ n ≤ 12 then (1 : Int) else 0) = 0 := if_neg h1
      simp (disch := omega) only [cond_true, cond_false, Bool.and_true, Bool.true_and, Bool.and_false, Bool.false_and, Int.toNat_natCast, Int.reduceToNat, bI_s, bJ_s, bV_s, bR_s, decide_true, decide_false, not_true_eq_false, not_false_eq_true, dT, dF, w_al, w_la, w_ab, w_sl, w_sb, w_dec, w_ml, w_lm, ol2i_n, aup_ne, aupE, aupJ, setc_self, setc_ne, in_eq, i1]
