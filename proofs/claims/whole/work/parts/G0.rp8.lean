/-! The reference reads: a land's wants. -/
def RlF (E E' : Nat → Nat → Int) (K n : Nat) : Prop := (∀ q, q ≠ 256 → q ≠ 286 → q ≠ 287 → E' q = E q) ∧ (∀ j, j < 4 * K + n ∨ 4 * K + 4 ≤ j → E' 286 j = E 286 j ∧ E' 287 j = E 287 j) ∧ (∀ j, ¬ (j = 11 ∨ j = 13 ∨ j = 14 ∨ j = 15 ∨ j = 16) → E' 256 j = E 256 j)
theorem RlF.trans {E E1 E2 : Nat → Nat → Int} {K n m : Nat} (h1 : RlF E E1 K n) (h2 : RlF E1 E2 K m) (hm : n ≤ m) : RlF E E2 K n := ⟨fun q a b c => (h2.1 q a b c).trans (h1.1 q a b c), fun j hj => ⟨((h2.2.1 j (by omega)).1).trans (h1.2.1 j hj).1, ((h2.2.1 j (by omega)).2).trans (h1.2.1 j hj).2⟩, fun j a => (h2.2.2 j a).trans (h1.2.2 j a)⟩
theorem Rq.lf {E E' : Nat → Nat → Int} (h : Rq E E') (K n : Nat) : RlF E E' K n := ⟨fun q a _ _ => h.1 q a, fun j _ => ⟨by rw [h.1 286 (by decide)], by rw [h.1 287 (by decide)]⟩, fun j a => h.2 j a⟩
theorem RlF.u6 {E : Nat → Nat → Int} {K n : Nat} (hn : n < 4) (x : Int) : RlF E (aup E 286 (4 * K + n) x) K n := ⟨fun q _ b _ => aupN b, fun j hj => ⟨aupJ (by omega), by rw [aupN (by decide)]⟩, fun j _ => by rw [aupN (by decide)]⟩
theorem RlF.u7 {E : Nat → Nat → Int} {K n : Nat} (hn : n < 4) (x : Int) : RlF E (aup E 287 (4 * K + n) x) K n := ⟨fun q _ _ c => aupN c, fun j hj => ⟨by rw [aupN (by decide)], aupJ (by omega)⟩, fun j _ => by rw [aupN (by decide)]⟩
def LE (E : Nat → Nat → Int) (K n : Nat) (P M : Nat → Nat) : Prop := ∀ i, i < n → E 286 (4 * K + i) = (P i : Int) ∧ P i < 24 ∧ E 287 (4 * K + i) = (M i : Int) ∧ 1 ≤ M i ∧ M i ≤ 99
theorem wsm_z {P M : Nat → Nat} {q : Nat} : ∀ n, (∀ i, i < n → 1 ≤ M i) → (wsm P M q n = 0 ↔ ∀ j, j < n → ¬ P j = q)
  | 0, _ => ⟨fun _ j hj => absurd hj (Nat.not_lt_zero j), fun _ => rfl⟩
  | n + 1, h => by
    have ih := wsm_z (P := P) (q := q) n (fun i hi => h i (by omega))
    have hn := h n (by omega)
    unfold wsm
    by_cases e : P n = q
    · rw [if_pos e]
      exact ⟨fun z => by omega, fun z => absurd e (z n (by omega))⟩
    · rw [if_neg e, Nat.add_zero, ih]
      refine ⟨fun z j hj => ?_, fun z j hj => z j (by omega)⟩
      by_cases ej : j = n
      · rw [ej]; exact e
      · exact z j (by omega)
theorem wsm_up {P M : Nat → Nat} {i : Nat} : ∀ n m p x, n ≤ m → wsm (upf P m p) (upf M m x) i n = wsm P M i n
  | 0, _, _, _, _ => rfl
  | n + 1, m, p, x, h => by
    unfold wsm
    rw [wsm_up n m p x (by omega), upf_n (by omega), upf_n (by omega)]
theorem rWants (xs : List Int) (d : Nat) {κ : aK} {D : Nat → Nat → Int} {v u : Nat} (hκ : Shp κ) (hpD : PtrR D) {T : Nat → TK} (hT : TKok T) (hk : TkR D T) (hs : RsD D v u) {c : Nat → Nat} {K : Nat} (hK : K < 10) (hKv : ¬ K / 5 = v) : ∀ (r n : Nat) (s w : SS) (E : Nat → Nat → Int) (u3 u4 u5 : Option aV), n + r = 4 → RpS D E v T s w → (s.2 = 0 → wbf T w s.1) → PcN E u c → ∃ (n' : Nat) (w' : SS) (E' : Nat → Nat → Int), n' ≤ 4 ∧ n ≤ n' ∧ ((¬ (wntG T r s).2 = 0 ∧ ev xs (d + 4) mm_218 33 [some (.inr (.inr 256)), some (.inl (K : Int)), some (.inl (n : Int)), u3, u4, u5] [] (κ, E) = some (none, (κ, E'))) ∨ (∃ a3 a4 a5, ev xs (d + 4) mm_218 33 [some (.inr (.inr 256)), some (.inl (K : Int)), some (.inl (n : Int)), u3, u4, u5] [] (κ, E) = ev xs (d + 4) mm_218 215 [some (.inr (.inr 256)), some (.inl (K : Int)), some (.inl (n' : Int)), a3, a4, a5] [] (κ, E'))) ∧ RpS D E' v T (wntG T r s) w' ∧ RlF E E' K n ∧ ((wntG T r s).2 = 0 → (¬ w.1 = 0 → w' = w) ∧ wbf T w' (wntG T r s).1 ∧ ∀ X P M, TXok X → PcR E u c X → w.1 = 0 → LE E K n P M → w' = (wnM T X r s.1 (fun i => wsm P M i n) w).2 ∧ (w'.1 = 0 → ∃ P' M', LE E' K n' P' M' ∧ ∀ i, (wnM T X r s.1 (fun i => wsm P M i n) w).1 i = wsm P' M' i n')) := by
  intro r
  induction r with
  | zero =>
    intro n s w E u3 u4 u5 hnr h hb hc
    have k256 := k_256 hκ
    have hn4 : n = 4 := by omega
    subst hn4
    have is := r_is xs (d + 3) hκ hpD hT hk h (k := 2) (by decide) (kk := 1) rfl
    have h13 := h.2.1
    by_cases hq : s.2 = 0 ∧ tkK (T s.1) = 2
    · rw [if_pos hq] at is
      obtain ⟨E1, f1, f2, f3⟩ := r_fail xs (d + 3) hκ hpD hT hk h (k := 2) (by decide) (kk := 2) rfl
      have ew : wntG T 0 s = fl 2 s := (if_pos hq.1).trans (if_pos hq.2)
      have ef : fl 2 s = (s.1, 2) := if_pos hq.1
      have nz : ¬ (wntG T 0 s).2 = 0 := by rw [ew, ef]; exact (show ¬ 2 = 0 by decide)
      rw [hq.1] at h13
      have h13' : E 256 13 = 0 := h13
      refine ⟨4, w, E1, Nat.le_refl _, Nat.le_refl _, Or.inl ⟨nz, ?_⟩, by rw [ew]; exact f2, f3.lf K 4, fun z => absurd z nz⟩
      have h13b : E1 256 13 = 2 := by have := f2.2.1; rw [ef] at this; exact this
      rw [q_218_33]
      simp (disch := omega) only [cond_true, cond_false, Bool.and_true, Bool.true_and, Bool.and_false, Bool.false_and, Int.toNat_natCast, Int.reduceToNat, bI_s, bJ_s, bV_s, bR_s, decide_true, decide_false, not_true_eq_false, not_false_eq_true, dT, dF, w_al, w_la, w_ab, w_sl, w_sb, w_dec, w_ml, w_lm, ol2i_n, aup_ne, aupE, aupJ, setc_self, setc_ne, k256, h13', is, f1]
      rw [q_218_58]
      simp (disch := omega) only [cond_true, cond_false, Bool.and_true, Bool.true_and, Bool.and_false, Bool.false_and, Int.toNat_natCast, Int.reduceToNat, bI_s, bJ_s, bV_s, bR_s, decide_true, decide_false, not_true_eq_false, not_false_eq_true, dT, dF, w_al, w_la, w_ab, w_sl, w_sb, w_dec, w_ml, w_lm, ol2i_n, aup_ne, aupE, aupJ, setc_self, setc_ne, k256, h13b]
    · rw [if_neg hq] at is
      have ew : wntG T 0 s = s := by
        by_cases z : s.2 = 0
        · exact (if_pos z).trans (if_neg (fun y => hq ⟨z, y⟩))
        · exact wntG_f z
      rw [ew]
      refine ⟨4, w, E, Nat.le_refl _, Nat.le_refl _, Or.inr ⟨u3, u4, u5, ?_⟩, h, Rq.rfl'.lf K 4, fun z => ⟨fun _ => rfl, hb z, fun X P M _ _ _ hL => ⟨rfl, fun _ => ⟨P, M, hL, fun _ => rfl⟩⟩⟩⟩
      rw [q_218_33]
      by_cases z : s.2 = 0
      · rw [z] at h13
        have h13' : E 256 13 = 0 := h13
        simp (disch := omega) only [cond_true, cond_false, Bool.and_true, Bool.true_and, Bool.and_false, Bool.false_and, Int.toNat_natCast, Int.reduceToNat, bI_s, bJ_s, bV_s, bR_s, decide_true, decide_false, not_true_eq_false, not_false_eq_true, dT, dF, w_al, w_la, w_ab, w_sl, w_sb, w_dec, w_ml, w_lm, ol2i_n, aup_ne, aupE, aupJ, setc_self, setc_ne, k256, h13', is]
      · simp (disch := omega) only [cond_true, cond_false, Bool.and_true, Bool.true_and, Bool.and_false, Bool.false_and, Int.toNat_natCast, Int.reduceToNat, bI_s, bJ_s, bV_s, bR_s, decide_true, decide_false, not_true_eq_false, not_false_eq_true, dT, dF, w_al, w_la, w_ab, w_sl, w_sb, w_dec, w_ml, w_lm, ol2i_n, aup_ne, aupE, aupJ, setc_self, setc_ne, k256, h13]
  | succ r ih =>
    intro n s w E u3 u4 u5 hnr h hb hc
    have k256 := k_256 hκ
    have h13 := h.2.1
    by_cases hq : s.2 = 0 ∧ tkK (T s.1) = 2
    · have es : s = (s.1, 0) := Prod.ext rfl hq.1
      have ew : wntG T (r + 1) s = wntG T r (mu T 3 (mu T 2 s)) := (if_pos hq.1).trans (if_pos hq.2)
      have h0 := h
      rw [es] at h0
      obtain ⟨pc, w1, E1, i1, i2, i3, i4, i5, i6, i7, i8⟩ := rl_item xs (d + 2) hκ hpD hT hk h0 hs hc (hb hq.1) hq.2 hK (n := n) (by omega) u3 u4 u5
      rw [← es] at i2
      obtain ⟨E2, j1, j2, j3⟩ := r_go xs (d + 2) hκ hpD hT hk i2 (fun _ => by rw [hq.2]; decide)
      rw [← goG_mu hq.2] at j2
      have hdiv : ¬ (4 * K + n) / 20 = v := by omega
      have s3 := j2.fr (E' := aup E2 286 (4 * K + n) pc) (j2.1.wr (q := 286) (by decide) (by decide) (by show ¬ (4 * K + n) / 20 = v; exact hdiv) _) (fun j _ => by rw [aupN (by decide)])
      obtain ⟨x, E3, o1, o2, o3, o4⟩ := r_num xs d hκ hpD hT hk s3 (lo := 1) (hi := 99) (l' := 1) (h' := 99) rfl rfl (fun z => by
        rw [(mu_ok z).2.2.2]
        exact i5)
      have s4 := o3.fr (E' := aup E3 287 (4 * K + n) x) (o3.1.wr (q := 287) (by decide) (by decide) (by show ¬ (4 * K + n) / 20 = v; exact hdiv) _) (fun j _ => by rw [aupN (by decide)])
      have F4 : RlF E (aup E3 287 (4 * K + n) x) K n := (((i3.lf K n).trans (j3.lf K n) (Nat.le_refl _)).trans (RlF.u6 (by omega) pc) (Nat.le_refl _)).trans ((o4.lf K n).trans (RlF.u7 (by omega) x) (Nat.le_refl _)) (Nat.le_refl _)
      have hc4 : PcN (aup E3 287 (4 * K + n) x) u c := fun s' hs' => by rw [F4.1 274 (by decide) (by decide) (by decide)]; exact hc s' hs'
      have hp2 := j2.1.ptr hpD
      have ew2 : w32 (((4 * K : Nat) : Int) + (n : Int)) = ((4 * K + n : Nat) : Int) := by rw [w32_id (by omega) (by omega)]; omega
      have p43 : aup E2 286 (4 * K + n) pc 256 43 = ((287 : Nat) : Int) := by rw [aupN (by decide)]; exact pr_43 hp2
      have to : ev xs (d + 4) mm_218 33 [some (.inr (.inr 256)), some (.inl (K : Int)), some (.inl (n : Int)), u3, u4, u5] [] (κ, E) = ev xs (d + 4) mm_218 33 [some (.inr (.inr 256)), some (.inl (K : Int)), some (.inl ((n + 1 : Nat) : Int)), some (.inl (s.1 : Int)), some (.inl pc), some (.inl (n : Int))] [] (κ, aup E3 287 (4 * K + n) x) := by
        rw [i1, q_218_137]
        simp (disch := omega) only [k256, j1, pr_42 hp2, n_286 hκ, ew2, o1, pr_43 hp2, n_287 hκ, cond_true, cond_false, Bool.and_true, Bool.true_and, Bool.and_false, Bool.false_and, Int.toNat_natCast, Int.reduceToNat, bI_s, bJ_s, bV_s, bR_s, decide_true, decide_false, not_true_eq_false, not_false_eq_true, dT, dF, w_al, w_la, w_ab, w_sl, w_sb, w_dec, w_ml, w_lm, ol2i_n, aup_ne, aupE, aupJ, setc_self, setc_ne]
      have hpos : (mu T 3 (mu T 2 s)).2 = 0 → mu T 3 (mu T 2 s) = (s.1 + 2, 0) ∧ (mu T 2 s).1 = s.1 + 1 ∧ tkK (T (s.1 + 1)) = 3 := fun z => by
        obtain ⟨m1, m2, m3, m4⟩ := mu_ok z
        obtain ⟨n1, n2, n3, n4⟩ := mu_ok m1
        rw [n4] at m2 m4
        rw [n4]
        exact ⟨m4, rfl, m2⟩
      have hb4 : (mu T 3 (mu T 2 s)).2 = 0 → wbf T (w1N T (mu T 2 s).1 1 99 w1) (mu T 3 (mu T 2 s)).1 := fun z => by
        obtain ⟨e1, e2, e3⟩ := hpos z
        rw [e1, e2]
        unfold w1N
        split
        · exact wbf_w hT i5 (by omega)
        · exact wbf_s hT i5 (by omega)
      obtain ⟨n', w', E', k1, k2, k3, k4, k5, k6⟩ := ih (n + 1) (mu T 3 (mu T 2 s)) _ (aup E3 287 (4 * K + n) x) (some (.inl (s.1 : Int))) (some (.inl pc)) (some (.inl (n : Int))) (by omega) s4 hb4 hc4
      rw [← ew] at k3 k4 k6
      refine ⟨n', w', E', k1, by omega, ?_, k4, F4.trans k5 (by omega), fun z => ?_⟩
      · rcases k3 with ⟨a, b⟩ | ⟨a3, a4, a5, b⟩
        · exact Or.inl ⟨a, to.trans b⟩
        · exact Or.inr ⟨a3, a4, a5, to.trans b⟩
      · obtain ⟨l1, l2, l3⟩ := k6 z
        have z2 : (mu T 3 (mu T 2 s)).2 = 0 := by
          rw [ew] at z
          by_cases y : (mu T 3 (mu T 2 s)).2 = 0
          · exact y
          · rw [wntG_f y] at z; exact absurd z y
        obtain ⟨e1, e2, e3⟩ := hpos z2
        rw [e2] at l1 l3
        have ex := o2 z2
        rw [e2] at ex
        refine ⟨fun y => ?_, l2, fun X P M hX hP hw0 hL => ?_⟩
        · have y1 := i4 y
          rw [l1 (by rw [y1, w1N_k y]; exact y), y1, w1N_k y]
        · have hM : ∀ i, i < n → 1 ≤ M i := fun i hi => (hL i hi).2.2.2.1
          have em : wnM T X (r + 1) s.1 (fun i => wsm P M i n) w = wnM T X r (s.1 + 2) (wfU T X s.1 (fun i => wsm P M i n)) (w1N T (s.1 + 1) 1 99 (w1W T X s.1 (fun i => wsm P M i n) w)) := if_pos hq.2
          obtain ⟨x1, x2, x3⟩ := i8 X hX hP
          -- its faults are those of the spec
          have ew1 : w1 = w1W T X s.1 (fun i => wsm P M i n) w := by
            unfold w1W
            cases hpa : pAll X (tkN (T s.1)) with
            | none => exact x2 hpa
            | some q =>
              rw [hpa] at x1 x3
              change pc = (q : Int) at x1
              show w1 = (if wsm P M q n = 0 then w else wrg w 3 (tkP (T s.1)))
              have hwz := wsm_z (P := P) (q := q) n hM
              rcases x3 (by simp) with ⟨y1, y2⟩ | ⟨y1, j, y2, y3⟩
              · rw [if_pos (hwz.mpr (fun j hj e => y2 j hj (by rw [(hL j hj).1, e, x1]))), y1]
              · rw [if_neg (fun e => hwz.mp e j y2 (by have := (hL j y2).1; omega)), y1]
          rw [em, ← ew1]
          by_cases hw1 : (w1N T (s.1 + 1) 1 99 w1).1 = 0
          · obtain ⟨n1, n2, n3, n4⟩ := w1N_z hw1
            rw [ew1] at n1
            obtain ⟨m1, m2, q, m3, m4⟩ := w1W_z n1
            have hq24 := pAll_lt hX m3
            rw [m3] at x1
            change pc = (q : Int) at x1
            have ewf : wfU T X s.1 (fun i => wsm P M i n) = fun i => wsm (upf P n q) (upf M n (tkV (T (s.1 + 1)))) i (n + 1) := by
              funext i
              unfold wfU
              rw [m3]
              show upf (fun i => wsm P M i n) q (tkV (T (s.1 + 1))) i = wsm (upf P n q) (upf M n (tkV (T (s.1 + 1)))) i n + (if upf P n q n = i then upf M n (tkV (T (s.1 + 1))) n else 0)
              rw [wsm_up n n q _ (Nat.le_refl _), upf_s, upf_s]
              by_cases e : i = q
              · subst e
                rw [upf_s, if_pos rfl]
                show _ = wsm P M i n + _
                rw [m4]
                omega
              · rw [upf_n e, if_neg (Ne.symm e)]
                rfl
            have hL4 : LE (aup E3 287 (4 * K + n) x) K (n + 1) (upf P n q) (upf M n (tkV (T (s.1 + 1)))) := fun i hi => by
              by_cases e : i = n
              · subst e
                rw [upf_s, upf_s, aupN (by decide), aupE, o4.cell (by decide), aupE]
                exact ⟨x1, hq24, ex, n2, n3⟩
              · rw [upf_n e, upf_n e, (F4.2.1 (4 * K + i) (by omega)).1, (F4.2.1 (4 * K + i) (by omega)).2]
                exact hL i (by omega)
            have hP4 : PcR (aup E3 287 (4 * K + n) x) u c X := fun s' hs' => by rw [F4.1 275 (by decide) (by decide) (by decide)]; exact hP s' hs'
            have := l3 X _ _ hX hP4 hw1 hL4
            rw [e1] at this
            rw [ewf]
            exact this
          · rw [wnM_k _ _ _ _ hw1, l1 hw1]
            exact ⟨rfl, fun y => absurd y hw1⟩
    · have ew : wntG T (r + 1) s = s := by
        by_cases z : s.2 = 0
        · exact (if_pos z).trans (if_neg (fun y => hq ⟨z, y⟩))
        · exact wntG_f z
      have is := r_is xs (d + 3) hκ hpD hT hk h (k := 2) (by decide) (kk := 1) rfl
      rw [if_neg hq] at is
      rw [ew]
      refine ⟨n, w, E, by omega, Nat.le_refl _, Or.inr ⟨u3, u4, u5, ?_⟩, h, Rq.rfl'.lf K n, fun z => ⟨fun _ => rfl, hb z, fun X P M _ _ _ hL => ?_⟩⟩
      · rw [q_218_33]
        by_cases z : s.2 = 0
        · rw [z] at h13
          have h13' : E 256 13 = 0 := h13
          simp (disch := omega) only [cond_true, cond_false, Bool.and_true, Bool.true_and, Bool.and_false, Bool.false_and, Int.toNat_natCast, Int.reduceToNat, bI_s, bJ_s, bV_s, bR_s, decide_true, decide_false, not_true_eq_false, not_false_eq_true, dT, dF, w_al, w_la, w_ab, w_sl, w_sb, w_dec, w_ml, w_lm, ol2i_n, aup_ne, aupE, aupJ, setc_self, setc_ne, k256, h13', is]
        · simp (disch := omega) only [cond_true, cond_false, Bool.and_true, Bool.true_and, Bool.and_false, Bool.false_and, Int.toNat_natCast, Int.reduceToNat, bI_s, bJ_s, bV_s, bR_s, decide_true, decide_false, not_true_eq_false, not_false_eq_true, dT, dF, w_al, w_la, w_ab, w_sl, w_sb, w_dec, w_ml, w_lm, ol2i_n, aup_ne, aupE, aupJ, setc_self, setc_ne, k256, h13]
      · have em : wnM T X (r + 1) s.1 (fun i => wsm P M i n) w = (fun i => wsm P M i n, w) := if_neg (fun y => hq ⟨z, y⟩)
        rw [em]
        exact ⟨rfl, fun _ => ⟨P, M, hL, fun _ => rfl⟩⟩
