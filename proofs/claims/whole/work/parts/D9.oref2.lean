/-! Orders: fillsOrders (285) and the three questions of the reference. -/
theorem iv_in (xs : List Int) (d : Nat) {κ : aK} {D : Nat → Nat → Int} (hκ : Shp κ) (hp : PtrR D) {ps : Nat → Nat} {N n a i : Nat} {v1 v2 : Int} (hn : n ≤ 7) (hN : N ≤ 7) (h74 : D 256 74 = (n : Int)) (h308 : ∀ st, st < N → D 308 st = (ps st : Int)) (hi : i < n) (ha : a < N) (ea : D 307 i = (a : Int)) : ∀ (r : List Nat) (j c : Nat), j + r.length = n → c + r.length ≤ 1000 → PmA (D 307) j r → (∀ x ∈ r, x < N) → ev xs d mm_285 98 [some (.inr (.inr 256)), some (.inl v1), some (.inl v2), some (.inl (c : Int)), some (.inl (i : Int)), some (.inl (j : Int))] [] (κ, D) = ev xs d mm_285 83 [some (.inr (.inr 256)), some (.inl v1), some (.inl v2), some (.inl ((c + (r.filter (fun x => decide (ps x < ps a))).length : Nat) : Int)), some (.inl ((i + 1 : Nat) : Int)), some (.inl (n : Int))] [] (κ, D) := by
  have k256 := k_256 hκ
  have ha8 := h308 a ha
  intro r
  induction r with
  | nil =>
    intro j c hj hc _ _
    have ej : j = n := hj
    subst ej
    rw [q_285_98]
    simp (disch := omega) only [cond_true, cond_false, Bool.and_true, Bool.true_and, Bool.and_false, Bool.false_and, Int.toNat_natCast, Int.reduceToNat, bI_s, bJ_s, bV_s, bR_s, decide_true, decide_false, not_true_eq_false, not_false_eq_true, dT, dF, w_al, w_la, w_ab, w_sl, w_sb, w_dec, w_ml, w_lm, ol2i_n, aup_ne, aupE, aupJ, setc_self, setc_ne, k256, h74]
    rfl
  | cons x r ih =>
    intro j c hj hc hpm hx
    rw [List.length_cons] at hj hc
    have hx0 := hx x List.mem_cons_self
    have ex := hpm.1
    have hx8 := h308 x hx0
    rw [List.filter_cons, q_285_98]
    by_cases hlt : ps x < ps a
    · rw [if_pos (decide_eq_true hlt), List.length_cons]
      have := ih (j + 1) (c + 1) (by omega) (by omega) hpm.2 (fun y hy => hx y (List.mem_cons_of_mem _ hy))
      rw [show c + ((r.filter (fun x => decide (ps x < ps a))).length + 1) = c + 1 + (r.filter (fun x => decide (ps x < ps a))).length by omega, ← this]
      simp (disch := omega) only [cond_true, cond_false, Bool.and_true, Bool.true_and, Bool.and_false, Bool.false_and, Int.toNat_natCast, Int.reduceToNat, bI_s, bJ_s, bV_s, bR_s, decide_true, decide_false, not_true_eq_false, not_false_eq_true, dT, dF, w_al, w_la, w_ab, w_sl, w_sb, w_dec, w_ml, w_lm, ol2i_n, aup_ne, aupE, aupJ, setc_self, setc_ne, k256, h74, pr_75 hp, pr_76 hp, n_307 hκ, n_308 hκ, ea, ex, ha8, hx8]
    · rw [if_neg (by rw [decide_eq_false hlt]; exact Bool.noConfusion)]
      rw [← ih (j + 1) c (by omega) (by omega) hpm.2 (fun y hy => hx y (List.mem_cons_of_mem _ hy))]
      simp (disch := omega) only [cond_true, cond_false, Bool.and_true, Bool.true_and, Bool.and_false, Bool.false_and, Int.toNat_natCast, Int.reduceToNat, bI_s, bJ_s, bV_s, bR_s, decide_true, decide_false, not_true_eq_false, not_false_eq_true, dT, dF, w_al, w_la, w_ab, w_sl, w_sb, w_dec, w_ml, w_lm, ol2i_n, aup_ne, aupE, aupJ, setc_self, setc_ne, k256, h74, pr_75 hp, pr_76 hp, n_307 hκ, n_308 hκ, ea, ex, ha8, hx8]
theorem iv_out (xs : List Int) (d : Nat) {κ : aK} {D : Nat → Nat → Int} (hκ : Shp κ) (hp : PtrR D) {ps : Nat → Nat} {N n : Nat} {v1 v2 : Int} (hn : n ≤ 7) (hN : N ≤ 7) (h74 : D 256 74 = (n : Int)) (h308 : ∀ st, st < N → D 308 st = (ps st : Int)) : ∀ (r : List Nat) (i c : Nat) (u5 : Option aV), i + r.length = n → c + 8 * r.length ≤ 100 → PmA (D 307) i r → (∀ x ∈ r, x < N) → ∃ u5' : Option aV, ev xs d mm_285 83 [some (.inr (.inr 256)), some (.inl v1), some (.inl v2), some (.inl (c : Int)), some (.inl (i : Int)), u5] [] (κ, D) = ev xs d mm_285 83 [some (.inr (.inr 256)), some (.inl v1), some (.inl v2), some (.inl ((c + inv ps r : Nat) : Int)), some (.inl (n : Int)), u5'] [] (κ, D) := by
  have k256 := k_256 hκ
  intro r
  induction r with
  | nil =>
    intro i c u5 hi _ _ _
    exact ⟨u5, by rw [show i = n from hi]; rfl⟩
  | cons a r ih =>
    intro i c u5 hi hc hpm hx
    rw [List.length_cons] at hi hc
    have hfl := List.length_filter_le (fun x => decide (ps x < ps a)) r
    have e1 := iv_in xs d hκ hp (v1 := v1) (v2 := v2) (i := i) hn hN h74 h308 (by omega) (hx a List.mem_cons_self) hpm.1 r (i + 1) c (by omega) (by omega) hpm.2 (fun y hy => hx y (List.mem_cons_of_mem _ hy))
    obtain ⟨u5', e2⟩ := ih (i + 1) (c + (r.filter (fun x => decide (ps x < ps a))).length) (some (.inl (n : Int))) (by omega) (by omega) hpm.2 (fun y hy => hx y (List.mem_cons_of_mem _ hy))
    refine ⟨u5', ?_⟩
    rw [show c + inv ps (a :: r) = c + (r.filter (fun x => decide (ps x < ps a))).length + inv ps r from by
      show c + ((r.filter (fun x => decide (ps x < ps a))).length + inv ps r) = _
      omega, ← e2, ← e1, q_285_83]
    simp (disch := omega) only [cond_true, cond_false, Bool.and_true, Bool.true_and, Bool.and_false, Bool.false_and, Int.toNat_natCast, Int.reduceToNat, bI_s, bJ_s, bV_s, bR_s, decide_true, decide_false, not_true_eq_false, not_false_eq_true, dT, dF, w_al, w_la, w_ab, w_sl, w_sb, w_dec, w_ml, w_lm, ol2i_n, aup_ne, aupE, aupJ, setc_self, setc_ne, k256, h74]
theorem cp_loop (xs : List Int) (d : Nat) {κ : aK} {D : Nat → Nat → Int} (hκ : Shp κ) (hp : PtrR D) {n : Nat} {v1 v2 : Int} (hn : n ≤ 7) (h74 : D 256 74 = (n : Int)) {c : Nat} (hc : c ≤ 100000) (h77 : D 256 77 = (c : Int)) (u4 u5 : Option aV) : ∀ (m i : Nat) (f : Nat → Int), i + m = n → (∀ k, k < i → f k = D 307 k) → ∃ f' : Nat → Int, (∀ k, k < n → f' k = D 307 k) ∧ ev xs d mm_285 42 [some (.inr (.inr 256)), some (.inl v1), some (.inl v2), some (.inl (i : Int)), u4, u5] [] (κ, setc D 309 f) = ev xs d mm_285 83 [some (.inr (.inr 256)), some (.inl v1), some (.inl v2), some (.inl 0), some (.inl 0), u5] [] (κ, aup (setc D 309 f') 256 77 ((c + 1 : Nat) : Int)) := by
  have k256 := k_256 hκ
  intro m
  induction m with
  | zero =>
    intro i f hi hf
    refine ⟨f, fun k hk => hf k (by omega), ?_⟩
    rw [q_285_42]
    simp (disch := omega) only [cond_true, cond_false, Bool.and_true, Bool.true_and, Bool.and_false, Bool.false_and, Int.toNat_natCast, Int.reduceToNat, bI_s, bJ_s, bV_s, bR_s, decide_true, decide_false, not_true_eq_false, not_false_eq_true, dT, dF, w_al, w_la, w_ab, w_sl, w_sb, w_dec, w_ml, w_lm, ol2i_n, aup_ne, aupE, aupJ, setc_self, setc_ne, k256, h74, h77]
  | succ m ih =>
    intro i f hi hf
    obtain ⟨f', r1, r2⟩ := ih (i + 1) (fun k => if k = i then D 307 i else f k) (by omega) (fun k hk => by
      show (if k = i then D 307 i else f k) = _
      by_cases h : k = i
      · rw [if_pos h, h]
      · rw [if_neg h]; exact hf k (by omega))
    refine ⟨f', r1, ?_⟩
    rw [← r2, q_285_42]
    simp (disch := omega) only [cond_true, cond_false, Bool.and_true, Bool.true_and, Bool.and_false, Bool.false_and, Int.toNat_natCast, Int.reduceToNat, bI_s, bJ_s, bV_s, bR_s, decide_true, decide_false, not_true_eq_false, not_false_eq_true, dT, dF, w_al, w_la, w_ab, w_sl, w_sb, w_dec, w_ml, w_lm, ol2i_n, aup_ne, aupE, aupJ, setc_self, setc_ne, k256, h74, pr_75 hp, pr_78 hp, n_307 hκ, n_309 hκ, aup_setc]
def OC (D : Nat → Nat → Int) (ps : Nat → Nat) (F : List (List Nat)) : Prop := D 256 77 = (F.length : Int) ∧ (F = [] → D 256 79 = -2) ∧ ∀ h r, F = h :: r → PmA (D 309) 0 h ∧ ∃ z : Nat, D 256 79 = (z : Int) ∧ isMin (inv ps) F z
theorem OC.congr {D D' : Nat → Nat → Int} {ps : Nat → Nat} {F : List (List Nat)} (h : OC D ps F) (h1 : D' 256 77 = D 256 77) (h2 : D' 256 79 = D 256 79) (h3 : D' 309 = D 309) : OC D' ps F := by
  unfold OC
  rw [h1, h2, h3]
  exact h
def OS (D : Nat → Nat → Int) (v : Nat) (X : TX) (ps : Nat → Nat) (l : List Nat) : Prop := RI D v X ∧ D 256 74 = (l.length : Int) ∧ PmA (D 307) 0 l ∧ ∀ st, st < xns X → D 308 st = (ps st : Int)
theorem OS.same {D D' : Nat → Nat → Int} {v : Nat} {X : TX} {ps : Nat → Nat} {l : List Nat} (h : OS D v X ps l) (hs : RSame D D') (h1 : D' 256 74 = D 256 74) (h2 : D' 307 = D 307) (h3 : D' 308 = D 308) : OS D' v X ps l := by
  refine ⟨h.1.same hs, h1.trans h.2.1, by rw [h2]; exact h.2.2.1, fun st hst => by rw [h3]; exact h.2.2.2 st hst⟩
theorem inv_le (ps : Nat → Nat) : ∀ l : List Nat, inv ps l ≤ l.length * l.length
  | [] => Nat.le_refl _
  | x :: l => by
    show (l.filter (fun y => decide (ps y < ps x))).length + inv ps l ≤ (l.length + 1) * (l.length + 1)
    have h1 := List.length_filter_le (fun y => decide (ps y < ps x)) l
    have h2 := inv_le ps l
    rw [Nat.add_mul, Nat.mul_add]
    omega
/-- one order, as far as the next is asked for -/
theorem one_ord (xs : List Int) (d : Nat) {κ : aK} {D : Nat → Nat → Int} (hκ : Shp κ) {v : Nat} {X : TX} (hX : TXok X) {ps : Nat → Nat} {l : List Nat} (hO : OS D v X ps l) (hl7 : l.length ≤ 7) (hlx : ∀ x ∈ l, x < xns X) {k : Nat} (hk' : k ≤ xpr X) {F : List (List Nat)} (hF : OC D ps F) (hFl : F.length ≤ 99999) (u3 u4 u5 : Option aV) : ∃ D' u3' u4' u5', RSame D D' ∧ OS D' v X ps l ∧ OC D' ps (F ++ [l].filter (fitL (tkX X) (xPI X) (xPO X) k)) ∧ ev xs (d + 3) mm_285 21 [some (.inr (.inr 256)), some (.inl (k : Int)), some (.inl 1), u3, u4, u5] [] (κ, D) = ev xs (d + 3) mm_285 169 [some (.inr (.inr 256)), some (.inl (k : Int)), some (.inl 1), u3', u4', u5'] [] (κ, D') := by
  have k256 := k_256 hκ
  have x7 := hX.1.1
  have hO' := hO
  obtain ⟨hR, h74, hpm, h308⟩ := hO
  obtain ⟨g, hg, e1⟩ := of_eq xs d hκ hX hR hl7 h74 hpm hlx hk'
  have r1 : RSame D (setc D 303 g) := RSame.s303 D hg
  have hO1 : OS (setc D 303 g) v X ps l := hO'.same r1 (by rw [setc_ne (by decide)]) (by rw [setc_ne (by decide)]) (by rw [setc_ne (by decide)])
  have hF1 : OC (setc D 303 g) ps F := hF.congr (by rw [setc_ne (by decide)]) (by rw [setc_ne (by decide)]) (by rw [setc_ne (by decide)])
  generalize hE : setc D 303 g = E at *
  by_cases hfit : fitL (tkX X) (xPI X) (xPO X) k l = true
  · rw [if_pos hfit] at e1
    rw [List.filter_cons, if_pos hfit, List.filter_nil]
    have hpE := hO1.1.1
    have h0E := hO1.1.2.2.2.1
    obtain ⟨f77, f79, fh⟩ := hF1
    -- as far as 83
    have toA : ∃ G, RSame E G ∧ G 256 74 = E 256 74 ∧ G 307 = E 307 ∧ G 308 = E 308 ∧ G 256 77 = ((F.length + 1 : Nat) : Int) ∧ G 256 79 = E 256 79 ∧ (F = [] → PmA (G 309) 0 l) ∧ (F ≠ [] → G 309 = E 309) ∧ ∃ u5', ev xs (d + 3) mm_285 21 [some (.inr (.inr 256)), some (.inl (k : Int)), some (.inl 1), u3, u4, u5] [] (κ, D) = ev xs (d + 3) mm_285 83 [some (.inr (.inr 256)), some (.inl (k : Int)), some (.inl 1), some (.inl 0), some (.inl 0), u5'] [] (κ, G) := by
      by_cases h0 : F = []
      · subst h0
        have f77' : E 256 77 = ((0 : Nat) : Int) := f77
        obtain ⟨f', c1, c2⟩ := cp_loop xs (d + 3) hκ hpE (v1 := (k : Int)) (v2 := 1) hl7 hO1.2.1 (c := 0) (by decide) f77' u4 u5 l.length 0 (E 309) (by omega) (fun k hk => absurd hk (by omega))
        rw [setc_id] at c2
        have r2 := RSame.cell h0E (r := 309) (by decide) (by decide) f'
        refine ⟨aup (setc E 309 f') 256 77 ((0 + 1 : Nat) : Int), r2.trans (RSame.upf r2.2.2 (by decide) _), ?_, ?_, ?_, by rw [aupE]; rfl, ?_, fun _ => ?_, fun q => absurd rfl q, u5, ?_⟩
        · rw [aupJ (by decide), setc_ne (by decide)]
        · rw [aupN (by decide), setc_ne (by decide)]
        · rw [aupN (by decide), setc_ne (by decide)]
        · rw [aupJ (by decide), setc_ne (by decide)]
        · rw [aupN (by decide), setc_self]
          exact PmA_congr (fun k _ hk => c1 k (by omega)) hO1.2.2.1
        · have f0 : E 256 77 = 0 := f77
          rw [← c2, q_285_21]
          simp (disch := omega) only [cond_true, cond_false, Bool.and_true, Bool.true_and, Bool.and_false, Bool.false_and, Int.toNat_natCast, Int.reduceToNat, bI_s, bJ_s, bV_s, bR_s, decide_true, decide_false, not_true_eq_false, not_false_eq_true, dT, dF, w_al, w_la, w_ab, w_sl, w_sb, w_dec, w_ml, w_lm, ol2i_n, aup_ne, aupE, aupJ, setc_self, setc_ne, k256, e1, f0]
          rfl
      · have hl0 : F.length ≠ 0 := fun q => h0 (List.length_eq_zero_iff.mp q)
        refine ⟨aup E 256 77 ((F.length + 1 : Nat) : Int), RSame.upf h0E (by decide) _, ?_, ?_, ?_, by rw [aupE], ?_, fun q => absurd q h0, fun _ => ?_, u5, ?_⟩
        · rw [aupJ (by decide)]
        · rw [aupN (by decide)]
        · rw [aupN (by decide)]
        · rw [aupJ (by decide)]
        · rw [aupN (by decide)]
        · have hne : ¬ (F.length : Int) = 0 := by omega
          rw [q_285_21]
          simp (disch := omega) only [cond_true, cond_false, Bool.and_true, Bool.true_and, Bool.and_false, Bool.false_and, Int.toNat_natCast, Int.reduceToNat, bI_s, bJ_s, bV_s, bR_s, decide_true, decide_false, not_true_eq_false, not_false_eq_true, dT, dF, w_al, w_la, w_ab, w_sl, w_sb, w_dec, w_ml, w_lm, ol2i_n, aup_ne, aupE, aupJ, setc_self, setc_ne, k256, e1, f77, hne]
    obtain ⟨G, g1, g2, g3, g4, g5, g6, g7, g8, u5', g9⟩ := toA
    have hOG : OS G v X ps l := hO1.same g1 g2 g3 g4
    obtain ⟨u6, e2⟩ := iv_out xs (d + 3) hκ hOG.1.1 (v1 := (k : Int)) (v2 := 1) hl7 x7 hOG.2.1 hOG.2.2.2 l 0 0 u5' (by omega) (by omega) hOG.2.2.1 hlx
    rw [Nat.zero_add] at e2
    have hil := inv_le ps l
    have hil2 : l.length * l.length ≤ 49 := Nat.mul_le_mul hl7 hl7
    have h0G := hOG.1.2.2.2.1
    have isM : isMin (inv ps) [l] (inv ps l) := ⟨⟨l, List.mem_singleton.mpr rfl, rfl⟩, fun q hq => by rw [List.mem_singleton.mp hq]; exact Nat.le_refl _⟩
    have hed : ∀ (H : Nat → Nat → Int) (z : Nat), H 256 77 = G 256 77 → H 309 = G 309 → H 256 79 = (z : Int) → isMin (inv ps) (F ++ [l]) z → OC H ps (F ++ [l]) := by
      intro H z y1 y2 y3 y4
      refine ⟨by rw [y1, g5, List.length_append]; rfl, fun q => absurd q (by simp), fun h r hr => ⟨?_, z, y3, y4⟩⟩
      rw [y2]
      cases F with
      | nil =>
        cases hr
        exact g7 rfl
      | cons a t =>
        cases hr
        rw [g8 (by simp)]
        exact (fh _ _ rfl).1
    rw [g9]
    have g9' : ev xs (d + 3) mm_285 83 [some (.inr (.inr 256)), some (.inl (k : Int)), some (.inl 1), some (.inl 0), some (.inl 0), u5'] [] (κ, G) = ev xs (d + 3) mm_285 83 [some (.inr (.inr 256)), some (.inl (k : Int)), some (.inl 1), some (.inl ((inv ps l : Nat) : Int)), some (.inl (l.length : Int)), u6] [] (κ, G) := e2
    rw [g9']
    have hup : RSame G (aup G 256 79 ((inv ps l : Nat) : Int)) := RSame.upf h0G (by decide) _
    have hOup : OS (aup G 256 79 ((inv ps l : Nat) : Int)) v X ps l := hOG.same hup (by rw [aupJ (by decide)]) (by rw [aupN (by decide)]) (by rw [aupN (by decide)])
    by_cases h0 : F = []
    · have h79 : G 256 79 = -2 := g6.trans (f79 h0)
      refine ⟨aup G 256 79 ((inv ps l : Nat) : Int), some (.inl ((inv ps l : Nat) : Int)), some (.inl (l.length : Int)), u6, (r1.trans g1).trans hup, hOup, hed _ (inv ps l) (by rw [aupJ (by decide)]) (by rw [aupN (by decide)]) (by rw [aupE]) (by rw [h0]; exact isM), ?_⟩
      rw [q_285_83]
      simp (disch := omega) only [cond_true, cond_false, Bool.and_true, Bool.true_and, Bool.and_false, Bool.false_and, Int.toNat_natCast, Int.reduceToNat, bI_s, bJ_s, bV_s, bR_s, decide_true, decide_false, not_true_eq_false, not_false_eq_true, dT, dF, w_al, w_la, w_ab, w_sl, w_sb, w_dec, w_ml, w_lm, ol2i_n, aup_ne, aupE, aupJ, setc_self, setc_ne, k256, hOG.2.1, h79]
    · obtain ⟨h, r, hFr⟩ : ∃ h r, F = h :: r := by
        cases F with
        | nil => exact absurd rfl h0
        | cons a t => exact ⟨a, t, rfl⟩
      obtain ⟨_, z, z1, z2⟩ := fh h r hFr
      have h79 : G 256 79 = (z : Int) := g6.trans z1
      have hmin := isMin_app z2 isM
      by_cases hz : z ≤ inv ps l
      · rw [Nat.min_eq_left hz] at hmin
        refine ⟨G, some (.inl ((inv ps l : Nat) : Int)), some (.inl (l.length : Int)), u6, r1.trans g1, hOG, hed G z rfl rfl h79 hmin, ?_⟩
        rw [q_285_83]
        simp (disch := omega) only [cond_true, cond_false, Bool.and_true, Bool.true_and, Bool.and_false, Bool.false_and, Int.toNat_natCast, Int.reduceToNat, bI_s, bJ_s, bV_s, bR_s, decide_true, decide_false, not_true_eq_false, not_false_eq_true, dT, dF, w_al, w_la, w_ab, w_sl, w_sb, w_dec, w_ml, w_lm, ol2i_n, aup_ne, aupE, aupJ, setc_self, setc_ne, k256, hOG.2.1, h79]
      · rw [Nat.min_eq_right (by omega)] at hmin
        refine ⟨aup G 256 79 ((inv ps l : Nat) : Int), some (.inl ((inv ps l : Nat) : Int)), some (.inl (l.length : Int)), u6, (r1.trans g1).trans hup, hOup, hed _ (inv ps l) (by rw [aupJ (by decide)]) (by rw [aupN (by decide)]) (by rw [aupE]) hmin, ?_⟩
        rw [q_285_83]
        simp (disch := omega) only [cond_true, cond_false, Bool.and_true, Bool.true_and, Bool.and_false, Bool.false_and, Int.toNat_natCast, Int.reduceToNat, bI_s, bJ_s, bV_s, bR_s, decide_true, decide_false, not_true_eq_false, not_false_eq_true, dT, dF, w_al, w_la, w_ab, w_sl, w_sb, w_dec, w_ml, w_lm, ol2i_n, aup_ne, aupE, aupJ, setc_self, setc_ne, k256, hOG.2.1, h79]
  · rw [if_neg hfit] at e1
    rw [List.filter_cons, if_neg hfit, List.filter_nil, List.append_nil]
    refine ⟨E, u3, u4, u5, r1, hO1, hF1, ?_⟩
    rw [q_285_21]
    simp (disch := omega) only [cond_true, cond_false, Bool.and_true, Bool.true_and, Bool.and_false, Bool.false_and, Int.toNat_natCast, Int.reduceToNat, bI_s, bJ_s, bV_s, bR_s, decide_true, decide_false, not_true_eq_false, not_false_eq_true, dT, dF, w_al, w_la, w_ab, w_sl, w_sb, w_dec, w_ml, w_lm, ol2i_n, aup_ne, aupE, aupJ, setc_self, setc_ne, k256, e1]
theorem all_ord (xs : List Int) (d : Nat) {κ : aK} (hκ : Shp κ) {v : Nat} {X : TX} (hX : TXok X) {ps : Nat → Nat} {on : Nat} (hon : on < 2 ^ xns X) {k : Nat} (hk' : k ≤ xpr X) : ∀ (L : List (List Nat)) (l : List Nat) (F : List (List Nat)) (D : Nat → Nat → Int) (u3 u4 u5 : Option aV), NL l L → List.Perm l (els on) → OS D v X ps l → OC D ps F → F.length + L.length ≤ 99999 → ∃ D', RSame D D' ∧ OC D' ps (F ++ (l :: L).filter (fitL (tkX X) (xPI X) (xPO X) k)) ∧ D' 256 74 = ((els on).length : Int) ∧ ev xs (d + 3) mm_285 21 [some (.inr (.inr 256)), some (.inl (k : Int)), some (.inl 1), u3, u4, u5] [] (κ, D) = some (none, (κ, D')) := by
  have k256 := k_256 hκ
  have x7 := hX.1.1
  have lel : (els on).length ≤ 7 := by
    unfold els
    exact Nat.le_trans (List.length_filter_le _ _) (Nat.le_of_eq List.length_range)
  intro L
  induction L with
  | nil =>
    intro l F D u3 u4 u5 hN hpe hO hF hlen
    have hll := hpe.length_eq
    have hlx : ∀ x ∈ l, x < xns X := fun x hx => bitlt hon (els_mem.mp (hpe.mem_iff.mp hx)).2
    obtain ⟨D1, w3, w4, w5, r1, r2, r3, r4⟩ := one_ord xs d hκ hX hO (by omega) hlx hk' hF (by rw [List.length_nil] at hlen; omega) u3 u4 u5
    refine ⟨D1, r1, r3, by rw [r2.2.1, hll], ?_⟩
    have hnd : l.Nodup := hpe.nodup_iff.mpr (els_nodup on)
    rcases next_eq xs (d + 2) (D := D1) hκ r2.1.1 (by omega) hnd r2.2.1 (f := D1 307) r2.2.2.1 with ⟨q1, q2⟩ | ⟨l', f', q1, _⟩
    · rw [setc_id] at q2
      rw [r4, q_285_169]
      simp (disch := omega) only [cond_true, cond_false, Bool.and_true, Bool.true_and, Bool.and_false, Bool.false_and, Int.toNat_natCast, Int.reduceToNat, bI_s, bJ_s, bV_s, bR_s, decide_true, decide_false, not_true_eq_false, not_false_eq_true, dT, dF, w_al, w_la, w_ab, w_sl, w_sb, w_dec, w_ml, w_lm, ol2i_n, aup_ne, aupE, aupJ, setc_self, setc_ne, k256, q2]
      rw [q_285_21]
      rfl
    · have h1 : np l = none := hN
      rw [h1] at q1
      cases q1
  | cons l' L ih =>
    intro l F D u3 u4 u5 hN hpe hO hF hlen
    have hll := hpe.length_eq
    obtain ⟨hn1, hn2⟩ : np l = some l' ∧ NL l' L := hN
    rw [List.length_cons] at hlen
    have hlx : ∀ x ∈ l, x < xns X := fun x hx => bitlt hon (els_mem.mp (hpe.mem_iff.mp hx)).2
    have hdl : dg l := dg_perm (els_dg on) hpe
    have hp2 := (np_some hdl hn1).1.trans hpe
    obtain ⟨D1, w3, w4, w5, r1, r2, r3, r4⟩ := one_ord xs d hκ hX hO (by omega) hlx hk' hF (by omega) u3 u4 u5
    have hnd : l.Nodup := hpe.nodup_iff.mpr (els_nodup on)
    rcases next_eq xs (d + 2) (D := D1) hκ r2.1.1 (by omega) hnd r2.2.1 (f := D1 307) r2.2.2.1 with ⟨q1, _⟩ | ⟨l2, f', q1, q2, q3, q4⟩
    · rw [hn1] at q1
      cases q1
    · rw [hn1] at q1
      cases q1
      rw [setc_id] at q4
      have r5 := RSame.cell r2.1.2.2.2.1 (r := 307) (by decide) (by decide) f'
      have hO2 : OS (setc D1 307 f') v X ps l' := ⟨r2.1.same r5, by rw [setc_ne (by decide), r2.2.1, q3], by rw [setc_self]; exact q2, fun st hst => by rw [setc_ne (by decide)]; exact r2.2.2.2 st hst⟩
      have hF2 := r3.congr (D' := setc D1 307 f') (by rw [setc_ne (by decide)]) (by rw [setc_ne (by decide)]) (by rw [setc_ne (by decide)])
      have hfl : ([l].filter (fitL (tkX X) (xPI X) (xPO X) k)).length ≤ 1 := List.length_filter_le _ _
      obtain ⟨D', s1, s2, s3, s4⟩ := ih l' _ (setc D1 307 f') w3 w4 w5 hn2 hp2 hO2 hF2 (by rw [List.length_append]; omega)
      refine ⟨D', (r1.trans r5).trans s1, ?_, s3, ?_⟩
      · rw [List.append_assoc, ← List.filter_append] at s2
        exact s2
      · rw [← s4, r4, q_285_169]
        simp (disch := omega) only [cond_true, cond_false, Bool.and_true, Bool.true_and, Bool.and_false, Bool.false_and, Int.toNat_natCast, Int.reduceToNat, bI_s, bJ_s, bV_s, bR_s, decide_true, decide_false, not_true_eq_false, not_false_eq_true, dT, dF, w_al, w_la, w_ab, w_sl, w_sb, w_dec, w_ml, w_lm, ol2i_n, aup_ne, aupE, aupJ, setc_self, setc_ne, k256, q4]
