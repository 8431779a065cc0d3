/-! The reference reads: lands. -/
/-- pieces, as the reference keeps them on a side -/
def PcR (E : Nat → Nat → Int) (u : Nat) (c : Nat → Nat) (X : TX) : Prop := ∀ s, s < 3 → c (6 + s) = xnp X s ∧ ∀ k, k < c (6 + s) → E 275 (24 * u + 8 * s + k) = (p27 (xPN X (8 * s + k)) : Int)
def PcN (E : Nat → Nat → Int) (u : Nat) (c : Nat → Nat) : Prop := ∀ s, s < 3 → E 274 (3 * u + s) = (c (6 + s) : Int) ∧ c (6 + s) ≤ 8
/-- the piece of that name: ROOTS first -/
theorem rl_piece (xs : List Int) (d : Nat) {κ : aK} {E : Nat → Nat → Int} {u : Nat} (hκ : Shp κ) (hp : PtrR E) (hu : u < 2) (e19 : E 256 19 = (u : Int)) {c : Nat → Nat} (hc : PcN E u c) {b : Nat} (hb : b ≤ 400) {l : List Nat} (hN : E 262 b = (p27 l : Int)) (v1 v2 : Int) : ∃ pc : Int, -1 ≤ pc ∧ pc < 24 ∧ (∀ X, TXok X → wok l → PcR E u c X → pc = oI (pAll X l)) ∧ ev xs (d + 1) mm_218 77 [some (.inr (.inr 256)), some (.inl v1), some (.inl v2), some (.inl (b : Int)), some (.inl (-1)), some (.inl 2)] [] (κ, E) = ev xs (d + 1) mm_218 77 [some (.inr (.inr 256)), some (.inl v1), some (.inl v2), some (.inl (b : Int)), some (.inl pc), some (.inl (-1))] [] (κ, E) := by
  have k256 := k_256 hκ
  obtain ⟨x0, a1, a2, a3, a4⟩ := pieceAt_eq xs d hκ hp hu e19 (s := 0) (by decide) (n := c (6 + 0)) (hc 0 (by decide)).2 (hc 0 (by decide)).1 (p27 l : Int)
  obtain ⟨x1, b1, b2, b3, b4⟩ := pieceAt_eq xs d hκ hp hu e19 (s := 1) (by decide) (n := c (6 + 1)) (hc 1 (by decide)).2 (hc 1 (by decide)).1 (p27 l : Int)
  obtain ⟨x2, c1, c2, c3, c4⟩ := pieceAt_eq xs d hκ hp hu e19 (s := 2) (by decide) (n := c (6 + 2)) (hc 2 (by decide)).2 (hc 2 (by decide)).1 (p27 l : Int)
  have p8 := pr_8 hp
  have st : ∀ (pc : Int) (s : Nat) (x : Int), s < 3 → -1 ≤ x → x < 8 → cl xs (d + 1) 215 [.inr (.inr 256), .inl (s : Int), .inr (.inl (p27 l : Int))] (κ, E) = some (some (.inl x), (κ, E)) → ev xs (d + 1) mm_218 77 [some (.inr (.inr 256)), some (.inl v1), some (.inl v2), some (.inl (b : Int)), some (.inl pc), some (.inl (s : Int))] [] (κ, E) = ev xs (d + 1) mm_218 77 [some (.inr (.inr 256)), some (.inl v1), some (.inl v2), some (.inl (b : Int)), some (.inl (if x < 0 then pc else 8 * (s : Int) + x)), some (.inl ((s : Int) - 1))] [] (κ, E) := fun pc s x hs h1 h2 e => by
    have ew : w32 ((s : Int) + (-1)) = (s : Int) - 1 := by rw [w32_id (by omega) (by omega)]; omega
    have ew2 : w32 (((8 * s : Nat) : Int) + x) = 8 * (s : Int) + x := by rw [w32_id (by omega) (by omega)]; omega
    rw [q_218_77]
    by_cases hx : x < 0
    · rw [if_pos hx]
      simp (disch := omega) only [k256, p8, n_262 hκ, hN, e, ew, cond_true, cond_false, Bool.and_true, Bool.true_and, Bool.and_false, Bool.false_and, Int.toNat_natCast, Int.reduceToNat, bI_s, bJ_s, bV_s, bR_s, decide_true, decide_false, not_true_eq_false, not_false_eq_true, dT, dF, w_al, w_la, w_ab, w_sl, w_sb, w_dec, w_ml, w_lm, ol2i_n, aup_ne, aupE, aupJ, setc_self, setc_ne]
    · rw [if_neg hx]
      simp (disch := omega) only [k256, p8, n_262 hκ, hN, e, ew, ew2, cond_true, cond_false, Bool.and_true, Bool.true_and, Bool.and_false, Bool.false_and, Int.toNat_natCast, Int.reduceToNat, bI_s, bJ_s, bV_s, bR_s, decide_true, decide_false, not_true_eq_false, not_false_eq_true, dT, dF, w_al, w_la, w_ab, w_sl, w_sb, w_dec, w_ml, w_lm, ol2i_n, aup_ne, aupE, aupJ, setc_self, setc_ne]
  refine ⟨if x0 < 0 then (if x1 < 0 then (if x2 < 0 then -1 else 16 + x2) else 8 + x1) else x0, ?_, ?_, fun X hX hl hP => ?_, ?_⟩
  · (repeat' split) <;> omega
  · (repeat' split) <;> omega
  · have e0 := a4 X l hX hl rfl (hP 0 (by decide)).1 (hP 0 (by decide)).2
    have e1 := b4 X l hX hl rfl (hP 1 (by decide)).1 (hP 1 (by decide)).2
    have e2 := c4 X l hX hl rfl (hP 2 (by decide)).1 (hP 2 (by decide)).2
    unfold pAll
    cases h0 : pfd X 0 l with
    | some k =>
      rw [h0] at e0
      change x0 = (k : Int) at e0
      rw [if_neg (by omega)]
      exact e0
    | none =>
      rw [h0] at e0
      change x0 = -1 at e0
      rw [if_pos (by omega)]
      cases h1 : pfd X 1 l with
      | some k =>
        rw [h1] at e1
        change x1 = (k : Int) at e1
        rw [if_neg (by omega), e1]
        show 8 + (k : Int) = ((8 + k : Nat) : Int)
        omega
      | none =>
        rw [h1] at e1
        change x1 = -1 at e1
        rw [if_pos (by omega)]
        cases h2 : pfd X 2 l with
        | some k =>
          rw [h2] at e2
          change x2 = (k : Int) at e2
          rw [if_neg (by omega), e2]
          show 16 + (k : Int) = ((16 + k : Nat) : Int)
          omega
        | none =>
          rw [h2] at e2
          change x2 = -1 at e2
          rw [if_pos (by omega)]
          rfl
  · refine (st (-1) 2 x2 (by decide) c2 c3 c1).trans ?_
    refine (st _ 1 x1 (by decide) b2 b3 b1).trans ?_
    refine (st _ 0 x0 (by decide) a2 a3 a1).trans ?_
    have e : (if x0 < 0 then (if x1 < 0 then (if x2 < 0 then (-1 : Int) else 8 * ((2 : Nat) : Int) + x2) else 8 * ((1 : Nat) : Int) + x1) else 8 * ((0 : Nat) : Int) + x0) = (if x0 < 0 then (if x1 < 0 then (if x2 < 0 then -1 else 16 + x2) else 8 + x1) else x0) := by
      (repeat' split) <;> omega
    rw [e]
    rfl
/-- told already in this land? -/
theorem rl_twice (xs : List Int) (d : Nat) {κ : aK} {D : Nat → Nat → Int} {v : Nat} (hκ : Shp κ) (hpD : PtrR D) {T : Nat → TK} (hT : TKok T) (hk : TkR D T) {b : Nat} (hb : b ≤ 400) (hlb : live T b) {K n : Nat} (hK : K < 10) (hn : n ≤ 4) {pc : Int} (hpc : 0 ≤ pc) {w0 : SS} (hw0 : wbf T w0 b) : ∀ (m i : Nat) (w : SS) (E : Nat → Nat → Int), i + m = n → (w = w0 ∨ w = wrg w0 3 (tkP (T b))) → RpS D E v T (b, 0) w → ∃ (w' : SS) (E' : Nat → Nat → Int), ev xs (d + 1) mm_218 137 [some (.inr (.inr 256)), some (.inl (K : Int)), some (.inl (n : Int)), some (.inl (b : Int)), some (.inl pc), some (.inl (i : Int))] [] (κ, E) = ev xs (d + 1) mm_218 137 [some (.inr (.inr 256)), some (.inl (K : Int)), some (.inl (n : Int)), some (.inl (b : Int)), some (.inl pc), some (.inl (n : Int))] [] (κ, E') ∧ RpS D E' v T (b, 0) w' ∧ Rq E E' ∧ ((w' = w ∧ ∀ j, i ≤ j → j < n → ¬ E 286 (4 * K + j) = pc) ∨ (w' = wrg w0 3 (tkP (T b)) ∧ ∃ j, i ≤ j ∧ j < n ∧ E 286 (4 * K + j) = pc))
  | 0, i, w, E, hm, hw, h => by
    have e : i = n := by omega
    subst e
    exact ⟨w, E, rfl, h, Rq.rfl', Or.inl ⟨rfl, fun j a b => by omega⟩⟩
  | m + 1, i, w, E, hm, hw, h => by
    have k256 := k_256 hκ
    have hp := h.1.ptr hpD
    have ew : w32 (((4 * K : Nat) : Int) + (i : Int)) = ((4 * K + i : Nat) : Int) := by rw [w32_id (by omega) (by omega)]; omega
    by_cases e : E 286 (4 * K + i) = pc
    · obtain ⟨E1, f1, f2, f3⟩ := r_wrong xs d hκ hpD hT hk h (j := b) hb (fun _ => hlb) (k := 3) (by decide) (kk := 3) (jj := (b : Int)) rfl rfl (fun _ => by
        rcases hw with rfl | rfl
        · exact Or.inl hw0
        · unfold wrg
          split
          · exact Or.inr ⟨rfl, show 3 ≤ 3 by decide⟩
          · exact Or.inl hw0)
      have ew3 : wrg w 3 (tkP (T b)) = wrg w0 3 (tkP (T b)) := by
        rcases hw with rfl | rfl
        · rfl
        · unfold wrg
          by_cases z : w0.1 = 0
          · rw [if_pos z]; rfl
          · rw [if_neg z, if_neg z]
      rw [ew3] at f2
      obtain ⟨w', E', i1, i2, i3, i4⟩ := rl_twice xs d hκ hpD hT hk hb hlb hK hn hpc hw0 m (i + 1) _ E1 (by omega) (Or.inr rfl) f2
      refine ⟨w', E', ?_, i2, f3.trans i3, Or.inr ⟨?_, i, Nat.le_refl _, by omega, e⟩⟩
      · rw [← i1, q_218_137]
        simp (disch := omega) only [k256, pr_42 hp, n_286 hκ, ew, e, f1, cond_true, cond_false, Bool.and_true, Bool.true_and, Bool.and_false, Bool.false_and, Int.toNat_natCast, Int.reduceToNat, bI_s, bJ_s, bV_s, bR_s, decide_true, decide_false, not_true_eq_false, not_false_eq_true, dT, dF, w_al, w_la, w_ab, w_sl, w_sb, w_dec, w_ml, w_lm, ol2i_n, aup_ne, aupE, aupJ, setc_self, setc_ne]
      · rcases i4 with ⟨i4, _⟩ | ⟨i4, _⟩
        · exact i4
        · exact i4
    · obtain ⟨w', E', i1, i2, i3, i4⟩ := rl_twice xs d hκ hpD hT hk hb hlb hK hn hpc hw0 m (i + 1) w E (by omega) hw h
      refine ⟨w', E', ?_, i2, i3, ?_⟩
      · rw [← i1, q_218_137]
        simp (disch := omega) only [k256, pr_42 hp, n_286 hκ, ew, e, cond_true, cond_false, Bool.and_true, Bool.true_and, Bool.and_false, Bool.false_and, Int.toNat_natCast, Int.reduceToNat, bI_s, bJ_s, bV_s, bR_s, decide_true, decide_false, not_true_eq_false, not_false_eq_true, dT, dF, w_al, w_la, w_ab, w_sl, w_sb, w_dec, w_ml, w_lm, ol2i_n, aup_ne, aupE, aupJ, setc_self, setc_ne]
      · rcases i4 with ⟨i4, i5⟩ | ⟨i4, j, i5, i6, i7⟩
        · refine Or.inl ⟨i4, fun j ha hb' => ?_⟩
          by_cases ej : j = i
          · rw [ej]; exact e
          · exact i5 j (by omega) hb'
        · exact Or.inr ⟨i4, j, by omega, i6, i7⟩
/-- the piece of one want, and its faults -/
theorem rl_item (xs : List Int) (d : Nat) {κ : aK} {D E : Nat → Nat → Int} {v u : Nat} (hκ : Shp κ) (hpD : PtrR D) {T : Nat → TK} (hT : TKok T) (hk : TkR D T) {b : Nat} {w : SS} (h : RpS D E v T (b, 0) w) (hs : RsD D v u) {c : Nat → Nat} (hc : PcN E u c) (hb : wbf T w b) (h2 : tkK (T b) = 2) {K n : Nat} (hK : K < 10) (hn : n < 4) (u3 u4 u5 : Option aV) : ∃ (pc : Int) (w1 : SS) (E1 : Nat → Nat → Int), ev xs (d + 2) mm_218 33 [some (.inr (.inr 256)), some (.inl (K : Int)), some (.inl (n : Int)), u3, u4, u5] [] (κ, E) = ev xs (d + 2) mm_218 137 [some (.inr (.inr 256)), some (.inl (K : Int)), some (.inl (n : Int)), some (.inl (b : Int)), some (.inl pc), some (.inl (n : Int))] [] (κ, E1) ∧ RpS D E1 v T (b, 0) w1 ∧ Rq E E1 ∧ (¬ w.1 = 0 → w1 = w) ∧ wbf T w1 (b + 1) ∧ -1 ≤ pc ∧ pc < 24 ∧ ∀ X, TXok X → PcR E u c X → pc = oI (pAll X (tkN (T b))) ∧ (pAll X (tkN (T b)) = none → w1 = wrg w 4 (tkP (T b))) ∧ (¬ pAll X (tkN (T b)) = none → (w1 = w ∧ ∀ j, j < n → ¬ E 286 (4 * K + j) = pc) ∨ (w1 = wrg w 3 (tkP (T b)) ∧ ∃ j, j < n ∧ E 286 (4 * K + j) = pc)) := by
  have k256 := k_256 hκ
  obtain ⟨v1, v2, v3, v4, v5⟩ := hs
  have hp := h.1.ptr hpD
  obtain ⟨g1, g2, g3, _⟩ := h.2.2.2.2 rfl
  have g1 : E 256 11 = (b : Int) := g1
  have g2 : b ≤ 400 := g2
  have g3 : live T b := g3
  have h13 : E 256 13 = 0 := h.2.1
  have e19 : E 256 19 = (u : Int) := by rw [h.1.2.1 19 (by decide)]; exact v2
  have hN := hT.2.2.1 _ h2
  have eN : E 262 b = (p27 (tkN (T b)) : Int) := ((h.1.tk hk) b g2 g3).2.2.2 h2
  have is := r_is xs (d + 1) hκ hpD hT hk h (k := 2) (by decide) (kk := 1) rfl
  rw [if_pos ⟨rfl, h2⟩] at is
  obtain ⟨pc, p1, p2, p3, p4⟩ := rl_piece xs (d + 1) hκ hp v4 e19 hc g2 eN (K : Int) (n : Int)
  have to : ev xs (d + 2) mm_218 33 [some (.inr (.inr 256)), some (.inl (K : Int)), some (.inl (n : Int)), u3, u4, u5] [] (κ, E) = ev xs (d + 2) mm_218 77 [some (.inr (.inr 256)), some (.inl (K : Int)), some (.inl (n : Int)), some (.inl (b : Int)), some (.inl pc), some (.inl (-1))] [] (κ, E) := by
    rw [← p4, q_218_33]
    simp (disch := omega) only [cond_true, cond_false, Bool.and_true, Bool.true_and, Bool.and_false, Bool.false_and, Int.toNat_natCast, Int.reduceToNat, bI_s, bJ_s, bV_s, bR_s, decide_true, decide_false, not_true_eq_false, not_false_eq_true, dT, dF, w_al, w_la, w_ab, w_sl, w_sb, w_dec, w_ml, w_lm, ol2i_n, aup_ne, aupE, aupJ, setc_self, setc_ne, k256, h13, is]
    rw [q_218_58]
    simp (disch := omega) only [cond_true, cond_false, Bool.and_true, Bool.true_and, Bool.and_false, Bool.false_and, Int.toNat_natCast, Int.reduceToNat, bI_s, bJ_s, bV_s, bR_s, decide_true, decide_false, not_true_eq_false, not_false_eq_true, dT, dF, w_al, w_la, w_ab, w_sl, w_sb, w_dec, w_ml, w_lm, ol2i_n, aup_ne, aupE, aupJ, setc_self, setc_ne, k256, h13, g1]
  have hz : ¬ tkK (T b) = 0 := by omega
  by_cases hx : pc < 0
  · obtain ⟨E1, f1, f2, f3⟩ := r_wrong xs (d + 1) hκ hpD hT hk h (j := b) g2 (fun _ => g3) (k := 4) (by decide) (kk := 4) (jj := (b : Int)) rfl rfl (fun _ => Or.inl hb)
    -- no piece: the loop looks at nothing
    have sk : ∀ (m i : Nat), i + m = n → ev xs (d + 2) mm_218 137 [some (.inr (.inr 256)), some (.inl (K : Int)), some (.inl (n : Int)), some (.inl (b : Int)), some (.inl pc), some (.inl (i : Int))] [] (κ, E1) = ev xs (d + 2) mm_218 137 [some (.inr (.inr 256)), some (.inl (K : Int)), some (.inl (n : Int)), some (.inl (b : Int)), some (.inl pc), some (.inl (n : Int))] [] (κ, E1) := fun m => by
      induction m with
      | zero => intro i hi; rw [show i = n by omega]
      | succ m ih =>
        intro i hi
        rw [← ih (i + 1) (by omega), q_218_137]
        simp (disch := omega) only [cond_true, cond_false, Bool.and_true, Bool.true_and, Bool.and_false, Bool.false_and, Int.toNat_natCast, Int.reduceToNat, bI_s, bJ_s, bV_s, bR_s, decide_true, decide_false, not_true_eq_false, not_false_eq_true, dT, dF, w_al, w_la, w_ab, w_sl, w_sb, w_dec, w_ml, w_lm, ol2i_n, aup_ne, aupE, aupJ, setc_self, setc_ne]
    refine ⟨pc, _, E1, ?_, f2, f3, fun z => wrg_k z, wbf_w hT hb hz, p1, p2, fun X hX hP => ?_⟩
    · rw [to, ← sk n 0 (by omega), q_218_77]
      simp (disch := omega) only [cond_true, cond_false, Bool.and_true, Bool.true_and, Bool.and_false, Bool.false_and, Int.toNat_natCast, Int.reduceToNat, bI_s, bJ_s, bV_s, bR_s, decide_true, decide_false, not_true_eq_false, not_false_eq_true, dT, dF, w_al, w_la, w_ab, w_sl, w_sb, w_dec, w_ml, w_lm, ol2i_n, aup_ne, aupE, aupJ, setc_self, setc_ne, k256, f1]
      rfl
    · have e := p3 X hX hN.1 hP
      refine ⟨e, fun _ => rfl, fun z => ?_⟩
      cases q : pAll X (tkN (T b)) with
      | none => exact absurd q z
      | some j =>
        rw [q] at e
        change pc = (j : Int) at e
        omega
  · obtain ⟨w', E1, i1, i2, i3, i4⟩ := rl_twice xs (d + 1) hκ hpD hT hk g2 g3 hK (n := n) (by omega) (pc := pc) (by omega) hb n 0 w E (by omega) (Or.inl rfl) h
    refine ⟨pc, w', E1, ?_, i2, i3, fun z => ?_, ?_, p1, p2, fun X hX hP => ?_⟩
    · rw [to, ← i1, q_218_77]
      simp (disch := omega) only [cond_true, cond_false, Bool.and_true, Bool.true_and, Bool.and_false, Bool.false_and, Int.toNat_natCast, Int.reduceToNat, bI_s, bJ_s, bV_s, bR_s, decide_true, decide_false, not_true_eq_false, not_false_eq_true, dT, dF, w_al, w_la, w_ab, w_sl, w_sb, w_dec, w_ml, w_lm, ol2i_n, aup_ne, aupE, aupJ, setc_self, setc_ne, k256]
      rfl
    · rcases i4 with ⟨e, _⟩ | ⟨e, _⟩
      · exact e
      · rw [e]; exact wrg_k z
    · rcases i4 with ⟨e, _⟩ | ⟨e, _⟩
      · rw [e]; exact wbf_s hT hb hz
      · rw [e]; exact wbf_w hT hb hz
    · have e := p3 X hX hN.1 hP
      refine ⟨e, fun z => ?_, fun _ => ?_⟩
      · rw [z] at e
        change pc = -1 at e
        omega
      · rcases i4 with ⟨e1, e2⟩ | ⟨e1, j, e2, e3, e4⟩
        · exact Or.inl ⟨e1, fun j hj => e2 j (Nat.zero_le _) hj⟩
        · exact Or.inr ⟨e1, j, e3, e4⟩
