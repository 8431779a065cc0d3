/-! Made: the reference. -/
def MdL (f g : Nat → Int) (M : List ENT) : Prop := ∀ j, j < M.length → f j = (p27 (eA M j).1 : Int) ∧ g j = ((eA M j).2 : Int)
theorem eA_snoc (M : List ENT) (e : ENT) (j : Nat) : eA (M ++ [e]) j = if j < M.length then eA M j else if j = M.length then e else ([], 0) := by
  unfold eA
  rw [List.getD_eq_getElem?_getD, List.getD_eq_getElem?_getD]
  by_cases h : j < M.length
  · rw [if_pos h, List.getElem?_append_left h]
  · rw [if_neg h, List.getElem?_append_right (by omega)]
    by_cases h2 : j = M.length
    · rw [if_pos h2, h2, Nat.sub_self]; rfl
    · rw [if_neg h2]
      cases hj : j - M.length with
      | zero => omega
      | succ k => rfl
theorem MdL_snoc {f g : Nat → Int} {M : List ENT} (h : MdL f g M) (e : ENT) : MdL (fun j => if j = M.length then (p27 e.1 : Int) else f j) (fun j => if j = M.length then (e.2 : Int) else g j) (M ++ [e]) := by
  intro j hj
  rw [List.length_append, List.length_singleton] at hj
  rw [eA_snoc]
  show (if j = M.length then _ else _) = _ ∧ (if j = M.length then _ else _) = _
  by_cases h1 : j = M.length
  · rw [if_pos h1, if_pos h1, if_neg (by omega), if_pos h1]
    exact ⟨rfl, rfl⟩
  · rw [if_pos (show j < M.length by omega), if_neg h1, if_neg h1]
    exact h j (by omega)
theorem setc_swap {D : Nat → Nat → Int} {a b : Nat} {f g : Nat → Int} (h : a ≠ b) : setc (setc D a f) b g = setc (setc D b g) a f := by
  funext q
  by_cases ha : q = a
  · subst ha
    rw [setc_ne h, setc_self, setc_self]
  · by_cases hb : q = b
    · subst hb
      rw [setc_self, setc_ne ha, setc_self]
    · rw [setc_ne hb, setc_ne ha, setc_ne ha, setc_ne hb]
theorem s256_305 {D : Nat → Nat → Int} {f g : Nat → Int} {y : WY} {k : Nat} {x : Int} : aup (wyS (setc (setc D 305 f) 306 g) y) 305 k x = wyS (setc (setc D 305 (fun j => if j = k then x else f j)) 306 g) y := by
  unfold wyS
  rw [wy_aup (by decide), setc_swap (by decide), aup_setc, setc_swap (by decide)]
theorem s256_306 {D : Nat → Nat → Int} {f g : Nat → Int} {y : WY} {k : Nat} {x : Int} : aup (wyS (setc (setc D 305 f) 306 g) y) 306 k x = wyS (setc (setc D 305 f) 306 (fun j => if j = k then x else g j)) y := by
  unfold wyS
  rw [wy_aup (by decide), aup_setc]
theorem RI_305 {D : Nat → Nat → Int} {v : Nat} {X : TX} (hR : RI D v X) (f g : Nat → Int) : RI (setc (setc D 305 f) 306 g) v X := hR.same ⟨fun q h1 h2 => by
    have h2' : q ≠ 305 ∧ q ≠ 306 := ⟨fun e => h2 (by rw [e]; decide), fun e => h2 (by rw [e]; decide)⟩
    rw [setc_ne h2'.2, setc_ne h2'.1], fun j _ => by rw [setc_ne (by decide), setc_ne (by decide)], by rw [setc_ne (by decide), setc_ne (by decide)]; exact hR.2.2.2.1⟩
theorem rm_step (xs : List Int) (d : Nat) {κ : aK} {D : Nat → Nat → Int} (hκ : Shp κ) {v : Nat} {X : TX} (hX : TXok X) (hR : RI D v X) {n : Nat} (hn : n ≤ 12) (what : Int) (u4 u5 u6 u7 u8 u9 u10 : Option aV) : ∀ (L : List WY) (y : WY) (M : List ENT) (f g : Nat → Int), wvd X y → WL X y L → M.length + L.length ≤ 1720 → MdL f g M → ∃ (f' g' : Nat → Int) (a b c z : Int), MdL f' g' (M ++ mML X n L) ∧ ev xs (d + 3) mm_277 27 [some (.inr (.inr 256)), some (.inl (n : Int)), some (.inl what), some (.inl (M.length : Int)), u4, u5, u6, u7, u8, u9, u10] [] (κ, wyS (setc (setc D 305 f) 306 g) y) = ev xs (d + 3) mm_277 84 [some (.inr (.inr 256)), some (.inl (n : Int)), some (.inl what), some (.inl ((M ++ mML X n L).length : Int)), some (.inl 0), some (.inl 0), some (.inl (-2)), some (.inl 0), u8, u9, u10] [] (κ, wyD (setc (setc D 305 f') 306 g') a b c z) := by
  have hk := k_256 hκ
  have hp := hR.1
  intro L
  induction L with
  | nil =>
    intro y M f g hy hL hl hM
    obtain ⟨a, b, c, z, e⟩ := next_none xs (d + 2) hκ hX (RI_305 hR f g) hy hL
    refine ⟨f, g, a, b, c, z, ?_, ?_⟩
    · show MdL f g (M ++ []); rw [List.append_nil]; exact hM
    · rw [show M ++ mML X n [] = M from List.append_nil M, q_277_27]
      simp (disch := omega) only [cond_true, cond_false, Bool.and_true, Bool.true_and, Bool.and_false, Bool.false_and, Int.toNat_natCast, Int.reduceToNat, bI_s, bJ_s, bV_s, bR_s, decide_true, decide_false, not_true_eq_false, not_false_eq_true, dT, dF, w_al, w_la, w_ab, w_sl, w_sb, w_dec, w_ml, w_lm, ol2i_n, aup_ne, aupE, aupJ, setc_self, setc_ne, hk, e]
  | cons y' L ih =>
    intro y M f g hy hL hl hM
    rw [List.length_cons] at hl
    have hy' := nxt_wvd hy hL.1
    have e := next_some xs (d + 2) hκ hX (RI_305 hR f g) hy hL.1
    have el := wayLong_eq xs (d + 1) hκ hX (RI_305 hR f g) hy'
    by_cases h : (nmW X y').length = n
    · rw [mML_pos h]
      obtain ⟨f', g', a, b, c, z, q1, q2⟩ := ih y' (M ++ [(nmW X y', cdW y')]) _ _ hy' hL.2 (by rw [List.length_append, List.length_singleton]; omega) (MdL_snoc hM (nmW X y', cdW y'))
      rw [List.append_assoc, List.singleton_append] at q1 q2
      refine ⟨f', g', a, b, c, z, q1, ?_⟩
      have en := wayName_eq xs d hκ hX (RI_305 hR f g) hy' (by omega)
      have ec := wayCode_eq xs (d + 2) hκ hX (RI_305 hR (fun j => if j = M.length then (p27 (nmW X y') : Int) else f j) g) hy'
      rw [List.length_append, List.length_singleton] at q2
      rw [q_277_27]
      have p72 : ∀ f g, wyS (setc (setc D 305 f) 306 g) y' 256 72 = 305 := fun f g => by
        unfold wyS; rw [wy_o (by omega), setc_ne (by decide), setc_ne (by decide)]; exact pr_72 hp
      have p73 : ∀ f g, wyS (setc (setc D 305 f) 306 g) y' 256 73 = 306 := fun f g => by
        unfold wyS; rw [wy_o (by omega), setc_ne (by decide), setc_ne (by decide)]; exact pr_73 hp
      simp (disch := omega) only [cond_true, cond_false, Bool.and_true, Bool.true_and, Bool.and_false, Bool.false_and, Int.toNat_natCast, Int.reduceToNat, bI_s, bJ_s, bV_s, bR_s, decide_true, decide_false, not_true_eq_false, not_false_eq_true, dT, dF, w_al, w_la, w_ab, w_sl, w_sb, w_dec, w_ml, w_lm, ol2i_n, aup_ne, aupE, aupJ, setc_self, setc_ne, hk, e, el, h, en, p72, n_305 hκ, s256_305, ec, p73, n_306 hκ, s256_306]
      exact q2
    · rw [mML_neg h]
      obtain ⟨f', g', a, b, c, z, q1, q2⟩ := ih y' M f g hy' hL.2 (by omega) hM
      refine ⟨f', g', a, b, c, z, q1, ?_⟩
      rw [q_277_27]
      simp (disch := omega) only [cond_true, cond_false, Bool.and_true, Bool.true_and, Bool.and_false, Bool.false_and, Int.toNat_natCast, Int.reduceToNat, bI_s, bJ_s, bV_s, bR_s, decide_true, decide_false, not_true_eq_false, not_false_eq_true, dT, dF, w_al, w_la, w_ab, w_sl, w_sb, w_dec, w_ml, w_lm, ol2i_n, aup_ne, aupE, aupJ, setc_self, setc_ne, hk, e, el, q2]
