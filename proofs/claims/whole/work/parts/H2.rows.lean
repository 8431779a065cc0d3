/-! The reference reads: row after row. -/
theorem rRows (xs : List Int) (d : Nat) {κ : aK} {D : Nat → Nat → Int} {v u : Nat} (hκ : Shp κ) (hpD : PtrR D) {T : Nat → TK} (hT : TKok T) (hk : TkR D T) (hsd : RsD D v u) (v1 : Int) : ∀ (m a : Nat) (c : Nat → Nat) (w : SS) (Y : PY) (E : Nat → Nat → Int), 401 ≤ a + m → RpS D E v T (a, 0) w → RvC E u c → CnB c → wbf T w a → LB E u a → YCn c Y → (w.1 = 0 → YOk Y ∧ RvY E u Y) → ∃ E', ev xs (d + 7) mm_204 206 [some (.inr (.inr 256)), some (.inl v1)] [] (κ, E) = ev xs (d + 7) mm_204 228 [some (.inr (.inr 256)), some (.inl v1)] [] (κ, E') ∧ ∃ w' : SS, RpS D E' v T (rcG T m c a) w' ∧ ((rcG T m c a).2 = 0 → w' = (mlG T m c a Y w).2 ∧ (w'.1 = 0 → RvY E' u (mlG T m c a Y w).1)) := by
  intro m
  induction m with
  | zero =>
    intro a c w Y E hm h
    have : a ≤ 400 := (h.2.2.2.2 rfl).2.1
    omega
  | succ m ih =>
    intro a c w Y E hm h hc hx hb hL hY hR
    have k256 := k_256 hκ
    have h13 : E 256 13 = 0 := h.2.1
    have ei := r_is xs (d + 6) hκ hpD hT hk h (k := 0) (by decide) (kk := 0) rfl
    by_cases hz : tkK (T a) = 0
    · have em : mlG T (m + 1) c a Y w = (Y, w) := if_pos hz
      have er : rcG T (m + 1) c a = (a, 0) := if_pos hz
      rw [if_pos ⟨rfl, hz⟩] at ei
      rw [em, er]
      refine ⟨E, ?_, w, h, fun _ => ⟨rfl, fun q => (hR q).2⟩⟩
      rw [q_204_206]
      simp (disch := omega) only [cond_true, cond_false, Bool.and_true, Bool.true_and, Bool.and_false, Bool.false_and, Int.toNat_natCast, Int.reduceToNat, bI_s, bJ_s, bV_s, bR_s, decide_true, decide_false, not_true_eq_false, not_false_eq_true, dT, dF, w_al, w_la, w_ab, w_sl, w_sb, w_dec, w_ml, w_lm, ol2i_n, aup_ne, aupE, aupJ, setc_self, setc_ne, k256, h13, ei]
    · have em : mlG T (m + 1) c a Y w = mlG T m (cnU c (tkK (T a))) (rtG T c a).1 (mtG T a Y w).1 (mtG T a Y w).2 := if_neg hz
      rw [if_neg (fun q => hz q.2)] at ei
      obtain ⟨E1, a1, w1, a2, a3⟩ := rTell xs d hκ hpD hT hk h hsd hc hb hx hL
      have st : ev xs (d + 7) mm_204 206 [some (.inr (.inr 256)), some (.inl v1)] [] (κ, E) = ev xs (d + 7) mm_204 206 [some (.inr (.inr 256)), some (.inl v1)] [] (κ, E1) := by
        rw [q_204_206]
        simp (disch := omega) only [cond_true, cond_false, Bool.and_true, Bool.true_and, Bool.and_false, Bool.false_and, Int.toNat_natCast, Int.reduceToNat, bI_s, bJ_s, bV_s, bR_s, decide_true, decide_false, not_true_eq_false, not_false_eq_true, dT, dF, w_al, w_la, w_ab, w_sl, w_sb, w_dec, w_ml, w_lm, ol2i_n, aup_ne, aupE, aupJ, setc_self, setc_ne, k256, h13, ei, a1]
      by_cases hf : (rtG T c a).2 = 0
      · have er : rcG T (m + 1) c a = rcG T m (cnU c (tkK (T a))) (rtG T c a).1 := (if_neg hz).trans (if_pos hf)
        obtain ⟨b1, b2, b3, b4, b5⟩ := a3 hf
        have gt := rtG_gt hf
        have es : rtG T c a = ((rtG T c a).1, 0) := Prod.ext rfl hf
        have a2' : RpS D E1 v T ((rtG T c a).1, 0) w1 := by rw [← es]; exact a2
        have ew : w1 = (mtG T a Y w).2 := by
          by_cases hw : w.1 = 0
          · exact (b5 Y hw hY (hR hw).1 (hR hw).2).1
          · have := mlG_k (T := T) 1 c a Y w hw
            have e1 : mlG T 1 c a Y w = ((mtG T a Y w).1, (mtG T a Y w).2) := if_neg hz
            rw [e1] at this
            exact (b4 hw).trans this.symm
        have hR1 : w1.1 = 0 → YOk (mtG T a Y w).1 ∧ RvY E1 u (mtG T a Y w).1 := fun q => by
          by_cases hw : w.1 = 0
          · exact ⟨yok_mt hT (hR hw).1 hY hf (by rw [← ew]; exact q), (b5 Y hw hY (hR hw).1 (hR hw).2).2 q⟩
          · rw [b4 hw] at q
            exact absurd q hw
        obtain ⟨E', i1, w', i2, i3⟩ := ih (rtG T c a).1 (cnU c (tkK (T a))) w1 (mtG T a Y w).1 E1 (by omega) a2' b2 (hx.up hf) b1 (b3 hL) (ycn_mt hY hf) hR1
        rw [em, er, ← ew]
        exact ⟨E', st.trans i1, w', i2, i3⟩
      · have er : rcG T (m + 1) c a = rtG T c a := (if_neg hz).trans (if_neg hf)
        have h13b := a2.2.1
        rw [er]
        refine ⟨E1, ?_, w1, a2, fun q => absurd q hf⟩
        rw [st, q_204_206]
        simp (disch := omega) only [cond_true, cond_false, Bool.and_true, Bool.true_and, Bool.and_false, Bool.false_and, Int.toNat_natCast, Int.reduceToNat, bI_s, bJ_s, bV_s, bR_s, decide_true, decide_false, not_true_eq_false, not_false_eq_true, dT, dF, w_al, w_la, w_ab, w_sl, w_sb, w_dec, w_ml, w_lm, ol2i_n, aup_ne, aupE, aupJ, setc_self, setc_ne, k256, h13b]
