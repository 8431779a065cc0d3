/-! The reference reads: one row of any kind. -/
theorem rWordT (xs : List Int) (d : Nat) {κ : aK} {D E : Nat → Nat → Int} {v u : Nat} (hκ : Shp κ) (hpD : PtrR D) {T : Nat → TK} (hT : TKok T) (hk : TkR D T) {a : Nat} {w : SS} (h : RpS D E v T (a, 0) w) (hs : RsD D v u) {c : Nat → Nat} (hc : RvC E u c) (hb : wbf T w a) (hK : tkK (T a) = 137) (u1 : Option aV) : ∃ E', ev xs (d + 3) mm_208 142 [some (.inr (.inr 256)), u1] [] (κ, E) = some (none, (κ, E')) ∧ RTc D E E' v u T c a w := by
  obtain ⟨E', a1, a2, a3⟩ := rWord xs d hκ hpD hT hk h hs hc hK u1
  refine ⟨E', a1, w, a2, fun hf => ?_⟩
  obtain ⟨b1, ⟨b2, b3, b4⟩, b5⟩ := a3 hf
  have gt := rtG_gt hf
  refine ⟨wbf_le hT hb (rt_live (h.2.2.2.2 rfl).2.2.1 hf) (Nat.le_of_lt gt), by rw [hK]; exact b1, fun lb => lb.same (Nat.le_of_lt gt) b2 b3 b4, fun _ => rfl, fun Y _ hY _ hR => ?_⟩
  rw [mt137 hK]
  exact ⟨rfl, fun _ => b5 Y hY hR⟩
/-- no list is longer than it may be -/
def CnB (c : Nat → Nat) : Prop := c 0 ≤ 6 ∧ c 1 ≤ 7 ∧ (∀ s, s < 3 → c (6 + s) ≤ mostO s) ∧ c 10 ≤ 8 ∧ c 11 ≤ 5
theorem cnU_yes {c : Nat → Nat} {k j : Nat} (h : j + 128 = k) : cnU c k j = c j + 1 := if_pos h
theorem cnU_no {c : Nat → Nat} {k j : Nat} (h : ¬ j + 128 = k) : cnU c k j = c j := if_neg h
theorem fst_lt {T : Nat → TK} {k has most a : Nat} {G : SS → SS} (hG : ∀ s : SS, ¬ s.2 = 0 → G s = s) (h : (G (fstG T k has most (a, 0))).2 = 0) : has < most := by
  by_cases hz : (fstG T k has most (a, 0)).2 = 0
  · exact (fst_ok hz).1
  · rw [hG _ hz] at h
    exact absurd h hz
theorem CnB.up {T : Nat → TK} {c : Nat → Nat} {a : Nat} (h : CnB c) (hr : (rtG T c a).2 = 0) : CnB (cnU c (tkK (T a))) := by
  obtain ⟨h0, h1, h6, h10, h11⟩ := h
  have k0 : tkK (T a) = 128 → c 0 < 6 := fun q => by
    unfold rtG at hr
    rw [if_pos q] at hr
    exact fst_lt (G := fun s => mu T 59 (mu T 2 (mu T 2 s))) (fun s z => by show mu T 59 (mu T 2 (mu T 2 s)) = s; rw [mu_f z, mu_f z, mu_f z]) hr
  have k1 : tkK (T a) = 129 → c 1 < 7 := fun q => by
    unfold rtG at hr
    rw [if_neg (by omega), if_pos q] at hr
    exact fst_lt (G := fun s => mu T 59 (stnG T s)) (fun s z => by show mu T 59 (stnG T s) = s; rw [stnG_f z, mu_f z]) hr
  have k6 : tkK (T a) = 134 → c 6 < 8 := fun q => by
    unfold rtG at hr
    rw [if_neg (by omega), if_neg (by omega), if_pos q] at hr
    exact fst_lt (G := fun s => mu T 59 (mu T 3 (mu T 2 s))) (fun s z => by show mu T 59 (mu T 3 (mu T 2 s)) = s; rw [mu_f z, mu_f z, mu_f z]) hr
  have k7 : tkK (T a) = 135 → c 7 < 6 := fun q => by
    unfold rtG at hr
    rw [if_neg (by omega), if_neg (by omega), if_neg (by omega), if_pos q] at hr
    exact fst_lt (G := fun s => mu T 59 (mu T 3 (mu T 2 s))) (fun s z => by show mu T 59 (mu T 3 (mu T 2 s)) = s; rw [mu_f z, mu_f z, mu_f z]) hr
  have k8 : tkK (T a) = 136 → c 8 < 4 := fun q => by
    unfold rtG at hr
    rw [if_neg (by omega), if_neg (by omega), if_neg (by omega), if_neg (by omega), if_pos q] at hr
    exact fst_lt (G := fun s => mu T 59 (mu T 3 (mu T 2 s))) (fun s z => by show mu T 59 (mu T 3 (mu T 2 s)) = s; rw [mu_f z, mu_f z, mu_f z]) hr
  have k10 : tkK (T a) = 138 → c 10 < 8 := fun q => by
    unfold rtG at hr
    rw [if_neg (by omega), if_neg (by omega), if_neg (by omega), if_neg (by omega), if_neg (by omega), if_neg (by omega), if_pos q] at hr
    exact fst_lt (G := fun s => mu T 59 (opt2 T (mu T 2 (mu T 2 s)))) (fun s z => by show mu T 59 (opt2 T (mu T 2 (mu T 2 s))) = s; rw [mu_f z, mu_f z, opt2_f z, mu_f z]) hr
  have k11 : tkK (T a) = 139 → c 11 < 5 := fun q => by
    unfold rtG at hr
    rw [if_neg (by omega), if_neg (by omega), if_neg (by omega), if_neg (by omega), if_neg (by omega), if_neg (by omega), if_neg (by omega), if_pos q] at hr
    exact fst_lt (G := fun s => mu T 59 (wntG T 4 (mu T 3 s))) (fun s z => by show mu T 59 (wntG T 4 (mu T 3 s)) = s; rw [mu_f z, wntG_f z, mu_f z]) hr
  have go : ∀ j m, c j ≤ m → (tkK (T a) = j + 128 → c j < m) → cnU c (tkK (T a)) j ≤ m := fun j m a1 a2 => by
    by_cases e : j + 128 = tkK (T a)
    · rw [cnU_yes e]; exact a2 e.symm
    · rw [cnU_no e]; exact a1
  refine ⟨go 0 6 h0 k0, go 1 7 h1 k1, fun s hs => ?_, go 10 8 h10 k10, go 11 5 h11 k11⟩
  have hs' : s = 0 ∨ s = 1 ∨ s = 2 := by omega
  rcases hs' with e | e | e
  · subst e; exact go 6 8 (h6 0 (by decide)) k6
  · subst e; exact go 7 6 (h6 1 (by decide)) k7
  · subst e; exact go 8 4 (h6 2 (by decide)) k8
set_option maxRecDepth 100000 in
theorem asP_d : ∀ k ∈ kvL, ¬ (k = 128 ∨ k = 129 ∨ k = 137 ∨ k = 138 ∨ k = 139 ∨ k = 140 ∨ k = 141) → asw 9 312 20 34 #[75, 104, 312, 312, 312, 312, 312, 312, 312, 312, 133, 215, 244, 272, 283] ((rho k : Nat) : Int) = 321 := by decide +kernel
set_option maxRecDepth 100000 in
theorem rho_p : ∀ k ∈ kvL, ¬ (k = 134 ∨ k = 135 ∨ k = 136) → rho k < 27 ∨ 29 < rho k := by decide +kernel
theorem rTell (xs : List Int) (d : Nat) {κ : aK} {D E : Nat → Nat → Int} {v u : Nat} (hκ : Shp κ) (hpD : PtrR D) {T : Nat → TK} (hT : TKok T) (hk : TkR D T) {a : Nat} {w : SS} (h : RpS D E v T (a, 0) w) (hs : RsD D v u) {c : Nat → Nat} (hc : RvC E u c) (hb : wbf T w a) (hx : CnB c) (hL : LB E u a) : ∃ E', cl xs (d + 7) 208 [.inr (.inr 256)] (κ, E) = some (none, (κ, E')) ∧ RTc D E E' v u T c a w := by
  have k256 := k_256 hκ
  have hp := h.1.ptr hpD
  have htk := h.1.tk hk
  obtain ⟨g1, g2, g3, g4, g5⟩ := h.2.2.2.2 rfl
  have g1 : E 256 11 = (a : Int) := g1
  have g2 : a ≤ 400 := g2
  have e := (htk a g2 g3).1
  have hmem := hT.1 a
  have hlt := (rho_lt _ hmem).1
  obtain ⟨x0, x1, x6, x10, x11⟩ := hx
  have st : cl xs (d + 7) 208 [.inr (.inr 256)] (κ, E) = ev xs (d + 6) mm_208 (asw 9 312 20 34 #[75, 104, 312, 312, 312, 312, 312, 312, 312, 312, 133, 215, 244, 272, 283] ((rho (tkK (T a)) : Nat) : Int)) [some (.inr (.inr 256)), none] [] (κ, E) := by
    rw [c_208]
    simp (disch := omega) only [cond_true, cond_false, Bool.and_true, Bool.true_and, Bool.and_false, Bool.false_and, Int.toNat_natCast, Int.reduceToNat, bI_s, bJ_s, bV_s, bR_s, decide_true, decide_false, not_true_eq_false, not_false_eq_true, dT, dF, w_al, w_la, w_ab, w_sl, w_sb, w_dec, w_ml, w_lm, ol2i_n, aup_ne, aupE, aupJ, setc_self, setc_ne, k256, pr_5 hp, g1, n_259 hκ, e]
  rw [st]
  by_cases q1 : tkK (T a) = 128
  · rw [q1, show asw 9 312 20 34 #[75, 104, 312, 312, 312, 312, 312, 312, 312, 312, 133, 215, 244, 272, 283] ((rho 128 : Nat) : Int) = 84 from by decide]
    exact rClass xs (d + 1) hκ hpD hT hk h hs hc hb x0 q1 none
  by_cases q2 : tkK (T a) = 129
  · rw [q2, show asw 9 312 20 34 #[75, 104, 312, 312, 312, 312, 312, 312, 312, 312, 133, 215, 244, 272, 283] ((rho 129 : Nat) : Int) = 113 from by decide]
    exact rStone xs d hκ hpD hT hk h hs hc hb x0 x1 q2 none
  by_cases q3 : tkK (T a) = 137
  · rw [q3, show asw 9 312 20 34 #[75, 104, 312, 312, 312, 312, 312, 312, 312, 312, 133, 215, 244, 272, 283] ((rho 137 : Nat) : Int) = 142 from by decide]
    exact rWordT xs (d + 3) hκ hpD hT hk h hs hc hb q3 none
  by_cases q4 : tkK (T a) = 138
  · rw [q4, show asw 9 312 20 34 #[75, 104, 312, 312, 312, 312, 312, 312, 312, 312, 133, 215, 244, 272, 283] ((rho 138 : Nat) : Int) = 224 from by decide]
    exact rPair xs (d + 2) hκ hpD hT hk h hs hc hb x10 q4 none
  by_cases q5 : tkK (T a) = 139
  · rw [q5, show asw 9 312 20 34 #[75, 104, 312, 312, 312, 312, 312, 312, 312, 312, 133, 215, 244, 272, 283] ((rho 139 : Nat) : Int) = 253 from by decide]
    exact rLand xs (d + 1) hκ hpD hT hk h hs hc hb x11 (fun s hs3 => Nat.le_trans (x6 s hs3) (by unfold mostO; split <;> (try split) <;> decide)) q5 none
  by_cases q6 : tkK (T a) = 140
  · rw [q6, show asw 9 312 20 34 #[75, 104, 312, 312, 312, 312, 312, 312, 312, 312, 133, 215, 244, 272, 283] ((rho 140 : Nat) : Int) = 281 from by decide]
    exact rLaw xs d hκ hpD hT hk h hs hc hb hL q6 none
  by_cases q7 : tkK (T a) = 141
  · rw [q7, show asw 9 312 20 34 #[75, 104, 312, 312, 312, 312, 312, 312, 312, 312, 133, 215, 244, 272, 283] ((rho 141 : Nat) : Int) = 292 from by decide]
    exact rSeed xs (d + 2) hκ hpD hT hk h hs hc hb q7 none
  rw [asP_d _ hmem (by omega)]
  by_cases q8 : tkK (T a) = 134 ∨ tkK (T a) = 135 ∨ tkK (T a) = 136
  · exact rPiece xs (d + 1) hκ hpD hT hk h hs hc hb (s := tkK (T a) - 134) (by omega) (x6 _ (by omega)) (by omega) none
  · have hr := rho_p _ hmem q8
    have er : rtG T c a = (a, 1) := by
      unfold rtG
      rw [if_neg q1, if_neg q2, if_neg (by omega), if_neg (by omega), if_neg (by omega), if_neg q3, if_neg q4, if_neg q5, if_neg q6, if_neg q7]
    obtain ⟨E1, a1, a2, a3⟩ := r_fail xs (d + 5) hκ hpD hT hk h (k := 1) (by decide) (kk := 1) rfl
    have a2 : RpS D E1 v T (a, 1) w := a2
    have h13 : E1 256 13 = 1 := a2.2.1
    rw [← er] at a2
    refine ⟨E1, ?_, w, a2, fun z => absurd z (by rw [er]; exact (by decide : ¬ (1 : Nat) = 0))⟩
    have fin : ∀ x : Int, ev xs (d + 6) mm_208 352 [some (.inr (.inr 256)), some (.inl x)] [] (κ, E) = some (none, (κ, E1)) := fun x => by
      rw [q_208_352]
      simp (disch := omega) only [cond_true, cond_false, Bool.and_true, Bool.true_and, Bool.and_false, Bool.false_and, Int.toNat_natCast, Int.reduceToNat, bI_s, bJ_s, bV_s, bR_s, decide_true, decide_false, not_true_eq_false, not_false_eq_true, dT, dF, w_al, w_la, w_ab, w_sl, w_sb, w_dec, w_ml, w_lm, ol2i_n, aup_ne, aupE, aupJ, setc_self, setc_ne, k256, a1]
      rw [q_208_357]
      simp (disch := omega) only [cond_true, cond_false, Bool.and_true, Bool.true_and, Bool.and_false, Bool.false_and, Int.toNat_natCast, Int.reduceToNat, bI_s, bJ_s, bV_s, bR_s, decide_true, decide_false, not_true_eq_false, not_false_eq_true, dT, dF, w_al, w_la, w_ab, w_sl, w_sb, w_dec, w_ml, w_lm, ol2i_n, aup_ne, aupE, aupJ, setc_self, setc_ne, k256, h13]
    have ew : w32 (((rho (tkK (T a)) : Nat) : Int) - 27) = ((rho (tkK (T a)) : Nat) : Int) - 27 := w32_id (by omega) (by omega)
    rw [q_208_321]
    rcases hr with hr | hr
    · have c1 : ((rho (tkK (T a)) : Nat) : Int) - 27 < 0 := by omega
      simp (disch := omega) only [cond_true, cond_false, Bool.and_true, Bool.true_and, Bool.and_false, Bool.false_and, Int.toNat_natCast, Int.reduceToNat, bI_s, bJ_s, bV_s, bR_s, decide_true, decide_false, not_true_eq_false, not_false_eq_true, dT, dF, w_al, w_la, w_ab, w_sl, w_sb, w_dec, w_ml, w_lm, ol2i_n, aup_ne, aupE, aupJ, setc_self, setc_ne, k256, pr_5 hp, g1, n_259 hκ, e, ew, c1, fin]
    · have c1 : ¬ ((rho (tkK (T a)) : Nat) : Int) - 27 < 0 := by omega
      have c2 : ¬ ((rho (tkK (T a)) : Nat) : Int) ≤ 29 := by omega
      simp (disch := omega) only [cond_true, cond_false, Bool.and_true, Bool.true_and, Bool.and_false, Bool.false_and, Int.toNat_natCast, Int.reduceToNat, bI_s, bJ_s, bV_s, bR_s, decide_true, decide_false, not_true_eq_false, not_false_eq_true, dT, dF, w_al, w_la, w_ab, w_sl, w_sb, w_dec, w_ml, w_lm, ol2i_n, aup_ne, aupE, aupJ, setc_self, setc_ne, k256, pr_5 hp, g1, n_259 hκ, e, ew, c1, c2, fin]
