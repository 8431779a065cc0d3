/-! The class's Teller: its steps. -/
set_option maxRecDepth 100000 in
theorem pd_t {t : Nat} (ht : isT t) : (ptrd t 0 = false ∧ ptrd t 5 = false ∧ ptrd t 7 = false ∧ ptrd t 11 = false ∧ ptrd t 15 = false) ∧ (ptrd (t + 3) 0 = false ∧ ptrd (t + 18) 1 = false) ∧ (ptrc (t + 1) = false ∧ ptrc (t + 2) = false ∧ ptrc (t + 4) = false ∧ ptrc (t + 5) = false ∧ ptrc (t + 6) = false ∧ ptrc (t + 7) = false) ∧ (ptrc (t + 9) = false ∧ ptrc (t + 10) = false ∧ ptrc (t + 11) = false) ∧ (ptrc (t + 12) = false ∧ ptrc (t + 13) = false ∧ ptrc (t + 14) = false ∧ ptrc (t + 15) = false ∧ ptrc (t + 16) = false ∧ ptrc (t + 17) = false) ∧ (ptrc (t + 20) = false ∧ ptrc (t + 21) = false) := by
  rcases ht with rfl | rfl <;> decide
theorem CPtr.upc {D : Nat → Nat → Int} (h : CPtr D) {r : Nat} (hr : ptrc r = false) (k : Nat) (x : Int) : CPtr (aup D r k x) := by
  rw [aup_as]
  exact h.setc hr _
/-- the teller's place, and its fault -/
def TlS (D E : Nat → Nat → Int) (t a : Nat) (w : SS) : Prop := (∀ q, q ≠ 8 → q < t ∨ t + 21 < q → E q = D q) ∧ CPtr E ∧ E 8 3 = (a : Int) ∧ E 8 0 = (w.1 : Int) ∧ E 8 1 = (if w.1 = 0 then -1 else (w.2 : Int))
theorem TlS.tk {D E : Nat → Nat → Int} {t a : Nat} {w : SS} {T : Nat → TK} (h : TlS D E t a w) (ht : isT t) (hk : TkC D T) : TkC E T := by
  have ht' : t = 9 ∨ t = 31 := ht
  exact hk.congr (by rw [h.1 2 (by decide) (by omega)]) (fun q h1 h2 => h.1 q (by omega) (by omega))
theorem TlS.at_ {D E : Nat → Nat → Int} {t a b : Nat} {w : SS} (h : TlS D E t a w) {x : Int} (hx : x = (b : Int)) : TlS D (aup E 8 3 x) t b w := by
  obtain ⟨h1, h2, h3, h4, h5⟩ := h
  refine ⟨fun q hq hq2 => by rw [aupN hq]; exact h1 q hq hq2, h2.up pd_scan.2.2.2.2.2.2.2.2.2.2 _, by rw [aupE, hx], by rw [aupJ (by decide)]; exact h4, by rw [aupJ (by decide)]; exact h5⟩
theorem TlS.tx {D E E' : Nat → Nat → Int} {t a : Nat} {w : SS} (h : TlS D E t a w) (ht : isT t) (hc : CPtr E') (hf : ∀ q, q < t ∨ t + 21 < q → E' q = E q) : TlS D E' t a w := by
  have ht' : t = 9 ∨ t = 31 := ht
  obtain ⟨h1, h2, h3, h4, h5⟩ := h
  exact ⟨fun q hq hq2 => (hf q hq2).trans (h1 q hq hq2), hc, by rw [hf 8 (by omega)]; exact h3, by rw [hf 8 (by omega)]; exact h4, by rw [hf 8 (by omega)]; exact h5⟩
theorem valueAt_eq (xs : List Int) (d : Nat) {κ : aK} {D : Nat → Nat → Int} (hκ : Shp κ) (hc : CPtr D) {T : Nat → TK} (ht : TkC D T) {a : Nat} (ha : a ≤ 400) {j : Int} (hj : j = (a : Int)) : ∃ x : Int, cl xs (d + 1) 38 [.inr (.inr ((2 : Nat) : Int)), .inl j] (κ, D) = some (some (.inr (.inl x)), (κ, D)) ∧ (tkK (T a) = 2 → x = (p32 (tkN (T a)) : Int)) ∧ (tkK (T a) = 3 → x = (tkV (T a) : Int)) := by
  obtain ⟨sz, s1, s2, s3⟩ := ht
  subst hj
  rw [c_38]
  by_cases h : a < sz
  · have e := (s3 a ha).1 h
    refine ⟨D 5 a, ?_, e.2.2.1, e.2.2.2⟩
    simp (disch := omega) only [cond_true, cond_false, Bool.and_true, Bool.true_and, Bool.and_false, Bool.false_and, Int.toNat_natCast, Int.reduceToNat, bI_s, bJ_s, bV_s, bR_s, decide_true, decide_false, not_true_eq_false, not_false_eq_true, dT, dF, w_al, w_la, w_ab, w_sl, w_sb, w_dec, w_ml, w_lm, ol2i_n, aup_ne, aupE, aupJ, setc_self, setc_ne, kc_2 hκ, s2, pc_2_3 hc, nc_5 hκ]
  · have e := (s3 a ha).2.1 (by omega)
    refine ⟨0, ?_, fun q => by omega, fun q => by omega⟩
    simp (disch := omega) only [cond_true, cond_false, Bool.and_true, Bool.true_and, Bool.and_false, Bool.false_and, Int.toNat_natCast, Int.reduceToNat, bI_s, bJ_s, bV_s, bR_s, decide_true, decide_false, not_true_eq_false, not_false_eq_true, dT, dF, w_al, w_la, w_ab, w_sl, w_sb, w_dec, w_ml, w_lm, ol2i_n, aup_ne, aupE, aupJ, setc_self, setc_ne, kc_2 hκ, s2]
theorem t_here (xs : List Int) (d : Nat) {κ : aK} {D E : Nat → Nat → Int} (hκ : Shp κ) {t : Nat} (ht : isT t) {T : Nat → TK} (hT : TKok T) (hk : TkC D T) {a : Nat} {w : SS} (h : TlS D E t a w) (ha : a ≤ 400) : cl xs (d + 2) 90 [.inr (.inr ((8 : Nat) : Int))] (κ, E) = some (some (.inl (tkK (T a) : Int)), (κ, E)) := by
  have ka := kindAt_eq xs d hκ h.2.1 (h.tk ht hk) ha (j := E 8 3) h.2.2.1
  rw [c_90]
  simp (disch := omega) only [cond_true, cond_false, Bool.and_true, Bool.true_and, Bool.and_false, Bool.false_and, Int.toNat_natCast, Int.reduceToNat, bI_s, bJ_s, bV_s, bR_s, decide_true, decide_false, not_true_eq_false, not_false_eq_true, dT, dF, w_al, w_la, w_ab, w_sl, w_sb, w_dec, w_ml, w_lm, ol2i_n, aup_ne, aupE, aupJ, setc_self, setc_ne, kc_8 hκ, kc_2 hκ, pc_8_2 h.2.1, ka]
theorem t_behind (xs : List Int) (d : Nat) {κ : aK} {D E : Nat → Nat → Int} (hκ : Shp κ) {t : Nat} (ht : isT t) {T : Nat → TK} (hT : TKok T) (hk : TkC D T) {a : Nat} {w : SS} (h : TlS D E t a w) (ha : a + 1 ≤ 400) : cl xs (d + 2) 91 [.inr (.inr ((8 : Nat) : Int))] (κ, E) = some (some (.inl (tkK (T (a + 1)) : Int)), (κ, E)) := by
  have e : w32 (E 8 3 + 1) = ((a + 1 : Nat) : Int) := by rw [h.2.2.1, w32_id (by omega) (by omega)]; omega
  have ka := kindAt_eq xs d hκ h.2.1 (h.tk ht hk) ha (j := w32 (E 8 3 + 1)) e
  rw [c_91]
  simp (disch := omega) only [cond_true, cond_false, Bool.and_true, Bool.true_and, Bool.and_false, Bool.false_and, Int.toNat_natCast, Int.reduceToNat, bI_s, bJ_s, bV_s, bR_s, decide_true, decide_false, not_true_eq_false, not_false_eq_true, dT, dF, w_al, w_la, w_ab, w_sl, w_sb, w_dec, w_ml, w_lm, ol2i_n, aup_ne, aupE, aupJ, setc_self, setc_ne, kc_8 hκ, kc_2 hκ, pc_8_2 h.2.1, ka]
theorem t_value (xs : List Int) (d : Nat) {κ : aK} {D E : Nat → Nat → Int} (hκ : Shp κ) {t : Nat} (ht : isT t) {T : Nat → TK} (hT : TKok T) (hk : TkC D T) {a : Nat} {w : SS} (h : TlS D E t a w) (ha : a ≤ 400) : ∃ x : Int, cl xs (d + 2) 38 [.inr (.inr ((2 : Nat) : Int)), .inl (E 8 3)] (κ, E) = some (some (.inr (.inl x)), (κ, E)) ∧ (tkK (T a) = 2 → x = (p32 (tkN (T a)) : Int)) ∧ (tkK (T a) = 3 → x = (tkV (T a) : Int)) := by
  obtain ⟨x, e1, e2⟩ := valueAt_eq xs (d + 1) hκ h.2.1 (h.tk ht hk) ha (j := E 8 3) h.2.2.1
  exact ⟨x, e1, e2⟩
theorem t_nameX (xs : List Int) (d : Nat) {κ : aK} {D E : Nat → Nat → Int} (hκ : Shp κ) {t : Nat} (ht : isT t) {T : Nat → TK} (hT : TKok T) (hk : TkC D T) {a : Nat} {w : SS} (h : TlS D E t a w) (ha : a + 1 ≤ 400) : ∃ (x : Int) (E' : Nat → Nat → Int), cl xs (d + 3) 94 [.inr (.inr ((8 : Nat) : Int))] (κ, E) = some (some (.inr (.inl x)), (κ, E')) ∧ (tkK (T (a + 1)) = 2 → x = (p32 (tkN (T (a + 1))) : Int)) ∧ TlS D E' t (a + 1) w ∧ (∀ q, q ≠ 8 → E' q = E q) := by
  have e : w32 (E 8 3 + 1) = ((a + 1 : Nat) : Int) := by rw [h.2.2.1, w32_id (by omega) (by omega)]; omega
  have h2 := h.at_ (b := a + 1) e
  obtain ⟨x, e1, e2, e3⟩ := t_value xs d hκ ht hT hk h2 ha
  simp only [aupE] at e1
  refine ⟨x, _, ?_, e2, h2, fun q hq => aupN hq⟩
  rw [c_94]
  simp (disch := omega) only [cond_true, cond_false, Bool.and_true, Bool.true_and, Bool.and_false, Bool.false_and, Int.toNat_natCast, Int.reduceToNat, bI_s, bJ_s, bV_s, bR_s, decide_true, decide_false, not_true_eq_false, not_false_eq_true, dT, dF, w_al, w_la, w_ab, w_sl, w_sb, w_dec, w_ml, w_lm, ol2i_n, aup_ne, aupE, aupJ, setc_self, setc_ne, kc_8 hκ, kc_2 hκ, pc_8_2 h.2.1, e1]
theorem t_name (xs : List Int) (d : Nat) {κ : aK} {D E : Nat → Nat → Int} (hκ : Shp κ) {t : Nat} (ht : isT t) {T : Nat → TK} (hT : TKok T) (hk : TkC D T) {a : Nat} {w : SS} (h : TlS D E t a w) (ha : a + 1 ≤ 400) (hn : tkK (T (a + 1)) = 2) : ∃ E' : Nat → Nat → Int, cl xs (d + 3) 94 [.inr (.inr ((8 : Nat) : Int))] (κ, E) = some (some (.inr (.inl (p32 (tkN (T (a + 1))) : Int))), (κ, E')) ∧ TlS D E' t (a + 1) w ∧ (∀ q, q ≠ 8 → E' q = E q) := by
  obtain ⟨x, E', e1, e2, e3⟩ := t_nameX xs d hκ ht hT hk h ha
  rw [e2 hn] at e1
  exact ⟨E', e1, e3⟩
theorem t_fail (xs : List Int) (d : Nat) {κ : aK} {D E : Nat → Nat → Int} (hκ : Shp κ) {t : Nat} (ht : isT t) {T : Nat → TK} (hT : TKok T) (hk : TkC D T) {a : Nat} {w : SS} (h : TlS D E t a w) (ha : a ≤ 400) (hl : live T a) {k : Nat} (hk0 : ¬ k = 0) {kk : Int} (hkk : kk = (k : Int)) : ∃ E' : Nat → Nat → Int, cl xs (d + 2) 92 [.inr (.inr ((8 : Nat) : Int)), .inl kk] (κ, E) = some (none, (κ, E')) ∧ TlS D E' t a (wrg w k (tkP (T a))) ∧ (∀ q, q ≠ 8 → E' q = E q) := by
  subst hkk
  obtain ⟨h1, h2, h3, h4, h5⟩ := h
  rw [c_92]
  by_cases hw : w.1 = 0
  · have hw' : wrg w k (tkP (T a)) = (k, tkP (T a)) := if_pos hw
    rw [hw']
    have ht' : t = 9 ∨ t = 31 := ht
    have c2 : CPtr (aup E 8 0 (k : Int)) := h2.up pd_scan.2.2.2.2.2.2.2.2.1 _
    have k2 : TkC (aup E 8 0 (k : Int)) T := hk.congr (by rw [aupN (by decide), h1 2 (by decide) (by omega)]) (fun q x y => by rw [aupN (by omega), h1 q (by omega) (by omega)])
    have st := startAt_eq xs d hκ c2 k2 ha hl (j := E 8 3) h3
    refine ⟨aup (aup E 8 0 (k : Int)) 8 1 (tkP (T a) : Int), ?_, ⟨fun q hq hq2 => by rw [aupN hq, aupN hq]; exact h1 q hq hq2, c2.up pd_scan.2.2.2.2.2.2.2.2.2.1 _, by rw [aupJ (by decide), aupJ (by decide)]; exact h3, by rw [aupJ (by decide), aupE], by rw [aupE, if_neg hk0]⟩, fun q hq => by rw [aupN hq, aupN hq]⟩
    rw [hw] at h4
    simp (disch := omega) only [cond_true, cond_false, Bool.and_true, Bool.true_and, Bool.and_false, Bool.false_and, Int.toNat_natCast, Int.reduceToNat, bI_s, bJ_s, bV_s, bR_s, decide_true, decide_false, not_true_eq_false, not_false_eq_true, dT, dF, w_al, w_la, w_ab, w_sl, w_sb, w_dec, w_ml, w_lm, ol2i_n, aup_ne, aupE, aupJ, setc_self, setc_ne, kc_8 hκ, kc_2 hκ, pc_8_2 h2, h4, st, Int.natCast_zero, Int.ofNat_zero]
  · have hw' : wrg w k (tkP (T a)) = w := if_neg hw
    rw [hw']
    refine ⟨E, ?_, ⟨h1, h2, h3, h4, h5⟩, fun _ _ => rfl⟩
    simp (disch := omega) only [cond_true, cond_false, Bool.and_true, Bool.true_and, Bool.and_false, Bool.false_and, Int.toNat_natCast, Int.reduceToNat, bI_s, bJ_s, bV_s, bR_s, decide_true, decide_false, not_true_eq_false, not_false_eq_true, dT, dF, w_al, w_la, w_ab, w_sl, w_sb, w_dec, w_ml, w_lm, ol2i_n, aup_ne, aupE, aupJ, setc_self, setc_ne, kc_8 hκ, h4]
theorem t_num (xs : List Int) (d : Nat) {κ : aK} {D E : Nat → Nat → Int} (hκ : Shp κ) {t : Nat} (ht : isT t) {T : Nat → TK} (hT : TKok T) (hk : TkC D T) {a : Nat} {w : SS} (h : TlS D E t a w) (ha : a + 1 ≤ 400) (hl : live T (a + 1)) (hn : tkK (T (a + 1)) = 3) {lo hi : Nat} {l' h' : Int} (hlo : l' = (lo : Int)) (hhi : h' = (hi : Int)) : ∃ E' : Nat → Nat → Int, cl xs (d + 3) 95 [.inr (.inr ((8 : Nat) : Int)), .inl l', .inl h'] (κ, E) = some (some (.inl (tkV (T (a + 1)) : Int)), (κ, E')) ∧ TlS D E' t (a + 1) (w1N T (a + 1) lo hi w) ∧ (∀ q, q ≠ 8 → E' q = E q) := by
  subst hlo hhi
  have e : w32 (E 8 3 + 1) = ((a + 1 : Nat) : Int) := by rw [h.2.2.1, w32_id (by omega) (by omega)]; omega
  have h2 := h.at_ (b := a + 1) e
  obtain ⟨x, e1, e2, e3⟩ := t_value xs d hκ ht hT hk h2 ha
  simp only [aupE] at e1
  rw [e3 hn] at e1
  have hv := hT.2.2.2.1 _ hn
  have hi2 : ol2i ((tkV (T (a + 1)) : Nat) : Int) = (tkV (T (a + 1)) : Int) := ol2i_id (by omega) (by omega)
  obtain ⟨E2, f1, f2, f3⟩ := t_fail xs d hκ ht hT hk h2 ha hl (k := 5) (by decide) (kk := 5) rfl
  rw [c_95]
  unfold w1N
  by_cases h3 : tkV (T (a + 1)) < lo
  · rw [if_pos (Or.inl h3)]
    refine ⟨E2, ?_, f2, fun q hq => (f3 q hq).trans (aupN hq)⟩
    simp (disch := omega) only [cond_true, cond_false, Bool.and_true, Bool.true_and, Bool.and_false, Bool.false_and, Int.toNat_natCast, Int.reduceToNat, bI_s, bJ_s, bV_s, bR_s, decide_true, decide_false, not_true_eq_false, not_false_eq_true, dT, dF, w_al, w_la, w_ab, w_sl, w_sb, w_dec, w_ml, w_lm, ol2i_n, aup_ne, aupE, aupJ, setc_self, setc_ne, kc_8 hκ, kc_2 hκ, pc_8_2 h.2.1, e1, hi2]
    rw [q_95_33]
    simp (disch := omega) only [cond_true, cond_false, Bool.and_true, Bool.true_and, Bool.and_false, Bool.false_and, Int.toNat_natCast, Int.reduceToNat, bI_s, bJ_s, bV_s, bR_s, decide_true, decide_false, not_true_eq_false, not_false_eq_true, dT, dF, w_al, w_la, w_ab, w_sl, w_sb, w_dec, w_ml, w_lm, ol2i_n, aup_ne, aupE, aupJ, setc_self, setc_ne, kc_8 hκ, f1]
  · by_cases h4 : hi < tkV (T (a + 1))
    · rw [if_pos (Or.inr h4)]
      refine ⟨E2, ?_, f2, fun q hq => (f3 q hq).trans (aupN hq)⟩
      simp (disch := omega) only [cond_true, cond_false, Bool.and_true, Bool.true_and, Bool.and_false, Bool.false_and, Int.toNat_natCast, Int.reduceToNat, bI_s, bJ_s, bV_s, bR_s, decide_true, decide_false, not_true_eq_false, not_false_eq_true, dT, dF, w_al, w_la, w_ab, w_sl, w_sb, w_dec, w_ml, w_lm, ol2i_n, aup_ne, aupE, aupJ, setc_self, setc_ne, kc_8 hκ, kc_2 hκ, pc_8_2 h.2.1, e1, hi2]
      rw [q_95_33]
      simp (disch := omega) only [cond_true, cond_false, Bool.and_true, Bool.true_and, Bool.and_false, Bool.false_and, Int.toNat_natCast, Int.reduceToNat, bI_s, bJ_s, bV_s, bR_s, decide_true, decide_false, not_true_eq_false, not_false_eq_true, dT, dF, w_al, w_la, w_ab, w_sl, w_sb, w_dec, w_ml, w_lm, ol2i_n, aup_ne, aupE, aupJ, setc_self, setc_ne, kc_8 hκ, f1]
    · rw [if_neg (by omega)]
      refine ⟨_, ?_, h2, fun q hq => aupN hq⟩
      simp (disch := omega) only [cond_true, cond_false, Bool.and_true, Bool.true_and, Bool.and_false, Bool.false_and, Int.toNat_natCast, Int.reduceToNat, bI_s, bJ_s, bV_s, bR_s, decide_true, decide_false, not_true_eq_false, not_false_eq_true, dT, dF, w_al, w_la, w_ab, w_sl, w_sb, w_dec, w_ml, w_lm, ol2i_n, aup_ne, aupE, aupJ, setc_self, setc_ne, kc_8 hκ, kc_2 hκ, pc_8_2 h.2.1, e1, hi2]
/-- a law told, as the class keeps it -/
def LwC (D : Nat → Nat → Int) (t : Nat) (X : TX) : Prop := (D (t + 18) 1 = 0 ∧ xlaw X = fun V => V 2) ∨ ∃ (T : Nat → TK) (b e : Nat), TKok T ∧ b < e ∧ e < 400 ∧ D (t + 18) 1 = ((e - b : Nat) : Int) ∧ (∀ i, i < e - b → D (t + 20) i = (tkK (T (b + i)) : Int) ∧ (tkK (T (b + i)) = 3 → D (t + 21) i = (tkV (T (b + i)) : Int))) ∧ lawL T 4 (b, 0) = (e, 0) ∧ tkK (T e) = 59 ∧ xlaw X = lwF T b
def TcC (D : Nat → Nat → Int) (t : Nat) (Y : PY) : Prop := ∀ c, c < xnc Y.1 → D (t + 1) c = (p32 (Y.2.1 c) : Int) ∧ ∀ x, x ≤ 26 → mbit (D (t + 2) c) x = decide (x ∈ Y.2.2 c)
def TcY (D : Nat → Nat → Int) (t : Nat) (Y : PY) : Prop := TxC D t Y.1 ∧ TcC D t Y ∧ (∀ l, xnl Y.1 ≤ l → l < 5 → ∀ i, i < 24 → D (t + 17) (24 * l + i) = 0) ∧ LwC D t Y.1
theorem TcY.congr {D D' : Nat → Nat → Int} {t : Nat} {Y : PY} (h : TcY D t Y) (hd : ∀ q, t ≤ q → q ≤ t + 21 → D' q = D q) : TcY D' t Y := by
  obtain ⟨h1, h2, h3, h4⟩ := h
  refine ⟨h1.congr (fun q a b => hd q a (by omega)), fun c hc => ?_, fun l a b i hi => ?_, ?_⟩
  · rw [hd (t + 1) (by omega) (by omega), hd (t + 2) (by omega) (by omega)]; exact h2 c hc
  · rw [hd (t + 17) (by omega) (by omega)]; exact h3 l a b i hi
  · unfold LwC at h4 ⊢
    rw [hd (t + 18) (by omega) (by omega), hd (t + 20) (by omega) (by omega), hd (t + 21) (by omega) (by omega)]
    exact h4
theorem TcY.c8 {D D' : Nat → Nat → Int} {t : Nat} {Y : PY} (h : TcY D t Y) (ht : isT t) (hd : ∀ q, q ≠ 8 → D' q = D q) : TcY D' t Y := by
  have ht' : t = 9 ∨ t = 31 := ht
  exact h.congr (fun q a b => hd q (by omega))
def YOk (Y : PY) : Prop := TXok Y.1 ∧ ∀ c, c < xnc Y.1 → wok (Y.2.1 c) ∧ 2 ≤ (Y.2.1 c).length ∧ wok (Y.2.2 c)
def YCn (c : Nat → Nat) (Y : PY) : Prop := c 0 = xnc Y.1 ∧ c 1 = xns Y.1 ∧ c 6 = xnp Y.1 0 ∧ c 7 = xnp Y.1 1 ∧ c 8 = xnp Y.1 2 ∧ c 9 = xnw Y.1 ∧ c 10 = xpr Y.1 ∧ c 11 = xnl Y.1
def oI (o : Option Nat) : Int := match o with
  | some k => (k : Int)
  | none => -1
theorem fndN_lt {N : Nat → List Nat} {l : List Nat} : ∀ (m k j : Nat), fndN N l m k = some j → k ≤ j ∧ j < k + m ∧ N j = l
  | 0, _, _, h => by cases h
  | m + 1, k, j, h => by
    unfold fndN at h
    by_cases e : N k = l
    · rw [if_pos e] at h
      cases h
      exact ⟨Nat.le_refl _, by omega, e⟩
    · rw [if_neg e] at h
      have := fndN_lt m (k + 1) j h
      exact ⟨by omega, by omega, this.2.2⟩
theorem fndN_no {N : Nat → List Nat} {l : List Nat} : ∀ (m k : Nat), fndN N l m k = none → ∀ j, k ≤ j → j < k + m → ¬ N j = l
  | 0, k, _, j, h1, h2 => by omega
  | m + 1, k, h, j, h1, h2 => by
    unfold fndN at h
    by_cases e : N k = l
    · rw [if_pos e] at h
      cases h
    · rw [if_neg e] at h
      by_cases hj : j = k
      · rw [hj]; exact e
      · exact fndN_no m (k + 1) h j (by omega) (by omega)
/-- findClass -/
theorem findClass_loop (xs : List Int) (d : Nat) {κ : aK} {D : Nat → Nat → Int} (hκ : Shp κ) (hc : CPtr D) {t : Nat} (ht : isT t) {Y : PY} (hY : YOk Y) (hx : TcY D t Y) {l : List Nat} (hl : wok l) : ∀ (m k : Nat) (u2 : Option aV), k + m = xnc Y.1 → ev xs d mm_110 2 [some (.inr (.inr (t : Int))), some (.inr (.inl (p32 l : Int))), u2, some (.inl (k : Int))] [] (κ, D) = some (some (.inl (oI (fndN Y.2.1 l m k))), (κ, D))
  | 0, k, u2, hm => by
    have e0 : D t 0 = (xnc Y.1 : Int) := hx.1.2.2.2.2.2.2
    rw [q_110_2]
    simp (disch := omega) only [cond_true, cond_false, Bool.and_true, Bool.true_and, Bool.and_false, Bool.false_and, Int.toNat_natCast, Int.reduceToNat, bI_s, bJ_s, bV_s, bR_s, decide_true, decide_false, not_true_eq_false, not_false_eq_true, dT, dF, w_al, w_la, w_ab, w_sl, w_sb, w_dec, w_ml, w_lm, ol2i_n, aup_ne, aupE, aupJ, setc_self, setc_ne, tk_0 hκ ht, e0]
    rfl
  | m + 1, k, u2, hm => by
    have e0 : D t 0 = (xnc Y.1 : Int) := hx.1.2.2.2.2.2.2
    have n6 := hY.1.2.2.2.2.2.2
    have e1 := (hx.2.1 k (by omega)).1
    rw [q_110_2]
    unfold fndN
    by_cases e : Y.2.1 k = l
    · rw [if_pos e]
      have hz : olcmp (p32 (Y.2.1 k) : Int) (p32 l : Int) = 0 := olcmp_eq.mpr (by rw [e])
      simp (disch := omega) only [cond_true, cond_false, Bool.and_true, Bool.true_and, Bool.and_false, Bool.false_and, Int.toNat_natCast, Int.reduceToNat, bI_s, bJ_s, bV_s, bR_s, decide_true, decide_false, not_true_eq_false, not_false_eq_true, dT, dF, w_al, w_la, w_ab, w_sl, w_sb, w_dec, w_ml, w_lm, ol2i_n, aup_ne, aupE, aupJ, setc_self, setc_ne, tk_0 hκ ht, e0, tp_0_1 hc ht, tn_1 hκ ht, e1, hz]
      rfl
    · rw [if_neg e]
      have hz : ¬ olcmp (p32 (Y.2.1 k) : Int) (p32 l : Int) = 0 := fun q => e (p32_inj (hY.2 k (by omega)).1.1 hl.1 (by have := olcmp_eq.mp q; omega))
      rw [← findClass_loop xs d hκ hc ht hY hx hl m (k + 1) (acl u2) (by omega)]
      simp (disch := omega) only [cond_true, cond_false, Bool.and_true, Bool.true_and, Bool.and_false, Bool.false_and, Int.toNat_natCast, Int.reduceToNat, bI_s, bJ_s, bV_s, bR_s, decide_true, decide_false, not_true_eq_false, not_false_eq_true, dT, dF, w_al, w_la, w_ab, w_sl, w_sb, w_dec, w_ml, w_lm, ol2i_n, aup_ne, aupE, aupJ, setc_self, setc_ne, tk_0 hκ ht, e0, tp_0_1 hc ht, tn_1 hκ ht, e1, hz]
theorem findClass_eq (xs : List Int) (d : Nat) {κ : aK} {D : Nat → Nat → Int} (hκ : Shp κ) (hc : CPtr D) {t : Nat} (ht : isT t) {Y : PY} (hY : YOk Y) (hx : TcY D t Y) {l : List Nat} (hl : wok l) : cl xs (d + 1) 110 [.inr (.inr (t : Int)), .inr (.inl (p32 l : Int))] (κ, D) = some (some (.inl (oI (ycl Y l))), (κ, D)) := by
  rw [c_110]
  exact findClass_loop xs d hκ hc ht hY hx hl (xnc Y.1) 0 none (by omega)
def oPc (o : Option Nat) (s : Nat) : Int := match o with
  | some k => ((8 * s + k : Nat) : Int)
  | none => -1
/-- Pieces.find -/
theorem findP_loop (xs : List Int) (d : Nat) {κ : aK} {D : Nat → Nat → Int} (hκ : Shp κ) (hc : CPtr D) {t : Nat} (ht : isT t) {X : TX} (hX : TXok X) (hx : PcC D t X) {s : Nat} (hs : s < 3) {l : List Nat} (hl : wok l) : ∀ (m k : Nat) (u3 : Option aV), k + m = xnp X s → ev xs d mm_33 3 [some (.inr (.inr ((t + 8 : Nat) : Int))), some (.inl (s : Int)), some (.inr (.inl (p32 l : Int))), u3, some (.inl (k : Int))] [] (κ, D) = some (some (.inl (oPc (fndN (fun k => xPN X (8 * s + k)) l m k) s)), (κ, D))
  | 0, k, u3, hm => by
    have n8 := xnp_le hX hs
    have e0 := (hx s hs).1
    rw [q_33_3]
    simp (disch := omega) only [cond_true, cond_false, Bool.and_true, Bool.true_and, Bool.and_false, Bool.false_and, Int.toNat_natCast, Int.reduceToNat, bI_s, bJ_s, bV_s, bR_s, decide_true, decide_false, not_true_eq_false, not_false_eq_true, dT, dF, w_al, w_la, w_ab, w_sl, w_sb, w_dec, w_ml, w_lm, ol2i_n, aup_ne, aupE, aupJ, setc_self, setc_ne, tk_8 hκ ht, tp_8_0 hc ht, tn_9 hκ ht, e0]
    rfl
  | m + 1, k, u3, hm => by
    have n8 := xnp_le hX hs
    have e0 := (hx s hs).1
    have e1 := ((hx s hs).2 k (by omega)).1
    have ew : w32 (((s * 8 : Nat) : Int) + (k : Int)) = ((8 * s + k : Nat) : Int) := by rw [w32_id (by omega) (by omega)]; omega
    rw [q_33_3]
    unfold fndN
    by_cases e : xPN X (8 * s + k) = l
    · rw [if_pos e]
      have hz : olcmp (p32 (xPN X (8 * s + k)) : Int) (p32 l : Int) = 0 := olcmp_eq.mpr (by rw [e])
      simp (disch := omega) only [tk_8 hκ ht, tp_8_0 hc ht, tp_8_1 hc ht, tn_9 hκ ht, tn_10 hκ ht, e0, ew, e1, hz, cond_true, cond_false, Bool.and_true, Bool.true_and, Bool.and_false, Bool.false_and, Int.toNat_natCast, Int.reduceToNat, bI_s, bJ_s, bV_s, bR_s, decide_true, decide_false, not_true_eq_false, not_false_eq_true, dT, dF, w_al, w_la, w_ab, w_sl, w_sb, w_dec, w_ml, w_lm, ol2i_n, aup_ne, aupE, aupJ, setc_self, setc_ne]
      rfl
    · rw [if_neg e]
      have hz : ¬ olcmp (p32 (xPN X (8 * s + k)) : Int) (p32 l : Int) = 0 := fun q => e (p32_inj ((hX.2.2.1 s hs).2 k (by omega)).1.1 hl.1 (by have := olcmp_eq.mp q; omega))
      rw [← findP_loop xs d hκ hc ht hX hx hs hl m (k + 1) (acl u3) (by omega)]
      simp (disch := omega) only [tk_8 hκ ht, tp_8_0 hc ht, tp_8_1 hc ht, tn_9 hκ ht, tn_10 hκ ht, e0, ew, e1, hz, cond_true, cond_false, Bool.and_true, Bool.true_and, Bool.and_false, Bool.false_and, Int.toNat_natCast, Int.reduceToNat, bI_s, bJ_s, bV_s, bR_s, decide_true, decide_false, not_true_eq_false, not_false_eq_true, dT, dF, w_al, w_la, w_ab, w_sl, w_sb, w_dec, w_ml, w_lm, ol2i_n, aup_ne, aupE, aupJ, setc_self, setc_ne]
theorem findP_eq (xs : List Int) (d : Nat) {κ : aK} {D : Nat → Nat → Int} (hκ : Shp κ) (hc : CPtr D) {t : Nat} (ht : isT t) {X : TX} (hX : TXok X) (hx : PcC D t X) {s : Nat} (hs : s < 3) {l : List Nat} (hl : wok l) : cl xs (d + 1) 33 [.inr (.inr ((t + 8 : Nat) : Int)), .inl (s : Int), .inr (.inl (p32 l : Int))] (κ, D) = some (some (.inl (oPc (pfd X s l) s)), (κ, D)) := by
  rw [c_33]
  exact findP_loop xs d hκ hc ht hX hx hs hl (xnp X s) 0 none (by omega)
theorem oPc_no {o : Option Nat} {s : Nat} : oPc o s = -1 ↔ o = none := by
  cases o with
  | none => exact ⟨fun _ => rfl, fun _ => rfl⟩
  | some k => exact ⟨fun h => by change ((8 * s + k : Nat) : Int) = -1 at h; omega, fun h => by cases h⟩
theorem findAll_eq (xs : List Int) (d : Nat) {κ : aK} {D : Nat → Nat → Int} (hκ : Shp κ) (hc : CPtr D) {t : Nat} (ht : isT t) {X : TX} (hX : TXok X) (hx : PcC D t X) {l : List Nat} (hl : wok l) : cl xs (d + 2) 34 [.inr (.inr ((t + 8 : Nat) : Int)), .inr (.inl (p32 l : Int))] (κ, D) = some (some (.inl (oI (pAll X l))), (κ, D)) := by
  have f0 := findP_eq xs d hκ hc ht hX hx (s := 0) (by decide) hl
  have f1 := findP_eq xs d hκ hc ht hX hx (s := 1) (by decide) hl
  have f2 := findP_eq xs d hκ hc ht hX hx (s := 2) (by decide) hl
  have st : ∀ (s : Nat) (u2 u4 : Option aV), s < 3 → ev xs (d + 1) mm_34 2 [some (.inr (.inr ((t + 8 : Nat) : Int))), some (.inr (.inl (p32 l : Int))), u2, some (.inl (s : Int)), u4] [] (κ, D) = (if pfd X s l = none then ev xs (d + 1) mm_34 2 [some (.inr (.inr ((t + 8 : Nat) : Int))), some (.inr (.inl (p32 l : Int))), acl u2, some (.inl ((s + 1 : Nat) : Int)), some (.inl (oPc (pfd X s l) s))] [] (κ, D) else some (some (.inl (oPc (pfd X s l) s)), (κ, D))) := fun s u2 u4 hs => by
    have f := findP_eq xs d hκ hc ht hX hx hs hl
    rw [q_34_2]
    by_cases hn : pfd X s l = none
    · rw [if_pos hn]
      have e := oPc_no (s := s).mpr hn
      simp (disch := omega) only [cond_true, cond_false, Bool.and_true, Bool.true_and, Bool.and_false, Bool.false_and, Int.toNat_natCast, Int.reduceToNat, bI_s, bJ_s, bV_s, bR_s, decide_true, decide_false, not_true_eq_false, not_false_eq_true, dT, dF, w_al, w_la, w_ab, w_sl, w_sb, w_dec, w_ml, w_lm, ol2i_n, aup_ne, aupE, aupJ, setc_self, setc_ne, tk_8 hκ ht, f, e]
    · rw [if_neg hn]
      have e : ¬ oPc (pfd X s l) s = -1 := fun q => hn (oPc_no.mp q)
      simp (disch := omega) only [cond_true, cond_false, Bool.and_true, Bool.true_and, Bool.and_false, Bool.false_and, Int.toNat_natCast, Int.reduceToNat, bI_s, bJ_s, bV_s, bR_s, decide_true, decide_false, not_true_eq_false, not_false_eq_true, dT, dF, w_al, w_la, w_ab, w_sl, w_sb, w_dec, w_ml, w_lm, ol2i_n, aup_ne, aupE, aupJ, setc_self, setc_ne, tk_8 hκ ht, f, e]
  have e3 : ∀ (u2 u4 : Option aV), ev xs (d + 1) mm_34 2 [some (.inr (.inr ((t + 8 : Nat) : Int))), some (.inr (.inl (p32 l : Int))), u2, some (.inl ((3 : Nat) : Int)), u4] [] (κ, D) = some (some (.inl (-1)), (κ, D)) := fun u2 u4 => by
    rw [q_34_2]
    simp (disch := omega) only [cond_true, cond_false, Bool.and_true, Bool.true_and, Bool.and_false, Bool.false_and, Int.toNat_natCast, Int.reduceToNat, bI_s, bJ_s, bV_s, bR_s, decide_true, decide_false, not_true_eq_false, not_false_eq_true, dT, dF, w_al, w_la, w_ab, w_sl, w_sb, w_dec, w_ml, w_lm, ol2i_n, aup_ne, aupE, aupJ, setc_self, setc_ne]
  rw [c_34]
  unfold pAll
  refine Eq.trans (st 0 none none (by decide)) ?_
  cases h0 : pfd X 0 l with
  | some k =>
    rw [if_neg (by simp)]
    exact congrArg (fun z : Nat => (some (some (.inl (z : Int)), (κ, D)) : aO)) (show 8 * 0 + k = k by omega)
  | none =>
    rw [if_pos rfl]
    refine Eq.trans (st 1 _ _ (by decide)) ?_
    cases h1 : pfd X 1 l with
    | some k =>
      rw [if_neg (by simp)]
      rfl
    | none =>
      rw [if_pos rfl]
      refine Eq.trans (st 2 _ _ (by decide)) ?_
      cases h2 : pfd X 2 l with
      | some k =>
        rw [if_neg (by simp)]
        rfl
      | none =>
        rw [if_pos rfl]
        exact e3 _ _
