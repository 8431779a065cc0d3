/-! The reference reads: a law. -/
def RwO (E' : Nat → Nat → Int) (T : Nat → TK) (u b r : Nat) (s : SS) (v1 : Int) : Prop := ∃ n' k' : Nat, 1 ≤ n' ∧ n' ≤ r + 1 ∧ E' 256 47 = ((130 * u + b + n' : Nat) : Int) ∧ E' 256 53 = ((420 * u + k' : Nat) : Int) ∧ k' ≤ (lawL T r s).1 ∧ E' 256 12 = 0 ∧ E' 289 u = v1 ∧ E' 290 u = ((130 * u + b + n' : Nat) : Int) ∧ s.1 + 7 * (n' - 1) + 1 ≤ (lawL T r s).1 ∧ lwB E' n' (130 * u + b) (lwV T r s.1)
/-- as RwF, and the law's own first and last may have changed on this side -/
def RwG (E E' : Nat → Nat → Int) (u b k : Nat) : Prop := (∀ q, q ≠ 256 → q < 289 ∨ 298 < q → E' q = E q) ∧ (∀ q, 291 ≤ q → q ≤ 295 → ∀ j, j < 130 * u + b → E' q j = E q j) ∧ (∀ j, j < 420 * u + k → E' 296 j = E 296 j ∧ E' 297 j = E 297 j) ∧ (∀ j, ¬ (j = 11 ∨ j = 12 ∨ j = 13 ∨ j = 14 ∨ j = 15 ∨ j = 16 ∨ j = 47 ∨ j = 53 ∨ j = 59) → E' 256 j = E 256 j)
theorem RwF.g {E E' : Nat → Nat → Int} {u b k : Nat} (h : RwF E E' u b k) : RwG E E' u b k := ⟨fun q a c => h.1 q a (by omega), h.2⟩
theorem RwF.tg {E E1 E2 : Nat → Nat → Int} {u b k b1 k1 : Nat} (h1 : RwF E E1 u b k) (h2 : RwG E1 E2 u b1 k1) (hb : b ≤ b1) (hk : k ≤ k1) : RwG E E2 u b k := ⟨fun q a c => (h2.1 q a c).trans (h1.1 q a (by omega)), fun q a c j hj => (h2.2.1 q a c j (by omega)).trans (h1.2.1 q a c j hj), fun j hj => ⟨((h2.2.2.1 j (by omega)).1).trans (h1.2.2.1 j hj).1, ((h2.2.2.1 j (by omega)).2).trans (h1.2.2.1 j hj).2⟩, fun j a => (h2.2.2.2 j a).trans (h1.2.2.2 j a)⟩
theorem s89_S {D E : Nat → Nat → Int} {v u : Nat} {T : Nat → TK} {s w : SS} (h : RpS D E v T s w) (hsd : RsD D v u) {q : Nat} (hq : q = 289 ∨ q = 290) (x : Int) : RpS D (aup E q u x) v T s w := by
  have hd : strd q = 1 := by rcases hq with e | e <;> (rw [e]; rfl)
  exact h.fr (h.1.wr (by omega) (by omega) (by rw [hd, Nat.div_one]; exact hsd.2.2.2.2) _) (fun j hj => by rw [aupN (by omega)])
/-- the last term of a law -/
theorem rLawEnd (xs : List Int) (d : Nat) {κ : aK} {D E : Nat → Nat → Int} (hκ : Shp κ) (hpD : PtrR D) {v : Nat} {T : Nat → TK} (hT : TKok T) (hk : TkR D T) {s w : SS} (h : RpS D E v T s w) {u b k r : Nat} (hsd : RsD D v u) (hb : b < 118) (e47 : E 256 47 = ((130 * u + b : Nat) : Int)) (hc : s.2 = 0 → ∃ k0 : Nat, E 256 53 = ((420 * u + k0 : Nat) : Int) ∧ k ≤ k0 ∧ E 256 12 = 0 ∧ k0 ≤ s.1) (hno : s.2 = 0 → ¬ tkK (T s.1) = 143) (v1 v2 : Int) : ∃ E', ev xs (d + 5) mm_219 129 [some (.inr (.inr 256)), some (.inl v1), some (.inl v2)] [] (κ, E) = some (none, (κ, E')) ∧ RpS D E' v T (mu T 59 (sm T s)) w ∧ RwG E E' u b k ∧ ((mu T 59 (sm T s)).2 = 0 → RwO E' T u b r s v1) := by
  have k256 := k_256 hκ
  have hp := h.1.ptr hpD
  have s1 := arr_S h hsd (q := 291) (b := b) (by decide) (by decide) (by omega) 0
  obtain ⟨E1, a1, a2, a3, a4, a5, a6, a7, a8⟩ := rTerm xs d hκ hpD hT hk s1 hsd (b := b) (k := k) (by omega) (by rw [aupN (by decide)]; exact e47) (fun z => by
    rw [aupN (by decide)]
    exact hc z)
  obtain ⟨E2, b1, b2, b3⟩ := r_must xs (d + 2) hκ hpD hT hk a2 (k := 59) (by decide) (by decide) (kk := 4) rfl
  have F2 : RwF E E2 u b k := ((RwF.arr (by decide) (by decide) (Nat.le_refl _) 0).trans a3 (Nat.le_refl _) (Nat.le_refl _)).trans (b3.wf u b k) (Nat.le_refl _) (Nat.le_refl _)
  have h13 := b2.2.1
  have hp2 := b2.1.ptr hpD
  obtain ⟨v1', v2', v3', v4', v5'⟩ := hsd
  have e19 : E2 256 19 = (u : Int) := by rw [b2.1.2.1 19 (by decide)]; exact v2'
  have e47b : E2 256 47 = ((130 * u + (b + 1) : Nat) : Int) := (b3.f (by decide)).trans a4
  rw [q_219_129]
  by_cases hf : (mu T 59 (sm T s)).2 = 0
  · rw [hf] at h13
    have h13' : E2 256 13 = 0 := h13
    obtain ⟨m1, m2, m3, m4⟩ := mu_ok hf
    obtain ⟨n1, n2, n3, n4, n5⟩ := sm_ok m1
    obtain ⟨c1, k0, k', c2, c3, c4, c5, c6, _⟩ := a8 m1
    have es : s = (s.1, 0) := Prod.ext rfl n1
    have el : lawL T r s = sm T s := by rw [es]; exact lawL_0 (hno n1)
    have elv : lwV T r s.1 = (smE T s.1).2.2 := by
      cases r with
      | zero => rfl
      | succ r => exact if_neg (hno n1)
    have fin9 : ∀ q, q ≠ 289 → q ≠ 290 → aup (aup E2 289 u v1) 290 u ((130 * u + (b + 1) : Nat) : Int) q = E2 q := fun q q1 q2 => by rw [aupN q2, aupN q1]
    refine ⟨aup (aup E2 289 u v1) 290 u ((130 * u + (b + 1) : Nat) : Int), ?_, s89_S (s89_S b2 ⟨v1', v2', v3', v4', v5'⟩ (Or.inl rfl) _) ⟨v1', v2', v3', v4', v5'⟩ (Or.inr rfl) _, ⟨fun q q1 q2 => by rw [fin9 q (by omega) (by omega)]; exact F2.1 q q1 (by omega), fun q q1 q2 j hj => by rw [fin9 q (by omega) (by omega)]; exact F2.2.1 q q1 q2 j hj, fun j hj => by rw [fin9 296 (by decide) (by decide), fin9 297 (by decide) (by decide)]; exact F2.2.2.1 j hj, fun j hj => by rw [fin9 256 (by decide) (by decide)]; exact F2.2.2.2 j hj⟩, fun _ => ?_⟩
    · simp (disch := omega) only [k256, pr_48 hp, e47, n_291 hκ, a1, b1, h13', pr_45 hp2, pr_46 hp2, e19, n_289 hκ, n_290 hκ, e47b, cond_true, cond_false, Bool.and_true, Bool.true_and, Bool.and_false, Bool.false_and, Int.toNat_natCast, Int.reduceToNat, bI_s, bJ_s, bV_s, bR_s, decide_true, decide_false, not_true_eq_false, not_false_eq_true, dT, dF, w_al, w_la, w_ab, w_sl, w_sb, w_dec, w_ml, w_lm, ol2i_n, aup_ne, aupE, aupJ, setc_self, setc_ne]
      rw [q_219_179]
    · have c2' : E 256 53 = ((420 * u + k0 : Nat) : Int) := by rw [aupN (by decide)] at c2; exact c2
      unfold RwO
      rw [el, elv]
      refine ⟨1, k', Nat.le_refl _, by omega, by rw [fin9 256 (by decide) (by decide)]; exact e47b, by rw [fin9 256 (by decide) (by decide), b3.f (by decide)]; exact c5, c4, by rw [fin9 256 (by decide) (by decide), b3.f (by decide)]; exact c1, by rw [aupN (by decide), aupE], by rw [aupE]; rfl, by rw [n3]; show s.1 + 7 * 0 + 1 ≤ (smE T s.1).1; omega, ?_⟩
      have hk4 : k' ≤ 400 := by
        have := (a2.2.2.2.2 m1).2.1
        omega
      refine ⟨420 * u + k0, 420 * u + k0, 420 * u + k0, 420 * u + k', by omega, Nat.le_refl _, Nat.le_refl _, by omega, ?_, ?_, Or.inl ⟨rfl, ?_, ?_⟩⟩
      · rw [fin9 294 (by decide) (by decide), b3.cell (by decide), a6, aupN (by decide)]; exact c2'
      · rw [fin9 295 (by decide) (by decide), b3.cell (by decide), a7]; exact c5
      · rw [fin9 291 (by decide) (by decide), b3.cell (by decide), a5 291 (by decide) (by decide), aupE]
      · exact seg_same c6 (fun j _ => by rw [fin9 296 (by decide) (by decide), fin9 297 (by decide) (by decide), b3.cell (by decide), b3.cell (by decide)]; exact ⟨rfl, rfl⟩)
  · refine ⟨E2, ?_, b2, F2.g, fun z => absurd z hf⟩
    simp (disch := omega) only [k256, pr_48 hp, e47, n_291 hκ, a1, b1, h13, cond_true, cond_false, Bool.and_true, Bool.true_and, Bool.and_false, Bool.false_and, Int.toNat_natCast, Int.reduceToNat, bI_s, bJ_s, bV_s, bR_s, decide_true, decide_false, not_true_eq_false, not_false_eq_true, dT, dF, w_al, w_la, w_ab, w_sl, w_sb, w_dec, w_ml, w_lm, ol2i_n, aup_ne, aupE, aupJ, setc_self, setc_ne]
