/-! The reference between calls; word, run, stage. -/
def scr : List Nat := [299, 300, 302, 303, 305, 306, 307, 308, 309, 310, 311, 312]
def scf : List Nat := [62, 66, 67, 68, 69, 74, 77, 79]
/-- nothing but scratch has changed -/
def RSame (D D' : Nat → Nat → Int) : Prop := (∀ q, q ≠ 256 → q ∉ scr → D' q = D q) ∧ (∀ j, j ∉ scf → D' 256 j = D 256 j) ∧ D' 303 0 = 0
theorem RSame.rfl' {D : Nat → Nat → Int} (h : D 303 0 = 0) : RSame D D := ⟨fun _ _ _ => rfl, fun _ _ => rfl, h⟩
theorem RSame.trans {D D1 D2 : Nat → Nat → Int} (h1 : RSame D D1) (h2 : RSame D1 D2) : RSame D D2 := ⟨fun q a b => (h2.1 q a b).trans (h1.1 q a b), fun j a => (h2.2.1 j a).trans (h1.2.1 j a), h2.2.2⟩
theorem RSame.row {D : Nat → Nat → Int} {f g : Nat → Int} (hg : g 0 = 0) : RSame D (setc (setc D 302 f) 303 g) := by
  refine ⟨fun q h1 h2 => ?_, fun j _ => ?_, by rw [setc_self]; exact hg⟩
  · rw [setc_ne (fun e => h2 (by rw [e]; decide)), setc_ne (fun e => h2 (by rw [e]; decide))]
  · rw [setc_ne (by decide), setc_ne (by decide)]
theorem RSame.ptr {D D' : Nat → Nat → Int} (h : RSame D D') (hp : PtrR D) : PtrR D' := by
  unfold PtrR at hp ⊢
  rw [h.2.1 1 (by decide), h.2.1 3 (by decide), h.2.1 5 (by decide), h.2.1 6 (by decide), h.2.1 7 (by decide), h.2.1 8 (by decide), h.2.1 9 (by decide), h.2.1 20 (by decide), h.2.1 21 (by decide), h.2.1 22 (by decide), h.2.1 23 (by decide), h.2.1 24 (by decide), h.2.1 25 (by decide), h.2.1 26 (by decide), h.2.1 27 (by decide), h.2.1 28 (by decide), h.2.1 29 (by decide), h.2.1 30 (by decide), h.2.1 31 (by decide), h.2.1 32 (by decide), h.2.1 33 (by decide), h.2.1 34 (by decide), h.2.1 35 (by decide), h.2.1 36 (by decide), h.2.1 37 (by decide), h.2.1 38 (by decide), h.2.1 39 (by decide), h.2.1 40 (by decide), h.2.1 41 (by decide), h.2.1 42 (by decide), h.2.1 43 (by decide), h.2.1 44 (by decide), h.2.1 45 (by decide), h.2.1 46 (by decide), h.2.1 48 (by decide), h.2.1 49 (by decide), h.2.1 50 (by decide), h.2.1 51 (by decide), h.2.1 52 (by decide), h.2.1 54 (by decide), h.2.1 55 (by decide), h.2.1 58 (by decide), h.2.1 60 (by decide), h.2.1 61 (by decide), h.2.1 63 (by decide), h.2.1 64 (by decide), h.2.1 65 (by decide), h.2.1 71 (by decide), h.2.1 72 (by decide), h.2.1 73 (by decide), h.2.1 75 (by decide), h.2.1 76 (by decide), h.2.1 78 (by decide), h.2.1 80 (by decide), h.2.1 81 (by decide), h.2.1 82 (by decide), h.2.1 83 (by decide), h.2.1 84 (by decide)]
  exact hp
/-- the words, the stones, the order, what is on -/
def RSt (D : Nat → Nat → Int) (v ns nw : Nat) (F T ord : Nat → Nat) (W : Nat → List Nat) (Ft : Nat → Nat) (on : Nat) : Prop :=
  PtrR D ∧ D 256 18 = (v : Int) ∧ v < 2 ∧ stAll D v ns F T ∧ D 277 v = (nw : Int) ∧ nw ≤ 10 ∧ ordR D 301 ns ord ∧ (∀ w, w < nw → D 301 w = (p27 (W w) : Int) ∧ wv (W w) ∧ (W w).length ≤ 8 ∧ D 301 (10 + w) = (Ft w : Int) ∧ Ft w ≤ 2) ∧ D 301 52 = (on : Int) ∧ on < 128 ∧ D 303 0 = 0
def showA (l : List Nat) (k : Nat) : Nat := if k = 8 then l.length else l.getD k 0
def ansWord (nw : Nat) (W : Nat → List Nat) (Ft : Nat → Nat) (w what : Int) : Int := if (0 ≤ w ∧ w ≤ (nw : Int) - 1) ∧ 0 ≤ what ∧ what ≤ 9 then (if what = 9 then (Ft w.toNat : Int) else (showA (W w.toNat) what.toNat : Int)) else -1
/-- word -/
theorem rword_eq (xs : List Int) (d : Nat) {κ : aK} {D : Nat → Nat → Int} (hκ : Shp κ) {v ns nw : Nat} {F T ord : Nat → Nat} {W : Nat → List Nat} {Ft : Nat → Nat} {on : Nat} (hR : RSt D v ns nw F T ord W Ft on) (w what : Int) : cl xs (d + 4) 243 [.inr (.inr 256), .inl w, .inl what] (κ, D) = some (some (.inl (ansWord nw W Ft w what)), (κ, D)) := by
  obtain ⟨hp, hv, hv2, hst, hnw, hnw2, ho, hW, hon, hon2, h0⟩ := hR
  rw [c_243]
  simp only [cond_true, k_256 hκ, Bool.and_true, isWord_eq xs (d + 1) hκ hp hv hv2 hnw hnw2, bI]
  unfold ansWord
  by_cases hw : 0 ≤ w ∧ w ≤ (nw : Int) - 1
  · simp only [if_pos hw, show decide ((1 : Int) = 0) = false from rfl, cond_false, in_eq]
    by_cases hk : 0 ≤ what ∧ what ≤ 9
    · simp only [if_pos hk, show decide (¬ (1 : Int) = 0) = true from rfl, cond_true]
      obtain ⟨wn, rfl⟩ := Int.eq_ofNat_of_zero_le hw.1
      obtain ⟨kn, rfl⟩ := Int.eq_ofNat_of_zero_le hk.1
      obtain ⟨e1, e2, e3, e4, e5⟩ := hW wn (by omega)
      rw [if_pos ⟨hw, hk⟩]
      by_cases h9 : kn = 9
      · subst h9
        have n1 : ain κ 301 101 ((10 + wn : Nat) : Int) = true := n_301 hκ (by omega) (by omega)
        simp only [k_256 hκ, bI, show decide (¬ ((9 : Nat) : Int) = 9) = false from rfl, cond_false, cond_true, show ((256 : Int)).toNat = 256 from rfl, pr_63 hp, show w32 (10 + ((wn : Nat) : Int)) = ((10 + wn : Nat) : Int) from by rw [w32_id (by omega) (by omega)]; omega, n1, show ((301 : Int)).toNat = 301 from rfl, Int.toNat_natCast, e4, ol2i_id (x := (Ft wn : Int)) (by omega) (by omega)]
        rfl
      · have n1 : ain κ 301 101 ((wn : Nat) : Int) = true := n_301 hκ (by omega) (by omega)
        simp only [k_256 hκ, bI, show decide (¬ ((kn : Nat) : Int) = 9) = true from decide_eq_true (by omega), cond_true, show ((256 : Int)).toNat = 256 from rfl, pr_63 hp, n1, show ((301 : Int)).toNat = 301 from rfl, Int.toNat_natCast, e1]
        rw [shows_eq xs d (κ, D) e2 e3 (show kn ≤ 8 by omega)]
        rw [if_neg (show ¬ ((kn : Nat) : Int) = 9 by omega)]
        rfl
    · simp only [if_neg hk, not_true_eq_false, decide_false, cond_false]
      rw [if_neg (fun q => hk q.2)]
  · simp only [if_neg hw, decide_true, cond_true]
    rw [if_neg (fun q => hw q.1)]
def ansRun (tk : Nat → List Nat → List Nat) (ns nw : Nat) (ord : Nat → Nat) (W : Nat → List Nat) (on : Nat) (w what : Int) : Int := if (0 ≤ w ∧ w ≤ (nw : Int) - 1) ∧ 0 ≤ what ∧ what ≤ 8 then (showA (rby tk ord on ns 0 7 (W w.toNat)) what.toNat : Int) else -1
theorem tkR_all {D : Nat → Nat → Int} {v n : Nat} {F T : Nat → Nat} (h : stAll D v n F T) : ∀ s, s < n → ∀ l, wv l → wv (tkR D v F T s l) ∧ (tkR D v F T s l).length ≤ l.length := fun _ hs _ hw => tkR_wv h hs hw
theorem cpn_at {n j : Nat} {f g : Nat → Int} (h : j < n) : cpn n f g j = f j := by simp [cpn, h]
/-- run -/
theorem rrun_eq (xs : List Int) (d : Nat) {κ : aK} {D : Nat → Nat → Int} (hκ : Shp κ) {v ns nw : Nat} {F T ord : Nat → Nat} {W : Nat → List Nat} {Ft : Nat → Nat} {on : Nat} (hR : RSt D v ns nw F T ord W Ft on) (w what : Int) : ∃ D', RSame D D' ∧ cl xs (d + 5) 244 [.inr (.inr 256), .inl w, .inl what] (κ, D) = some (some (.inl (ansRun (tkR D v F T) ns nw ord W on w what)), (κ, D')) := by
  obtain ⟨hp, hv, hv2, hst, hnw, hnw2, ho, hW, hon, hon2, h0⟩ := hR
  rw [c_244]
  simp only [cond_true, k_256 hκ, Bool.and_true, isWord_eq xs (d + 2) hκ hp hv hv2 hnw hnw2, bI]
  unfold ansRun
  by_cases hw : 0 ≤ w ∧ w ≤ (nw : Int) - 1
  · simp only [if_pos hw, show decide ((1 : Int) = 0) = false from rfl, cond_false, in_eq]
    by_cases hk : 0 ≤ what ∧ what ≤ 8
    · simp only [if_pos hk, show decide (¬ (1 : Int) = 0) = true from rfl, cond_true, copies_eq xs (d + 3) hκ hp, bV]
      obtain ⟨wn, rfl⟩ := Int.eq_ofNat_of_zero_le hw.1
      obtain ⟨kn, rfl⟩ := Int.eq_ofNat_of_zero_le hk.1
      obtain ⟨e1, e2, e3, e4, e5⟩ := hW wn (by omega)
      have hns := hst.2.1
      have hp2 := hp.setc (r := 302) (by decide) (cpn 60 (D 301) (D 302))
      have hst2 := hst.setc (r := 302) (g := cpn 60 (D 301) (D 302)) (by decide)
      obtain ⟨g', hg', hr⟩ := runOf_eq xs d hκ hp2 (v := v) (by rw [setc_ne (by decide)]; exact hv) hv2 hst2 (ord := ord) (fun k hk => by rw [setc_self, cpn_at (by omega)]; exact ho k hk) (set := on) (by omega) (by rw [setc_self, cpn_at (by decide)]; exact hon) e2 e3 (by rw [setc_ne (by decide)]; exact h0)
      rw [tkR_setc (by decide)] at hr
      have hwv := rby_wv (set := on) (tkR_all hst) (fun k hk => (ho k hk).2) ns 0 7 (W wn) (by omega) e2
      refine ⟨_, RSame.row (f := cpn 60 (D 301) (D 302)) hg', ?_⟩
      have n1 : ain κ 302 101 ((wn : Nat) : Int) = true := n_302 hκ (by omega) (by omega)
      simp only [k_256 hκ, bI, Bool.and_true, show ((256 : Int)).toNat = 256 from rfl, pr_64 hp2, n1, cond_true, show ((302 : Int)).toNat = 302 from rfl, Int.toNat_natCast, setc_self, cpn_at (show wn < 60 by omega), e1, hr, bJ]
      rw [shows_eq xs (d + 1) _ hwv.1 (Nat.le_trans hwv.2 e3) (show kn ≤ 8 by omega), if_pos (⟨hw, hk⟩ : (0 ≤ ((wn : Nat) : Int) ∧ ((wn : Nat) : Int) ≤ (nw : Int) - 1) ∧ 0 ≤ ((kn : Nat) : Int) ∧ ((kn : Nat) : Int) ≤ 8)]
      rfl
    · refine ⟨D, RSame.rfl' h0, ?_⟩
      simp only [if_neg hk, not_true_eq_false, decide_false, cond_false]
      rw [if_neg (fun q => hk q.2)]
  · refine ⟨D, RSame.rfl' h0, ?_⟩
    simp only [if_neg hw, decide_true, cond_true]
    rw [if_neg (fun q => hw q.1)]
