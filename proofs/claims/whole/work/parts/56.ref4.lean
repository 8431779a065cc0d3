/-! The reference: runBy, runOf; word, run, stage. -/
def ordR (D : Nat → Nat → Int) (c n : Nat) (ord : Nat → Nat) : Prop := ∀ k, k < n → D c (45 + k) = (ord k : Int) ∧ ord k < n
set_option maxHeartbeats 4000000 in
theorem runBy_loop (xs : List Int) (d : Nat) {κ : aK} {D : Nat → Nat → Int} (hκ : Shp κ) (hp : PtrR D) {v ns : Nat} {F T : Nat → Nat} (hv : D 256 18 = (v : Int)) (hv2 : v < 2) (hst : stAll D v ns F T) {ord : Nat → Nat} (ho : ordR D 302 ns ord) {set most : Nat} (hset : set < 2147483648) (hmost : most ≤ 100) (v1 : Int) :
    ∀ (m k c n : Nat) (w : List Nat) (g : Nat → Int) (u2 u6 u9 : Option aV), k + m = ns → n + c = most → wv w → w.length ≤ 8 → g 0 = 0 →
    ∃ g' : Nat → Int, g' 0 = 0 ∧ ev xs (d + 2) mm_240 9 [some (.inr (.inr 256)), some (.inr (.inl v1)), u2, some (.inl (set : Int)), some (.inl (most : Int)), some (.inr (.inl (p27 w : Int))), u6, some (.inl (n : Int)), some (.inl (k : Int)), u9] [] (κ, setc D 303 g) = some (some (.inr (.inl (p27 (rby (tkR D v F T) ord set m k c w) : Int))), (κ, setc D 303 g')) := by
  intro m
  induction m with
  | zero =>
    intro k c n w g u2 u6 u9 hk hc hw hwl hg
    refine ⟨g, hg, ?_⟩
    have hp' := hp.setc (r := 303) (by decide) g
    have n1 : ain κ 267 100 (v : Int) = true := n_267 hκ (by omega) (by omega)
    rw [q_240_9]
    simp only [cond_true, k_256 hκ, show ((256 : Int)).toNat = 256 from rfl, pr_23 hp', show setc D 303 g 256 18 = (v : Int) from by rw [setc_ne (by decide)]; exact hv, n1, show ((267 : Int)).toNat = 267 from rfl, Int.toNat_natCast, show setc D 303 g 267 v = (ns : Int) from by rw [setc_ne (by decide)]; exact hst.1, show decide ((ns : Int) ≤ (k : Int)) = true from decide_eq_true (by omega)]
    rfl
  | succ m ih =>
    intro k c n w g u2 u6 u9 hk hc hw hwl hg
    have hp' := hp.setc (r := 303) (by decide) g
    have n1 : ain κ 267 100 (v : Int) = true := n_267 hκ (by omega) (by omega)
    have hns := hst.2.1
    obtain ⟨ho1, ho2⟩ := ho k (by omega)
    have e1 : w32 (45 + (k : Int)) = ((45 + k : Nat) : Int) := by rw [w32_id (by omega) (by omega)]; omega
    have n2 : ain κ 302 101 ((45 + k : Nat) : Int) = true := n_302 hκ (by omega) (by omega)
    have e2 : ol2i (ord k : Int) = (ord k : Int) := ol2i_id (by omega) (by omega)
    have e3 : w32 ((k : Int) + 1) = ((k + 1 : Nat) : Int) := by rw [w32_id (by omega) (by omega)]; omega
    have hbit := obit (s := ord k) hset (by omega)
    cases c with
    | zero =>
      refine ⟨g, hg, ?_⟩
      rw [q_240_9]
      simp only [cond_true, k_256 hκ, show ((256 : Int)).toNat = 256 from rfl, pr_23 hp', show setc D 303 g 256 18 = (v : Int) from by rw [setc_ne (by decide)]; exact hv, n1, show ((267 : Int)).toNat = 267 from rfl, Int.toNat_natCast, show setc D 303 g 267 v = (ns : Int) from by rw [setc_ne (by decide)]; exact hst.1, show decide ((ns : Int) ≤ (k : Int)) = false from decide_eq_false (by omega), cond_false, show decide ((most : Int) ≤ (n : Int)) = true from decide_eq_true (by omega)]
      rfl
    | succ c =>
      by_cases hz : set / 2 ^ ord k % 2 = 0
      · obtain ⟨g', hg', hih⟩ := ih (k + 1) (c + 1) n w g u2 u6 (some (.inl (ord k : Int))) (by omega) hc hw hwl hg
        refine ⟨g', hg', ?_⟩
        rw [q_240_9]
        simp only [cond_true, k_256 hκ, show ((256 : Int)).toNat = 256 from rfl, pr_23 hp', show setc D 303 g 256 18 = (v : Int) from by rw [setc_ne (by decide)]; exact hv, n1, show ((267 : Int)).toNat = 267 from rfl, Int.toNat_natCast, show setc D 303 g 267 v = (ns : Int) from by rw [setc_ne (by decide)]; exact hst.1, show decide ((ns : Int) ≤ (k : Int)) = false from decide_eq_false (by omega), cond_false, show decide ((most : Int) ≤ (n : Int)) = false from decide_eq_false (by omega), pr_64 hp', e1, n2, show ((302 : Int)).toNat = 302 from rfl, show setc D 303 g 302 (45 + k) = (ord k : Int) from by rw [setc_ne (by decide)]; exact ho1, e2, hbit, hz, e3]
        rw [show rby (tkR D v F T) ord set (m + 1) k (c + 1) w = rby (tkR D v F T) ord set m (k + 1) (c + 1) w from by simp only [rby, hz, if_true]]
        exact hih
      · have h1 : set / 2 ^ ord k % 2 = 1 := by omega
        have hst' := hst.setc (r := 303) (g := g) (by decide)
        obtain ⟨g1, hg1, htk⟩ := takenBy_eq xs d hκ hp' (v := v) (by rw [setc_ne (by decide)]; exact hv) hv2 hwl hw (by rw [setc_self]; exact hg) (s := ord k) (by omega) (hst'.2.2 (ord k) ho2)
        have hwv2 := tkR_wv hst ho2 hw
        have etk : stk (F (ord k)) (T (ord k)) (rA (setc D 303 g) (7 * v + ord k)) (rB (setc D 303 g) (7 * v + ord k)) 0 w = tkR D v F T (ord k) w := by
          rw [← tkR_setc (D := D) (r := 303) (g := g) (by decide)]
          rfl
        rw [etk, setc_setc] at htk
        obtain ⟨g', hg', hih⟩ := ih (k + 1) c (n + 1) (tkR D v F T (ord k) w) g1 u2 none (some (.inl (ord k : Int))) (by omega) (by omega) hwv2.1 (by omega) hg1
        refine ⟨g', hg', ?_⟩
        rw [q_240_9]
        simp only [cond_true, k_256 hκ, show ((256 : Int)).toNat = 256 from rfl, pr_23 hp', show setc D 303 g 256 18 = (v : Int) from by rw [setc_ne (by decide)]; exact hv, n1, show ((267 : Int)).toNat = 267 from rfl, Int.toNat_natCast, show setc D 303 g 267 v = (ns : Int) from by rw [setc_ne (by decide)]; exact hst.1, show decide ((ns : Int) ≤ (k : Int)) = false from decide_eq_false (by omega), cond_false, show decide ((most : Int) ≤ (n : Int)) = false from decide_eq_false (by omega), pr_64 hp', e1, n2, show ((302 : Int)).toNat = 302 from rfl, show setc D 303 g 302 (45 + k) = (ord k : Int) from by rw [setc_ne (by decide)]; exact ho1, e2, hbit, h1, e3, show decide (¬ ((1 : Nat) : Int) = 0) = true from rfl, Bool.and_true, htk, bJ, show w32 ((n : Int) + 1) = ((n + 1 : Nat) : Int) from by rw [w32_id (by omega) (by omega)]; omega]
        rw [show rby (tkR D v F T) ord set (m + 1) k (c + 1) w = rby (tkR D v F T) ord set m (k + 1) c (tkR D v F T (ord k) w) from by simp only [rby, hz, if_false]]
        exact hih
theorem runBy_eq (xs : List Int) (d : Nat) {κ : aK} {D : Nat → Nat → Int} (hκ : Shp κ) (hp : PtrR D) {v ns : Nat} {F T : Nat → Nat} (hv : D 256 18 = (v : Int)) (hv2 : v < 2) (hst : stAll D v ns F T) {ord : Nat → Nat} (ho : ordR D 302 ns ord) {set most : Nat} (hset : set < 2147483648) (hmost : most ≤ 100) {w : List Nat} (hw : wv w) (hwl : w.length ≤ 8) (h0 : D 303 0 = 0) :
    ∃ g' : Nat → Int, g' 0 = 0 ∧ cl xs (d + 3) 240 [.inr (.inr 256), .inr (.inl (p27 w : Int)), .inl (set : Int), .inl (most : Int)] (κ, D) = some (some (.inr (.inl (p27 (rby (tkR D v F T) ord set ns 0 most w) : Int))), (κ, setc D 303 g')) := by
  obtain ⟨g', hg', hr⟩ := runBy_loop xs d hκ hp hv hv2 hst ho hset hmost (p27 w : Int) ns 0 most 0 w (D 303) none none none (by omega) (by omega) hw hwl h0
  rw [setc_id] at hr
  exact ⟨g', hg', by rw [c_240]; exact hr⟩
theorem rby_wv {tk : Nat → List Nat → List Nat} {ord : Nat → Nat} {set ns : Nat} (htk : ∀ s, s < ns → ∀ l, wv l → wv (tk s l) ∧ (tk s l).length ≤ l.length) (ho : ∀ k, k < ns → ord k < ns) : ∀ (m k c : Nat) (w : List Nat), k + m = ns → wv w → wv (rby tk ord set m k c w) ∧ (rby tk ord set m k c w).length ≤ w.length
  | 0, _, _, w, _, hw => ⟨hw, Nat.le_refl _⟩
  | m + 1, k, 0, w, _, hw => ⟨hw, Nat.le_refl _⟩
  | m + 1, k, c + 1, w, hk, hw => by
    unfold rby
    split
    · exact rby_wv htk ho m (k + 1) (c + 1) w (by omega) hw
    · have h1 := htk (ord k) (ho k (by omega)) w hw
      have h2 := rby_wv (set := set) htk ho m (k + 1) c (tk (ord k) w) (by omega) h1.1
      exact ⟨h2.1, Nat.le_trans h2.2 h1.2⟩
/-- runOf: the set is the row's -/
theorem runOf_eq (xs : List Int) (d : Nat) {κ : aK} {D : Nat → Nat → Int} (hκ : Shp κ) (hp : PtrR D) {v ns : Nat} {F T : Nat → Nat} (hv : D 256 18 = (v : Int)) (hv2 : v < 2) (hst : stAll D v ns F T) {ord : Nat → Nat} (ho : ordR D 302 ns ord) {set : Nat} (hset : set < 2147483648) (hon : D 302 52 = (set : Int)) {w : List Nat} (hw : wv w) (hwl : w.length ≤ 8) (h0 : D 303 0 = 0) :
    ∃ g' : Nat → Int, g' 0 = 0 ∧ cl xs (d + 4) 241 [.inr (.inr 256), .inr (.inl (p27 w : Int))] (κ, D) = some (some (.inr (.inl (p27 (rby (tkR D v F T) ord set ns 0 7 w) : Int))), (κ, setc D 303 g')) := by
  obtain ⟨g', hg', hr⟩ := runBy_eq xs d hκ hp hv hv2 hst ho hset (show 7 ≤ 100 by decide) hw hwl h0
  refine ⟨g', hg', ?_⟩
  have n1 : ain κ 302 101 52 = true := n_302 hκ (by decide) (by decide)
  rw [c_241]
  simp only [cond_true, k_256 hκ, show ((256 : Int)).toNat = 256 from rfl, pr_64 hp, n1, show ((302 : Int)).toNat = 302 from rfl, show ((52 : Int)).toNat = 52 from rfl, hon, ol2i_id (x := (set : Int)) (by omega) (by omega), Bool.and_true]
  rw [show (7 : Int) = ((7 : Nat) : Int) from rfl, hr]
  rfl
