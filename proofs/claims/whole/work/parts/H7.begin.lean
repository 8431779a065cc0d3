/-! The reference reads: the tape is copied; a text begins. -/
theorem b_dec : ∀ k : Nat, k < 256 → oi2b ((k : Int) - 128) = (k : Int) - 128 := by decide +kernel
theorem oi2b_id {x : Int} (h0 : -128 ≤ x) (h1 : x ≤ 127) : oi2b x = x := by
  have := b_dec (x + 128).toNat (by omega)
  rw [show (((x + 128).toNat : Nat) : Int) - 128 = x by omega] at this
  exact this
theorem oi2b_rng (x : Int) : -128 ≤ oi2b x ∧ oi2b x ≤ 127 := by
  unfold oi2b
  rw [Int8.toInt_toInt32]
  have h1 := Int8.le_toInt (Int32.ofInt x).toInt8
  have h2 := Int8.toInt_lt (Int32.ofInt x).toInt8
  omega
theorem text_loop (xs : List Int) (d : Nat) {κ : aK} {D : Nat → Nat → Int} (hκ : Shp κ) (hp : PtrR D) {n : Nat} (hn : n ≤ 2000) (h4 : D 256 4 = (n : Int)) {f : Nat → Int} (hf : ∀ j, j < n → D 257 j = f j ∧ -128 ≤ f j ∧ f j ≤ 127) : ∀ (m i : Nat) (g : Nat → Int), i + m = n → (∀ j, j < i → g j = f j) → ∃ g' : Nat → Int, (∀ j, j < n → g' j = f j) ∧ ev xs d mm_204 10 [some (.inr (.inr 256)), some (.inl (i : Int))] [] (κ, setc D 258 g) = ev xs d mm_204 10 [some (.inr (.inr 256)), some (.inl (n : Int))] [] (κ, setc D 258 g')
  | 0, i, g, hi, hg => by
    have : i = n := by omega
    subst this
    exact ⟨g, hg, rfl⟩
  | m + 1, i, g, hi, hg => by
    have k256 := k_256 hκ
    have hp' := hp.setc (r := 258) (by decide) g
    have h4' : setc D 258 g 256 4 = (n : Int) := by rw [setc_ne (by decide)]; exact h4
    obtain ⟨q1, q2, q3⟩ := hf i (by omega)
    have h7 : setc D 258 g 257 i = f i := by rw [setc_ne (by decide)]; exact q1
    obtain ⟨g', e1, e2⟩ := text_loop xs d hκ hp hn h4 hf m (i + 1) (fun j => if j = i then f i else g j) (by omega) (fun j hj => by
      by_cases e : j = i
      · rw [if_pos e, e]
      · rw [if_neg e]; exact hg j (by omega))
    refine ⟨g', e1, ?_⟩
    rw [← e2, q_204_10]
    have b1 := oi2b_id q2 q3
    simp (disch := omega) only [cond_true, cond_false, k256, Int.toNat_natCast, Int.reduceToNat, dT, dF, pr_1 hp', pr_3 hp', n_257 hκ, n_258 hκ, h4', h7, b1, aup_setc, w_al]
theorem zero_loop (xs : List Int) (d : Nat) {κ : aK} {D : Nat → Nat → Int} (hκ : Shp κ) (hp : PtrR D) : ∀ (m i : Nat) (g : Nat → Int), i + m = 60 → (∀ j, j < i → g j = 0) → ∃ g' : Nat → Int, (∀ j, j < 60 → g' j = 0) ∧ ev xs d mm_227 2 [some (.inr (.inr 256)), some (.inl (i : Int))] [] (κ, setc D 302 g) = ev xs d mm_227 23 [some (.inr (.inr 256)), some (.inl 0)] [] (κ, setc D 302 g')
  | 0, i, g, hi, hg => by
    have : i = 60 := by omega
    subst this
    refine ⟨g, hg, ?_⟩
    rw [q_227_2]
    simp (disch := omega) only [cond_true, cond_false, dT, dF]
  | m + 1, i, g, hi, hg => by
    have k256 := k_256 hκ
    have hp' := hp.setc (r := 302) (by decide) g
    obtain ⟨g', e1, e2⟩ := zero_loop xs d hκ hp m (i + 1) (fun j => if j = i then 0 else g j) (by omega) (fun j hj => by
      by_cases e : j = i
      · rw [if_pos e]
      · rw [if_neg e]; exact hg j (by omega))
    refine ⟨g', e1, ?_⟩
    rw [← e2, q_227_2]
    simp (disch := omega) only [cond_true, cond_false, k256, Int.toNat_natCast, Int.reduceToNat, dT, dF, pr_64 hp', n_302 hκ, aup_setc, w_al]
theorem told_loop (xs : List Int) (d : Nat) {κ : aK} {D : Nat → Nat → Int} (hκ : Shp κ) (hp : PtrR D) {v : Nat} (hv : v < 2) (e18 : D 256 18 = (v : Int)) {nw : Nat} (hn : nw ≤ 10) (h277 : D 277 v = (nw : Int)) {W : Nat → Int} (hW : ∀ j, j < nw → D 278 (10 * v + j) = W j) : ∀ (m i : Nat) (g : Nat → Int), i + m = nw → (∀ j, j < i → g j = W j) → (∀ j, nw ≤ j → j < 60 → g j = 0) → ∃ g' : Nat → Int, (∀ j, j < nw → g' j = W j) ∧ (∀ j, nw ≤ j → j < 60 → g' j = 0) ∧ ev xs d mm_227 23 [some (.inr (.inr 256)), some (.inl (i : Int))] [] (κ, setc D 302 g) = ev xs d mm_227 64 [some (.inr (.inr 256)), some (.inl 0)] [] (κ, setc D 302 g')
  | 0, i, g, hi, hg, hz => by
    have : i = nw := by omega
    subst this
    refine ⟨g, hg, hz, ?_⟩
    have k256 := k_256 hκ
    have hp' := hp.setc (r := 302) (by decide) g
    have a1 : setc D 302 g 256 18 = (v : Int) := by rw [setc_ne (by decide)]; exact e18
    have a2 : setc D 302 g 277 v = (i : Int) := by rw [setc_ne (by decide)]; exact h277
    rw [q_227_23]
    simp (disch := omega) only [cond_true, cond_false, k256, Int.toNat_natCast, Int.reduceToNat, dT, dF, pr_33 hp', a1, n_277 hκ, a2]
  | m + 1, i, g, hi, hg, hz => by
    have k256 := k_256 hκ
    have hp' := hp.setc (r := 302) (by decide) g
    have a1 : setc D 302 g 256 18 = (v : Int) := by rw [setc_ne (by decide)]; exact e18
    have a2 : setc D 302 g 277 v = (nw : Int) := by rw [setc_ne (by decide)]; exact h277
    have a3 : setc D 302 g 278 (10 * v + i) = W i := by rw [setc_ne (by decide)]; exact hW i (by omega)
    obtain ⟨g', e0, e1, e2⟩ := told_loop xs d hκ hp hv e18 hn h277 hW m (i + 1) (fun j => if j = i then W i else g j) (by omega) (fun j hj => by
      by_cases e : j = i
      · rw [if_pos e, e]
      · rw [if_neg e]; exact hg j (by omega)) (fun j h1 h2 => by rw [if_neg (by omega)]; exact hz j h1 h2)
    refine ⟨g', e0, e1, ?_⟩
    rw [← e2, q_227_23]
    have ew : w32 (((10 * v : Nat) : Int) + (i : Int)) = ((10 * v + i : Nat) : Int) := by rw [w32_id (by omega) (by omega)]; omega
    simp (disch := omega) only [cond_true, cond_false, k256, Int.toNat_natCast, Int.reduceToNat, dT, dF, pr_33 hp', pr_34 hp', pr_64 hp', a1, n_277 hκ, a2, n_278 hκ, n_302 hκ, w_lm, ew, a3, aup_setc, w_al]
theorem ords_loop (xs : List Int) (d : Nat) {κ : aK} {D : Nat → Nat → Int} (hκ : Shp κ) (hp : PtrR D) {v : Nat} (hv : v < 2) (e18 : D 256 18 = (v : Int)) {ns : Nat} (hn : ns ≤ 7) (h267 : D 267 v = (ns : Int)) {G : Nat → Int} : ∀ (m i : Nat) (g : Nat → Int), i + m = 7 → (∀ j, j < i → g (45 + j) = (j : Int)) → (∀ j, j < 45 ∨ 52 ≤ j → g j = G j) → ∃ g' : Nat → Int, (∀ j, j < 7 → g' (45 + j) = (j : Int)) ∧ (∀ j, j < 45 ∨ 53 ≤ j → g' j = G j) ∧ g' 52 = ((2 ^ ns - 1 : Nat) : Int) ∧ ev xs d mm_227 64 [some (.inr (.inr 256)), some (.inl (i : Int))] [] (κ, setc D 302 g) = some (none, (κ, setc D 302 g'))
  | 0, i, g, hi, hg, hz => by
    have : i = 7 := by omega
    subst this
    refine ⟨fun j => if j = 52 then ((2 ^ ns - 1 : Nat) : Int) else g j, fun j hj => (if_neg (by omega)).trans (hg j hj), fun j hj => (if_neg (by omega)).trans (hz j (by omega)), if_pos rfl, ?_⟩
    have k256 := k_256 hκ
    have hp' := hp.setc (r := 302) (by decide) g
    have a1 : setc D 302 g 256 18 = (v : Int) := by rw [setc_ne (by decide)]; exact e18
    have a2 : setc D 302 g 267 v = (ns : Int) := by rw [setc_ne (by decide)]; exact h267
    have hpw : 2 ^ ns ≤ 1024 := pow7 (by omega)
    have hp0 : 0 < 2 ^ ns := Nat.pow_pos (by decide)
    have e1 : oshl 1 (ns : Int) = ((2 ^ ns : Nat) : Int) := oshl1 (by omega)
    have e2 : w32 (((2 ^ ns : Nat) : Int) - 1) = ((2 ^ ns - 1 : Nat) : Int) := by rw [w32_id (by omega) (by omega)]; omega
    rw [q_227_64]
    simp (disch := omega) only [cond_true, cond_false, k256, Int.toNat_natCast, Int.reduceToNat, dT, dF, pr_23 hp', pr_64 hp', a1, n_267 hκ, a2, n_302 hκ, e1, e2, aup_setc]
  | m + 1, i, g, hi, hg, hz => by
    have k256 := k_256 hκ
    have hp' := hp.setc (r := 302) (by decide) g
    obtain ⟨g', e0, e1, e2, e3⟩ := ords_loop xs d hκ hp hv e18 hn h267 (G := G) m (i + 1) (fun j => if j = 45 + i then (i : Int) else g j) (by omega) (fun j hj => by
      by_cases e : j = i
      · rw [if_pos (by omega), e]
      · rw [if_neg (by omega)]; exact hg j (by omega)) (fun j hj => by rw [if_neg (by omega)]; exact hz j hj)
    refine ⟨g', e0, e1, e2, ?_⟩
    rw [← e3, q_227_64]
    simp (disch := omega) only [cond_true, cond_false, k256, Int.toNat_natCast, Int.reduceToNat, dT, dF, pr_64 hp', n_302 hκ, w_la, aup_setc, w_al]
theorem rbeg_eq (xs : List Int) (d : Nat) {κ : aK} {D : Nat → Nat → Int} (hκ : Shp κ) (hp : PtrR D) {v : Nat} (hv : v < 2) (e18 : D 256 18 = (v : Int)) {X : TX} (hX : TXok X) (hx : TxV D v X) : ∃ r : Nat → Int, RowR r X (S0 X) ∧ cl xs (d + 1) 227 [.inr (.inr 256)] (κ, D) = some (none, (κ, setc D 302 r)) := by
  have x1 := hX.1.1
  have x2 := hX.2.1.1
  obtain ⟨g1, a1, a2⟩ := zero_loop xs d hκ hp 60 0 (D 302) rfl (fun j hj => absurd hj (Nat.not_lt_zero j))
  obtain ⟨g2, b0, b1, b2⟩ := told_loop xs d hκ hp hv e18 x2 hx.2.1.1 (W := fun j => (p27 (xWd X j) : Int)) hx.2.1.2 (xnw X) 0 g1 (by omega) (fun j hj => absurd hj (Nat.not_lt_zero j)) (fun j _ h2 => a1 j h2)
  obtain ⟨g3, c0, c1, c2, c3⟩ := ords_loop xs d hκ hp hv e18 x1 hx.1.1.1 (G := g2) 7 0 g2 rfl (fun j hj => absurd hj (Nat.not_lt_zero j)) (fun j _ => rfl)
  have z : ∀ j, xnw X ≤ j → j < 45 ∨ (53 ≤ j ∧ j < 60) → g3 j = 0 := fun j h1 h2 => by rw [c1 j (by omega)]; exact b1 j h1 (by omega)
  refine ⟨g3, ⟨fun w hw => by rw [c1 w (by omega)]; exact b0 w hw, fun w hw => z _ (by omega) (by omega), fun i hi => z _ (by omega) (by omega), z _ (by omega) (by omega), fun k hk => c0 k (by omega), c2, ?_, ?_, ?_, ?_⟩, ?_⟩
  · rw [z 53 (by omega) (by omega)]; show w32 0 = 0; decide
  · rw [z 54 (by omega) (by omega)]; show w32 0 = 0; decide
  · rw [z 55 (by omega) (by omega)]; show w32 0 = 0; decide
  · rw [z 56 (by omega) (by omega)]
    show (0 : Int) = ((cntF (fun _ => 0) 1 (xnw X) : Nat) : Int)
    rw [cnt0]; rfl
  · rw [c_227, ← c3]
    refine Eq.trans ?_ b2
    refine Eq.trans ?_ a2
    rw [setc_id]; rfl
