/-! Orders: arrive (25). -/
def OrX (κ : aK) (D : Nat → Nat → Int) (X : TX) (V : List Nat → VV) (ps : Nat → Nat) (B : Nat → List (List Nat)) (R m : Nat) (ow : Nat → Nat) (vv : Nat → VV) : Prop := ∃ (a b c e g : Nat) (wy fi sp : Nat → Nat), OrK κ a b c e g R ∧ OrH D X a b c e g m ow vv wy fi sp ∧ m ≤ R ∧ RepE V ps B m ow vv wy fi sp
def OrFr (D D' : Nat → Nat → Int) : Prop := (∀ q, q < 77 ∨ (77 < q ∧ q < 81) ∨ q = 82 ∨ q = 83 ∨ (88 < q ∧ q < 315) → D' q = D q) ∧ (∀ j, j < 7 → D' 77 j = D 77 j)
theorem OrFr.rfl' (D : Nat → Nat → Int) : OrFr D D := ⟨fun _ _ => rfl, fun _ _ => rfl⟩
theorem OrFr.trans {D D1 D2 : Nat → Nat → Int} (h1 : OrFr D D1) (h2 : OrFr D1 D2) : OrFr D D2 := ⟨fun q hq => (h2.1 q hq).trans (h1.1 q hq), fun j hj => (h2.2 j hj).trans (h1.2 j hj)⟩
theorem aup_r (D : Nat → Nat → Int) (r k : Nat) (v : Int) (j : Nat) : aup D r k v r j = if j = k then v else D r j := by simp [aup]
set_option maxRecDepth 100000 in
theorem ppl_77 : (∀ p ∈ ppl, p.1 = 77 → 1 ≤ p.2.1 ∧ p.2.1 ≤ 6) ∧ ∀ p ∈ ppl, p.1 < 78 ∨ 88 < p.1 := by decide
theorem ptr_or {D D' : Nat → Nat → Int} (hc : CPtr D) (h1 : ∀ q, q < 77 ∨ (88 < q ∧ q < 315) → D' q = D q) (h2 : ∀ j, 1 ≤ j → j ≤ 6 → D' 77 j = D 77 j) : CPtr D' := by
  refine hc.congr (fun r k hr => ?_)
  have hlt := ptrd_lt hr
  unfold ptrd at hr
  rw [List.any_eq_true] at hr
  obtain ⟨p, hp, hq⟩ := hr
  rw [Bool.and_eq_true] at hq
  have e1 := Nat.eq_of_beq_eq_true hq.1
  have e2 := Nat.eq_of_beq_eq_true hq.2
  have y1 := ppl_77.1 p hp
  have y2 := ppl_77.2 p hp
  by_cases h77 : r = 77
  · subst h77
    have := y1 e1
    exact h2 k (by omega) (by omega)
  · rw [h1 r (by omega)]
theorem OrFr.ptr {D D' : Nat → Nat → Int} (h : OrFr D D') (hc : CPtr D) : CPtr D' := ptr_or hc (fun q hq => h.1 q (by omega)) (fun j _ _ => h.2 j (by omega))
theorem OrFr.tx {D D' : Nat → Nat → Int} (h : OrFr D D') {t : Nat} {X : TX} (ht : isT t) (hx : TxC D t X) : TxC D' t X := by
  have ht' : t = 9 ∨ t = 31 := ht
  exact hx.congr (fun q h1 h2 => h.1 q (by omega))
theorem upN_i (f : Nat → Nat) (k x j : Nat) : ((upN f k x j : Nat) : Int) = if j = k then (x : Int) else (f j : Int) := by
  unfold upN
  split <;> rfl
theorem orh_old {D : Nat → Nat → Int} {X : TX} {κ : aK} {a b c e g R m : Nat} (hK : OrK κ a b c e g R) {ow : Nat → Nat} {vv : Nat → VV} {wy fi sp : Nat → Nat} (hH : OrH D X a b c e g m ow vv wy fi sp) (i A O W : Nat) : OrH (aup (aup (aup D b i (A : Int)) c i (O : Int)) e i (W : Int)) X a b c e g m ow vv (upN wy i A) (upN fi i O) (upN sp i W) ∧ OrFr D (aup (aup (aup D b i (A : Int)) c i (O : Int)) e i (W : Int)) := by
  obtain ⟨⟨f1, f2, f3, f4, f5, f6⟩, h81, hE⟩ := hH
  obtain ⟨_, ⟨o1, o2, o3, o4, o5⟩, ⟨d1, d2, d3, d4, d5, d6, d7, d8, d9, d10⟩, r1, r2⟩ := hK
  unfold okc at o1 o2 o3 o4 o5
  generalize hD1 : aup (aup (aup D b i (A : Int)) c i (O : Int)) e i (W : Int) = D1
  have go : ∀ q, q ≠ b → q ≠ c → q ≠ e → D1 q = D q := fun q y1 y2 y3 => by rw [← hD1, aupN y3, aupN y2, aupN y1]
  have g77 := go 77 (by omega) (by omega) (by omega)
  refine ⟨⟨?_, fun s hs => ?_, fun j hj => ?_⟩, fun q hq => go q (by omega) (by omega) (by omega), fun j _ => by rw [g77]⟩
  · unfold OrF
    rw [g77]
    exact ⟨f1, f2, f3, f4, f5, f6⟩
  · rw [go 81 (by omega) (by omega) (by omega)]
    exact h81 s hs
  · obtain ⟨e1, e2, e3, e4, e5, e6⟩ := hE j hj
    refine ⟨?_, ?_, ?_, ?_, fun p hp => ?_, e6⟩
    · rw [go a (by omega) (by omega) (by omega)]; exact e1
    · rw [← hD1, aupN (by omega), aupN (by omega), aup_r, upN_i, e2]
    · rw [← hD1, aupN (by omega), aup_r, upN_i, aupN (by omega), e3]
    · rw [← hD1, aup_r, upN_i, aupN (by omega), aupN (by omega), e4]
    · rw [go g (by omega) (by omega) (by omega)]; exact e5 p hp
theorem orh_new {D : Nat → Nat → Int} {X : TX} (hX : TXok X) {κ : aK} {a b c e g R m : Nat} (hK : OrK κ a b c e g R) {ow : Nat → Nat} {vv : Nat → VV} {wy fi sp : Nat → Nat} (hH : OrH D X a b c e g m ow vv wy fi sp) {v : VV} (hf : frC D X v) (s A O W : Nat) (hs : s < 128) : ∃ D', aup (aup (aup (aup (aup (aup (setc D g (acpy (D 83) (D g) 0 (m * 8) 8)) b m (A : Int)) c m (O : Int)) e m (W : Int)) a m (D 81 s)) 81 s (m : Int)) 77 7 ((m + 1 : Nat) : Int) = D' ∧ OrH D' X a b c e g (m + 1) (upN ow m s) (upV vv m v) (upN wy m A) (upN fi m O) (upN sp m W) ∧ OrFr D D' := by
  obtain ⟨⟨f1, f2, f3, f4, f5, f6⟩, h81, hE⟩ := hH
  obtain ⟨_, ⟨o1, o2, o3, o4, o5⟩, ⟨d1, d2, d3, d4, d5, d6, d7, d8, d9, d10⟩, r1, r2⟩ := hK
  have x8 := hX.2.2.2.1.1
  unfold okc at o1 o2 o3 o4 o5
  refine ⟨_, rfl, ?_⟩
  generalize hD1 : aup (aup (aup (aup (aup (aup (setc D g (acpy (D 83) (D g) 0 (m * 8) 8)) b m (A : Int)) c m (O : Int)) e m (W : Int)) a m (D 81 s)) 81 s (m : Int)) 77 7 ((m + 1 : Nat) : Int) = D1
  have go : ∀ q, q ≠ a → q ≠ b → q ≠ c → q ≠ e → q ≠ g → q ≠ 81 → q ≠ 77 → D1 q = D q := fun q y0 y1 y2 y3 y4 y5 y6 => by rw [← hD1, aupN y6, aupN y5, aupN y0, aupN y3, aupN y2, aupN y1, setc_ne y4]
  have g77 : ∀ j, j ≠ 7 → D1 77 j = D 77 j := fun j hj => by rw [← hD1, aupJ hj, aupN (by omega), aupN (by omega), aupN (by omega), aupN (by omega), aupN (by omega), setc_ne (by omega)]
  have g7 : D1 77 7 = ((m + 1 : Nat) : Int) := by rw [← hD1, aupE]
  have g81 : ∀ j, D1 81 j = if j = s then (m : Int) else D 81 j := fun j => by rw [← hD1, aupN (by omega), aup_r, aupN (by omega), aupN (by omega), aupN (by omega), aupN (by omega), setc_ne (by omega)]
  have ga : ∀ j, D1 a j = if j = m then D 81 s else D a j := fun j => by rw [← hD1, aupN (by omega), aupN (by omega), aup_r, aupN (by omega), aupN (by omega), aupN (by omega), setc_ne (by omega)]
  have gb : ∀ j, D1 b j = if j = m then (A : Int) else D b j := fun j => by rw [← hD1, aupN (by omega), aupN (by omega), aupN (by omega), aupN (by omega), aupN (by omega), aup_r, setc_ne (by omega)]
  have gc : ∀ j, D1 c j = if j = m then (O : Int) else D c j := fun j => by rw [← hD1, aupN (by omega), aupN (by omega), aupN (by omega), aupN (by omega), aup_r, aupN (by omega), setc_ne (by omega)]
  have ge : ∀ j, D1 e j = if j = m then (W : Int) else D e j := fun j => by rw [← hD1, aupN (by omega), aupN (by omega), aupN (by omega), aup_r, aupN (by omega), aupN (by omega), setc_ne (by omega)]
  have gg : D1 g = acpy (D 83) (D g) 0 (m * 8) 8 := by rw [← hD1, aupN (by omega), aupN (by omega), aupN (by omega), aupN (by omega), aupN (by omega), aupN (by omega), setc_self]
  refine ⟨⟨?_, fun s' hs' => ?_, fun j hj => ?_⟩, fun q hq => go q (by omega) (by omega) (by omega) (by omega) (by omega) (by omega) (by omega), fun j hj => g77 j (by omega)⟩
  · unfold OrF
    rw [g7, g77 8 (by decide), g77 9 (by decide), g77 10 (by decide), g77 11 (by decide), g77 12 (by decide)]
    exact ⟨rfl, f2, f3, f4, f5, f6⟩
  · rw [g81, prv_top]
    by_cases h : s' = s
    · rw [if_pos h, if_pos h.symm]
    · rw [if_neg h, if_neg (fun q => h q.symm)]
      exact h81 s' hs'
  · by_cases h : j = m
    · subst h
      rw [upN_e, upV_e, upN_e, upN_e, upN_e, prv_up ow j s s j (by omega)]
      refine ⟨?_, ?_, ?_, ?_, fun p hp => ?_, hf.1⟩
      · rw [ga, if_pos rfl]; exact h81 s hs
      · rw [gb, if_pos rfl]
      · rw [gc, if_pos rfl]
      · rw [ge, if_pos rfl]
      · rw [gg, acpy_in (by omega) (by omega), show 0 + (j * 8 + p - j * 8) = p by omega]
        exact hf.2 p hp
    · obtain ⟨e1, e2, e3, e4, e5, e6⟩ := hE j (by omega)
      rw [upN_n h, upV_n h, upN_n h, upN_n h, upN_n h, prv_up ow m s (ow j) j (by omega)]
      refine ⟨?_, ?_, ?_, ?_, fun p hp => ?_, e6⟩
      · rw [ga, if_neg h]; exact e1
      · rw [gb, if_neg h]; exact e2
      · rw [gc, if_neg h]; exact e3
      · rw [ge, if_neg h]; exact e4
      · rw [gg, acpy_out (by omega)]
        exact e5 p hp
theorem orh_move {D D' : Nat → Nat → Int} {X : TX} (hX : TXok X) {a b c e g a' b' c' e' g' m : Nat} {ow : Nat → Nat} {vv : Nat → VV} {wy fi sp : Nat → Nat} (hH : OrH D X a b c e g m ow vv wy fi sp) (hF : OrF D' a' b' c' e' g' m) (h1 : ∀ i, i < m → D' a' i = D a i ∧ D' b' i = D b i ∧ D' c' i = D c i ∧ D' e' i = D e i) (h2 : ∀ i, i < m * 8 → D' g' i = D g i) (h81 : D' 81 = D 81) : OrH D' X a' b' c' e' g' m ow vv wy fi sp := by
  have x8 := hX.2.2.2.1.1
  refine ⟨hF, fun s hs => by rw [h81]; exact hH.2.1 s hs, fun i hi => ?_⟩
  obtain ⟨e1, e2, e3, e4, e5, e6⟩ := hH.2.2 i hi
  obtain ⟨y1, y2, y3, y4⟩ := h1 i hi
  exact ⟨y1.trans e1, y2.trans e2, y3.trans e3, y4.trans e4, fun p hp => (h2 (i * 8 + p) (by omega)).trans (e5 p hp), e6⟩
theorem sumN_mem {f : Nat → Nat} : ∀ {n k : Nat}, k < n → f k ≤ sumN f n
  | 0, _, h => absurd h (by omega)
  | n + 1, k, h => by
    show f k ≤ sumN f n + f n
    by_cases hk : k = n
    · subst hk; omega
    · have := sumN_mem (f := f) (n := n) (k := k) (by omega)
      omega
theorem rep_wy {V : List Nat → VV} {ps : Nat → Nat} {B : Nat → List (List Nat)} {m : Nat} {ow : Nat → Nat} {vv : Nat → VV} {wy fi sp : Nat → Nat} (h : RepE V ps B m ow vv wy fi sp) {i : Nat} (hi : i < m) : wy i ≤ sumN (fun s => (B s).length) 128 := by
  obtain ⟨h0, _, h1, _⟩ := h.1 i hi
  rw [h1]
  refine Nat.le_trans (List.length_filter_le _ _) ?_
  exact sumN_mem (f := fun s => (B s).length) h0
theorem arr_new (xs : List Int) (d : Nat) {κ κ1 : aK} {D D1 : Nat → Nat → Int} (hκ : Shp κ) (hκ1 : Shp κ1) {a b c e g R m : Nat} (hK : OrK κ1 a b c e g R) (hF : OrF D1 a b c e g m) (hm : m < R) (p6 : D1 77 6 = ((83 : Nat) : Int)) (p4 : D1 77 4 = ((81 : Nat) : Int)) {s A O W : Nat} (hs : s < 128) (hmx : m < 13700) (m1 : cl xs (d + 2) 27 [.inr (.inr ((77 : Nat) : Int))] (κ, D) = some (none, (κ1, D1))) {v1 v6 v7 : Int} : ev xs (d + 2) mm_25 109 [some (.inr (.inr ((77 : Nat) : Int))), some (.inr (.inr v1)), some (.inl (s : Int)), some (.inl (A : Int)), some (.inl (O : Int)), some (.inl (W : Int)), some (.inl v6), some (.inl v7)] [] (κ, D) = some (none, (κ1, aup (aup (aup (aup (aup (aup (setc D1 g (acpy (D1 83) (D1 g) 0 (m * 8) 8)) b m (A : Int)) c m (O : Int)) e m (W : Int)) a m (D1 81 s)) 81 s (m : Int)) 77 7 ((m + 1 : Nat) : Int))) := by
  have k77 := kc_77 hκ
  have k77' := kc_77 hκ1
  have ak83 := kc_83 hκ1
  have al83 : aln κ1 ((83 : Nat) : Int) = 8 := aln_s hκ1 83 (by decide) rfl
  have c81 : ain κ1 ((81 : Nat) : Int) 100 (s : Int) = true := nc_81 hκ1 (by omega) (by omega)
  obtain ⟨f1, f2, f3, f4, f5, f6⟩ := hF
  have va : ain κ1 ((a : Nat) : Int) 100 (m : Int) = true := ok_a hK (by omega) (by omega)
  have vb : ain κ1 ((b : Nat) : Int) 100 (m : Int) = true := ok_b hK (by omega) (by omega)
  have vc : ain κ1 ((c : Nat) : Int) 100 (m : Int) = true := ok_c hK (by omega) (by omega)
  have ve : ain κ1 ((e : Nat) : Int) 100 (m : Int) = true := ok_e hK (by omega) (by omega)
  obtain ⟨⟨ka, kb, kc, ke, kg⟩, ⟨o1, o2, o3, o4, o5⟩, ⟨d1, d2, d3, d4, d5, d6, d7, d8, d9, d10⟩, rr1, rr2⟩ := hK
  have akg : aok κ1 ((g : Nat) : Int) 101 = true := aok_t g rfl kg.1 kg.2
  have alg : aln κ1 ((g : Nat) : Int) = R * 8 := aln_g kg.2
  have em : w32 ((m : Int) * 8) = ((m * 8 : Nat) : Int) := by rw [w32_id (by omega) (by omega)]; omega
  have em1 : w32 ((m : Int) + 1) = ((m + 1 : Nat) : Int) := by rw [w32_id (by omega) (by omega)]; omega
  have ua : ∀ (E : Nat → Nat → Int) (k : Nat) (v : Int), aup E a k v 77 = E 77 ∧ aup E a k v 81 = E 81 := fun E k v => ⟨aupN (by unfold okc at o1; clear d1 d2 d3 d4 d5 d6 d7 d8 d9 d10 o2 o3 o4 o5; omega), aupN (by unfold okc at o1; clear d1 d2 d3 d4 d5 d6 d7 d8 d9 d10 o2 o3 o4 o5; omega)⟩
  have ub : ∀ (E : Nat → Nat → Int) (k : Nat) (v : Int), aup E b k v 77 = E 77 ∧ aup E b k v 81 = E 81 := fun E k v => ⟨aupN (by unfold okc at o2; clear d1 d2 d3 d4 d5 d6 d7 d8 d9 d10 o1 o3 o4 o5; omega), aupN (by unfold okc at o2; clear d1 d2 d3 d4 d5 d6 d7 d8 d9 d10 o1 o3 o4 o5; omega)⟩
  have uc : ∀ (E : Nat → Nat → Int) (k : Nat) (v : Int), aup E c k v 77 = E 77 ∧ aup E c k v 81 = E 81 := fun E k v => ⟨aupN (by unfold okc at o3; clear d1 d2 d3 d4 d5 d6 d7 d8 d9 d10 o1 o2 o4 o5; omega), aupN (by unfold okc at o3; clear d1 d2 d3 d4 d5 d6 d7 d8 d9 d10 o1 o2 o4 o5; omega)⟩
  have ue : ∀ (E : Nat → Nat → Int) (k : Nat) (v : Int), aup E e k v 77 = E 77 ∧ aup E e k v 81 = E 81 := fun E k v => ⟨aupN (by unfold okc at o4; clear d1 d2 d3 d4 d5 d6 d7 d8 d9 d10 o1 o2 o3 o5; omega), aupN (by unfold okc at o4; clear d1 d2 d3 d4 d5 d6 d7 d8 d9 d10 o1 o2 o3 o5; omega)⟩
  have ug : ∀ (f : Nat → Int), setc D1 g f 77 = D1 77 ∧ setc D1 g f 81 = D1 81 := fun f => ⟨setc_ne (by unfold okc at o5; clear d1 d2 d3 d4 d5 d6 d7 d8 d9 d10 o1 o2 o3 o4; omega), setc_ne (by unfold okc at o5; clear d1 d2 d3 d4 d5 d6 d7 d8 d9 d10 o1 o2 o3 o4; omega)⟩
  have u8 : ∀ (E : Nat → Nat → Int) (k : Nat) (v : Int), aup E 81 k v 77 = E 77 := fun E k v => aupN (by decide)
  have ig : ∀ (x y : Int), (if (77 : Nat) = g then x else y) = y := fun x y => if_neg (by unfold okc at o5; clear d1 d2 d3 d4 d5 d6 d7 d8 d9 d10 o1 o2 o3 o4; omega)
  clear d1 d2 d3 d4 d5 d6 d7 d8 d9 d10 o1 o2 o3 o4 o5 ka kb kc ke kg
  have z1 : decide ((0 : Int) ≤ ((m * 8 : Nat) : Int)) = true := decide_eq_true (by omega)
  have z2 : decide (m * 8 + 8 ≤ R * 8) = true := decide_eq_true (by omega)
  rw [q_25_109]
  simp only [cond_true, Bool.and_true, Bool.true_and, Int.toNat_natCast, Int.reduceToNat, bV_s, decide_true, k77, m1, k77', p6, p4, f1, f2, f3, f4, f5, f6, em, em1, ak83, al83, akg, alg, z1, z2, setc_fold, ig, va, vb, vc, ve, c81, u8, (ua _ _ _).1, (ub _ _ _).1, (uc _ _ _).1, (ue _ _ _).1, (ug _).1, (ua _ _ _).2, (ub _ _ _).2, (uc _ _ _).2, (ue _ _ _).2, (ug _).2, Nat.le_refl, Int.le_refl, Nat.zero_add, Nat.reduceAdd, Nat.reduceLeDiff, Int.reduceLE, decide_eq_true_eq]
  rw [q_25_155]
  simp only [cond_true, Bool.and_true, Bool.true_and, Int.toNat_natCast, Int.reduceToNat, bV_s, decide_true, k77, m1, k77', p6, p4, f1, f2, f3, f4, f5, f6, em, em1, ak83, al83, akg, alg, z1, z2, setc_fold, ig, va, vb, vc, ve, c81, u8, (ua _ _ _).1, (ub _ _ _).1, (uc _ _ _).1, (ue _ _ _).1, (ug _).1, (ua _ _ _).2, (ub _ _ _).2, (uc _ _ _).2, (ue _ _ _).2, (ug _).2, Nat.le_refl, Int.le_refl, Nat.zero_add, Nat.reduceAdd, Nat.reduceLeDiff, Int.reduceLE, decide_eq_true_eq]
  rw [q_25_191]
  simp only [cond_true, Bool.and_true, Bool.true_and, Int.toNat_natCast, Int.reduceToNat, bV_s, decide_true, k77, m1, k77', p6, p4, f1, f2, f3, f4, f5, f6, em, em1, ak83, al83, akg, alg, z1, z2, setc_fold, ig, va, vb, vc, ve, c81, u8, (ua _ _ _).1, (ub _ _ _).1, (uc _ _ _).1, (ue _ _ _).1, (ug _).1, (ua _ _ _).2, (ub _ _ _).2, (uc _ _ _).2, (ue _ _ _).2, (ug _).2, Nat.le_refl, Int.le_refl, Nat.zero_add, Nat.reduceAdd, Nat.reduceLeDiff, Int.reduceLE, decide_eq_true_eq]
theorem arrive_eq (xs : List Int) (d : Nat) {κ : aK} {D : Nat → Nat → Int} (hκ : Shp κ) (hc : CPtr D) {t : Nat} (ht : isT t) (h5 : D 0 5 = (t : Int)) {X : TX} (hX : TXok X) (hx : TxC D t X) {V : List Nat → VV} {ps : Nat → Nat} {B : Nat → List (List Nat)} {R m : Nat} {ow : Nat → Nat} {vv : Nat → VV} (hO : OrX κ D X V ps B R m ow vv) {v : VV} (hf : frC D X v) {s A O W : Nat} (hs : s < 128) {C : List (List Nat)} (hC : subB V ps C v A O W) (hsum : sumN (fun s => (B s).length) 128 + C.length ≤ 13700) : ∃ κ' D' R' m' ow' vv', cl xs (d + 4) 25 [.inr (.inr ((77 : Nat) : Int)), .inr (.inr (t : Int)), .inl (s : Int), .inl (A : Int), .inl (O : Int), .inl (W : Int)] (κ, D) = some (none, (κ', D')) ∧ KLe κ κ' ∧ OrX κ' D' X V ps (addB B s C) R' m' ow' vv' ∧ m ≤ m' ∧ (∀ i, i < m → ow' i = ow i ∧ vv' i = vv i) ∧ OrFr D D' ∧ κ'.2.1 + 24 * (27400 - R') ≤ κ.2.1 + 24 * (27400 - R) := by
  obtain ⟨a, b, c, e, g, wy, fi, sp, hK, hH, hm, hR⟩ := hO
  have k77 := kc_77 hκ
  have p81 := pc_77_4 hc
  have c81 := hH.2.1 s hs
  have hCl := hC.2.2.1
  have hC1 := hC.2.1
  have hml := hR.2.2.2
  have e25 : cl xs (d + 4) 25 [.inr (.inr ((77 : Nat) : Int)), .inr (.inr (t : Int)), .inl (s : Int), .inl (A : Int), .inl (O : Int), .inl (W : Int)] (κ, D) = ev xs (d + 3) mm_25 11 [some (.inr (.inr ((77 : Nat) : Int))), some (.inr (.inr (t : Int))), some (.inl (s : Int)), some (.inl (A : Int)), some (.inl (O : Int)), some (.inl (W : Int)), some (.inl (prv ow s m)), some (.inl 0)] [] (κ, D) := by
    rw [c_25]
    simp (disch := omega) only [cond_true, cond_false, Bool.and_true, Bool.true_and, Bool.and_false, Bool.false_and, Int.toNat_natCast, Int.reduceToNat, bI_s, bJ_s, bV_s, bR_s, decide_true, decide_false, not_true_eq_false, not_false_eq_true, dT, dF, w_al, w_la, w_ab, w_sl, w_sb, w_dec, w_ml, w_lm, ol2i_n, aup_ne, aupE, aupJ, setc_self, setc_ne, k77, p81, nc_81 hκ, c81]
  rw [e25]
  rcases arr_scan xs (d + 2) hκ hc ht h5 hX hx hK hH hm hf (s := s) (A := A) (O := O) (W := W) (by omega) (fun i hi => Nat.le_trans (rep_wy hR hi) (by omega)) m 0 (by omega) (fun j h1 h2 => by omega) with ⟨i, n', hi, ho, hv, he⟩ | ⟨hno, v6, v7, he⟩
  · obtain ⟨r1, r2⟩ := orh_old hK hH i (wy i + A) (min (fi i) O) (min (sp i) W)
    refine ⟨κ, _, R, m, ow, vv, (show _ = _ from he).trans ?_, KLe.rfl' κ, ⟨a, b, c, e, g, _, _, _, hK, r1, hm, ?_⟩, Nat.le_refl _, fun _ _ => ⟨rfl, rfl⟩, r2, Nat.le_refl _⟩
    · rw [q_25_93]
    · rw [← ho]
      exact rep_old hR hi (by rw [hv]; exact hC)
  · obtain ⟨κ1, D1, a', b', c', e', g', R1, m1, m2, m3, m4, m5, m6, m7, m8, m9, m10⟩ := mkRoom xs (d + 1) hκ hK hH.1 hm (by omega)
    have hκ1 := m2.shp hκ
    have d83 : D1 83 = D 83 := m8 83 (by omega) (by omega)
    have d81 : D1 81 = D 81 := m8 81 (by omega) (by omega)
    have hH1 := orh_move hX hH m4 m6 m7 d81
    have hf1 : frC D1 X v := ⟨hf.1, fun p hp => by rw [d83]; exact hf.2 p hp⟩
    obtain ⟨E, hE, r1, r2⟩ := orh_new hX m3 hH1 hf1 s A O W hs
    have fr : OrFr D E := ⟨fun q hq => (r2.1 q hq).trans (m8 q (by omega) (by omega)), fun j hj => (r2.2 j hj).trans (m9 j (by omega))⟩
    refine ⟨κ1, E, R1, m + 1, upN ow m s, upV vv m v, (show _ = _ from he).trans ?_, m2, ⟨a', b', c', e', g', _, _, _, m3, r1, by omega, rep_new hR hs hno hC⟩, by omega, fun i hi => ⟨upN_n (by omega), upV_n (by omega)⟩, fr, m10⟩
    rw [arr_new xs (d + 1) hκ hκ1 m3 m4 m5 ((m9 6 (by decide)).trans (pc_77_6 hc)) ((m9 4 (by decide)).trans (pc_77_4 hc)) hs (by omega) m1, hE]
