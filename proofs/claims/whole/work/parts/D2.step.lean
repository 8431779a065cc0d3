/-! Orders: step (24). -/
theorem OrX.congr {κ : aK} {D D' : Nat → Nat → Int} {X : TX} {V : List Nat → VV} {ps : Nat → Nat} {B : Nat → List (List Nat)} {R m : Nat} {ow : Nat → Nat} {vv : Nat → VV} (h : OrX κ D X V ps B R m ow vv) (h1 : ∀ q, (84 ≤ q ∧ q ≤ 88) ∨ 315 ≤ q ∨ q = 77 ∨ q = 81 → D' q = D q) : OrX κ D' X V ps B R m ow vv := by
  obtain ⟨a, b, c, e, g, wy, fi, sp, hK, hH, hm, hR⟩ := h
  refine ⟨a, b, c, e, g, wy, fi, sp, hK, ?_, hm, hR⟩
  obtain ⟨o1, o2, o3, o4, o5⟩ := hK.2.1
  unfold okc at o1 o2 o3 o4 o5
  obtain ⟨f, h81, hE⟩ := hH
  refine ⟨?_, fun s hs => ?_, fun i hi => ?_⟩
  · unfold OrF
    rw [h1 77 (by omega)]
    exact f
  · rw [h1 81 (by omega)]
    exact h81 s hs
  · rw [h1 a (by omega), h1 b (by omega), h1 c (by omega), h1 e (by omega), h1 g (by omega)]
    exact hE i hi
def OrFs (D D' : Nat → Nat → Int) : Prop := (∀ q, q < 77 ∨ q = 82 ∨ (88 < q ∧ q < 315) → D' q = D q) ∧ (∀ j, j < 7 → D' 77 j = D 77 j)
theorem OrFs.rfl' (D : Nat → Nat → Int) : OrFs D D := ⟨fun _ _ => rfl, fun _ _ => rfl⟩
theorem OrFs.trans {D D1 D2 : Nat → Nat → Int} (h1 : OrFs D D1) (h2 : OrFs D1 D2) : OrFs D D2 := ⟨fun q hq => (h2.1 q hq).trans (h1.1 q hq), fun j hj => (h2.2 j hj).trans (h1.2 j hj)⟩
theorem OrFs.ptr {D D' : Nat → Nat → Int} (h : OrFs D D') (hc : CPtr D) : CPtr D' := ptr_or hc (fun q hq => h.1 q (by omega)) (fun j _ _ => h.2 j (by omega))
theorem OrFs.tx {D D' : Nat → Nat → Int} (h : OrFs D D') {t : Nat} {X : TX} (ht : isT t) (hx : TxC D t X) : TxC D' t X := by
  have ht' : t = 9 ∨ t = 31 := ht
  exact hx.congr (fun q h1 h2 => h.1 q (by omega))
theorem OrFr.fs {D D' : Nat → Nat → Int} (h : OrFr D D') : OrFs D D' := ⟨fun q hq => h.1 q (by omega), h.2⟩
theorem map_getD {f : List Nat → List Nat} {v : VV} {n p : Nat} (hv : v.length = n) (hp : p < n) : (v.map f).getD p [] = f (v.getD p []) := by
  rw [List.getD_eq_getElem?_getD, List.getD_eq_getElem?_getD, List.getElem?_map, List.getElem?_eq_getElem (by omega)]
  rfl
theorem st_loop (xs : List Int) (d : Nat) {κ : aK} {D0 : Nat → Nat → Int} (hκ : Shp κ) (hc0 : CPtr D0) {t : Nat} (ht : isT t) (h50 : D0 0 5 = (t : Int)) {X : TX} (hX : TXok X) (hx0 : TxC D0 t X) {a b c e g R m : Nat} (hK : OrK κ a b c e g R) {ow : Nat → Nat} {vv : Nat → VV} {wy fi sp : Nat → Nat} (hH : OrH D0 X a b c e g m ow vv wy fi sp) (hm : m ≤ R) {i : Nat} (hi : i < m) {st : Nat} (hst : st < xns X) (s all : Nat) : ∀ (n p : Nat) (D : Nat → Nat → Int) (u7 u8 : Option aV), p + n = xpr X → (∀ q, q ≠ 83 → D q = D0 q) → (∀ j, j < p → D 83 j = (p32 (((vv i).map (tkX X st)).getD j []) : Int)) → ∃ D', (∀ q, q ≠ 83 → D' q = D0 q) ∧ (∀ j, j < xpr X → D' 83 j = (p32 (((vv i).map (tkX X st)).getD j []) : Int)) ∧ ev xs (d + 2) mm_24 3 [some (.inr (.inr ((77 : Nat) : Int))), some (.inr (.inr (t : Int))), some (.inl (i : Int)), some (.inl (s : Int)), some (.inl (st : Int)), some (.inl (all : Int)), some (.inl (p : Int)), u7, u8] [] (κ, D) = ev xs (d + 2) mm_24 3 [some (.inr (.inr ((77 : Nat) : Int))), some (.inr (.inr (t : Int))), some (.inl (i : Int)), some (.inl (s : Int)), some (.inl (st : Int)), some (.inl (all : Int)), some (.inl (xpr X : Int)), u7, u8] [] (κ, D') := by
  have ht' : t = 9 ∨ t = 31 := ht
  have x8 := hX.2.2.2.1.1
  have k77 := kc_77 hκ
  obtain ⟨⟨f1, f2, f3, f4, f5, f6⟩, _, hE⟩ := hH
  obtain ⟨_, _, _, _, ew, ev1, ev2⟩ := hE i hi
  have hR := hK.2.2.2
  have o5 := hK.2.1.2.2.2.2
  unfold okc at o5
  intro n
  induction n with
  | zero =>
    intro p D u7 u8 hp hD hj
    exact ⟨D, hD, fun j hj2 => hj j (by omega), by rw [show p = xpr X by omega]⟩
  | succ n ih =>
    intro p D u7 u8 hp hD hj
    have hc : CPtr D := ptr_or hc0 (fun q hq => hD q (by omega)) (fun j _ _ => by rw [hD 77 (by decide)])
    have hx : TxC D t X := hx0.congr (fun q h1 h2 => hD q (by omega))
    have h5 : D 0 5 = (t : Int) := by rw [hD 0 (by decide)]; exact h50
    have h7 : D t 7 = (xpr X : Int) := hx.2.2.2.1.1
    have f6' : D 77 12 = (g : Int) := by rw [hD 77 (by decide)]; exact f6
    have p6 := pc_77_6 hc
    have e1 : D g (i * 8 + p) = (p32 ((vv i).getD p []) : Int) := by rw [hD g (by omega)]; exact ew p (by omega)
    have tk := takeX xs d hκ hc ht h5 hX hx hst (ev2 p (by omega))
    have eg := map_getD (f := tkX X st) ev1 (show p < xpr X by omega)
    obtain ⟨D', r1, r2, r3⟩ := ih (p + 1) (aup D 83 p (p32 (tkX X st ((vv i).getD p [])) : Int)) u7 u8 (by omega) (fun q hq => by rw [aupN hq]; exact hD q hq) (fun j hj2 => by
      by_cases h : j = p
      · rw [h, aupE, eg]
      · rw [aupJ h]; exact hj j (by omega))
    refine ⟨D', r1, r2, ?_⟩
    rw [← r3, q_24_3]
    simp (disch := omega) only [cond_true, cond_false, Bool.and_true, Bool.true_and, Bool.and_false, Bool.false_and, Int.toNat_natCast, Int.reduceToNat, bI_s, bJ_s, bV_s, bR_s, decide_true, decide_false, not_true_eq_false, not_false_eq_true, dT, dF, w_al, w_la, w_ab, w_sl, w_sb, w_dec, w_ml, w_lm, ol2i_n, aup_ne, aupE, aupJ, setc_self, setc_ne, tp_0_1 hc ht, tp_0_2 hc ht, tp_0_3 hc ht, tp_0_4 hc ht, tp_0_6 hc ht, tp_0_8 hc ht, tp_0_9 hc ht, tp_0_10 hc ht, tp_0_12 hc ht, tp_0_13 hc ht, tp_0_14 hc ht, tp_3_1 hc ht, tp_3_2 hc ht, tp_3_3 hc ht, tp_3_4 hc ht, tp_8_0 hc ht, tp_8_1 hc ht, tp_8_2 hc ht, tp_18_0 hc ht, tp_18_2 hc ht, tp_18_3 hc ht, tk_0 hκ ht, tk_1 hκ ht, tn_1 hκ ht, tk_2 hκ ht, tn_2 hκ ht, tk_3 hκ ht, tk_4 hκ ht, tn_4 hκ ht, tk_5 hκ ht, tn_5 hκ ht, tk_6 hκ ht, tn_6 hκ ht, tk_7 hκ ht, tn_7 hκ ht, tk_8 hκ ht, tk_9 hκ ht, tn_9 hκ ht, tk_10 hκ ht, tn_10 hκ ht, tk_11 hκ ht, tn_11 hκ ht, tk_12 hκ ht, tn_12 hκ ht, tk_13 hκ ht, tn_13 hκ ht, tk_14 hκ ht, tn_14 hκ ht, tk_15 hκ ht, tn_15 hκ ht, tk_16 hκ ht, tn_16 hκ ht, tk_17 hκ ht, tn_17 hκ ht, tk_18 hκ ht, tk_19 hκ ht, tn_19 hκ ht, tk_20 hκ ht, tn_20 hκ ht, tk_21 hκ ht, tn_21 hκ ht, h7, k77, f6', ok_g hK, e1, p6, nc_83 hκ, tk]
theorem or_8 {f st : Nat} (h : st < 8) : f * 2 ^ 3 ||| st = f * 8 + st := by
  have := Nat.two_pow_add_eq_or_of_lt (i := 3) (b := st) h f
  rw [Nat.mul_comm, ← this, Nat.mul_comm]
theorem step_eq (xs : List Int) (d : Nat) {κ : aK} {D : Nat → Nat → Int} (hκ : Shp κ) (hc : CPtr D) {t : Nat} (ht : isT t) (h5 : D 0 5 = (t : Int)) {X : TX} (hX : TXok X) (hx : TxC D t X) {ps : Nat → Nat} {sb : Nat} {B : Nat → List (List Nat)} {Q : List (List Nat)} {R m : Nat} {ow : Nat → Nat} {vv : Nat → VV} (hO : OrX κ D X (vP (tkX X) (xPI X) (xpr X)) ps B R m ow vv) (hr : ∀ k, k ≤ xpr X → Rk1 D X ps Q k) {i s st all : Nat} (hi : i < m) (ho : ow i = s) (hs : s < 128) (hst : st < xns X) (hall : all < 128) (hsb : D 82 st = (sb : Int)) (hsb2 : sb < 128) (hbt : ∀ x, decide (ps st < ps x) = sb.testBit x) (hpm : ∀ l ∈ B s, List.Perm l (els s)) {C : List (List Nat)} (hCd : C = (bq (vP (tkX X) (xPI X) (xpr X)) (B s) (vv i)).map (fun l => l ++ [st])) (hs1 : s ||| 2 ^ st ≠ all → sumN (fun s => (B s).length) 128 + C.length ≤ 13700) (hs2 : s ||| 2 ^ st = all → Q.length + C.length ≤ 13700) : ∃ κ' D' R' m' ow' vv', cl xs (d + 5) 24 [.inr (.inr ((77 : Nat) : Int)), .inr (.inr (t : Int)), .inl (i : Int), .inl (s : Int), .inl (st : Int), .inl (all : Int)] (κ, D) = some (none, (κ', D')) ∧ KLe κ κ' ∧ OrX κ' D' X (vP (tkX X) (xPI X) (xpr X)) ps (if s ||| 2 ^ st = all then B else addB B (s ||| 2 ^ st) C) R' m' ow' vv' ∧ (∀ k, k ≤ xpr X → Rk1 D' X ps (if s ||| 2 ^ st = all then Q ++ C else Q) k) ∧ m ≤ m' ∧ (∀ i, i < m → ow' i = ow i ∧ vv' i = vv i) ∧ OrFs D D' ∧ κ'.2.1 + 24 * (27400 - R') ≤ κ.2.1 + 24 * (27400 - R) := by
  have ht' : t = 9 ∨ t = 31 := ht
  have x7 := hX.1.1
  have x8 := hX.2.2.2.1.1
  have hO' := hO
  obtain ⟨a, b, c, e, g, wy, fi, sp, hK, hH, hm, hR⟩ := hO
  have k77 := kc_77 hκ
  obtain ⟨D1, r1, r2, r3⟩ := st_loop xs (d + 2) hκ hc ht h5 hX hx hK hH hm hi hst s all (xpr X) 0 D none none (by omega) (fun _ _ => rfl) (fun j hj => absurd hj (by omega))
  obtain ⟨⟨f1, f2, f3, f4, f5, f6⟩, h81, hE⟩ := hH
  obtain ⟨e1, e2, e3, e4, e5, e6⟩ := hE i hi
  obtain ⟨_, n1, n2, n3, n4⟩ := hR.1 i hi
  rw [ho] at n2 n3 n4
  have hRR := hK.2.2.2
  obtain ⟨o1, o2, o3, o4, o5⟩ := hK.2.1
  have v2 : D1 b i = (wy i : Int) := by rw [r1 b (by unfold okc at o2; omega)]; exact e2
  have v3 : D1 c i = (fi i : Int) := by rw [r1 c (by unfold okc at o3; omega)]; exact e3
  have v4 : D1 e i = (sp i : Int) := by rw [r1 e (by unfold okc at o4; omega)]; exact e4
  clear o1 o2 o3 o4 o5
  have inb : ∀ l ∈ bq (vP (tkX X) (xPI X) (xpr X)) (B s) (vv i), l ∈ B s ∧ vP (tkX X) (xPI X) (xpr X) l = vv i := fun l hl => by
    obtain ⟨y1, y2⟩ := List.mem_filter.mp hl
    exact ⟨y1, of_decide_eq_true y2⟩
  have hcnt : ∀ l ∈ bq (vP (tkX X) (xPI X) (xpr X)) (B s) (vv i), inv ps (l ++ [st]) = inv ps l + bcn (s &&& sb) 10 := fun l hl => by
    rw [inv_snoc, cnt_eq hs (hpm l (inb l hl).1) hbt]
  have hsub : subB (vP (tkX X) (xPI X) (xpr X)) ps C ((vv i).map (tkX X st)) (wy i) (fi i * 8 + st) (sp i + bcn (s &&& sb) 10) := by
    rw [hCd]
    refine ⟨fun l hl => ?_, n1, by rw [List.length_map]; exact n2, isMin_map (h := fun x => x * 8 + st) (fun _ _ h => by show _ * 8 + st ≤ _ * 8 + st; omega) (fun l _ => cd8_snoc l st) n3, isMin_map (h := fun x => x + bcn (s &&& sb) 10) (fun _ _ h => by show _ + bcn (s &&& sb) 10 ≤ _ + bcn (s &&& sb) 10; omega) hcnt n4⟩
    obtain ⟨l0, hl0, rfl⟩ := List.mem_map.mp hl
    rw [vP_snoc, (inb l0 hl0).2]
  have hfi : fi i < 2097152 := by
    obtain ⟨⟨l, hl, el⟩, _⟩ := n3
    have hp := hpm l (inb l hl).1
    have hd : dg l := dg_perm (els_dg s) hp
    have y1 := cd8_lt hd
    have y2 : l.length ≤ 7 := by
      rw [hp.length_eq]
      unfold els
      exact Nat.le_trans (List.length_filter_le _ _) (Nat.le_of_eq List.length_range)
    have y3 : 8 ^ l.length ≤ 8 ^ 7 := Nat.pow_le_pow_right (by decide) y2
    omega
  have hbc := bcn_le (s &&& sb) 10
  have hwl : wy i ≤ sumN (fun s => (B s).length) 128 := rep_wy hR hi
  have hc1 : CPtr D1 := ptr_or hc (fun q hq => r1 q (by omega)) (fun j _ _ => by rw [r1 77 (by decide)])
  have hx1 : TxC D1 t X := hx.congr (fun q h1 h2 => r1 q (by omega))
  have h51 : D1 0 5 = (t : Int) := by rw [r1 0 (by decide)]; exact h5
  have h7 : D1 t 7 = (xpr X : Int) := hx1.2.2.2.1.1
  have hf1 : frC D1 X ((vv i).map (tkX X st)) := by
    refine ⟨⟨by rw [List.length_map]; exact e6.1, fun p hp => ?_⟩, r2⟩
    rw [map_getD e6.1 hp]
    exact tkX_wok hX hst (e6.2 p hp)
  have hO1 : OrX κ D1 X (vP (tkX X) (xPI X) (xpr X)) ps B R m ow vv := hO'.congr (fun q hq => r1 q (by omega))
  have hr1 : ∀ k, k ≤ xpr X → Rk1 D1 X ps Q k := fun k hk => (hr k hk).congr (by rw [r1 78 (by decide)]) (by rw [r1 79 (by decide)]) (by rw [r1 80 (by decide)])
  have g3 : D1 77 9 = (b : Int) := by rw [r1 77 (by decide)]; exact f3
  have g4 : D1 77 10 = (c : Int) := by rw [r1 77 (by decide)]; exact f4
  have g5 : D1 77 11 = (e : Int) := by rw [r1 77 (by decide)]; exact f5
  have p5 := pc_77_5 hc1
  have vb : D1 82 st = (sb : Int) := by rw [r1 82 (by decide)]; exact hsb
  have hsp : sp i ≤ 1000000 := by
    obtain ⟨⟨l, hl, el⟩, _⟩ := n4
    have hp := hpm l (inb l hl).1
    have y2 : l.length ≤ 7 := by
      rw [hp.length_eq]
      unfold els
      exact Nat.le_trans (List.length_filter_le _ _) (Nat.le_of_eq List.length_range)
    have key : ∀ l : List Nat, inv ps l ≤ l.length * l.length := by
      intro l
      induction l with
      | nil => exact Nat.le_refl _
      | cons x l ih =>
        show (l.filter (fun y => decide (ps y < ps x))).length + inv ps l ≤ (l.length + 1) * (l.length + 1)
        have := List.length_filter_le (fun y => decide (ps y < ps x)) l
        rw [Nat.add_mul, Nat.mul_add]
        omega
    have := key l
    have : l.length * l.length ≤ 7 * 7 := Nat.mul_le_mul y2 y2
    omega
  have ea : oand (s : Int) (sb : Int) = ((s &&& sb : Nat) : Int) := oand_nat (by omega) (by omega)
  have eb := bitCount_eq xs (d + 3) (κ, D1) (n := s &&& sb) (Nat.lt_of_le_of_lt Nat.and_le_left (by omega))
  have es : oshl 1 (st : Int) = ((2 ^ st : Nat) : Int) := oshl1 (by omega)
  have hp7 : 2 ^ st < 128 := Nat.pow_lt_pow_right (n := 7) (by decide) (by omega)
  have eo : oor (s : Int) ((2 ^ st : Nat) : Int) = ((s ||| 2 ^ st : Nat) : Int) := oor_nat (by omega) (by omega)
  have hw7 : s ||| 2 ^ st < 128 := Nat.or_lt_two_pow (n := 7) hs hp7
  have e8 : oshl (fi i : Int) 3 = ((fi i * 2 ^ 3 : Nat) : Int) := oshl_nat (b := 3) (by decide) (by omega)
  have e9 : oor ((fi i * 2 ^ 3 : Nat) : Int) (st : Int) = ((fi i * 8 + st : Nat) : Int) := by rw [oor_nat (by omega) (by omega), or_8 (by omega)]
  have e10 : w32 ((sp i : Int) + ((bcn (s &&& sb) 10 : Nat) : Int)) = ((sp i + bcn (s &&& sb) 10 : Nat) : Int) := w_ab (by omega)
  have start : cl xs (d + 5) 24 [.inr (.inr ((77 : Nat) : Int)), .inr (.inr (t : Int)), .inl (i : Int), .inl (s : Int), .inl (st : Int), .inl (all : Int)] (κ, D) = ev xs (d + 4) mm_24 3 [some (.inr (.inr ((77 : Nat) : Int))), some (.inr (.inr (t : Int))), some (.inl (i : Int)), some (.inl (s : Int)), some (.inl (st : Int)), some (.inl (all : Int)), some (.inl (xpr X : Int)), none, none] [] (κ, D1) := by
    rw [c_24]
    exact r3
  rw [start]
  by_cases hw : s ||| 2 ^ st = all
  · rw [if_pos hw, if_pos hw]
    obtain ⟨D', q1, q2, q3⟩ := reck_eq xs (d + 3) hκ hc1 ht hX hx1 hf1 hsub (hs2 hw) hr1
    refine ⟨κ, D', R, m, ow, vv, ?_, KLe.rfl' κ, hO1.congr (fun q hq => q2 q (by omega) (by omega) (by omega)), q3, Nat.le_refl _, fun _ _ => ⟨rfl, rfl⟩, ⟨fun q hq => (q2 q (by omega) (by omega) (by omega)).trans (r1 q (by omega)), fun j _ => by rw [q2 77 (by decide) (by decide) (by decide), r1 77 (by decide)]⟩, Nat.le_refl _⟩
    have hc := hc1
    rw [q_24_3]
    simp (disch := omega) only [cond_true, cond_false, Bool.and_true, Bool.true_and, Bool.and_false, Bool.false_and, Int.toNat_natCast, Int.reduceToNat, bI_s, bJ_s, bV_s, bR_s, decide_true, decide_false, not_true_eq_false, not_false_eq_true, dT, dF, w_al, w_la, w_ab, w_sl, w_sb, w_dec, w_ml, w_lm, ol2i_n, aup_ne, aupE, aupJ, setc_self, setc_ne, tp_0_1 hc ht, tp_0_2 hc ht, tp_0_3 hc ht, tp_0_4 hc ht, tp_0_6 hc ht, tp_0_8 hc ht, tp_0_9 hc ht, tp_0_10 hc ht, tp_0_12 hc ht, tp_0_13 hc ht, tp_0_14 hc ht, tp_3_1 hc ht, tp_3_2 hc ht, tp_3_3 hc ht, tp_3_4 hc ht, tp_8_0 hc ht, tp_8_1 hc ht, tp_8_2 hc ht, tp_18_0 hc ht, tp_18_2 hc ht, tp_18_3 hc ht, tk_0 hκ ht, tk_1 hκ ht, tn_1 hκ ht, tk_2 hκ ht, tn_2 hκ ht, tk_3 hκ ht, tk_4 hκ ht, tn_4 hκ ht, tk_5 hκ ht, tn_5 hκ ht, tk_6 hκ ht, tn_6 hκ ht, tk_7 hκ ht, tn_7 hκ ht, tk_8 hκ ht, tk_9 hκ ht, tn_9 hκ ht, tk_10 hκ ht, tn_10 hκ ht, tk_11 hκ ht, tn_11 hκ ht, tk_12 hκ ht, tn_12 hκ ht, tk_13 hκ ht, tn_13 hκ ht, tk_14 hκ ht, tn_14 hκ ht, tk_15 hκ ht, tn_15 hκ ht, tk_16 hκ ht, tn_16 hκ ht, tk_17 hκ ht, tn_17 hκ ht, tk_18 hκ ht, tk_19 hκ ht, tn_19 hκ ht, tk_20 hκ ht, tn_20 hκ ht, tk_21 hκ ht, tn_21 hκ ht, h7, k77, p5, nc_82 hκ, vb, ea, eb, es, eo, hw, g3, g4, g5, ok_b hK, ok_c hK, ok_e hK, v2, v3, v4, e8, e9, e10, q1]
  · rw [if_neg hw, if_neg hw]
    obtain ⟨κ', D', R', m', ow', vv', q1, q2, q3, q4, q5, q6, q7⟩ := arrive_eq xs d hκ hc1 ht h51 hX hx1 hO1 hf1 hw7 hsub (hs1 hw)
    refine ⟨κ', D', R', m', ow', vv', ?_, q2, q3, fun k hk => (hr1 k hk).congr (by rw [q6.1 78 (by omega)]) (by rw [q6.1 79 (by omega)]) (by rw [q6.1 80 (by omega)]), q4, q5, ⟨fun q hq => (q6.1 q (by omega)).trans (r1 q (by omega)), fun j hj => (q6.2 j hj).trans (by rw [r1 77 (by decide)])⟩, q7⟩
    have hc := hc1
    have hwi : ¬ ((s ||| 2 ^ st : Nat) : Int) = (all : Int) := by omega
    rw [q_24_3]
    simp (disch := omega) only [cond_true, cond_false, Bool.and_true, Bool.true_and, Bool.and_false, Bool.false_and, Int.toNat_natCast, Int.reduceToNat, bI_s, bJ_s, bV_s, bR_s, decide_true, decide_false, not_true_eq_false, not_false_eq_true, dT, dF, w_al, w_la, w_ab, w_sl, w_sb, w_dec, w_ml, w_lm, ol2i_n, aup_ne, aupE, aupJ, setc_self, setc_ne, tp_0_1 hc ht, tp_0_2 hc ht, tp_0_3 hc ht, tp_0_4 hc ht, tp_0_6 hc ht, tp_0_8 hc ht, tp_0_9 hc ht, tp_0_10 hc ht, tp_0_12 hc ht, tp_0_13 hc ht, tp_0_14 hc ht, tp_3_1 hc ht, tp_3_2 hc ht, tp_3_3 hc ht, tp_3_4 hc ht, tp_8_0 hc ht, tp_8_1 hc ht, tp_8_2 hc ht, tp_18_0 hc ht, tp_18_2 hc ht, tp_18_3 hc ht, tk_0 hκ ht, tk_1 hκ ht, tn_1 hκ ht, tk_2 hκ ht, tn_2 hκ ht, tk_3 hκ ht, tk_4 hκ ht, tn_4 hκ ht, tk_5 hκ ht, tn_5 hκ ht, tk_6 hκ ht, tn_6 hκ ht, tk_7 hκ ht, tn_7 hκ ht, tk_8 hκ ht, tk_9 hκ ht, tn_9 hκ ht, tk_10 hκ ht, tn_10 hκ ht, tk_11 hκ ht, tn_11 hκ ht, tk_12 hκ ht, tn_12 hκ ht, tk_13 hκ ht, tn_13 hκ ht, tk_14 hκ ht, tn_14 hκ ht, tk_15 hκ ht, tn_15 hκ ht, tk_16 hκ ht, tn_16 hκ ht, tk_17 hκ ht, tn_17 hκ ht, tk_18 hκ ht, tk_19 hκ ht, tn_19 hκ ht, tk_20 hκ ht, tn_20 hκ ht, tk_21 hκ ht, tn_21 hκ ht, h7, k77, p5, nc_82 hκ, vb, ea, eb, es, eo, hwi, g3, g4, g5, ok_b hK, ok_c hK, ok_e hK, v2, v3, v4, e8, e9, e10, q1]
