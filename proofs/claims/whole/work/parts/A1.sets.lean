/-! Sets: by themselves; the class fills them. -/
def rk (X : TX) (ord : Nat → Nat) (set : Nat) : Nat → List Nat → List Nat
  | 0, w => w
  | k + 1, w => if set.testBit (ord k) = true then tkX X (ord k) (rk X ord set k w) else rk X ord set k w
theorem rk_s (X : TX) (ord : Nat → Nat) (set k : Nat) (w : List Nat) : rk X ord set (k + 1) w = if set.testBit (ord k) = true then tkX X (ord k) (rk X ord set k w) else rk X ord set k w := rfl
theorem rby_all {tk : Nat → List Nat → List Nat} {ord : Nat → Nat} {set : Nat} : ∀ (m k c : Nat) (w : List Nat), m ≤ c → ∀ c', m ≤ c' → rby tk ord set m k c w = rby tk ord set m k c' w
  | 0, _, _, _, _, _, _ => rfl
  | m + 1, k, 0, w, h, _, _ => by omega
  | m + 1, k, c + 1, w, h, 0, h' => by omega
  | m + 1, k, c + 1, w, h, c' + 1, h' => by
    unfold rby
    rw [rby_all m (k + 1) (c + 1) w (by omega) (c' + 1) (by omega), rby_all m (k + 1) c (tk (ord k) w) (by omega) c' (by omega)]
theorem rby_snoc {tk : Nat → List Nat → List Nat} {ord : Nat → Nat} {set : Nat} : ∀ (m k c : Nat) (w : List Nat), m + 1 ≤ c → rby tk ord set (m + 1) k c w = (if set / 2 ^ ord (k + m) % 2 = 0 then rby tk ord set m k c w else tk (ord (k + m)) (rby tk ord set m k c w))
  | 0, k, 0, w, h => by omega
  | 0, k, c + 1, w, h => by
    rw [Nat.add_zero]
    unfold rby
    cases c <;> rfl
  | m + 1, k, 0, w, h => by omega
  | m + 1, k, c + 1, w, h => by
    rw [show rby tk ord set (m + 1 + 1) k (c + 1) w = (if set / 2 ^ ord k % 2 = 0 then rby tk ord set (m + 1) (k + 1) (c + 1) w else rby tk ord set (m + 1) (k + 1) c (tk (ord k) w)) from rfl, show rby tk ord set (m + 1) k (c + 1) w = (if set / 2 ^ ord k % 2 = 0 then rby tk ord set m (k + 1) (c + 1) w else rby tk ord set m (k + 1) c (tk (ord k) w)) from rfl]
    rw [rby_snoc m (k + 1) (c + 1) w (by omega), show k + 1 + m = k + (m + 1) by omega]
    by_cases h1 : set / 2 ^ ord k % 2 = 0
    · rw [if_pos h1, if_pos h1]
    · rw [if_neg h1, if_neg h1]
      rw [rby_snoc m (k + 1) c (tk (ord k) w) (by omega), show k + 1 + m = k + (m + 1) by omega]
theorem bit_iff (x i : Nat) : (x / 2 ^ i % 2 = 0) ↔ x.testBit i = false := by
  rw [bitT]
  cases x.testBit i <;> simp
theorem rk_rby (X : TX) (ord : Nat → Nat) (set : Nat) (w : List Nat) : ∀ k c, k ≤ c → rby (tkX X) ord set k 0 c w = rk X ord set k w
  | 0, c, _ => by cases c <;> rfl
  | k + 1, c, h => by
    rw [rby_snoc k 0 c w h, Nat.zero_add, rk_rby X ord set w k c (by omega), rk_s]
    by_cases h1 : set / 2 ^ ord k % 2 = 0
    · rw [if_pos h1, if_neg (by rw [(bit_iff _ _).mp h1]; decide)]
    · rw [if_neg h1, if_pos (by
        cases hb : set.testBit (ord k)
        · exact absurd ((bit_iff _ _).mpr hb) h1
        · rfl)]
theorem rbX_rk {X : TX} (hX : TXok X) (ord : Nat → Nat) (set : Nat) (w : List Nat) : rbX X ord set 7 w = rk X ord set (xns X) w := rk_rby X ord set w (xns X) 7 hX.1.1
theorem rk_congr {X : TX} {ord : Nat → Nat} {s s' : Nat} {w : List Nat} : ∀ k, (∀ j, j < k → s.testBit (ord j) = s'.testBit (ord j)) → rk X ord s k w = rk X ord s' k w
  | 0, _ => rfl
  | k + 1, h => by
    unfold rk
    rw [h k (by omega), rk_congr k (fun j hj => h j (by omega))]
theorem rk_wok {X : TX} (hX : TXok X) {ord : Nat → Nat} (ho : ∀ k, k < xns X → ord k < xns X) {s : Nat} {w : List Nat} (hw : wok w) : ∀ k, k ≤ xns X → wok (rk X ord s k w)
  | 0, _ => hw
  | k + 1, h => by
    have ih := rk_wok hX ho (s := s) hw k (by omega)
    unfold rk
    split
    · exact tkX_wok hX (ho k (by omega)) ih
    · exact ih
def plc (ord : Nat → Nat) : Nat → Nat
  | 0 => 0
  | k + 1 => plc ord k ||| 2 ^ ord k
theorem plc_bit (ord : Nat → Nat) (i : Nat) : ∀ k, (plc ord k).testBit i = true ↔ ∃ j, j < k ∧ ord j = i
  | 0 => by
    unfold plc
    rw [Nat.zero_testBit]
    constructor
    · intro h; cases h
    · rintro ⟨j, hj, _⟩; omega
  | k + 1 => by
    unfold plc
    rw [Nat.testBit_or, Nat.testBit_two_pow, Bool.or_eq_true, plc_bit ord i k, decide_eq_true_iff]
    constructor
    · rintro (⟨j, hj, e⟩ | e)
      · exact ⟨j, by omega, e⟩
      · exact ⟨k, by omega, e⟩
    · rintro ⟨j, hj, e⟩
      by_cases hjk : j = k
      · right; rw [← hjk]; exact e
      · left; exact ⟨j, by omega, e⟩
theorem plc_lt {ord : Nat → Nat} {n : Nat} (ho : ∀ k, k < n → ord k < n) : ∀ k, k ≤ n → plc ord k < 2 ^ n
  | 0, _ => Nat.two_pow_pos _
  | k + 1, h => Nat.or_lt_two_pow (plc_lt ho k (by omega)) (Nat.pow_lt_pow_right (by decide) (ho k (by omega)))
def subS (a b : Nat) : Prop := ∀ i, a.testBit i = true → b.testBit i = true
theorem sub_iff (a b : Nat) : anot a b = 0 ↔ subS a b := anot_zero
theorem p2 {X : TX} (hX : TXok X) : 2 ^ xns X ≤ 128 ∧ 1 ≤ 2 ^ xns X := ⟨Nat.pow_le_pow_right (n := 2) (j := 7) (by decide) hX.1.1, Nat.two_pow_pos _⟩
/-- what the next stone makes of row r -/
def nxV (X : TX) (ord : Nat → Nat) (k r p : Nat) : List Nat := tkX X (ord k) (rk X ord r k (xPI X p))
theorem or_bit_ne {ord : Nat → Nat} {n : Nat} (hi : ∀ j k, j < n → k < n → ord j = ord k → j = k) {k : Nat} (hk : k < n) {s : Nat} {j : Nat} (hj : j < k) : (s ||| 2 ^ ord k).testBit (ord j) = s.testBit (ord j) := by
  rw [Nat.testBit_or, Nat.testBit_two_pow, decide_eq_false (fun e => by have := hi k j hk (by omega) e; omega), Bool.or_false]
set_option maxRecDepth 100000 in
theorem pd_set : ptrc 73 = false ∧ ptrc 74 = false ∧ ptrc 75 = false ∧ ptrc 76 = false ∧ ptrd 72 0 = false ∧ ptrd 72 1 = false ∧ ptrd 72 2 = false := by decide
theorem addS_in (xs : List Int) (d : Nat) {κ : aK} {D : Nat → Nat → Int} (hκ : Shp κ) (hc : CPtr D) {t : Nat} (ht : isT t) (h5 : D 0 5 = (t : Int)) {X : TX} (hX : TXok X) (hx : TxC D t X) (h1 : D 72 1 = ((2 ^ xns X : Nat) : Int)) {ord : Nat → Nat} (ho : ∀ k, k < xns X → ord k < xns X) (hi : ∀ j k, j < xns X → k < xns X → ord j = ord k → j = k) {k : Nat} (hk : k < xns X) {s : Nat} (hs : s < 2 ^ xns X) (hsub : subS s (plc ord k)) (v2 : Int) : ∀ (m p : Nat) (f : Nat → Int), p + m = xpr X → (∀ r, r < 2 ^ xns X → subS r (plc ord k) → ∀ p, p < xpr X → f (8 * r + p) = (p32 (rk X ord r k (xPI X p)) : Int)) → (∀ p', p' < p → f (8 * (s ||| 2 ^ ord k) + p') = (p32 (nxV X ord k (s ||| 2 ^ ord k) p') : Int)) → ∃ f' : Nat → Int, (∀ r p, p < 8 → r ≠ s ||| 2 ^ ord k → f' (8 * r + p) = f (8 * r + p)) ∧ (∀ p', p' < xpr X → f' (8 * (s ||| 2 ^ ord k) + p') = (p32 (nxV X ord k (s ||| 2 ^ ord k) p') : Int)) ∧ ∃ u5 u6 : Option aV, ev xs (d + 2) mm_62 32 [some (.inr (.inr ((72 : Nat) : Int))), some (.inr (.inr (t : Int))), some (.inl v2), some (.inl (ord k : Int)), some (.inl (s : Int)), some (.inl ((s ||| 2 ^ ord k : Nat) : Int)), some (.inl (p : Int))] [] (κ, setc D 73 f) = ev xs (d + 2) mm_62 3 [some (.inr (.inr ((72 : Nat) : Int))), some (.inr (.inr (t : Int))), some (.inl v2), some (.inl (ord k : Int)), some (.inl ((s + 1 : Nat) : Int)), u5, u6] [] (κ, setc D 73 f') := by
  have ht' : t = 9 ∨ t = 31 := ht
  have x8 := hX.2.2.2.1.1
  have hp2 := p2 hX
  have hok := ho k hk
  have hwl : s ||| 2 ^ ord k < 2 ^ xns X := Nat.or_lt_two_pow hs (Nat.pow_lt_pow_right (by decide) hok)
  intro m
  induction m with
  | zero =>
    intro p f h hf hw
    refine ⟨f, fun _ _ _ _ => rfl, fun p' hp' => hw p' (by omega), some (.inl ((s ||| 2 ^ ord k : Nat) : Int)), some (.inl (p : Int)), ?_⟩
    rw [q_62_32]
    simp (disch := omega) only [cond_true, cond_false, Bool.and_true, Bool.true_and, Bool.and_false, Bool.false_and, Int.toNat_natCast, Int.reduceToNat, bI_s, bJ_s, bV_s, bR_s, decide_true, decide_false, not_true_eq_false, not_false_eq_true, dT, dF, w_al, w_la, w_ab, w_sl, w_sb, w_dec, w_ml, w_lm, ol2i_n, aup_ne, aupE, aupJ, setc_self, setc_ne, pc_0_0 hc, pc_0_3 hc, pc_0_4 hc, pc_0_7 hc, pc_0_8 hc, pc_0_9 hc, pc_0_12 hc, pc_0_14 hc, pc_0_15 hc, pc_0_16 hc, pc_0_17 hc, pc_0_18 hc, pc_0_19 hc, pc_2_1 hc, pc_2_2 hc, pc_2_3 hc, pc_2_6 hc, pc_2_8 hc, pc_8_2 hc, pc_65_1 hc, pc_65_2 hc, pc_68_1 hc, pc_72_3 hc, pc_72_4 hc, pc_72_5 hc, pc_72_6 hc, pc_77_1 hc, pc_77_2 hc, pc_77_3 hc, pc_77_4 hc, pc_77_5 hc, pc_77_6 hc, kc_0 hκ, kc_1 hκ, nc_1 hκ, kc_2 hκ, kc_3 hκ, nc_3 hκ, kc_4 hκ, nc_4 hκ, kc_5 hκ, nc_5 hκ, kc_6 hκ, nc_6 hκ, kc_7 hκ, nc_7 hκ, kc_8 hκ, kc_63 hκ, nc_63 hκ, kc_64 hκ, nc_64 hκ, kc_65 hκ, kc_66 hκ, nc_66 hκ, kc_67 hκ, nc_67 hκ, kc_68 hκ, kc_69 hκ, nc_69 hκ, kc_70 hκ, nc_70 hκ, kc_71 hκ, nc_71 hκ, kc_72 hκ, kc_73 hκ, nc_73 hκ, kc_74 hκ, nc_74 hκ, kc_75 hκ, nc_75 hκ, kc_76 hκ, nc_76 hκ, kc_77 hκ, kc_78 hκ, nc_78 hκ, kc_79 hκ, nc_79 hκ, kc_80 hκ, nc_80 hκ, kc_81 hκ, nc_81 hκ, kc_82 hκ, nc_82 hκ, kc_83 hκ, nc_83 hκ, kc_84 hκ, nc_84 hκ, kc_85 hκ, nc_85 hκ, kc_86 hκ, nc_86 hκ, kc_87 hκ, nc_87 hκ, kc_88 hκ, nc_88 hκ, kc_89 hκ, nc_89 hκ, kc_90 hκ, nc_90 hκ, sk_0 hκ is53, sp_1 hc is53, sk_1 hκ is53, sn_1 hκ is53, sp_2 hc is53, sk_2 hκ is53, sn_2 hκ is53, sp_3 hc is53, sk_3 hκ is53, sn_3 hκ is53, sp_4 hc is53, sk_4 hκ is53, sn_4 hκ is53, sk_0 hκ is58, sp_1 hc is58, sk_1 hκ is58, sn_1 hκ is58, sp_2 hc is58, sk_2 hκ is58, sn_2 hκ is58, sp_3 hc is58, sk_3 hκ is58, sn_3 hκ is58, sp_4 hc is58, sk_4 hκ is58, sn_4 hκ is58, tp_0_1 hc ht, tp_0_2 hc ht, tp_0_3 hc ht, tp_0_4 hc ht, tp_0_6 hc ht, tp_0_8 hc ht, tp_0_9 hc ht, tp_0_10 hc ht, tp_0_12 hc ht, tp_0_13 hc ht, tp_0_14 hc ht, tp_3_1 hc ht, tp_3_2 hc ht, tp_3_3 hc ht, tp_3_4 hc ht, tp_8_0 hc ht, tp_8_1 hc ht, tp_8_2 hc ht, tp_18_0 hc ht, tp_18_2 hc ht, tp_18_3 hc ht, tk_0 hκ ht, tk_1 hκ ht, tn_1 hκ ht, tk_2 hκ ht, tn_2 hκ ht, tk_3 hκ ht, tk_4 hκ ht, tn_4 hκ ht, tk_5 hκ ht, tn_5 hκ ht, tk_6 hκ ht, tn_6 hκ ht, tk_7 hκ ht, tn_7 hκ ht, tk_8 hκ ht, tk_9 hκ ht, tn_9 hκ ht, tk_10 hκ ht, tn_10 hκ ht, tk_11 hκ ht, tn_11 hκ ht, tk_12 hκ ht, tn_12 hκ ht, tk_13 hκ ht, tn_13 hκ ht, tk_14 hκ ht, tn_14 hκ ht, tk_15 hκ ht, tn_15 hκ ht, tk_16 hκ ht, tn_16 hκ ht, tk_17 hκ ht, tn_17 hκ ht, tk_18 hκ ht, tk_19 hκ ht, tn_19 hκ ht, tk_20 hκ ht, tn_20 hκ ht, tk_21 hκ ht, tn_21 hκ ht, hx.2.2.2.1.1]
  | succ m ih =>
    intro p f h hf hw
    have hrow := hf s hs hsub p (by omega)
    have hwk := rk_wok hX ho (s := s) ((hX.2.2.2.1.2 p (by omega)).1) k (by omega)
    have tk := takeX xs d hκ (hc.setc pd_set.1 f) ht (D := setc D 73 f) (by rw [setc_ne (by decide)]; exact h5) hX (hx.congr (fun q a b => setc_ne (by omega))) hok hwk
    have ev' : rk X ord (s ||| 2 ^ ord k) k (xPI X p) = rk X ord s k (xPI X p) := rk_congr k (fun j hj => or_bit_ne hi hk hj)
    have hne : ∀ r, subS r (plc ord k) → r ≠ s ||| 2 ^ ord k := fun r hr e => by
      have hb : r.testBit (ord k) = true := by rw [e, Nat.testBit_or, Nat.testBit_two_pow, decide_eq_true rfl, Bool.or_true]
      obtain ⟨j, hj, ej⟩ := (plc_bit ord (ord k) k).mp (hr (ord k) hb)
      have := hi j k (by omega) hk ej
      omega
    obtain ⟨f', a1, a2, u5, u6, a3⟩ := ih (p + 1) (fun j => if j = 8 * (s ||| 2 ^ ord k) + p then (p32 (tkX X (ord k) (rk X ord s k (xPI X p))) : Int) else f j) (by omega) (fun r hr hrs p' hp' => by
      have := hne r hrs
      refine (if_neg (by omega)).trans (hf r hr hrs p' hp')) (fun p' hp' => by
      by_cases hpp : p' = p
      · rw [hpp]
        refine (if_pos rfl).trans ?_
        unfold nxV
        rw [ev']
      · exact (if_neg (by omega)).trans (hw p' (by omega)))
    refine ⟨f', fun r p' hp' hr => (a1 r p' hp' hr).trans (if_neg (by omega)), a2, u5, u6, ?_⟩
    rw [q_62_32]
    simp (disch := omega) only [cond_true, cond_false, Bool.and_true, Bool.true_and, Bool.and_false, Bool.false_and, Int.toNat_natCast, Int.reduceToNat, bI_s, bJ_s, bV_s, bR_s, decide_true, decide_false, not_true_eq_false, not_false_eq_true, dT, dF, w_al, w_la, w_ab, w_sl, w_sb, w_dec, w_ml, w_lm, ol2i_n, aup_ne, aupE, aupJ, setc_self, setc_ne, pc_0_0 hc, pc_0_3 hc, pc_0_4 hc, pc_0_7 hc, pc_0_8 hc, pc_0_9 hc, pc_0_12 hc, pc_0_14 hc, pc_0_15 hc, pc_0_16 hc, pc_0_17 hc, pc_0_18 hc, pc_0_19 hc, pc_2_1 hc, pc_2_2 hc, pc_2_3 hc, pc_2_6 hc, pc_2_8 hc, pc_8_2 hc, pc_65_1 hc, pc_65_2 hc, pc_68_1 hc, pc_72_3 hc, pc_72_4 hc, pc_72_5 hc, pc_72_6 hc, pc_77_1 hc, pc_77_2 hc, pc_77_3 hc, pc_77_4 hc, pc_77_5 hc, pc_77_6 hc, kc_0 hκ, kc_1 hκ, nc_1 hκ, kc_2 hκ, kc_3 hκ, nc_3 hκ, kc_4 hκ, nc_4 hκ, kc_5 hκ, nc_5 hκ, kc_6 hκ, nc_6 hκ, kc_7 hκ, nc_7 hκ, kc_8 hκ, kc_63 hκ, nc_63 hκ, kc_64 hκ, nc_64 hκ, kc_65 hκ, kc_66 hκ, nc_66 hκ, kc_67 hκ, nc_67 hκ, kc_68 hκ, kc_69 hκ, nc_69 hκ, kc_70 hκ, nc_70 hκ, kc_71 hκ, nc_71 hκ, kc_72 hκ, kc_73 hκ, nc_73 hκ, kc_74 hκ, nc_74 hκ, kc_75 hκ, nc_75 hκ, kc_76 hκ, nc_76 hκ, kc_77 hκ, kc_78 hκ, nc_78 hκ, kc_79 hκ, nc_79 hκ, kc_80 hκ, nc_80 hκ, kc_81 hκ, nc_81 hκ, kc_82 hκ, nc_82 hκ, kc_83 hκ, nc_83 hκ, kc_84 hκ, nc_84 hκ, kc_85 hκ, nc_85 hκ, kc_86 hκ, nc_86 hκ, kc_87 hκ, nc_87 hκ, kc_88 hκ, nc_88 hκ, kc_89 hκ, nc_89 hκ, kc_90 hκ, nc_90 hκ, sk_0 hκ is53, sp_1 hc is53, sk_1 hκ is53, sn_1 hκ is53, sp_2 hc is53, sk_2 hκ is53, sn_2 hκ is53, sp_3 hc is53, sk_3 hκ is53, sn_3 hκ is53, sp_4 hc is53, sk_4 hκ is53, sn_4 hκ is53, sk_0 hκ is58, sp_1 hc is58, sk_1 hκ is58, sn_1 hκ is58, sp_2 hc is58, sk_2 hκ is58, sn_2 hκ is58, sp_3 hc is58, sk_3 hκ is58, sn_3 hκ is58, sp_4 hc is58, sk_4 hκ is58, sn_4 hκ is58, tp_0_1 hc ht, tp_0_2 hc ht, tp_0_3 hc ht, tp_0_4 hc ht, tp_0_6 hc ht, tp_0_8 hc ht, tp_0_9 hc ht, tp_0_10 hc ht, tp_0_12 hc ht, tp_0_13 hc ht, tp_0_14 hc ht, tp_3_1 hc ht, tp_3_2 hc ht, tp_3_3 hc ht, tp_3_4 hc ht, tp_8_0 hc ht, tp_8_1 hc ht, tp_8_2 hc ht, tp_18_0 hc ht, tp_18_2 hc ht, tp_18_3 hc ht, tk_0 hκ ht, tk_1 hκ ht, tn_1 hκ ht, tk_2 hκ ht, tn_2 hκ ht, tk_3 hκ ht, tk_4 hκ ht, tn_4 hκ ht, tk_5 hκ ht, tn_5 hκ ht, tk_6 hκ ht, tn_6 hκ ht, tk_7 hκ ht, tn_7 hκ ht, tk_8 hκ ht, tk_9 hκ ht, tn_9 hκ ht, tk_10 hκ ht, tn_10 hκ ht, tk_11 hκ ht, tn_11 hκ ht, tk_12 hκ ht, tn_12 hκ ht, tk_13 hκ ht, tn_13 hκ ht, tk_14 hκ ht, tn_14 hκ ht, tk_15 hκ ht, tn_15 hκ ht, tk_16 hκ ht, tn_16 hκ ht, tk_17 hκ ht, tn_17 hκ ht, tk_18 hκ ht, tk_19 hκ ht, tn_19 hκ ht, tk_20 hκ ht, tn_20 hκ ht, tk_21 hκ ht, tn_21 hκ ht, hx.2.2.2.1.1, Nat.mul_comm s 8, Nat.mul_comm (s ||| 2 ^ ord k) 8, hrow, tk, aup_setc, a3]
theorem addS_loop (xs : List Int) (d : Nat) {κ : aK} {D : Nat → Nat → Int} (hκ : Shp κ) (hc : CPtr D) {t : Nat} (ht : isT t) (h5 : D 0 5 = (t : Int)) {X : TX} (hX : TXok X) (hx : TxC D t X) (h1 : D 72 1 = ((2 ^ xns X : Nat) : Int)) {ord : Nat → Nat} (ho : ∀ k, k < xns X → ord k < xns X) (hi : ∀ j k, j < xns X → k < xns X → ord j = ord k → j = k) {k : Nat} (hk : k < xns X) : ∀ (m s : Nat) (f : Nat → Int) (u5 u6 : Option aV), s + m = 2 ^ xns X → (∀ r, r < 2 ^ xns X → subS r (plc ord k) → ∀ p, p < xpr X → f (8 * r + p) = (p32 (rk X ord r k (xPI X p)) : Int)) → (∀ r, r < s → subS r (plc ord k) → ∀ p, p < xpr X → f (8 * (r ||| 2 ^ ord k) + p) = (p32 (nxV X ord k (r ||| 2 ^ ord k) p) : Int)) → ∃ f' : Nat → Int, (∀ r, r < 2 ^ xns X → subS r (plc ord (k + 1)) → ∀ p, p < xpr X → f' (8 * r + p) = (p32 (rk X ord r (k + 1) (xPI X p)) : Int)) ∧ ev xs (d + 2) mm_62 3 [some (.inr (.inr ((72 : Nat) : Int))), some (.inr (.inr (t : Int))), some (.inl (plc ord k : Int)), some (.inl (ord k : Int)), some (.inl (s : Int)), u5, u6] [] (κ, setc D 73 f) = some (none, (κ, setc D 73 f')) := by
  have hp2 := p2 hX
  have x1 := hX.1.1
  have hok := ho k hk
  have hpl := plc_lt ho k (by omega)
  have x8 := hX.2.2.2.1.1
  have hpk : 2 ^ ord k < 2 ^ xns X := Nat.pow_lt_pow_right (by decide) hok
  intro m
  induction m with
  | zero =>
    intro s f u5 u6 h hf hw
    refine ⟨f, fun r hr hsub p hp => ?_, ?_⟩
    · unfold rk
      by_cases hb : r.testBit (ord k) = true
      · rw [if_pos hb]
        have hsub' : subS (anot r (2 ^ ord k)) (plc ord k) := fun i hi' => by
          rw [anot_bit, Nat.testBit_two_pow] at hi'
          have hri : r.testBit i = true := by
            cases hri : r.testBit i
            · rw [hri] at hi'; cases hi'
            · rfl
          have hne : ¬ ord k = i := fun e => by rw [decide_eq_true e, hri] at hi'; cases hi'
          have := hsub i hri
          rw [plc_bit] at this ⊢
          obtain ⟨j, hj, ej⟩ := this
          exact ⟨j, by
            have : j ≠ k := fun e => hne (by rw [← e]; exact ej)
            omega, ej⟩
        have hor : anot r (2 ^ ord k) ||| 2 ^ ord k = r := by
          apply Nat.eq_of_testBit_eq
          intro i
          rw [Nat.testBit_or, anot_bit, Nat.testBit_two_pow]
          by_cases hki : ord k = i
          · rw [decide_eq_true hki, ← hki, hb]; rfl
          · rw [decide_eq_false hki]
            cases r.testBit i <;> rfl
        have hlt := anot_le r (2 ^ ord k) hr
        have := hw (anot r (2 ^ ord k)) (by omega) hsub' p hp
        rw [hor] at this
        exact this
      · rw [if_neg hb]
        refine hf r hr (fun i hi' => ?_) p hp
        have := hsub i hi'
        rw [plc_bit] at this ⊢
        obtain ⟨j, hj, ej⟩ := this
        exact ⟨j, by
          have : j ≠ k := fun e => hb (by rw [← e, ej]; exact hi')
          omega, ej⟩
    · rw [q_62_3]
      simp (disch := omega) only [cond_true, cond_false, Bool.and_true, Bool.true_and, Bool.and_false, Bool.false_and, Int.toNat_natCast, Int.reduceToNat, bI_s, bJ_s, bV_s, bR_s, decide_true, decide_false, not_true_eq_false, not_false_eq_true, dT, dF, w_al, w_la, w_ab, w_sl, w_sb, w_dec, w_ml, w_lm, ol2i_n, aup_ne, aupE, aupJ, setc_self, setc_ne, pc_0_0 hc, pc_0_3 hc, pc_0_4 hc, pc_0_7 hc, pc_0_8 hc, pc_0_9 hc, pc_0_12 hc, pc_0_14 hc, pc_0_15 hc, pc_0_16 hc, pc_0_17 hc, pc_0_18 hc, pc_0_19 hc, pc_2_1 hc, pc_2_2 hc, pc_2_3 hc, pc_2_6 hc, pc_2_8 hc, pc_8_2 hc, pc_65_1 hc, pc_65_2 hc, pc_68_1 hc, pc_72_3 hc, pc_72_4 hc, pc_72_5 hc, pc_72_6 hc, pc_77_1 hc, pc_77_2 hc, pc_77_3 hc, pc_77_4 hc, pc_77_5 hc, pc_77_6 hc, kc_0 hκ, kc_1 hκ, nc_1 hκ, kc_2 hκ, kc_3 hκ, nc_3 hκ, kc_4 hκ, nc_4 hκ, kc_5 hκ, nc_5 hκ, kc_6 hκ, nc_6 hκ, kc_7 hκ, nc_7 hκ, kc_8 hκ, kc_63 hκ, nc_63 hκ, kc_64 hκ, nc_64 hκ, kc_65 hκ, kc_66 hκ, nc_66 hκ, kc_67 hκ, nc_67 hκ, kc_68 hκ, kc_69 hκ, nc_69 hκ, kc_70 hκ, nc_70 hκ, kc_71 hκ, nc_71 hκ, kc_72 hκ, kc_73 hκ, nc_73 hκ, kc_74 hκ, nc_74 hκ, kc_75 hκ, nc_75 hκ, kc_76 hκ, nc_76 hκ, kc_77 hκ, kc_78 hκ, nc_78 hκ, kc_79 hκ, nc_79 hκ, kc_80 hκ, nc_80 hκ, kc_81 hκ, nc_81 hκ, kc_82 hκ, nc_82 hκ, kc_83 hκ, nc_83 hκ, kc_84 hκ, nc_84 hκ, kc_85 hκ, nc_85 hκ, kc_86 hκ, nc_86 hκ, kc_87 hκ, nc_87 hκ, kc_88 hκ, nc_88 hκ, kc_89 hκ, nc_89 hκ, kc_90 hκ, nc_90 hκ, sk_0 hκ is53, sp_1 hc is53, sk_1 hκ is53, sn_1 hκ is53, sp_2 hc is53, sk_2 hκ is53, sn_2 hκ is53, sp_3 hc is53, sk_3 hκ is53, sn_3 hκ is53, sp_4 hc is53, sk_4 hκ is53, sn_4 hκ is53, sk_0 hκ is58, sp_1 hc is58, sk_1 hκ is58, sn_1 hκ is58, sp_2 hc is58, sk_2 hκ is58, sn_2 hκ is58, sp_3 hc is58, sk_3 hκ is58, sn_3 hκ is58, sp_4 hc is58, sk_4 hκ is58, sn_4 hκ is58, h1]
  | succ m ih =>
    intro s f u5 u6 h hf hw
    have ea := oandnot (a := s) (b := plc ord k) (by omega) (by omega)
    rw [q_62_3]
    by_cases hsub : subS s (plc ord k)
    · have hz := (sub_iff s (plc ord k)).mpr hsub
      obtain ⟨f1, a1, a2, w5, w6, a3⟩ := addS_in xs d hκ hc ht h5 hX hx h1 ho hi hk (s := s) (by omega) hsub (plc ord k : Int) (xpr X) 0 f (by omega) hf (fun p' hp' => by omega)
      have hne : ∀ r, subS r (plc ord k) → r ≠ s ||| 2 ^ ord k := fun r hr e => by
        have hb : r.testBit (ord k) = true := by rw [e, Nat.testBit_or, Nat.testBit_two_pow, decide_eq_true rfl, Bool.or_true]
        obtain ⟨j, hj, ej⟩ := (plc_bit ord (ord k) k).mp (hr (ord k) hb)
        have := hi j k (by omega) hk ej
        omega
      obtain ⟨f', b1, b2⟩ := ih (s + 1) f1 w5 w6 (by omega) (fun r hr hrs p hp => (a1 r p (by omega) (hne r hrs)).trans (hf r hr hrs p hp)) (fun r hr hrs p hp => by
        by_cases hrr : r ||| 2 ^ ord k = s ||| 2 ^ ord k
        · rw [hrr]; exact a2 p hp
        · have hrs' : r ≠ s := fun e => hrr (by rw [e])
          exact (a1 _ p (by omega) hrr).trans (hw r (by omega) hrs p hp))
      refine ⟨f', b1, ?_⟩
      simp (disch := omega) only [cond_true, cond_false, Bool.and_true, Bool.true_and, Bool.and_false, Bool.false_and, Int.toNat_natCast, Int.reduceToNat, bI_s, bJ_s, bV_s, bR_s, decide_true, decide_false, not_true_eq_false, not_false_eq_true, dT, dF, w_al, w_la, w_ab, w_sl, w_sb, w_dec, w_ml, w_lm, ol2i_n, aup_ne, aupE, aupJ, setc_self, setc_ne, pc_0_0 hc, pc_0_3 hc, pc_0_4 hc, pc_0_7 hc, pc_0_8 hc, pc_0_9 hc, pc_0_12 hc, pc_0_14 hc, pc_0_15 hc, pc_0_16 hc, pc_0_17 hc, pc_0_18 hc, pc_0_19 hc, pc_2_1 hc, pc_2_2 hc, pc_2_3 hc, pc_2_6 hc, pc_2_8 hc, pc_8_2 hc, pc_65_1 hc, pc_65_2 hc, pc_68_1 hc, pc_72_3 hc, pc_72_4 hc, pc_72_5 hc, pc_72_6 hc, pc_77_1 hc, pc_77_2 hc, pc_77_3 hc, pc_77_4 hc, pc_77_5 hc, pc_77_6 hc, kc_0 hκ, kc_1 hκ, nc_1 hκ, kc_2 hκ, kc_3 hκ, nc_3 hκ, kc_4 hκ, nc_4 hκ, kc_5 hκ, nc_5 hκ, kc_6 hκ, nc_6 hκ, kc_7 hκ, nc_7 hκ, kc_8 hκ, kc_63 hκ, nc_63 hκ, kc_64 hκ, nc_64 hκ, kc_65 hκ, kc_66 hκ, nc_66 hκ, kc_67 hκ, nc_67 hκ, kc_68 hκ, kc_69 hκ, nc_69 hκ, kc_70 hκ, nc_70 hκ, kc_71 hκ, nc_71 hκ, kc_72 hκ, kc_73 hκ, nc_73 hκ, kc_74 hκ, nc_74 hκ, kc_75 hκ, nc_75 hκ, kc_76 hκ, nc_76 hκ, kc_77 hκ, kc_78 hκ, nc_78 hκ, kc_79 hκ, nc_79 hκ, kc_80 hκ, nc_80 hκ, kc_81 hκ, nc_81 hκ, kc_82 hκ, nc_82 hκ, kc_83 hκ, nc_83 hκ, kc_84 hκ, nc_84 hκ, kc_85 hκ, nc_85 hκ, kc_86 hκ, nc_86 hκ, kc_87 hκ, nc_87 hκ, kc_88 hκ, nc_88 hκ, kc_89 hκ, nc_89 hκ, kc_90 hκ, nc_90 hκ, sk_0 hκ is53, sp_1 hc is53, sk_1 hκ is53, sn_1 hκ is53, sp_2 hc is53, sk_2 hκ is53, sn_2 hκ is53, sp_3 hc is53, sk_3 hκ is53, sn_3 hκ is53, sp_4 hc is53, sk_4 hκ is53, sn_4 hκ is53, sk_0 hκ is58, sp_1 hc is58, sk_1 hκ is58, sn_1 hκ is58, sp_2 hc is58, sk_2 hκ is58, sn_2 hκ is58, sp_3 hc is58, sk_3 hκ is58, sn_3 hκ is58, sp_4 hc is58, sk_4 hκ is58, sn_4 hκ is58, h1, ea, hz, oshl1, oor_nat]
      exact a3.trans b2
    · have hz : ¬ anot s (plc ord k) = 0 := fun e => hsub ((sub_iff s (plc ord k)).mp e)
      obtain ⟨f', b1, b2⟩ := ih (s + 1) f u5 u6 (by omega) hf (fun r hr hrs p hp => by
        by_cases hrs2 : r = s
        · rw [hrs2] at hrs; exact absurd hrs hsub
        · exact hw r (by omega) hrs p hp)
      refine ⟨f', b1, ?_⟩
      simp (disch := omega) only [cond_true, cond_false, Bool.and_true, Bool.true_and, Bool.and_false, Bool.false_and, Int.toNat_natCast, Int.reduceToNat, bI_s, bJ_s, bV_s, bR_s, decide_true, decide_false, not_true_eq_false, not_false_eq_true, dT, dF, w_al, w_la, w_ab, w_sl, w_sb, w_dec, w_ml, w_lm, ol2i_n, aup_ne, aupE, aupJ, setc_self, setc_ne, pc_0_0 hc, pc_0_3 hc, pc_0_4 hc, pc_0_7 hc, pc_0_8 hc, pc_0_9 hc, pc_0_12 hc, pc_0_14 hc, pc_0_15 hc, pc_0_16 hc, pc_0_17 hc, pc_0_18 hc, pc_0_19 hc, pc_2_1 hc, pc_2_2 hc, pc_2_3 hc, pc_2_6 hc, pc_2_8 hc, pc_8_2 hc, pc_65_1 hc, pc_65_2 hc, pc_68_1 hc, pc_72_3 hc, pc_72_4 hc, pc_72_5 hc, pc_72_6 hc, pc_77_1 hc, pc_77_2 hc, pc_77_3 hc, pc_77_4 hc, pc_77_5 hc, pc_77_6 hc, kc_0 hκ, kc_1 hκ, nc_1 hκ, kc_2 hκ, kc_3 hκ, nc_3 hκ, kc_4 hκ, nc_4 hκ, kc_5 hκ, nc_5 hκ, kc_6 hκ, nc_6 hκ, kc_7 hκ, nc_7 hκ, kc_8 hκ, kc_63 hκ, nc_63 hκ, kc_64 hκ, nc_64 hκ, kc_65 hκ, kc_66 hκ, nc_66 hκ, kc_67 hκ, nc_67 hκ, kc_68 hκ, kc_69 hκ, nc_69 hκ, kc_70 hκ, nc_70 hκ, kc_71 hκ, nc_71 hκ, kc_72 hκ, kc_73 hκ, nc_73 hκ, kc_74 hκ, nc_74 hκ, kc_75 hκ, nc_75 hκ, kc_76 hκ, nc_76 hκ, kc_77 hκ, kc_78 hκ, nc_78 hκ, kc_79 hκ, nc_79 hκ, kc_80 hκ, nc_80 hκ, kc_81 hκ, nc_81 hκ, kc_82 hκ, nc_82 hκ, kc_83 hκ, nc_83 hκ, kc_84 hκ, nc_84 hκ, kc_85 hκ, nc_85 hκ, kc_86 hκ, nc_86 hκ, kc_87 hκ, nc_87 hκ, kc_88 hκ, nc_88 hκ, kc_89 hκ, nc_89 hκ, kc_90 hκ, nc_90 hκ, sk_0 hκ is53, sp_1 hc is53, sk_1 hκ is53, sn_1 hκ is53, sp_2 hc is53, sk_2 hκ is53, sn_2 hκ is53, sp_3 hc is53, sk_3 hκ is53, sn_3 hκ is53, sp_4 hc is53, sk_4 hκ is53, sn_4 hκ is53, sk_0 hκ is58, sp_1 hc is58, sk_1 hκ is58, sn_1 hκ is58, sp_2 hc is58, sk_2 hκ is58, sn_2 hκ is58, sp_3 hc is58, sk_3 hκ is58, sn_3 hκ is58, sp_4 hc is58, sk_4 hκ is58, sn_4 hκ is58, h1, ea, b2]
