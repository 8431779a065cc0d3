/-! Things done: states copied, the past on both sides. -/
theorem acpy_step (f g : Nat → Int) (sp dp n : Nat) : (fun j => if j = dp + n then f (sp + n) else acpy f g sp dp n j) = acpy f g sp dp (n + 1) := by
  funext j
  unfold acpy
  by_cases h : j = dp + n
  · subst h
    rw [if_pos rfl, if_pos (by omega), show dp + n - dp = n by omega]
  · rw [if_neg h]
    by_cases h2 : dp ≤ j ∧ j < dp + n
    · rw [if_pos h2, if_pos (by omega)]
    · rw [if_neg h2, if_neg (by omega)]
theorem acpy_zero (f g : Nat → Int) (sp dp : Nat) : acpy f g sp dp 0 = g := by
  funext j
  unfold acpy
  rw [if_neg (by omega)]
theorem acpy_in {f g : Nat → Int} {sp dp n k : Nat} (h1 : dp ≤ k) (h2 : k < dp + n) : acpy f g sp dp n k = f (sp + (k - dp)) := if_pos ⟨h1, h2⟩
theorem acpy_out {f g : Nat → Int} {sp dp n k : Nat} (h : k < dp ∨ dp + n ≤ k) : acpy f g sp dp n k = g k := if_neg (by omega)
theorem acpy_lo {f g : Nat → Int} {n k : Nat} (h : k < n) : acpy f g 0 0 n k = f k := by rw [acpy_in (by omega) (by omega)]; simp
theorem setc_fold (D : Nat → Nat → Int) (r : Nat) (f : Nat → Int) : (fun (q j : Nat) => if q = r then f j else D q j) = setc D r f := by
  funext q j
  unfold setc
  split <;> rfl
def cpS (D : Nat → Nat → Int) (a b : Nat) : Nat → Nat → Int := aup (aup (aup (aup (setc (setc (setc (setc (aup D a 0 (D b 0)) (a + 1) (acpy (D (b + 1)) (D (a + 1)) 0 0 7)) (a + 2) (acpy (D (b + 2)) (D (a + 2)) 0 0 10)) (a + 3) (acpy (D (b + 3)) (D (a + 3)) 0 0 10)) (a + 4) (acpy (D (b + 4)) (D (a + 4)) 0 0 24)) a 5 (D b 5)) a 6 (D b 6)) a 7 (D b 7)) a 8 (D b 8)
theorem isS_sep {a b : Nat} (ha : isS a) (hb : isS b) (h : a ≠ b) : a + 5 ≤ b ∨ b + 5 ≤ a := by
  have key : ∀ x ∈ scl, ∀ y ∈ scl, x ≠ y → x + 5 ≤ y ∨ y + 5 ≤ x := by decide
  exact key a ha b hb h
theorem iT {α : Type} {c : Prop} {i : Decidable c} {a b : α} (h : c) : @ite α c i a b = a := if_pos h
theorem iF {α : Type} {c : Prop} {i : Decidable c} {a b : α} (h : ¬ c) : @ite α c i a b = b := if_neg h
theorem aln_s {κ : aK} (hκ : Shp κ) (r : Nat) {c n : Nat} (hr : r < 315) (hk : KT r = (c, n)) : aln κ ((r : Nat) : Int) = n := by
  unfold aln
  rw [Int.toNat_natCast, (hκ r hr).2, hk]
theorem sl_1 {κ : aK} (hκ : Shp κ) {c : Nat} (hs : isS c) : aln κ ((c + 1 : Nat) : Int) = 7 := aln_s hκ (c + 1) (by have := isS_lt hs; omega) (isS_t hs).2.1
theorem sl_2 {κ : aK} (hκ : Shp κ) {c : Nat} (hs : isS c) : aln κ ((c + 2 : Nat) : Int) = 10 := aln_s hκ (c + 2) (by have := isS_lt hs; omega) (isS_t hs).2.2.1
theorem sl_3 {κ : aK} (hκ : Shp κ) {c : Nat} (hs : isS c) : aln κ ((c + 3 : Nat) : Int) = 10 := aln_s hκ (c + 3) (by have := isS_lt hs; omega) (isS_t hs).2.2.2.1
theorem sl_4 {κ : aK} (hκ : Shp κ) {c : Nat} (hs : isS c) : aln κ ((c + 4 : Nat) : Int) = 24 := aln_s hκ (c + 4) (by have := isS_lt hs; omega) (isS_t hs).2.2.2.2
set_option maxRecDepth 100000 in
theorem pd_0 : ptrd 0 1 = false ∧ ptrd 0 2 = false ∧ ptrd 0 5 = false ∧ ptrd 0 6 = false ∧ ptrd 0 10 = false ∧ ptrd 0 11 = false ∧ ptrd 0 13 = false ∧ ptrd 72 0 = false ∧ ptrd 77 0 = false ∧ ptrd 68 0 = false := by decide
theorem copy_eq (xs : List Int) (d : Nat) {κ : aK} {D : Nat → Nat → Int} (hκ : Shp κ) (hc : CPtr D) {a b : Nat} (ha : isS a) (hb : isS b) (h : a ≠ b) : cl xs (d + 1) 74 [.inr (.inr (a : Int)), .inr (.inr (b : Int))] (κ, D) = some (none, (κ, cpS D a b)) := by
  have hsep := isS_sep ha hb h
  rw [c_74]
  simp (disch := omega) only [cond_true, cond_false, Bool.and_true, Bool.true_and, Bool.and_false, Bool.false_and, Int.toNat_natCast, Int.reduceToNat, bI_s, bJ_s, bV_s, bR_s, decide_true, decide_false, not_true_eq_false, not_false_eq_true, dT, dF, w_al, w_la, w_ab, w_sl, w_sb, w_dec, w_ml, w_lm, ol2i_n, aup_ne, aupE, aupJ, setc_self, setc_ne, setc_fold, iT, iF, sk_0 hκ ha, sp_1 hc ha, sk_1 hκ ha, sn_1 hκ ha, sp_2 hc ha, sk_2 hκ ha, sn_2 hκ ha, sp_3 hc ha, sk_3 hκ ha, sn_3 hκ ha, sp_4 hc ha, sk_4 hκ ha, sn_4 hκ ha, sk_0 hκ hb, sp_1 hc hb, sk_1 hκ hb, sn_1 hκ hb, sp_2 hc hb, sk_2 hκ hb, sn_2 hκ hb, sp_3 hc hb, sk_3 hκ hb, sn_3 hκ hb, sp_4 hc hb, sk_4 hκ hb, sn_4 hκ hb, sl_1 hκ ha, sl_2 hκ ha, sl_3 hκ ha, sl_4 hκ ha, sl_1 hκ hb, sl_2 hκ hb, sl_3 hκ hb, sl_4 hκ hb]
  rw [q_74_38]
  simp (disch := omega) only [cond_true, cond_false, Bool.and_true, Bool.true_and, Bool.and_false, Bool.false_and, Int.toNat_natCast, Int.reduceToNat, bI_s, bJ_s, bV_s, bR_s, decide_true, decide_false, not_true_eq_false, not_false_eq_true, dT, dF, w_al, w_la, w_ab, w_sl, w_sb, w_dec, w_ml, w_lm, ol2i_n, aup_ne, aupE, aupJ, setc_self, setc_ne, setc_fold, iT, iF, sk_0 hκ ha, sp_1 hc ha, sk_1 hκ ha, sn_1 hκ ha, sp_2 hc ha, sk_2 hκ ha, sn_2 hκ ha, sp_3 hc ha, sk_3 hκ ha, sn_3 hκ ha, sp_4 hc ha, sk_4 hκ ha, sn_4 hκ ha, sk_0 hκ hb, sp_1 hc hb, sk_1 hκ hb, sn_1 hκ hb, sp_2 hc hb, sk_2 hκ hb, sn_2 hκ hb, sp_3 hc hb, sk_3 hκ hb, sn_3 hκ hb, sp_4 hc hb, sk_4 hκ hb, sn_4 hκ hb, sl_1 hκ ha, sl_2 hκ ha, sl_3 hκ ha, sl_4 hκ ha, sl_1 hκ hb, sl_2 hκ hb, sl_3 hκ hb, sl_4 hκ hb]
  rw [q_74_76]
  simp (disch := omega) only [cond_true, cond_false, Bool.and_true, Bool.true_and, Bool.and_false, Bool.false_and, Int.toNat_natCast, Int.reduceToNat, bI_s, bJ_s, bV_s, bR_s, decide_true, decide_false, not_true_eq_false, not_false_eq_true, dT, dF, w_al, w_la, w_ab, w_sl, w_sb, w_dec, w_ml, w_lm, ol2i_n, aup_ne, aupE, aupJ, setc_self, setc_ne, setc_fold, iT, iF, sk_0 hκ ha, sp_1 hc ha, sk_1 hκ ha, sn_1 hκ ha, sp_2 hc ha, sk_2 hκ ha, sn_2 hκ ha, sp_3 hc ha, sk_3 hκ ha, sn_3 hκ ha, sp_4 hc ha, sk_4 hκ ha, sn_4 hκ ha, sk_0 hκ hb, sp_1 hc hb, sk_1 hκ hb, sn_1 hκ hb, sp_2 hc hb, sk_2 hκ hb, sn_2 hκ hb, sp_3 hc hb, sk_3 hκ hb, sn_3 hκ hb, sp_4 hc hb, sk_4 hκ hb, sn_4 hκ hb, sl_1 hκ ha, sl_2 hκ ha, sl_3 hκ ha, sl_4 hκ ha, sl_1 hκ hb, sl_2 hκ hb, sl_3 hκ hb, sl_4 hκ hb]
  rw [q_74_100]
  rfl
theorem cpS_ne {D : Nat → Nat → Int} {a b q : Nat} (h : q < a ∨ a + 4 < q) : cpS D a b q = D q := by
  unfold cpS
  rw [aupN (by omega), aupN (by omega), aupN (by omega), aupN (by omega), setc_ne (by omega), setc_ne (by omega), setc_ne (by omega), setc_ne (by omega), aupN (by omega)]
theorem cpS_f {D : Nat → Nat → Int} {a b j : Nat} (h : 1 ≤ j ∧ j ≤ 4 ∨ 9 ≤ j) : cpS D a b a j = D a j := by
  unfold cpS
  rw [aupJ (by omega), aupJ (by omega), aupJ (by omega), aupJ (by omega), setc_ne (by omega), setc_ne (by omega), setc_ne (by omega), setc_ne (by omega), aupJ (by omega)]
theorem cpS_ptr {D : Nat → Nat → Int} (hc : CPtr D) {a b : Nat} (ha : isS a) : CPtr (cpS D a b) := by
  obtain ⟨h1, h2, h3, h4, h5, h6, h7, h8, h9⟩ := isS_c ha
  exact ((((((((hc.up h5 _).setc h1 _).setc h2 _).setc h3 _).setc h4 _).up h6 _).up h7 _).up h8 _).up h9 _
theorem cpS_st {D : Nat → Nat → Int} {a b : Nat} {X : TX} {S : ST} (hX : TXok X) (hs : StC D b X S) : StC (cpS D a b) a X S := by
  have n1 := hX.1.1
  have n2 := hX.2.1.1
  obtain ⟨s1, s2, s3, s4, s5, s6, s7, s8, s9⟩ := hs
  unfold StC cpS
  refine ⟨?_, fun k hk => ?_, fun w hw => ?_, fun w hw => ?_, fun i hi => ?_, ?_, ?_, ?_, ?_⟩
  · simp (disch := omega) only [cond_true, cond_false, Bool.and_true, Bool.true_and, Bool.and_false, Bool.false_and, Int.toNat_natCast, Int.reduceToNat, bI_s, bJ_s, bV_s, bR_s, decide_true, decide_false, not_true_eq_false, not_false_eq_true, dT, dF, w_al, w_la, w_ab, w_sl, w_sb, w_dec, w_ml, w_lm, ol2i_n, aup_ne, aupE, aupJ, setc_self, setc_ne, s1]
  · simp (disch := omega) only [cond_true, cond_false, Bool.and_true, Bool.true_and, Bool.and_false, Bool.false_and, Int.toNat_natCast, Int.reduceToNat, bI_s, bJ_s, bV_s, bR_s, decide_true, decide_false, not_true_eq_false, not_false_eq_true, dT, dF, w_al, w_la, w_ab, w_sl, w_sb, w_dec, w_ml, w_lm, ol2i_n, aup_ne, aupE, aupJ, setc_self, setc_ne, acpy_lo, s2 k hk]
  · simp (disch := omega) only [cond_true, cond_false, Bool.and_true, Bool.true_and, Bool.and_false, Bool.false_and, Int.toNat_natCast, Int.reduceToNat, bI_s, bJ_s, bV_s, bR_s, decide_true, decide_false, not_true_eq_false, not_false_eq_true, dT, dF, w_al, w_la, w_ab, w_sl, w_sb, w_dec, w_ml, w_lm, ol2i_n, aup_ne, aupE, aupJ, setc_self, setc_ne, acpy_lo, s3 w hw]
  · simp (disch := omega) only [cond_true, cond_false, Bool.and_true, Bool.true_and, Bool.and_false, Bool.false_and, Int.toNat_natCast, Int.reduceToNat, bI_s, bJ_s, bV_s, bR_s, decide_true, decide_false, not_true_eq_false, not_false_eq_true, dT, dF, w_al, w_la, w_ab, w_sl, w_sb, w_dec, w_ml, w_lm, ol2i_n, aup_ne, aupE, aupJ, setc_self, setc_ne, acpy_lo, s4 w hw]
  · simp (disch := omega) only [cond_true, cond_false, Bool.and_true, Bool.true_and, Bool.and_false, Bool.false_and, Int.toNat_natCast, Int.reduceToNat, bI_s, bJ_s, bV_s, bR_s, decide_true, decide_false, not_true_eq_false, not_false_eq_true, dT, dF, w_al, w_la, w_ab, w_sl, w_sb, w_dec, w_ml, w_lm, ol2i_n, aup_ne, aupE, aupJ, setc_self, setc_ne, acpy_lo, s5 i hi]
  · simp (disch := omega) only [cond_true, cond_false, Bool.and_true, Bool.true_and, Bool.and_false, Bool.false_and, Int.toNat_natCast, Int.reduceToNat, bI_s, bJ_s, bV_s, bR_s, decide_true, decide_false, not_true_eq_false, not_false_eq_true, dT, dF, w_al, w_la, w_ab, w_sl, w_sb, w_dec, w_ml, w_lm, ol2i_n, aup_ne, aupE, aupJ, setc_self, setc_ne, s6]
  · simp (disch := omega) only [cond_true, cond_false, Bool.and_true, Bool.true_and, Bool.and_false, Bool.false_and, Int.toNat_natCast, Int.reduceToNat, bI_s, bJ_s, bV_s, bR_s, decide_true, decide_false, not_true_eq_false, not_false_eq_true, dT, dF, w_al, w_la, w_ab, w_sl, w_sb, w_dec, w_ml, w_lm, ol2i_n, aup_ne, aupE, aupJ, setc_self, setc_ne, s7]
  · simp (disch := omega) only [cond_true, cond_false, Bool.and_true, Bool.true_and, Bool.and_false, Bool.false_and, Int.toNat_natCast, Int.reduceToNat, bI_s, bJ_s, bV_s, bR_s, decide_true, decide_false, not_true_eq_false, not_false_eq_true, dT, dF, w_al, w_la, w_ab, w_sl, w_sb, w_dec, w_ml, w_lm, ol2i_n, aup_ne, aupE, aupJ, setc_self, setc_ne, s8]
  · simp (disch := omega) only [cond_true, cond_false, Bool.and_true, Bool.true_and, Bool.and_false, Bool.false_and, Int.toNat_natCast, Int.reduceToNat, bI_s, bJ_s, bV_s, bR_s, decide_true, decide_false, not_true_eq_false, not_false_eq_true, dT, dF, w_al, w_la, w_ab, w_sl, w_sb, w_dec, w_ml, w_lm, ol2i_n, aup_ne, aupE, aupJ, setc_self, setc_ne, s9]
/-- the past, pushed on -/
def phN (n : Nat) : Nat := if n < 30 then n + 1 else 30
def phH (n : Nat) (H : Nat → ST) (S : ST) : Nat → ST := if n < 30 then (fun i => if i = n then S else H i) else (fun i => if i = 29 then S else H (i + 1))
def HC (D : Nat → Nat → Int) (X : TX) (n : Nat) (H : Nat → ST) : Prop := D 0 11 = (n : Int) ∧ n ≤ 30 ∧ ∃ f : Nat, f < 30 ∧ D 0 10 = (f : Int) ∧ ∀ i, i < n → StC D (91 + 5 * ((f + i) % 30)) X (H i)
def HR (D : Nat → Nat → Int) (X : TX) (n : Nat) (H : Nat → ST) : Prop := D 256 70 = (n : Int) ∧ n ≤ 30 ∧ ∀ i, i < n → RowR (fun k => D 304 (60 * i + k)) X (H i)
theorem StC.congr' {D D' : Nat → Nat → Int} {c : Nat} {X : TX} {S : ST} (h : StC D c X S) (hd : ∀ q, c ≤ q → q < c + 5 → D' q = D q) : StC D' c X S := h.congr hd
theorem HC.congr {D D' : Nat → Nat → Int} {X : TX} {n : Nat} {H : Nat → ST} (h : HC D X n H) (h0 : ∀ j, j = 10 ∨ j = 11 → D' 0 j = D 0 j) (hd : ∀ q, 91 ≤ q → q < 241 → D' q = D q) : HC D' X n H := by
  obtain ⟨a, b, f, hf, e, hi⟩ := h
  refine ⟨(h0 11 (by omega)).trans a, b, f, hf, (h0 10 (by omega)).trans e, fun i hin => (hi i hin).congr (fun q h1 h2 => hd q (by omega) (by have := Nat.mod_lt (f + i) (show 0 < 30 by decide); omega))⟩
theorem remember_eq (xs : List Int) (d : Nat) {κ : aK} {D : Nat → Nat → Int} (hκ : Shp κ) (hc : CPtr D) {X : TX} (hX : TXok X) {S : ST} (hs : StC D 53 X S) {n : Nat} {H : Nat → ST} (hh : HC D X n H) : ∃ D', cl xs (d + 2) 147 [.inr (.inr 0)] (κ, D) = some (none, (κ, D')) ∧ CPtr D' ∧ HC D' X (phN n) (phH n H S) ∧ (∀ q, q ≠ 0 → q < 91 ∨ 241 ≤ q → D' q = D q) ∧ (∀ j, j ≠ 10 → j ≠ 11 → D' 0 j = D 0 j) := by
  have hk0 : aok κ 0 11 = true := kc_0 hκ
  obtain ⟨a, b, f, hf, e, hi⟩ := hh
  have hm := Nat.mod_lt (f + n) (show 0 < 30 by decide)
  have hP := isP (i := (f + n) % 30) hm
  have cp := copy_eq xs d hκ hc hP is53 (by omega)
  have hst := cpS_st (a := 91 + 5 * ((f + n) % 30)) hX hs
  have hptr := cpS_ptr (b := 53) hc hP
  have o1 : orem ((f + n : Nat) : Int) 30 = (((f + n) % 30 : Nat) : Int) := orem_nat (a := f + n) (b := 30) (by omega) (by decide)
  have o2 : orem ((f + 1 : Nat) : Int) 30 = (((f + 1) % 30 : Nat) : Int) := orem_nat (a := f + 1) (b := 30) (by omega) (by decide)
  have p1 := pc_past hc hm
  have c0 : cpS D (91 + 5 * ((f + n) % 30)) 53 0 = D 0 := cpS_ne (by omega)
  rw [c_147]
  by_cases hn : n < 30
  · refine ⟨aup (cpS D (91 + 5 * ((f + n) % 30)) 53) 0 11 ((n + 1 : Nat) : Int), ?_, hptr.up pd_0.2.2.2.2.2.1 _, ?_, fun q h1 h2 => ?_, fun j h1 h2 => ?_⟩
    · simp (disch := omega) only [cond_true, cond_false, Bool.and_true, Bool.true_and, Bool.and_false, Bool.false_and, Int.toNat_natCast, Int.reduceToNat, bI_s, bJ_s, bV_s, bR_s, decide_true, decide_false, not_true_eq_false, not_false_eq_true, dT, dF, w_al, w_la, w_ab, w_sl, w_sb, w_dec, w_ml, w_lm, ol2i_n, aup_ne, aupE, aupJ, setc_self, setc_ne, pc_0_0 hc, pc_0_3 hc, pc_0_4 hc, pc_0_7 hc, pc_0_8 hc, pc_0_9 hc, pc_0_12 hc, pc_0_14 hc, pc_0_15 hc, pc_0_16 hc, pc_0_17 hc, pc_0_18 hc, pc_0_19 hc, pc_2_1 hc, pc_2_2 hc, pc_2_3 hc, pc_2_6 hc, pc_2_8 hc, pc_8_2 hc, pc_65_1 hc, pc_65_2 hc, pc_68_1 hc, pc_72_3 hc, pc_72_4 hc, pc_72_5 hc, pc_72_6 hc, pc_77_1 hc, pc_77_2 hc, pc_77_3 hc, pc_77_4 hc, pc_77_5 hc, pc_77_6 hc, kc_0 hκ, kc_1 hκ, nc_1 hκ, kc_2 hκ, kc_3 hκ, nc_3 hκ, kc_4 hκ, nc_4 hκ, kc_5 hκ, nc_5 hκ, kc_6 hκ, nc_6 hκ, kc_7 hκ, nc_7 hκ, kc_8 hκ, kc_63 hκ, nc_63 hκ, kc_64 hκ, nc_64 hκ, kc_65 hκ, kc_66 hκ, nc_66 hκ, kc_67 hκ, nc_67 hκ, kc_68 hκ, kc_69 hκ, nc_69 hκ, kc_70 hκ, nc_70 hκ, kc_71 hκ, nc_71 hκ, kc_72 hκ, kc_73 hκ, nc_73 hκ, kc_74 hκ, nc_74 hκ, kc_75 hκ, nc_75 hκ, kc_76 hκ, nc_76 hκ, kc_77 hκ, kc_78 hκ, nc_78 hκ, kc_79 hκ, nc_79 hκ, kc_80 hκ, nc_80 hκ, kc_81 hκ, nc_81 hκ, kc_82 hκ, nc_82 hκ, kc_83 hκ, nc_83 hκ, kc_84 hκ, nc_84 hκ, kc_85 hκ, nc_85 hκ, kc_86 hκ, nc_86 hκ, kc_87 hκ, nc_87 hκ, kc_88 hκ, nc_88 hκ, kc_89 hκ, nc_89 hκ, kc_90 hκ, nc_90 hκ, sk_0 hκ is53, sp_1 hc is53, sk_1 hκ is53, sn_1 hκ is53, sp_2 hc is53, sk_2 hκ is53, sn_2 hκ is53, sp_3 hc is53, sk_3 hκ is53, sn_3 hκ is53, sp_4 hc is53, sk_4 hκ is53, sn_4 hκ is53, sk_0 hκ is58, sp_1 hc is58, sk_1 hκ is58, sn_1 hκ is58, sp_2 hc is58, sk_2 hκ is58, sn_2 hκ is58, sp_3 hc is58, sk_3 hκ is58, sn_3 hκ is58, sp_4 hc is58, sk_4 hκ is58, sn_4 hκ is58, hk0, a, e, o1, p1, sk_0 hκ hP, cp, c0]
    · unfold phN phH
      rw [if_pos hn, if_pos hn]
      refine ⟨?_, by omega, f, hf, ?_, fun i hin => ?_⟩
      · simp (disch := omega) only [cond_true, cond_false, Bool.and_true, Bool.true_and, Bool.and_false, Bool.false_and, Int.toNat_natCast, Int.reduceToNat, bI_s, bJ_s, bV_s, bR_s, decide_true, decide_false, not_true_eq_false, not_false_eq_true, dT, dF, w_al, w_la, w_ab, w_sl, w_sb, w_dec, w_ml, w_lm, ol2i_n, aup_ne, aupE, aupJ, setc_self, setc_ne]
      · simp (disch := omega) only [cond_true, cond_false, Bool.and_true, Bool.true_and, Bool.and_false, Bool.false_and, Int.toNat_natCast, Int.reduceToNat, bI_s, bJ_s, bV_s, bR_s, decide_true, decide_false, not_true_eq_false, not_false_eq_true, dT, dF, w_al, w_la, w_ab, w_sl, w_sb, w_dec, w_ml, w_lm, ol2i_n, aup_ne, aupE, aupJ, setc_self, setc_ne, c0, e]
      · show StC _ _ X (if i = n then S else H i)
        by_cases hin2 : i = n
        · subst hin2
          rw [if_pos rfl]
          exact hst.congr (fun q h1 h2 => aupN (by omega))
        · rw [if_neg hin2]
          refine (hi i (by omega)).congr (fun q h1 h2 => ?_)
          rw [aupN (by omega), cpS_ne]
          have : (f + i) % 30 ≠ (f + n) % 30 := by omega
          omega
    · rw [aupN h1, cpS_ne]
      omega
    · rw [aupJ h2, c0]
  · have hn30 : n = 30 := by omega
    refine ⟨aup (cpS D (91 + 5 * ((f + n) % 30)) 53) 0 10 (((f + 1) % 30 : Nat) : Int), ?_, hptr.up pd_0.2.2.2.2.1 _, ?_, fun q h1 h2 => ?_, fun j h1 h2 => ?_⟩
    · simp (disch := omega) only [cond_true, cond_false, Bool.and_true, Bool.true_and, Bool.and_false, Bool.false_and, Int.toNat_natCast, Int.reduceToNat, bI_s, bJ_s, bV_s, bR_s, decide_true, decide_false, not_true_eq_false, not_false_eq_true, dT, dF, w_al, w_la, w_ab, w_sl, w_sb, w_dec, w_ml, w_lm, ol2i_n, aup_ne, aupE, aupJ, setc_self, setc_ne, pc_0_0 hc, pc_0_3 hc, pc_0_4 hc, pc_0_7 hc, pc_0_8 hc, pc_0_9 hc, pc_0_12 hc, pc_0_14 hc, pc_0_15 hc, pc_0_16 hc, pc_0_17 hc, pc_0_18 hc, pc_0_19 hc, pc_2_1 hc, pc_2_2 hc, pc_2_3 hc, pc_2_6 hc, pc_2_8 hc, pc_8_2 hc, pc_65_1 hc, pc_65_2 hc, pc_68_1 hc, pc_72_3 hc, pc_72_4 hc, pc_72_5 hc, pc_72_6 hc, pc_77_1 hc, pc_77_2 hc, pc_77_3 hc, pc_77_4 hc, pc_77_5 hc, pc_77_6 hc, kc_0 hκ, kc_1 hκ, nc_1 hκ, kc_2 hκ, kc_3 hκ, nc_3 hκ, kc_4 hκ, nc_4 hκ, kc_5 hκ, nc_5 hκ, kc_6 hκ, nc_6 hκ, kc_7 hκ, nc_7 hκ, kc_8 hκ, kc_63 hκ, nc_63 hκ, kc_64 hκ, nc_64 hκ, kc_65 hκ, kc_66 hκ, nc_66 hκ, kc_67 hκ, nc_67 hκ, kc_68 hκ, kc_69 hκ, nc_69 hκ, kc_70 hκ, nc_70 hκ, kc_71 hκ, nc_71 hκ, kc_72 hκ, kc_73 hκ, nc_73 hκ, kc_74 hκ, nc_74 hκ, kc_75 hκ, nc_75 hκ, kc_76 hκ, nc_76 hκ, kc_77 hκ, kc_78 hκ, nc_78 hκ, kc_79 hκ, nc_79 hκ, kc_80 hκ, nc_80 hκ, kc_81 hκ, nc_81 hκ, kc_82 hκ, nc_82 hκ, kc_83 hκ, nc_83 hκ, kc_84 hκ, nc_84 hκ, kc_85 hκ, nc_85 hκ, kc_86 hκ, nc_86 hκ, kc_87 hκ, nc_87 hκ, kc_88 hκ, nc_88 hκ, kc_89 hκ, nc_89 hκ, kc_90 hκ, nc_90 hκ, sk_0 hκ is53, sp_1 hc is53, sk_1 hκ is53, sn_1 hκ is53, sp_2 hc is53, sk_2 hκ is53, sn_2 hκ is53, sp_3 hc is53, sk_3 hκ is53, sn_3 hκ is53, sp_4 hc is53, sk_4 hκ is53, sn_4 hκ is53, sk_0 hκ is58, sp_1 hc is58, sk_1 hκ is58, sn_1 hκ is58, sp_2 hc is58, sk_2 hκ is58, sn_2 hκ is58, sp_3 hc is58, sk_3 hκ is58, sn_3 hκ is58, sp_4 hc is58, sk_4 hκ is58, sn_4 hκ is58, hk0, a, e, o1, o2, p1, sk_0 hκ hP, cp, c0]
    · unfold phN phH
      rw [if_neg hn, if_neg hn]
      refine ⟨?_, by omega, (f + 1) % 30, by omega, ?_, fun i hin => ?_⟩
      · simp (disch := omega) only [cond_true, cond_false, Bool.and_true, Bool.true_and, Bool.and_false, Bool.false_and, Int.toNat_natCast, Int.reduceToNat, bI_s, bJ_s, bV_s, bR_s, decide_true, decide_false, not_true_eq_false, not_false_eq_true, dT, dF, w_al, w_la, w_ab, w_sl, w_sb, w_dec, w_ml, w_lm, ol2i_n, aup_ne, aupE, aupJ, setc_self, setc_ne, c0, a]
        omega
      · simp (disch := omega) only [cond_true, cond_false, Bool.and_true, Bool.true_and, Bool.and_false, Bool.false_and, Int.toNat_natCast, Int.reduceToNat, bI_s, bJ_s, bV_s, bR_s, decide_true, decide_false, not_true_eq_false, not_false_eq_true, dT, dF, w_al, w_la, w_ab, w_sl, w_sb, w_dec, w_ml, w_lm, ol2i_n, aup_ne, aupE, aupJ, setc_self, setc_ne]
      · show StC _ _ X (if i = 29 then S else H (i + 1))
        by_cases hin2 : i = 29
        · subst hin2
          rw [if_pos rfl, show ((f + 1) % 30 + 29) % 30 = (f + n) % 30 by omega]
          exact hst.congr (fun q h1 h2 => aupN (by omega))
        · rw [if_neg hin2, show ((f + 1) % 30 + i) % 30 = (f + (i + 1)) % 30 by omega]
          refine (hi (i + 1) (by omega)).congr (fun q h1 h2 => ?_)
          rw [aupN (by omega), cpS_ne]
          have : (f + (i + 1)) % 30 ≠ (f + n) % 30 := by omega
          omega
    · rw [aupN h1, cpS_ne]
      omega
    · rw [aupJ h1, c0]
/-- nothing but a thing done has changed -/
def RDone (D D' : Nat → Nat → Int) : Prop := (∀ q, q ≠ 256 → q ∉ scr → q ≠ 301 → q ≠ 304 → D' q = D q) ∧ (∀ j, j ∉ scf → j ≠ 70 → D' 256 j = D 256 j) ∧ D' 303 0 = 0
theorem RowR.congr {f g : Nat → Int} {X : TX} {S : ST} (hX : TXok X) (h : RowR f X S) (he : ∀ k, k < 60 → g k = f k) : RowR g X S := by
  have h1 := hX.2.1.1
  have h2 := hX.1.1
  obtain ⟨a1, a2, a3, a4, a5, a6, a7, a8, a9, a10⟩ := h
  refine ⟨fun w hw => ?_, fun w hw => ?_, fun i hi => ?_, ?_, fun k hk => ?_, ?_, ?_, ?_, ?_, ?_⟩
  all_goals rw [he _ (by omega)]
  · exact a1 w hw
  · exact a2 w hw
  · exact a3 i hi
  · exact a4
  · exact a5 k hk
  · exact a6
  · exact a7
  · exact a8
  · exact a9
  · exact a10
theorem keeps_shift (xs : List Int) (d : Nat) {κ : aK} {D : Nat → Nat → Int} (hκ : Shp κ) (hp : PtrR D) (h70 : D 256 70 = 30) : ∀ (m k : Nat), k + m = 1740 → ev xs d mm_258 11 [some (.inr (.inr 256)), some (.inl (k : Int))] [] (κ, setc D 304 (acpy (D 304) (D 304) 60 0 k)) = ev xs d mm_258 51 [some (.inr (.inr 256)), some (.inl 0)] [] (κ, aup (setc D 304 (acpy (D 304) (D 304) 60 0 1740)) 256 70 29) := by
  have hk := k_256 hκ
  intro m
  induction m with
  | zero =>
    intro k h
    rw [q_258_11, show k = 1740 by omega]
    simp (disch := omega) only [cond_true, cond_false, Bool.and_true, Bool.true_and, Bool.and_false, Bool.false_and, Int.toNat_natCast, Int.reduceToNat, bI_s, bJ_s, bV_s, bR_s, decide_true, decide_false, not_true_eq_false, not_false_eq_true, dT, dF, w_al, w_la, w_ab, w_sl, w_sb, w_dec, w_ml, w_lm, ol2i_n, aup_ne, aupE, aupJ, setc_self, setc_ne, pr_1 hp, pr_3 hp, pr_5 hp, pr_6 hp, pr_7 hp, pr_8 hp, pr_9 hp, pr_20 hp, pr_21 hp, pr_22 hp, pr_23 hp, pr_24 hp, pr_25 hp, pr_26 hp, pr_27 hp, pr_28 hp, pr_29 hp, pr_30 hp, pr_31 hp, pr_32 hp, pr_33 hp, pr_34 hp, pr_35 hp, pr_36 hp, pr_37 hp, pr_38 hp, pr_39 hp, pr_40 hp, pr_41 hp, pr_42 hp, pr_43 hp, pr_44 hp, pr_45 hp, pr_46 hp, pr_48 hp, pr_49 hp, pr_50 hp, pr_51 hp, pr_52 hp, pr_54 hp, pr_55 hp, pr_58 hp, pr_60 hp, pr_61 hp, pr_63 hp, pr_64 hp, pr_65 hp, pr_71 hp, pr_72 hp, pr_73 hp, pr_75 hp, pr_76 hp, pr_78 hp, pr_80 hp, pr_81 hp, pr_82 hp, pr_83 hp, pr_84 hp, k_256 hκ, n_257 hκ, n_258 hκ, n_259 hκ, n_260 hκ, n_261 hκ, n_262 hκ, n_263 hκ, n_264 hκ, n_265 hκ, n_266 hκ, n_267 hκ, n_268 hκ, n_269 hκ, n_270 hκ, n_271 hκ, n_272 hκ, n_273 hκ, n_274 hκ, n_275 hκ, n_276 hκ, n_277 hκ, n_278 hκ, n_279 hκ, n_280 hκ, n_281 hκ, n_282 hκ, n_283 hκ, n_284 hκ, n_285 hκ, n_286 hκ, n_287 hκ, n_288 hκ, n_289 hκ, n_290 hκ, n_291 hκ, n_292 hκ, n_293 hκ, n_294 hκ, n_295 hκ, n_296 hκ, n_297 hκ, n_298 hκ, n_299 hκ, n_300 hκ, n_301 hκ, n_302 hκ, n_303 hκ, n_304 hκ, n_305 hκ, n_306 hκ, n_307 hκ, n_308 hκ, n_309 hκ, n_310 hκ, n_311 hκ, n_312 hκ, n_313 hκ, n_314 hκ, h70]
    rfl
  | succ m ih =>
    intro k h
    have e := acpy_step (D 304) (D 304) 60 0 k
    rw [Nat.zero_add] at e
    rw [q_258_11]
    simp (disch := omega) only [cond_true, cond_false, Bool.and_true, Bool.true_and, Bool.and_false, Bool.false_and, Int.toNat_natCast, Int.reduceToNat, bI_s, bJ_s, bV_s, bR_s, decide_true, decide_false, not_true_eq_false, not_false_eq_true, dT, dF, w_al, w_la, w_ab, w_sl, w_sb, w_dec, w_ml, w_lm, ol2i_n, aup_ne, aupE, aupJ, setc_self, setc_ne, pr_1 hp, pr_3 hp, pr_5 hp, pr_6 hp, pr_7 hp, pr_8 hp, pr_9 hp, pr_20 hp, pr_21 hp, pr_22 hp, pr_23 hp, pr_24 hp, pr_25 hp, pr_26 hp, pr_27 hp, pr_28 hp, pr_29 hp, pr_30 hp, pr_31 hp, pr_32 hp, pr_33 hp, pr_34 hp, pr_35 hp, pr_36 hp, pr_37 hp, pr_38 hp, pr_39 hp, pr_40 hp, pr_41 hp, pr_42 hp, pr_43 hp, pr_44 hp, pr_45 hp, pr_46 hp, pr_48 hp, pr_49 hp, pr_50 hp, pr_51 hp, pr_52 hp, pr_54 hp, pr_55 hp, pr_58 hp, pr_60 hp, pr_61 hp, pr_63 hp, pr_64 hp, pr_65 hp, pr_71 hp, pr_72 hp, pr_73 hp, pr_75 hp, pr_76 hp, pr_78 hp, pr_80 hp, pr_81 hp, pr_82 hp, pr_83 hp, pr_84 hp, k_256 hκ, n_257 hκ, n_258 hκ, n_259 hκ, n_260 hκ, n_261 hκ, n_262 hκ, n_263 hκ, n_264 hκ, n_265 hκ, n_266 hκ, n_267 hκ, n_268 hκ, n_269 hκ, n_270 hκ, n_271 hκ, n_272 hκ, n_273 hκ, n_274 hκ, n_275 hκ, n_276 hκ, n_277 hκ, n_278 hκ, n_279 hκ, n_280 hκ, n_281 hκ, n_282 hκ, n_283 hκ, n_284 hκ, n_285 hκ, n_286 hκ, n_287 hκ, n_288 hκ, n_289 hκ, n_290 hκ, n_291 hκ, n_292 hκ, n_293 hκ, n_294 hκ, n_295 hκ, n_296 hκ, n_297 hκ, n_298 hκ, n_299 hκ, n_300 hκ, n_301 hκ, n_302 hκ, n_303 hκ, n_304 hκ, n_305 hκ, n_306 hκ, n_307 hκ, n_308 hκ, n_309 hκ, n_310 hκ, n_311 hκ, n_312 hκ, n_313 hκ, n_314 hκ, aup_setc, acpy_out, Nat.add_comm k 60, e, ih (k + 1) (by omega)]
theorem keeps_put (xs : List Int) (d : Nat) {κ : aK} {D : Nat → Nat → Int} (hκ : Shp κ) (hp : PtrR D) {n : Nat} (hn : n < 30) (h70 : D 256 70 = (n : Int)) : ∀ (m k : Nat), k + m = 60 → ev xs (d + 1) mm_258 51 [some (.inr (.inr 256)), some (.inl (k : Int))] [] (κ, setc D 304 (acpy (D 301) (D 304) 0 (60 * n) k)) = some (none, (κ, setc (aup (setc D 304 (acpy (D 301) (D 304) 0 (60 * n) 60)) 256 70 ((n + 1 : Nat) : Int)) 301 (cpn 60 (D 302) (D 301)))) := by
  have hk := k_256 hκ
  intro m
  induction m with
  | zero =>
    intro k h
    have hp2 : PtrR (aup (setc D 304 (acpy (D 301) (D 304) 0 (60 * n) 60)) 256 70 ((n + 1 : Nat) : Int)) := by
      unfold PtrR
      simp (disch := omega) only [cond_true, cond_false, Bool.and_true, Bool.true_and, Bool.and_false, Bool.false_and, Int.toNat_natCast, Int.reduceToNat, bI_s, bJ_s, bV_s, bR_s, decide_true, decide_false, not_true_eq_false, not_false_eq_true, dT, dF, w_al, w_la, w_ab, w_sl, w_sb, w_dec, w_ml, w_lm, ol2i_n, aup_ne, aupE, aupJ, setc_self, setc_ne]
      exact hp
    have kr := keepsRow_eq xs d hκ hp2
    rw [q_258_51, show k = 60 by omega]
    simp (disch := omega) only [cond_true, cond_false, Bool.and_true, Bool.true_and, Bool.and_false, Bool.false_and, Int.toNat_natCast, Int.reduceToNat, bI_s, bJ_s, bV_s, bR_s, decide_true, decide_false, not_true_eq_false, not_false_eq_true, dT, dF, w_al, w_la, w_ab, w_sl, w_sb, w_dec, w_ml, w_lm, ol2i_n, aup_ne, aupE, aupJ, setc_self, setc_ne, pr_1 hp, pr_3 hp, pr_5 hp, pr_6 hp, pr_7 hp, pr_8 hp, pr_9 hp, pr_20 hp, pr_21 hp, pr_22 hp, pr_23 hp, pr_24 hp, pr_25 hp, pr_26 hp, pr_27 hp, pr_28 hp, pr_29 hp, pr_30 hp, pr_31 hp, pr_32 hp, pr_33 hp, pr_34 hp, pr_35 hp, pr_36 hp, pr_37 hp, pr_38 hp, pr_39 hp, pr_40 hp, pr_41 hp, pr_42 hp, pr_43 hp, pr_44 hp, pr_45 hp, pr_46 hp, pr_48 hp, pr_49 hp, pr_50 hp, pr_51 hp, pr_52 hp, pr_54 hp, pr_55 hp, pr_58 hp, pr_60 hp, pr_61 hp, pr_63 hp, pr_64 hp, pr_65 hp, pr_71 hp, pr_72 hp, pr_73 hp, pr_75 hp, pr_76 hp, pr_78 hp, pr_80 hp, pr_81 hp, pr_82 hp, pr_83 hp, pr_84 hp, k_256 hκ, n_257 hκ, n_258 hκ, n_259 hκ, n_260 hκ, n_261 hκ, n_262 hκ, n_263 hκ, n_264 hκ, n_265 hκ, n_266 hκ, n_267 hκ, n_268 hκ, n_269 hκ, n_270 hκ, n_271 hκ, n_272 hκ, n_273 hκ, n_274 hκ, n_275 hκ, n_276 hκ, n_277 hκ, n_278 hκ, n_279 hκ, n_280 hκ, n_281 hκ, n_282 hκ, n_283 hκ, n_284 hκ, n_285 hκ, n_286 hκ, n_287 hκ, n_288 hκ, n_289 hκ, n_290 hκ, n_291 hκ, n_292 hκ, n_293 hκ, n_294 hκ, n_295 hκ, n_296 hκ, n_297 hκ, n_298 hκ, n_299 hκ, n_300 hκ, n_301 hκ, n_302 hκ, n_303 hκ, n_304 hκ, n_305 hκ, n_306 hκ, n_307 hκ, n_308 hκ, n_309 hκ, n_310 hκ, n_311 hκ, n_312 hκ, n_313 hκ, n_314 hκ, h70] at kr ⊢
    simp (disch := omega) only [cond_true, cond_false, Bool.and_true, Bool.true_and, Bool.and_false, Bool.false_and, Int.toNat_natCast, Int.reduceToNat, bI_s, bJ_s, bV_s, bR_s, decide_true, decide_false, not_true_eq_false, not_false_eq_true, dT, dF, w_al, w_la, w_ab, w_sl, w_sb, w_dec, w_ml, w_lm, ol2i_n, aup_ne, aupE, aupJ, setc_self, setc_ne, kr]
  | succ m ih =>
    intro k h
    have e := acpy_step (D 301) (D 304) 0 (60 * n) k
    rw [Nat.zero_add] at e
    rw [q_258_51]
    simp (disch := omega) only [cond_true, cond_false, Bool.and_true, Bool.true_and, Bool.and_false, Bool.false_and, Int.toNat_natCast, Int.reduceToNat, bI_s, bJ_s, bV_s, bR_s, decide_true, decide_false, not_true_eq_false, not_false_eq_true, dT, dF, w_al, w_la, w_ab, w_sl, w_sb, w_dec, w_ml, w_lm, ol2i_n, aup_ne, aupE, aupJ, setc_self, setc_ne, pr_1 hp, pr_3 hp, pr_5 hp, pr_6 hp, pr_7 hp, pr_8 hp, pr_9 hp, pr_20 hp, pr_21 hp, pr_22 hp, pr_23 hp, pr_24 hp, pr_25 hp, pr_26 hp, pr_27 hp, pr_28 hp, pr_29 hp, pr_30 hp, pr_31 hp, pr_32 hp, pr_33 hp, pr_34 hp, pr_35 hp, pr_36 hp, pr_37 hp, pr_38 hp, pr_39 hp, pr_40 hp, pr_41 hp, pr_42 hp, pr_43 hp, pr_44 hp, pr_45 hp, pr_46 hp, pr_48 hp, pr_49 hp, pr_50 hp, pr_51 hp, pr_52 hp, pr_54 hp, pr_55 hp, pr_58 hp, pr_60 hp, pr_61 hp, pr_63 hp, pr_64 hp, pr_65 hp, pr_71 hp, pr_72 hp, pr_73 hp, pr_75 hp, pr_76 hp, pr_78 hp, pr_80 hp, pr_81 hp, pr_82 hp, pr_83 hp, pr_84 hp, k_256 hκ, n_257 hκ, n_258 hκ, n_259 hκ, n_260 hκ, n_261 hκ, n_262 hκ, n_263 hκ, n_264 hκ, n_265 hκ, n_266 hκ, n_267 hκ, n_268 hκ, n_269 hκ, n_270 hκ, n_271 hκ, n_272 hκ, n_273 hκ, n_274 hκ, n_275 hκ, n_276 hκ, n_277 hκ, n_278 hκ, n_279 hκ, n_280 hκ, n_281 hκ, n_282 hκ, n_283 hκ, n_284 hκ, n_285 hκ, n_286 hκ, n_287 hκ, n_288 hκ, n_289 hκ, n_290 hκ, n_291 hκ, n_292 hκ, n_293 hκ, n_294 hκ, n_295 hκ, n_296 hκ, n_297 hκ, n_298 hκ, n_299 hκ, n_300 hκ, n_301 hκ, n_302 hκ, n_303 hκ, n_304 hκ, n_305 hκ, n_306 hκ, n_307 hκ, n_308 hκ, n_309 hκ, n_310 hκ, n_311 hκ, n_312 hκ, n_313 hκ, n_314 hκ, h70, aup_setc, e, ih (k + 1) (by omega)]
theorem keeps_lt (xs : List Int) (d : Nat) {κ : aK} {D : Nat → Nat → Int} (hκ : Shp κ) {X : TX} (hX : TXok X) (hp : PtrR D) {S S' : ST} (hn : RowR (D 301) X S) (hr : RowR (D 302) X S') {n : Nat} (hlt : n < 30) {H : Nat → ST} (h70 : D 256 70 = (n : Int)) (hh : ∀ i, i < n → RowR (fun k => D 304 (60 * i + k)) X (H i)) : ∃ D', ev xs (d + 1) mm_258 51 [some (.inr (.inr 256)), some (.inl 0)] [] (κ, D) = some (none, (κ, D')) ∧ HR D' X (n + 1) (fun i => if i = n then S else H i) ∧ RowR (D' 301) X S' ∧ (∀ q, q ≠ 256 → q ≠ 301 → q ≠ 304 → D' q = D q) ∧ (∀ j, j ≠ 70 → D' 256 j = D 256 j) := by
  have e := keeps_put xs d hκ hp hlt h70 60 0 rfl
  rw [acpy_zero, setc_id] at e
  refine ⟨_, e, ⟨?_, by omega, fun i hi => ?_⟩, ?_, fun q h1 h2 h3 => ?_, fun j hj => ?_⟩
  · simp (disch := omega) only [cond_true, cond_false, Bool.and_true, Bool.true_and, Bool.and_false, Bool.false_and, Int.toNat_natCast, Int.reduceToNat, bI_s, bJ_s, bV_s, bR_s, decide_true, decide_false, not_true_eq_false, not_false_eq_true, dT, dF, w_al, w_la, w_ab, w_sl, w_sb, w_dec, w_ml, w_lm, ol2i_n, aup_ne, aupE, aupJ, setc_self, setc_ne]
  · show RowR _ X (if i = n then S else H i)
    by_cases hin : i = n
    · subst hin
      rw [if_pos rfl]
      refine RowR.congr hX hn (fun k hk => ?_)
      simp (disch := omega) only [cond_true, cond_false, Bool.and_true, Bool.true_and, Bool.and_false, Bool.false_and, Int.toNat_natCast, Int.reduceToNat, bI_s, bJ_s, bV_s, bR_s, decide_true, decide_false, not_true_eq_false, not_false_eq_true, dT, dF, w_al, w_la, w_ab, w_sl, w_sb, w_dec, w_ml, w_lm, ol2i_n, aup_ne, aupE, aupJ, setc_self, setc_ne, acpy_in]
      rw [Nat.zero_add, Nat.add_sub_cancel_left]
    · rw [if_neg hin]
      refine RowR.congr hX (hh i (by omega)) (fun k hk => ?_)
      simp (disch := omega) only [cond_true, cond_false, Bool.and_true, Bool.true_and, Bool.and_false, Bool.false_and, Int.toNat_natCast, Int.reduceToNat, bI_s, bJ_s, bV_s, bR_s, decide_true, decide_false, not_true_eq_false, not_false_eq_true, dT, dF, w_al, w_la, w_ab, w_sl, w_sb, w_dec, w_ml, w_lm, ol2i_n, aup_ne, aupE, aupJ, setc_self, setc_ne, acpy_out]
  · rw [setc_self]
    exact hr.cpn hX
  · rw [setc_ne h2, aupN h1, setc_ne h3]
  · rw [setc_ne (by decide), aupJ hj, setc_ne (by decide)]
theorem keeps_eq (xs : List Int) (d : Nat) {κ : aK} {D : Nat → Nat → Int} (hκ : Shp κ) {X : TX} (hX : TXok X) (hp : PtrR D) {S S' : ST} (hn : RowR (D 301) X S) (hr : RowR (D 302) X S') {n : Nat} {H : Nat → ST} (hh : HR D X n H) : ∃ D', cl xs (d + 2) 258 [.inr (.inr 256)] (κ, D) = some (none, (κ, D')) ∧ HR D' X (phN n) (phH n H S) ∧ RowR (D' 301) X S' ∧ (∀ q, q ≠ 256 → q ≠ 301 → q ≠ 304 → D' q = D q) ∧ (∀ j, j ≠ 70 → D' 256 j = D 256 j) := by
  have hk := k_256 hκ
  obtain ⟨h70, hle, hi⟩ := hh
  unfold phN phH
  rw [c_258]
  by_cases hlt : n < 30
  · rw [if_pos hlt, if_pos hlt]
    obtain ⟨D', e, r⟩ := keeps_lt xs d hκ hX hp hn hr hlt h70 hi
    refine ⟨D', ?_, r⟩
    simp (disch := omega) only [cond_true, cond_false, Bool.and_true, Bool.true_and, Bool.and_false, Bool.false_and, Int.toNat_natCast, Int.reduceToNat, bI_s, bJ_s, bV_s, bR_s, decide_true, decide_false, not_true_eq_false, not_false_eq_true, dT, dF, w_al, w_la, w_ab, w_sl, w_sb, w_dec, w_ml, w_lm, ol2i_n, aup_ne, aupE, aupJ, setc_self, setc_ne, pr_1 hp, pr_3 hp, pr_5 hp, pr_6 hp, pr_7 hp, pr_8 hp, pr_9 hp, pr_20 hp, pr_21 hp, pr_22 hp, pr_23 hp, pr_24 hp, pr_25 hp, pr_26 hp, pr_27 hp, pr_28 hp, pr_29 hp, pr_30 hp, pr_31 hp, pr_32 hp, pr_33 hp, pr_34 hp, pr_35 hp, pr_36 hp, pr_37 hp, pr_38 hp, pr_39 hp, pr_40 hp, pr_41 hp, pr_42 hp, pr_43 hp, pr_44 hp, pr_45 hp, pr_46 hp, pr_48 hp, pr_49 hp, pr_50 hp, pr_51 hp, pr_52 hp, pr_54 hp, pr_55 hp, pr_58 hp, pr_60 hp, pr_61 hp, pr_63 hp, pr_64 hp, pr_65 hp, pr_71 hp, pr_72 hp, pr_73 hp, pr_75 hp, pr_76 hp, pr_78 hp, pr_80 hp, pr_81 hp, pr_82 hp, pr_83 hp, pr_84 hp, k_256 hκ, n_257 hκ, n_258 hκ, n_259 hκ, n_260 hκ, n_261 hκ, n_262 hκ, n_263 hκ, n_264 hκ, n_265 hκ, n_266 hκ, n_267 hκ, n_268 hκ, n_269 hκ, n_270 hκ, n_271 hκ, n_272 hκ, n_273 hκ, n_274 hκ, n_275 hκ, n_276 hκ, n_277 hκ, n_278 hκ, n_279 hκ, n_280 hκ, n_281 hκ, n_282 hκ, n_283 hκ, n_284 hκ, n_285 hκ, n_286 hκ, n_287 hκ, n_288 hκ, n_289 hκ, n_290 hκ, n_291 hκ, n_292 hκ, n_293 hκ, n_294 hκ, n_295 hκ, n_296 hκ, n_297 hκ, n_298 hκ, n_299 hκ, n_300 hκ, n_301 hκ, n_302 hκ, n_303 hκ, n_304 hκ, n_305 hκ, n_306 hκ, n_307 hκ, n_308 hκ, n_309 hκ, n_310 hκ, n_311 hκ, n_312 hκ, n_313 hκ, n_314 hκ, h70]
    exact e
  · rw [if_neg hlt, if_neg hlt]
    have h30 : D 256 70 = 30 := by rw [h70]; omega
    have e1 := keeps_shift xs (d + 1) hκ hp h30 1740 0 rfl
    rw [acpy_zero, setc_id] at e1
    have hp2 : PtrR (aup (setc D 304 (acpy (D 304) (D 304) 60 0 1740)) 256 70 29) := by
      unfold PtrR
      simp (disch := omega) only [cond_true, cond_false, Bool.and_true, Bool.true_and, Bool.and_false, Bool.false_and, Int.toNat_natCast, Int.reduceToNat, bI_s, bJ_s, bV_s, bR_s, decide_true, decide_false, not_true_eq_false, not_false_eq_true, dT, dF, w_al, w_la, w_ab, w_sl, w_sb, w_dec, w_ml, w_lm, ol2i_n, aup_ne, aupE, aupJ, setc_self, setc_ne]
      exact hp
    obtain ⟨D', e, r1, r2, r3, r4⟩ := keeps_lt xs d hκ hX hp2 (S := S) (S' := S') (n := 29) (H := fun i => H (i + 1)) (by rw [aupN (by decide), setc_ne (by decide)]; exact hn) (by rw [aupN (by decide), setc_ne (by decide)]; exact hr) (by decide) (by simp (disch := omega) only [cond_true, cond_false, Bool.and_true, Bool.true_and, Bool.and_false, Bool.false_and, Int.toNat_natCast, Int.reduceToNat, bI_s, bJ_s, bV_s, bR_s, decide_true, decide_false, not_true_eq_false, not_false_eq_true, dT, dF, w_al, w_la, w_ab, w_sl, w_sb, w_dec, w_ml, w_lm, ol2i_n, aup_ne, aupE, aupJ, setc_self, setc_ne]; rfl) (fun i hin => by
      refine RowR.congr hX (hi (i + 1) (by omega)) (fun k hk => ?_)
      simp (disch := omega) only [cond_true, cond_false, Bool.and_true, Bool.true_and, Bool.and_false, Bool.false_and, Int.toNat_natCast, Int.reduceToNat, bI_s, bJ_s, bV_s, bR_s, decide_true, decide_false, not_true_eq_false, not_false_eq_true, dT, dF, w_al, w_la, w_ab, w_sl, w_sb, w_dec, w_ml, w_lm, ol2i_n, aup_ne, aupE, aupJ, setc_self, setc_ne, acpy_in]
      rw [show 60 + (60 * i + k - 0) = 60 * (i + 1) + k by omega])
    refine ⟨D', ?_, r1, r2, fun q h1 h2 h3 => ?_, fun j hj => ?_⟩
    · simp (disch := omega) only [cond_true, cond_false, Bool.and_true, Bool.true_and, Bool.and_false, Bool.false_and, Int.toNat_natCast, Int.reduceToNat, bI_s, bJ_s, bV_s, bR_s, decide_true, decide_false, not_true_eq_false, not_false_eq_true, dT, dF, w_al, w_la, w_ab, w_sl, w_sb, w_dec, w_ml, w_lm, ol2i_n, aup_ne, aupE, aupJ, setc_self, setc_ne, pr_1 hp, pr_3 hp, pr_5 hp, pr_6 hp, pr_7 hp, pr_8 hp, pr_9 hp, pr_20 hp, pr_21 hp, pr_22 hp, pr_23 hp, pr_24 hp, pr_25 hp, pr_26 hp, pr_27 hp, pr_28 hp, pr_29 hp, pr_30 hp, pr_31 hp, pr_32 hp, pr_33 hp, pr_34 hp, pr_35 hp, pr_36 hp, pr_37 hp, pr_38 hp, pr_39 hp, pr_40 hp, pr_41 hp, pr_42 hp, pr_43 hp, pr_44 hp, pr_45 hp, pr_46 hp, pr_48 hp, pr_49 hp, pr_50 hp, pr_51 hp, pr_52 hp, pr_54 hp, pr_55 hp, pr_58 hp, pr_60 hp, pr_61 hp, pr_63 hp, pr_64 hp, pr_65 hp, pr_71 hp, pr_72 hp, pr_73 hp, pr_75 hp, pr_76 hp, pr_78 hp, pr_80 hp, pr_81 hp, pr_82 hp, pr_83 hp, pr_84 hp, k_256 hκ, n_257 hκ, n_258 hκ, n_259 hκ, n_260 hκ, n_261 hκ, n_262 hκ, n_263 hκ, n_264 hκ, n_265 hκ, n_266 hκ, n_267 hκ, n_268 hκ, n_269 hκ, n_270 hκ, n_271 hκ, n_272 hκ, n_273 hκ, n_274 hκ, n_275 hκ, n_276 hκ, n_277 hκ, n_278 hκ, n_279 hκ, n_280 hκ, n_281 hκ, n_282 hκ, n_283 hκ, n_284 hκ, n_285 hκ, n_286 hκ, n_287 hκ, n_288 hκ, n_289 hκ, n_290 hκ, n_291 hκ, n_292 hκ, n_293 hκ, n_294 hκ, n_295 hκ, n_296 hκ, n_297 hκ, n_298 hκ, n_299 hκ, n_300 hκ, n_301 hκ, n_302 hκ, n_303 hκ, n_304 hκ, n_305 hκ, n_306 hκ, n_307 hκ, n_308 hκ, n_309 hκ, n_310 hκ, n_311 hκ, n_312 hκ, n_313 hκ, n_314 hκ, h30]
      exact e1.trans e
    · rw [r3 q h1 h2 h3, aupN h1, setc_ne h3]
    · rw [r4 j hj, aupJ hj, setc_ne (by decide)]
