/-! What holds between calls, but for texts read, caches and tape; turn, swap, undo, hold, restore. -/
def HeldC (D : Nat → Nat → Int) (X : TX) (Hd : Nat → Option ST) : Prop := ∃ b : Nat, b < 8 ∧ D 0 13 = (b : Int) ∧ ∀ i, i < 3 → (b / 2 ^ i % 2 = (if (Hd i).isSome = true then 1 else 0)) ∧ ∀ S, Hd i = some S → StC D (241 + 5 * i) X S
def HeldR (D : Nat → Nat → Int) (X : TX) (Hd : Nat → Option ST) : Prop := ∀ i, i < 3 → (D 313 i = (if (Hd i).isSome = true then 1 else 0)) ∧ ∀ S, Hd i = some S → RowR (fun k => D 314 (60 * i + k)) X S
def CCore (κ : aK) (D : Nat → Nat → Int) (t : Nat) (X : TX) (S : ST) (n : Nat) (H : Nat → ST) (Hd : Nat → Option ST) : Prop := Shp κ ∧ CPtr D ∧ isT t ∧ D 0 5 = (t : Int) ∧ TxC D t X ∧ StC D 53 X S ∧ HC D X n H ∧ HeldC D X Hd
def RCore (D : Nat → Nat → Int) (v : Nat) (X : TX) (S : ST) (n : Nat) (H : Nat → ST) (Hd : Nat → Option ST) : Prop := RI D v X ∧ RowR (D 301) X S ∧ HR D X n H ∧ HeldR D X Hd
def AOk (X : TX) (S : ST) (n : Nat) (H : Nat → ST) (Hd : Nat → Option ST) : Prop := TXok X ∧ STok X S ∧ (∀ i, i < n → STok X (H i)) ∧ (∀ i, i < 3 → ∀ S, Hd i = some S → STok X S)
def CFr (D D' : Nat → Nat → Int) : Prop := (∀ q, (1 ≤ q ∧ q < 53) ∨ (63 ≤ q ∧ q ≤ 90) ∨ 256 ≤ q → D' q = D q) ∧ (∀ j, j ≠ 10 → j ≠ 11 → j ≠ 13 → D' 0 j = D 0 j)
/-- as CFr, and the two caches are forgotten -/
def CFrF (D D' : Nat → Nat → Int) : Prop := (∀ q, (1 ≤ q ∧ q < 53) ∨ (63 ≤ q ∧ q ≤ 90 ∧ q ≠ 72 ∧ q ≠ 77) ∨ 256 ≤ q → D' q = D q) ∧ (∀ j, j ≠ 10 → j ≠ 11 → j ≠ 13 → D' 0 j = D 0 j) ∧ (∀ j, j ≠ 0 → D' 72 j = D 72 j ∧ D' 77 j = D 77 j) ∧ D' 72 0 = 0 ∧ D' 77 0 = 0
def rsv : List Nat := [301, 304, 313, 314]
def RFr (D D' : Nat → Nat → Int) : Prop := (∀ q, q ≠ 256 → q ∉ scr → q ∉ rsv → D' q = D q) ∧ (∀ j, j ∉ scf → j ≠ 70 → D' 256 j = D 256 j) ∧ D' 303 0 = 0
theorem RSame.fr {D D' : Nat → Nat → Int} (h : RSame D D') : RFr D D' := ⟨fun q h1 h2 _ => h.1 q h1 h2, fun j h1 _ => h.2.1 j h1, h.2.2⟩
theorem RFr.trans {D D1 D2 : Nat → Nat → Int} (h1 : RFr D D1) (h2 : RFr D1 D2) : RFr D D2 := ⟨fun q a b c => (h2.1 q a b c).trans (h1.1 q a b c), fun j a b => (h2.2.1 j a b).trans (h1.2.1 j a b), h2.2.2⟩
theorem rsv_mid {q : Nat} (h2 : q ≤ 288) : q ∉ rsv := by
  intro h
  unfold rsv at h
  simp only [List.mem_cons, List.not_mem_nil, or_false] at h
  omega
theorem RFr.ptr {D D' : Nat → Nat → Int} (h : RFr D D') (hp : PtrR D) : PtrR D' := by
  unfold PtrR at hp ⊢
  rw [h.2.1 1 (by decide) (by decide), h.2.1 3 (by decide) (by decide), h.2.1 5 (by decide) (by decide), h.2.1 6 (by decide) (by decide), h.2.1 7 (by decide) (by decide), h.2.1 8 (by decide) (by decide), h.2.1 9 (by decide) (by decide), h.2.1 20 (by decide) (by decide), h.2.1 21 (by decide) (by decide), h.2.1 22 (by decide) (by decide), h.2.1 23 (by decide) (by decide), h.2.1 24 (by decide) (by decide), h.2.1 25 (by decide) (by decide), h.2.1 26 (by decide) (by decide), h.2.1 27 (by decide) (by decide), h.2.1 28 (by decide) (by decide), h.2.1 29 (by decide) (by decide), h.2.1 30 (by decide) (by decide), h.2.1 31 (by decide) (by decide), h.2.1 32 (by decide) (by decide), h.2.1 33 (by decide) (by decide), h.2.1 34 (by decide) (by decide), h.2.1 35 (by decide) (by decide), h.2.1 36 (by decide) (by decide), h.2.1 37 (by decide) (by decide), h.2.1 38 (by decide) (by decide), h.2.1 39 (by decide) (by decide), h.2.1 40 (by decide) (by decide), h.2.1 41 (by decide) (by decide), h.2.1 42 (by decide) (by decide), h.2.1 43 (by decide) (by decide), h.2.1 44 (by decide) (by decide), h.2.1 45 (by decide) (by decide), h.2.1 46 (by decide) (by decide), h.2.1 48 (by decide) (by decide), h.2.1 49 (by decide) (by decide), h.2.1 50 (by decide) (by decide), h.2.1 51 (by decide) (by decide), h.2.1 52 (by decide) (by decide), h.2.1 54 (by decide) (by decide), h.2.1 55 (by decide) (by decide), h.2.1 58 (by decide) (by decide), h.2.1 60 (by decide) (by decide), h.2.1 61 (by decide) (by decide), h.2.1 63 (by decide) (by decide), h.2.1 64 (by decide) (by decide), h.2.1 65 (by decide) (by decide), h.2.1 71 (by decide) (by decide), h.2.1 72 (by decide) (by decide), h.2.1 73 (by decide) (by decide), h.2.1 75 (by decide) (by decide), h.2.1 76 (by decide) (by decide), h.2.1 78 (by decide) (by decide), h.2.1 80 (by decide) (by decide), h.2.1 81 (by decide) (by decide), h.2.1 82 (by decide) (by decide), h.2.1 83 (by decide) (by decide), h.2.1 84 (by decide) (by decide)]
  exact hp
theorem RI.fr {D D' : Nat → Nat → Int} {v : Nat} {X : TX} (h : RI D v X) (hs : RFr D D') : RI D' v X := by
  obtain ⟨hp, hv, hv2, h0, hT⟩ := h
  have e := hs.2.1 18 (by decide) (by decide)
  exact ⟨hs.ptr hp, e.trans hv, hv2, hs.2.2, hT.congr (fun q a b => hs.1 q (by omega) (scr_mid a b) (rsv_mid b)) e⟩
theorem HR.congr {D D' : Nat → Nat → Int} {X : TX} {n : Nat} {H : Nat → ST} (h : HR D X n H) (h1 : D' 256 70 = D 256 70) (h2 : D' 304 = D 304) : HR D' X n H := by
  unfold HR
  rw [h1, h2]
  exact h
theorem HeldR.congr {D D' : Nat → Nat → Int} {X : TX} {Hd : Nat → Option ST} (h : HeldR D X Hd) (h1 : D' 313 = D 313) (h2 : D' 314 = D 314) : HeldR D' X Hd := by
  unfold HeldR
  rw [h1, h2]
  exact h
theorem RCore.same {D D' : Nat → Nat → Int} {v : Nat} {X : TX} {S : ST} {n : Nat} {H : Nat → ST} {Hd : Nat → Option ST} (h : RCore D v X S n H Hd) (hs : RSame D D') : RCore D' v X S n H Hd := by
  obtain ⟨a, b, c, e⟩ := h
  exact ⟨a.same hs, by rw [hs.1 301 (by decide) (by decide)]; exact b, c.congr (hs.2.1 70 (by decide)) (hs.1 304 (by decide) (by decide)), e.congr (hs.1 313 (by decide) (by decide)) (hs.1 314 (by decide) (by decide))⟩
theorem HeldC.congr {D D' : Nat → Nat → Int} {X : TX} {Hd : Nat → Option ST} (h : HeldC D X Hd) (h0 : D' 0 13 = D 0 13) (hd : ∀ q, 241 ≤ q → q < 256 → D' q = D q) : HeldC D' X Hd := by
  obtain ⟨b, hb, e, hi⟩ := h
  refine ⟨b, hb, h0.trans e, fun i hin => ⟨(hi i hin).1, fun S hS => ((hi i hin).2 S hS).congr (fun q h1 h2 => hd q (by omega) (by omega))⟩⟩
/-- a thing is done by the class: remember, and then a change of the state alone -/
theorem CCore.rem (xs : List Int) (d : Nat) {κ : aK} {D : Nat → Nat → Int} {t : Nat} {X : TX} {S : ST} {n : Nat} {H : Nat → ST} {Hd : Nat → Option ST} (hX : TXok X) (h : CCore κ D t X S n H Hd) : ∃ D', cl xs (d + 2) 147 [.inr (.inr 0)] (κ, D) = some (none, (κ, D')) ∧ CCore κ D' t X S (phN n) (phH n H S) Hd ∧ CFr D D' := by
  obtain ⟨hκ, hc, ht, h5, hx, hs, hh, hl⟩ := h
  have ht' : t = 9 ∨ t = 31 := ht
  obtain ⟨D', e, c', h', f1, f2⟩ := remember_eq xs d hκ hc hX hs hh
  refine ⟨D', e, ⟨hκ, c', ht, by rw [f2 5 (by decide) (by decide)]; exact h5, hx.congr (fun q h1 h2 => f1 q (by omega) (by omega)), hs.congr (fun q h1 h2 => f1 q (by omega) (by omega)), h', hl.congr (f2 13 (by decide) (by decide)) (fun q h1 h2 => f1 q (by omega) (by omega))⟩, fun q hq => f1 q (by omega) (by omega), fun j h1 h2 _ => f2 j h1 h2⟩
theorem CFr.trans {D D1 D2 : Nat → Nat → Int} (h1 : CFr D D1) (h2 : CFr D1 D2) : CFr D D2 := ⟨fun q a => (h2.1 q a).trans (h1.1 q a), fun j a b c => (h2.2 j a b c).trans (h1.2 j a b c)⟩
/-- the state's cells alone have changed -/
theorem CCore.st {κ : aK} {D D' : Nat → Nat → Int} {t : Nat} {X : TX} {S S' : ST} {n : Nat} {H : Nat → ST} {Hd : Nat → Option ST} (h : CCore κ D t X S n H Hd) (hc : CPtr D') (hs : StC D' 53 X S') (hf : ∀ q, q < 53 ∨ 63 ≤ q → D' q = D q) : CCore κ D' t X S' n H Hd ∧ CFr D D' := by
  obtain ⟨hκ, _, ht, h5, hx, _, hh, hl⟩ := h
  have ht' : t = 9 ∨ t = 31 := ht
  exact ⟨⟨hκ, hc, ht, by rw [hf 0 (by omega)]; exact h5, hx.congr (fun q h1 h2 => hf q (by omega)), hs, hh.congr (fun j _ => by rw [hf 0 (by omega)]) (fun q h1 h2 => hf q (by omega)), hl.congr (by rw [hf 0 (by omega)]) (fun q h1 h2 => hf q (by omega))⟩, fun q hq => hf q (by omega), fun j _ _ _ => by rw [hf 0 (by omega)]⟩
/-- forgetFits -/
theorem forget_eq (xs : List Int) (d : Nat) {κ : aK} {D : Nat → Nat → Int} (hκ : Shp κ) (hc : CPtr D) : cl xs (d + 1) 133 [.inr (.inr 0)] (κ, D) = some (none, (κ, aup (aup D 72 0 0) 77 0 0)) := by
  have hk0 : aok κ 0 11 = true := kc_0 hκ
  rw [c_133]
  simp (disch := omega) only [cond_true, cond_false, Bool.and_true, Bool.true_and, Bool.and_false, Bool.false_and, Int.toNat_natCast, Int.reduceToNat, bI_s, bJ_s, bV_s, bR_s, decide_true, decide_false, not_true_eq_false, not_false_eq_true, dT, dF, w_al, w_la, w_ab, w_sl, w_sb, w_dec, w_ml, w_lm, ol2i_n, aup_ne, aupE, aupJ, setc_self, setc_ne, pc_0_0 hc, pc_0_3 hc, pc_0_4 hc, pc_0_7 hc, pc_0_8 hc, pc_0_9 hc, pc_0_12 hc, pc_0_14 hc, pc_0_15 hc, pc_0_16 hc, pc_0_17 hc, pc_0_18 hc, pc_0_19 hc, pc_2_1 hc, pc_2_2 hc, pc_2_3 hc, pc_2_6 hc, pc_2_8 hc, pc_8_2 hc, pc_65_1 hc, pc_65_2 hc, pc_68_1 hc, pc_72_3 hc, pc_72_4 hc, pc_72_5 hc, pc_72_6 hc, pc_77_1 hc, pc_77_2 hc, pc_77_3 hc, pc_77_4 hc, pc_77_5 hc, pc_77_6 hc, kc_0 hκ, kc_1 hκ, nc_1 hκ, kc_2 hκ, kc_3 hκ, nc_3 hκ, kc_4 hκ, nc_4 hκ, kc_5 hκ, nc_5 hκ, kc_6 hκ, nc_6 hκ, kc_7 hκ, nc_7 hκ, kc_8 hκ, kc_63 hκ, nc_63 hκ, kc_64 hκ, nc_64 hκ, kc_65 hκ, kc_66 hκ, nc_66 hκ, kc_67 hκ, nc_67 hκ, kc_68 hκ, kc_69 hκ, nc_69 hκ, kc_70 hκ, nc_70 hκ, kc_71 hκ, nc_71 hκ, kc_72 hκ, kc_73 hκ, nc_73 hκ, kc_74 hκ, nc_74 hκ, kc_75 hκ, nc_75 hκ, kc_76 hκ, nc_76 hκ, kc_77 hκ, kc_78 hκ, nc_78 hκ, kc_79 hκ, nc_79 hκ, kc_80 hκ, nc_80 hκ, kc_81 hκ, nc_81 hκ, kc_82 hκ, nc_82 hκ, kc_83 hκ, nc_83 hκ, kc_84 hκ, nc_84 hκ, kc_85 hκ, nc_85 hκ, kc_86 hκ, nc_86 hκ, kc_87 hκ, nc_87 hκ, kc_88 hκ, nc_88 hκ, kc_89 hκ, nc_89 hκ, kc_90 hκ, nc_90 hκ, sk_0 hκ is53, sp_1 hc is53, sk_1 hκ is53, sn_1 hκ is53, sp_2 hc is53, sk_2 hκ is53, sn_2 hκ is53, sp_3 hc is53, sk_3 hκ is53, sn_3 hκ is53, sp_4 hc is53, sk_4 hκ is53, sn_4 hκ is53, sk_0 hκ is58, sp_1 hc is58, sk_1 hκ is58, sn_1 hκ is58, sp_2 hc is58, sk_2 hκ is58, sn_2 hκ is58, sp_3 hc is58, sk_3 hκ is58, sn_3 hκ is58, sp_4 hc is58, sk_4 hκ is58, sn_4 hκ is58, hk0]
theorem CCore.forget {κ : aK} {D D1 : Nat → Nat → Int} {t : Nat} {X : TX} {S : ST} {n : Nat} {H : Nat → ST} {Hd : Nat → Option ST} (h : CCore κ D1 t X S n H Hd) (hf : CFr D D1) : CCore κ (aup (aup D1 72 0 0) 77 0 0) t X S n H Hd ∧ CFrF D (aup (aup D1 72 0 0) 77 0 0) := by
  obtain ⟨hκ, hc, ht, h5, hx, hs, hh, hl⟩ := h
  have ht' : t = 9 ∨ t = 31 := ht
  have ne : ∀ q, q ≠ 72 → q ≠ 77 → aup (aup D1 72 0 0) 77 0 0 q = D1 q := fun q h1 h2 => by rw [aupN h2, aupN h1]
  refine ⟨⟨hκ, (hc.up pd_0.2.2.2.2.2.2.2.1 _).up pd_0.2.2.2.2.2.2.2.2.1 _, ht, by rw [ne 0 (by omega) (by omega)]; exact h5, hx.congr (fun q h1 h2 => ne q (by omega) (by omega)), hs.congr (fun q h1 h2 => ne q (by omega) (by omega)), hh.congr (fun j _ => by rw [ne 0 (by omega) (by omega)]) (fun q h1 h2 => ne q (by omega) (by omega)), hl.congr (by rw [ne 0 (by omega) (by omega)]) (fun q h1 h2 => ne q (by omega) (by omega))⟩, fun q hq => ?_, fun j a b c => ?_, fun j hj => ⟨?_, ?_⟩, ?_, ?_⟩
  · rw [ne q (by omega) (by omega)]; exact hf.1 q (by omega)
  · rw [ne 0 (by omega) (by omega)]; exact hf.2 j a b c
  · rw [aupN (by decide), aupJ hj]; rw [hf.1 72 (by omega)]
  · rw [aupJ hj, aupN (by decide)]; rw [hf.1 77 (by omega)]
  · rw [aupN (by decide), aupE]
  · rw [aupE]
/-- keeps: a thing done by the reference, whose row is told as S' -/
theorem RCore.keep (xs : List Int) (d : Nat) {κ : aK} {D : Nat → Nat → Int} {v : Nat} {X : TX} {S S' : ST} {n : Nat} {H : Nat → ST} {Hd : Nat → Option ST} (hκ : Shp κ) (hX : TXok X) (h : RCore D v X S n H Hd) {r g : Nat → Int} (hg : g 0 = 0) (hr : RowR r X S') : ∃ D', cl xs (d + 2) 258 [.inr (.inr 256)] (κ, setc (setc D 302 r) 303 g) = some (none, (κ, D')) ∧ RCore D' v X S' (phN n) (phH n H S) Hd ∧ RFr D D' := by
  obtain ⟨hR, hn, hh, hl⟩ := h
  have hs : RSame D (setc (setc D 302 r) 303 g) := RSame.row hg
  have hR2 := hR.same hs
  obtain ⟨D', e, h', r', f1, f2⟩ := keeps_eq xs d hκ hX hR2.1 (S := S) (S' := S') (by rw [hs.1 301 (by decide) (by decide)]; exact hn) (by rw [setc_ne (by decide), setc_self]; exact hr) (hh.congr (hs.2.1 70 (by decide)) (hs.1 304 (by decide) (by decide)))
  have hf : RFr (setc (setc D 302 r) 303 g) D' := by
    refine ⟨fun q h1 h2 h3 => f1 q h1 (fun e => h3 (by rw [e]; decide)) (fun e => h3 (by rw [e]; decide)), fun j _ h2 => f2 j h2, ?_⟩
    rw [f1 303 (by decide) (by decide) (by decide), setc_self]
    exact hg
  refine ⟨D', e, ⟨hR2.fr hf, r', h', hl.congr ?_ ?_⟩, hs.fr.trans hf⟩
  · rw [f1 313 (by decide) (by decide) (by decide)]; exact hs.1 313 (by decide) (by decide)
  · rw [f1 314 (by decide) (by decide) (by decide)]; exact hs.1 314 (by decide) (by decide)
theorem RSame.c2 {D : Nat → Nat → Int} {g : Nat → Int} : setc (cpD D) 303 g = setc (setc D 302 (cpn 60 (D 301) (D 302))) 303 g := rfl
/-- turn -/
def turnS (S : ST) (s : Nat) : ST := ((son S ^^^ 2 ^ s), sord S, sW S, sFt S, sStk S, sSold S, sCent S, sCoin S, sDust S)
theorem xor_lt {a s n : Nat} (ha : a < 2 ^ n) (hs : s < n) : a ^^^ 2 ^ s < 2 ^ n := Nat.xor_lt_two_pow ha (Nat.pow_lt_pow_right (by decide) hs)
theorem turn_ok {X : TX} {S : ST} (hS : STok X S) {s : Nat} (hs : s < xns X) : STok X (turnS S s) := ⟨xor_lt hS.1 hs, hS.2⟩
theorem oshl1 {s : Nat} (h : s < 31) : oshl 1 (s : Int) = ((2 ^ s : Nat) : Int) := by
  have hp : 2 ^ s < 2147483648 := Nat.lt_of_lt_of_le (Nat.pow_lt_pow_right (by decide) h) (by decide)
  have := oshl_nat (a := 1) (b := s) (by omega) (by omega)
  rw [Nat.one_mul] at this
  exact this
theorem olshl1 {s : Nat} (h : s < 31) : olshl 1 (s : Int) = ((2 ^ s : Nat) : Int) := by
  have hp : 2 ^ s < 2147483648 := Nat.lt_of_lt_of_le (Nat.pow_lt_pow_right (by decide) h) (by decide)
  have := olshl_nat (a := 1) (b := s) (by omega) (by omega)
  rw [Nat.one_mul] at this
  exact this
theorem pow7 {s : Nat} (h : s ≤ 10) : 2 ^ s ≤ 1024 := Nat.pow_le_pow_right (n := 2) (j := 10) (by decide) h
theorem cturn (xs : List Int) (d : Nat) {κ : aK} {D : Nat → Nat → Int} {t : Nat} {X : TX} {S : ST} {n : Nat} {H : Nat → ST} {Hd : Nat → Option ST} (ha : AOk X S n H Hd) (h : CCore κ D t X S n H Hd) (s : Int) : (∃ k : Nat, s = (k : Int) ∧ k < xns X ∧ ∃ D', cl xs (d + 3) 148 [.inr (.inr 0), .inl s] (κ, D) = some (some (.inl 1), (κ, D')) ∧ CCore κ D' t X (turnS S k) (phN n) (phH n H S) Hd ∧ CFrF D D') ∨ (¬ (0 ≤ s ∧ s < (xns X : Int)) ∧ cl xs (d + 3) 148 [.inr (.inr 0), .inl s] (κ, D) = some (some (.inl 0), (κ, D))) := by
  obtain ⟨hX, hS, _, _⟩ := ha
  have h' := h
  obtain ⟨hκ, hc, ht, h5, hx, hs, hh, hl⟩ := h
  have hk0 : aok κ 0 11 = true := kc_0 hκ
  have x1 := hX.1.1
  have hon := on_lt hX hS
  by_cases hv : 0 ≤ s ∧ s < (xns X : Int)
  · left
    obtain ⟨k, rfl⟩ := Int.eq_ofNat_of_zero_le hv.1
    refine ⟨k, rfl, by omega, ?_⟩
    obtain ⟨D1, e1, c1, f1⟩ := h'.rem xs d hX
    have hp := pow7 (s := k) (by omega)
    obtain ⟨s1, s2, s3, s4, s5, s6, s7, s8, s9⟩ := c1.2.2.2.2.2.1
    have c2 := c1.st (D' := aup D1 53 0 ((son S ^^^ 2 ^ k : Nat) : Int)) (S' := turnS S k) (c1.2.1.up (isS_c is53).2.2.2.2.1 _) ⟨by simp (disch := omega) only [cond_true, cond_false, Bool.and_true, Bool.true_and, Bool.and_false, Bool.false_and, Int.toNat_natCast, Int.reduceToNat, bI_s, bJ_s, bV_s, bR_s, decide_true, decide_false, not_true_eq_false, not_false_eq_true, dT, dF, w_al, w_la, w_ab, w_sl, w_sb, w_dec, w_ml, w_lm, ol2i_n, aup_ne, aupE, aupJ, setc_self, setc_ne]; rfl, by simp (disch := omega) only [cond_true, cond_false, Bool.and_true, Bool.true_and, Bool.and_false, Bool.false_and, Int.toNat_natCast, Int.reduceToNat, bI_s, bJ_s, bV_s, bR_s, decide_true, decide_false, not_true_eq_false, not_false_eq_true, dT, dF, w_al, w_la, w_ab, w_sl, w_sb, w_dec, w_ml, w_lm, ol2i_n, aup_ne, aupE, aupJ, setc_self, setc_ne]; exact s2, by simp (disch := omega) only [cond_true, cond_false, Bool.and_true, Bool.true_and, Bool.and_false, Bool.false_and, Int.toNat_natCast, Int.reduceToNat, bI_s, bJ_s, bV_s, bR_s, decide_true, decide_false, not_true_eq_false, not_false_eq_true, dT, dF, w_al, w_la, w_ab, w_sl, w_sb, w_dec, w_ml, w_lm, ol2i_n, aup_ne, aupE, aupJ, setc_self, setc_ne]; exact s3, by simp (disch := omega) only [cond_true, cond_false, Bool.and_true, Bool.true_and, Bool.and_false, Bool.false_and, Int.toNat_natCast, Int.reduceToNat, bI_s, bJ_s, bV_s, bR_s, decide_true, decide_false, not_true_eq_false, not_false_eq_true, dT, dF, w_al, w_la, w_ab, w_sl, w_sb, w_dec, w_ml, w_lm, ol2i_n, aup_ne, aupE, aupJ, setc_self, setc_ne]; exact s4, by simp (disch := omega) only [cond_true, cond_false, Bool.and_true, Bool.true_and, Bool.and_false, Bool.false_and, Int.toNat_natCast, Int.reduceToNat, bI_s, bJ_s, bV_s, bR_s, decide_true, decide_false, not_true_eq_false, not_false_eq_true, dT, dF, w_al, w_la, w_ab, w_sl, w_sb, w_dec, w_ml, w_lm, ol2i_n, aup_ne, aupE, aupJ, setc_self, setc_ne]; exact s5, by simp (disch := omega) only [cond_true, cond_false, Bool.and_true, Bool.true_and, Bool.and_false, Bool.false_and, Int.toNat_natCast, Int.reduceToNat, bI_s, bJ_s, bV_s, bR_s, decide_true, decide_false, not_true_eq_false, not_false_eq_true, dT, dF, w_al, w_la, w_ab, w_sl, w_sb, w_dec, w_ml, w_lm, ol2i_n, aup_ne, aupE, aupJ, setc_self, setc_ne]; exact s6, by simp (disch := omega) only [cond_true, cond_false, Bool.and_true, Bool.true_and, Bool.and_false, Bool.false_and, Int.toNat_natCast, Int.reduceToNat, bI_s, bJ_s, bV_s, bR_s, decide_true, decide_false, not_true_eq_false, not_false_eq_true, dT, dF, w_al, w_la, w_ab, w_sl, w_sb, w_dec, w_ml, w_lm, ol2i_n, aup_ne, aupE, aupJ, setc_self, setc_ne]; exact s7, by simp (disch := omega) only [cond_true, cond_false, Bool.and_true, Bool.true_and, Bool.and_false, Bool.false_and, Int.toNat_natCast, Int.reduceToNat, bI_s, bJ_s, bV_s, bR_s, decide_true, decide_false, not_true_eq_false, not_false_eq_true, dT, dF, w_al, w_la, w_ab, w_sl, w_sb, w_dec, w_ml, w_lm, ol2i_n, aup_ne, aupE, aupJ, setc_self, setc_ne]; exact s8, by simp (disch := omega) only [cond_true, cond_false, Bool.and_true, Bool.true_and, Bool.and_false, Bool.false_and, Int.toNat_natCast, Int.reduceToNat, bI_s, bJ_s, bV_s, bR_s, decide_true, decide_false, not_true_eq_false, not_false_eq_true, dT, dF, w_al, w_la, w_ab, w_sl, w_sb, w_dec, w_ml, w_lm, ol2i_n, aup_ne, aupE, aupJ, setc_self, setc_ne]; exact s9⟩ (fun q hq => aupN (by omega))
    have c3 := c2.1.forget (f1.trans c2.2)
    refine ⟨_, ?_, c3⟩
    have fe := forget_eq xs (d + 1) hκ c2.1.2.1
    have hc := c1.2.1
    rw [c_148]
    simp (disch := omega) only [cond_true, cond_false, Bool.and_true, Bool.true_and, Bool.and_false, Bool.false_and, Int.toNat_natCast, Int.reduceToNat, bI_s, bJ_s, bV_s, bR_s, decide_true, decide_false, not_true_eq_false, not_false_eq_true, dT, dF, w_al, w_la, w_ab, w_sl, w_sb, w_dec, w_ml, w_lm, ol2i_n, aup_ne, aupE, aupJ, setc_self, setc_ne, pc_0_0 hc, pc_0_3 hc, pc_0_4 hc, pc_0_7 hc, pc_0_8 hc, pc_0_9 hc, pc_0_12 hc, pc_0_14 hc, pc_0_15 hc, pc_0_16 hc, pc_0_17 hc, pc_0_18 hc, pc_0_19 hc, pc_2_1 hc, pc_2_2 hc, pc_2_3 hc, pc_2_6 hc, pc_2_8 hc, pc_8_2 hc, pc_65_1 hc, pc_65_2 hc, pc_68_1 hc, pc_72_3 hc, pc_72_4 hc, pc_72_5 hc, pc_72_6 hc, pc_77_1 hc, pc_77_2 hc, pc_77_3 hc, pc_77_4 hc, pc_77_5 hc, pc_77_6 hc, kc_0 hκ, kc_1 hκ, nc_1 hκ, kc_2 hκ, kc_3 hκ, nc_3 hκ, kc_4 hκ, nc_4 hκ, kc_5 hκ, nc_5 hκ, kc_6 hκ, nc_6 hκ, kc_7 hκ, nc_7 hκ, kc_8 hκ, kc_63 hκ, nc_63 hκ, kc_64 hκ, nc_64 hκ, kc_65 hκ, kc_66 hκ, nc_66 hκ, kc_67 hκ, nc_67 hκ, kc_68 hκ, kc_69 hκ, nc_69 hκ, kc_70 hκ, nc_70 hκ, kc_71 hκ, nc_71 hκ, kc_72 hκ, kc_73 hκ, nc_73 hκ, kc_74 hκ, nc_74 hκ, kc_75 hκ, nc_75 hκ, kc_76 hκ, nc_76 hκ, kc_77 hκ, kc_78 hκ, nc_78 hκ, kc_79 hκ, nc_79 hκ, kc_80 hκ, nc_80 hκ, kc_81 hκ, nc_81 hκ, kc_82 hκ, nc_82 hκ, kc_83 hκ, nc_83 hκ, kc_84 hκ, nc_84 hκ, kc_85 hκ, nc_85 hκ, kc_86 hκ, nc_86 hκ, kc_87 hκ, nc_87 hκ, kc_88 hκ, nc_88 hκ, kc_89 hκ, nc_89 hκ, kc_90 hκ, nc_90 hκ, sk_0 hκ is53, sp_1 hc is53, sk_1 hκ is53, sn_1 hκ is53, sp_2 hc is53, sk_2 hκ is53, sn_2 hκ is53, sp_3 hc is53, sk_3 hκ is53, sn_3 hκ is53, sp_4 hc is53, sk_4 hκ is53, sn_4 hκ is53, sk_0 hκ is58, sp_1 hc is58, sk_1 hκ is58, sn_1 hκ is58, sp_2 hc is58, sk_2 hκ is58, sn_2 hκ is58, sp_3 hc is58, sk_3 hκ is58, sn_3 hκ is58, sp_4 hc is58, sk_4 hκ is58, sn_4 hκ is58, hk0, hasStone_eq xs (d + 1) hκ h'.2.1 ht h5 hX hx (k : Int), hv, and_self, if_true, e1, s1, oshl1, oxor_nat, fe]
  · right
    refine ⟨hv, ?_⟩
    rw [c_148]
    simp (disch := omega) only [cond_true, cond_false, Bool.and_true, Bool.true_and, Bool.and_false, Bool.false_and, Int.toNat_natCast, Int.reduceToNat, bI_s, bJ_s, bV_s, bR_s, decide_true, decide_false, not_true_eq_false, not_false_eq_true, dT, dF, w_al, w_la, w_ab, w_sl, w_sb, w_dec, w_ml, w_lm, ol2i_n, aup_ne, aupE, aupJ, setc_self, setc_ne, pc_0_0 hc, pc_0_3 hc, pc_0_4 hc, pc_0_7 hc, pc_0_8 hc, pc_0_9 hc, pc_0_12 hc, pc_0_14 hc, pc_0_15 hc, pc_0_16 hc, pc_0_17 hc, pc_0_18 hc, pc_0_19 hc, pc_2_1 hc, pc_2_2 hc, pc_2_3 hc, pc_2_6 hc, pc_2_8 hc, pc_8_2 hc, pc_65_1 hc, pc_65_2 hc, pc_68_1 hc, pc_72_3 hc, pc_72_4 hc, pc_72_5 hc, pc_72_6 hc, pc_77_1 hc, pc_77_2 hc, pc_77_3 hc, pc_77_4 hc, pc_77_5 hc, pc_77_6 hc, kc_0 hκ, kc_1 hκ, nc_1 hκ, kc_2 hκ, kc_3 hκ, nc_3 hκ, kc_4 hκ, nc_4 hκ, kc_5 hκ, nc_5 hκ, kc_6 hκ, nc_6 hκ, kc_7 hκ, nc_7 hκ, kc_8 hκ, kc_63 hκ, nc_63 hκ, kc_64 hκ, nc_64 hκ, kc_65 hκ, kc_66 hκ, nc_66 hκ, kc_67 hκ, nc_67 hκ, kc_68 hκ, kc_69 hκ, nc_69 hκ, kc_70 hκ, nc_70 hκ, kc_71 hκ, nc_71 hκ, kc_72 hκ, kc_73 hκ, nc_73 hκ, kc_74 hκ, nc_74 hκ, kc_75 hκ, nc_75 hκ, kc_76 hκ, nc_76 hκ, kc_77 hκ, kc_78 hκ, nc_78 hκ, kc_79 hκ, nc_79 hκ, kc_80 hκ, nc_80 hκ, kc_81 hκ, nc_81 hκ, kc_82 hκ, nc_82 hκ, kc_83 hκ, nc_83 hκ, kc_84 hκ, nc_84 hκ, kc_85 hκ, nc_85 hκ, kc_86 hκ, nc_86 hκ, kc_87 hκ, nc_87 hκ, kc_88 hκ, nc_88 hκ, kc_89 hκ, nc_89 hκ, kc_90 hκ, nc_90 hκ, sk_0 hκ is53, sp_1 hc is53, sk_1 hκ is53, sn_1 hκ is53, sp_2 hc is53, sk_2 hκ is53, sn_2 hκ is53, sp_3 hc is53, sk_3 hκ is53, sn_3 hκ is53, sp_4 hc is53, sk_4 hκ is53, sn_4 hκ is53, sk_0 hκ is58, sp_1 hc is58, sk_1 hκ is58, sn_1 hκ is58, sp_2 hc is58, sk_2 hκ is58, sn_2 hκ is58, sp_3 hc is58, sk_3 hκ is58, sn_3 hκ is58, sp_4 hc is58, sk_4 hκ is58, sn_4 hκ is58, hk0, hasStone_eq xs (d + 1) hκ hc ht h5 hX hx s, hv, if_false]
