/-! The class is made. -/
theorem acl_n : acl none = none := rfl
/-- the table of the words that mean something -/
def pkF : List Int → Nat → Nat → (Nat → Int) → Nat → Int
  | [], _, _, f => f
  | x :: l, j, s, f => if 24 ≤ j then f else if x = 32 then pkF l (j + 1) 0 f else pkF l j (s + 5) (fun q => if q = j then olor (f j) (olshl (w32 (w32 (x - 97) + 1)) (s : Int)) else f q)
def opS (h : aH) (c : Nat) (f : Nat → Int) : aH := (h.1, setc h.2 c f)
theorem kd_S {h : aH} {r c n q : Nat} {f : Nat → Int} (hk : kd h r c n) : kd (opS h q f) r c n := hk
theorem oS_q {h : aH} {c q : Nat} {f : Nat → Int} (hq : q ≠ c) : (opS h c f).2 q = h.2 q := setc_ne hq
theorem str0_len : str0.length = 126 := rfl
theorem scr_loop (xs : List Int) (d : Nat) {h : aH} {r c : Nat} (hr : kd h r 4 9) (hc : kd h c 101 24) (hrc : r ≠ c) (h6 : h.2 r 6 = ((c : Nat) : Int)) : ∀ (l : List Int) (i j s : Nat) (f : Nat → Int) (u4 : Option aV), str0.drop i = l → i ≤ 126 → s + 5 * l.length ≤ 1000 → j + l.length ≤ 200 → ev xs (d + 8) mm_36 73 [some (.inr (.inr ((r : Nat) : Int))), some (.inl ((j : Nat) : Int)), some (.inl ((s : Nat) : Int)), some (.inl ((i : Nat) : Int)), u4] [] (opS h c f) = some (none, opS h c (pkF l j s f)) := by
  have hb : Nat.ble 8 (d + 8) = true := Nat.ble_eq_true_of_le (by omega)
  have L := str0_len
  intro l
  induction l with
  | nil =>
    intro i j s f u4 hl hi _ _
    have hq : str0.length ≤ i := List.drop_eq_nil_iff.mp hl
    rw [q_36_73]
    simp (disch := omega) only [hb, Bool.and_true, cond_true, dT]
    rfl
  | cons x l ih =>
    intro i j s f u4 hl hi hs hj
    have hlt : i < 126 := by
      rcases Nat.lt_or_ge i 126 with q | q
      · exact q
      · rw [List.drop_eq_nil_iff.mpr (by omega)] at hl
        cases hl
    have hx : str0.getD i 0 = x := by
      rw [List.getD_eq_getElem?_getD, ← List.head?_drop, hl]
      rfl
    have hl' : str0.drop (i + 1) = l := by
      rw [← List.tail_drop, hl]
      rfl
    simp only [List.length_cons] at hs hj
    have ew : w32 (((i : Nat) : Int) + 1) = ((i + 1 : Nat) : Int) := by rw [w32_id (by omega) (by omega)]; omega
    have ej : w32 (((j : Nat) : Int) + 1) = ((j + 1 : Nat) : Int) := by rw [w32_id (by omega) (by omega)]; omega
    have es : w32 (((s : Nat) : Int) + 5) = ((s + 5 : Nat) : Int) := by rw [w32_id (by omega) (by omega)]; omega
    have hS : (opS h c f).2 r 6 = ((c : Nat) : Int) := by rw [oS_q hrc]; exact h6
    have e0 : (opS h c f).2 c = f := setc_self ..
    rw [q_36_73]
    by_cases h24 : 24 ≤ j
    · have e : pkF (x :: l) j s f = f := if_pos h24
      rw [e]
      simp (disch := omega) only [hb, L, Bool.and_true, cond_true, cond_false, dT, dF]
    · by_cases h32 : x = 32
      · have e : pkF (x :: l) j s f = pkF l (j + 1) 0 f := (if_neg h24).trans (if_pos h32)
        rw [e, ← ih (i + 1) (j + 1) 0 f (some (.inl x)) hl' (by omega) (by omega) (by omega)]
        simp (disch := omega) only [hb, L, Int.toNat_natCast, hx, Bool.and_true, cond_true, cond_false, dT, dF, ew, ej]
        rfl
      · have e : pkF (x :: l) j s f = pkF l j (s + 5) (fun q => if q = j then olor (f j) (olshl (w32 (w32 (x - 97) + 1)) (s : Int)) else f q) := (if_neg h24).trans (if_neg h32)
        rw [e, ← ih (i + 1) j (s + 5) _ (some (.inl x)) hl' (by omega) (by omega) (by omega)]
        have kr : aok (opS h c f).1 ((r : Nat) : Int) 4 = true := kd_ok hr
        have kc : ain (opS h c f).1 ((c : Nat) : Int) 101 ((j : Nat) : Int) = true := kd_in hc (by omega)
        simp (disch := omega) only [hb, L, Int.toNat_natCast, hx, Bool.and_true, cond_true, cond_false, dT, dF, ew, es, kr, hS, kc, e0]
        show ev _ _ _ _ _ _ (h.1, aup (setc h.2 c f) c j _) = _
        rw [aup_setc]
        rfl
def o36a (h : aH) (r n : Nat) : aH := (opW (opA (opW (opW (opA (opW (opW (opW (opA (opW (opA (opW (opA (opW h r 0 0) n 100 402 (fun _ => 0)) r 1 ((n : Nat) : Int)) (n + 1) 100 402 (fun _ => 0)) r 2 (((n + 1) : Nat) : Int)) (n + 2) 101 402 (fun _ => 0)) r 3 (((n + 2) : Nat) : Int)) r 4 0) r 5 (-1)) (n + 3) 101 24 (fun _ => 0)) r 6 (((n + 3) : Nat) : Int)) r 7 0) (n + 4) 100 24 (fun _ => 0)) r 8 (((n + 4) : Nat) : Int))
def o36 (h : aH) (r n : Nat) : aH := opS (o36a h r n) (n + 3) (pkF str0 0 0 (fun _ => 0))
theorem kd_o36 {h : aH} {r n q a b : Nat} (hn : h.1.1 = n) (hk : kd h q a b) : kd (o36 h r n) q a b := by
  subst hn
  exact (kd_S (kd_W (kd_A rfl (kd_W (kd_W (kd_A rfl (kd_W (kd_W (kd_W (kd_A rfl (kd_W (kd_A rfl (kd_W (kd_A rfl (kd_W hk)))))))))))))))
theorem i_36 (xs : List Int) (d : Nat) {h : aH} {r n : Nat} (hn : h.1.1 = n) (hr : kd h r 4 9) : cl xs (d + 9) 36 [.inr (.inr ((r : Nat) : Int))] h = some (none, o36 h r n) := by
  subst hn
  have hc : kd (o36a h r h.1.1) (h.1.1 + 3) 101 24 := (kd_W (kd_A rfl (kd_W (kd_W (kd_N _ _ _ _ _)))))
  have hr' : kd (o36a h r h.1.1) r 4 9 := (kd_W (kd_A rfl (kd_W (kd_W (kd_A rfl (kd_W (kd_W (kd_W (kd_A rfl (kd_W (kd_A rfl (kd_W (kd_A rfl (kd_W hr))))))))))))))
  have hne : r ≠ h.1.1 + 3 := by have := hr.1; omega
  have h6 : (o36a h r h.1.1).2 r 6 = ((h.1.1 + 3 : Nat) : Int) := by
    have := hr.1
    unfold o36a
    rw [show ∀ (a : aH) k v, k ≠ 6 → (opW a r k v).2 r 6 = a.2 r 6 from fun a k v hk => aupJ (Ne.symm hk)]
    · rw [oA_q (by omega), show ∀ (a : aH) k v, k ≠ 6 → (opW a r k v).2 r 6 = a.2 r 6 from fun a k v hk => aupJ (Ne.symm hk)]
      · exact aupE ..
      · decide
    · decide
  have h0 : (o36a h r h.1.1).2 (h.1.1 + 3) = fun _ => 0 := by
    have := hr.1
    unfold o36a
    rw [oW_q (by omega), oA_q (by omega), oW_q (by omega), oW_q (by omega)]
    funext j
    exact if_pos rfl
  have L := scr_loop xs d hr' hc hne h6 str0 0 0 0 (fun _ => 0) none rfl (by decide) (by rw [str0_len]; decide) (by rw [str0_len]; decide)
  have e0 : opS (o36a h r h.1.1) (h.1.1 + 3) (fun _ => 0) = o36a h r h.1.1 := by
    unfold opS
    rw [← h0, setc_id]
  rw [e0] at L
  refine Eq.trans ?_ L
  exact (Eq.trans (b_36_0 xs _ (N := h.1.1) hr rfl) (Eq.trans (b_36_15 xs _ (N := (h.1.1 + 1)) (kd_A rfl (kd_W hr)) rfl) (Eq.trans (b_36_24 xs _ (N := (h.1.1 + 2)) (kd_A rfl (kd_W (kd_A rfl (kd_W hr)))) rfl) (Eq.trans (b_36_33 xs _ (kd_A rfl (kd_W (kd_A rfl (kd_W (kd_A rfl (kd_W hr))))))) (Eq.trans (b_36_46 xs _ (N := (h.1.1 + 3)) (kd_W (kd_W (kd_W (kd_A rfl (kd_W (kd_A rfl (kd_W (kd_A rfl (kd_W hr))))))))) rfl) (Eq.trans (b_36_51 xs _ (N := (h.1.1 + 4)) (kd_A rfl (kd_W (kd_W (kd_W (kd_A rfl (kd_W (kd_A rfl (kd_W (kd_A rfl (kd_W hr)))))))))) rfl) (b_36_64 xs _ (kd_A rfl (kd_W (kd_W (kd_A rfl (kd_W (kd_W (kd_W (kd_A rfl (kd_W (kd_A rfl (kd_W (kd_A rfl (kd_W hr))))))))))))))))))))
theorem n_o36 (h : aH) (r n : Nat) : (o36 h r n).1.1 = n + 5 := rfl
theorem b_120_38 (xs : List Int) (d : Nat) {r s u N : Nat} {h h1 : aH} (hr0 : kd h r 11 20) (g3 : h.2 r 3 = ((u : Nat) : Int)) (e : cl xs d 88 [.inr (.inr ((s : Nat) : Int)), .inr (.inr ((u : Nat) : Int))] h = some (none, h1)) (hr : kd h1 r 11 20) (hN : h1.1.1 = N) : ev xs d mm_120 38 [some (.inr (.inr ((r : Nat) : Int))), none] [.inr (.inr ((s : Nat) : Int)), .inr (.inr ((r : Nat) : Int))] h = ev xs d mm_120 53 [some (.inr (.inr ((r : Nat) : Int))), none] [.inr (.inr ((N : Nat) : Int)), .inr (.inr ((r : Nat) : Int))] (opA (opW h1 r 4 ((s : Nat) : Int)) N 9 16 (adf 9)) := by
  subst hN
  rw [q_120_38]
  simp only [Int.toNat_natCast, g3, e, kd_ok hr0, kd_ok hr, nn0, cond_true, Bool.and_true, Bool.true_and, bV_s]
  rfl
def o120 (h : aH) (r n : Nat) : aH := (opW (opA (opW (opA (opW (o19 (opA (opW (o60 (opA (opW (o11 (opA (opW (o113 (opA (opW (opW (opA (opW (opW (opW (opA (opW (o72 (opA (opW (o72 (opA (opW (o108 (opA (opW (o108 (opA (opW (o88 (opA (opW (o36 (opA (opW (opW (opW (opA h n 102 2000 (fun _ => 0)) r 0 ((n : Nat) : Int)) r 1 0) r 2 (-1)) (n + 1) 4 9 (adf 4)) (n + 1) (n + 2)) r 3 (((n + 1) : Nat) : Int)) (n + 7) 8 4 (adf 8)) (n + 7) (n + 8) (n + 1)) r 4 (((n + 7) : Nat) : Int)) (n + 8) 9 16 (adf 9)) (n + 8) (n + 9)) r 5 (((n + 8) : Nat) : Int)) (n + 30) 9 16 (adf 9)) (n + 30) (n + 31)) r 6 (((n + 30) : Nat) : Int)) (n + 52) 6 9 (adf 6)) (n + 52) (n + 53)) r 7 (((n + 52) : Nat) : Int)) (n + 57) 6 9 (adf 6)) (n + 57) (n + 58)) r 8 (((n + 57) : Nat) : Int)) (n + 62) 104 30 (fun _ => (-1))) r 9 (((n + 62) : Nat) : Int)) r 10 0) r 11 0) (n + 63) 104 3 (fun _ => (-1))) r 12 (((n + 63) : Nat) : Int)) r 13 0) (n + 64) 10 3 (adf 10)) (n + 64) (n + 65)) r 14 (((n + 64) : Nat) : Int)) (n + 67) 1 7 (adf 1)) (n + 67) (n + 68)) r 15 (((n + 67) : Nat) : Int)) (n + 71) 5 7 (adf 5)) (n + 71) (n + 72)) r 16 (((n + 71) : Nat) : Int)) (n + 76) 2 13 (adf 2)) (n + 76) (n + 77)) r 17 (((n + 76) : Nat) : Int)) (n + 88) 100 4 (fun _ => 0)) r 18 (((n + 88) : Nat) : Int)) (n + 89) 100 9 (fun _ => 0)) r 19 (((n + 89) : Nat) : Int))
theorem kd_o120 {h : aH} {r n q a b : Nat} (hn : h.1.1 = n) (hk : kd h q a b) : kd (o120 h r n) q a b := by
  subst hn
  exact (kd_W (kd_A rfl (kd_W (kd_A rfl (kd_W (kd_o19 rfl (kd_A rfl (kd_W (kd_o60 rfl (kd_A rfl (kd_W (kd_o11 rfl (kd_A rfl (kd_W (kd_o113 rfl (kd_A rfl (kd_W (kd_W (kd_A rfl (kd_W (kd_W (kd_W (kd_A rfl (kd_W (kd_o72 rfl (kd_A rfl (kd_W (kd_o72 rfl (kd_A rfl (kd_W (kd_o108 rfl (kd_A rfl (kd_W (kd_o108 rfl (kd_A rfl (kd_W (kd_o88 rfl (kd_A rfl (kd_W (kd_o36 rfl (kd_A rfl (kd_W (kd_W (kd_W (kd_A rfl hk)))))))))))))))))))))))))))))))))))))))))))))
theorem i_120a (xs : List Int) (d : Nat) {h : aH} {r n : Nat} (hn : h.1.1 = n) (hr : kd h r 11 20) : cl xs (d + 10) 120 [.inr (.inr ((r : Nat) : Int))] h = ev xs (d + 9) mm_120 186 [some (.inr (.inr ((r : Nat) : Int))), some (.inl 0)] [] (o120 h r n) :=
  (Eq.trans (b_120_0 xs _ (N := n) hr hn) (Eq.trans (b_120_10 xs _ (kd_A hn hr)) (Eq.trans (b_120_23 xs _ (N := (n + 1)) (kd_W (kd_W (kd_W (kd_A hn hr)))) rfl) (Eq.trans (b_120_27 xs _ (N := (n + 7)) (i_36 xs _ (n := (n + 2)) rfl (kd_N _ _ _ _ _)) (kd_o36 rfl (kd_A rfl (kd_W (kd_W (kd_W (kd_A hn hr)))))) rfl) (Eq.trans (b_120_38 xs _ (N := (n + 8)) (u := (n + 1)) (kd_A rfl (kd_W (kd_o36 rfl (kd_A rfl (kd_W (kd_W (kd_W (kd_A hn hr)))))))) (by rw [oA_q (by have := hr.1; omega)]; exact aupE ..) (i_88 xs _ (n := (n + 8)) rfl (kd_N _ _ _ _ _)) (kd_o88 rfl (kd_A rfl (kd_W (kd_o36 rfl (kd_A rfl (kd_W (kd_W (kd_W (kd_A hn hr))))))))) rfl) (Eq.trans (b_120_53 xs _ (N := (n + 30)) (i_108 xs _ (n := (n + 9)) rfl (kd_N _ _ _ _ _)) (kd_o108 rfl (kd_A rfl (kd_W (kd_o88 rfl (kd_A rfl (kd_W (kd_o36 rfl (kd_A rfl (kd_W (kd_W (kd_W (kd_A hn hr)))))))))))) rfl) (Eq.trans (b_120_64 xs _ (N := (n + 52)) (i_108 xs _ (n := (n + 31)) rfl (kd_N _ _ _ _ _)) (kd_o108 rfl (kd_A rfl (kd_W (kd_o108 rfl (kd_A rfl (kd_W (kd_o88 rfl (kd_A rfl (kd_W (kd_o36 rfl (kd_A rfl (kd_W (kd_W (kd_W (kd_A hn hr))))))))))))))) rfl) (Eq.trans (b_120_75 xs _ (N := (n + 57)) (i_72 xs _ (n := (n + 53)) rfl (kd_N _ _ _ _ _)) (kd_o72 rfl (kd_A rfl (kd_W (kd_o108 rfl (kd_A rfl (kd_W (kd_o108 rfl (kd_A rfl (kd_W (kd_o88 rfl (kd_A rfl (kd_W (kd_o36 rfl (kd_A rfl (kd_W (kd_W (kd_W (kd_A hn hr)))))))))))))))))) rfl) (Eq.trans (b_120_86 xs _ (N := (n + 62)) (i_72 xs _ (n := (n + 58)) rfl (kd_N _ _ _ _ _)) (kd_o72 rfl (kd_A rfl (kd_W (kd_o72 rfl (kd_A rfl (kd_W (kd_o108 rfl (kd_A rfl (kd_W (kd_o108 rfl (kd_A rfl (kd_W (kd_o88 rfl (kd_A rfl (kd_W (kd_o36 rfl (kd_A rfl (kd_W (kd_W (kd_W (kd_A hn hr))))))))))))))))))))) rfl) (Eq.trans (b_120_99 xs _ (kd_A rfl (kd_W (kd_o72 rfl (kd_A rfl (kd_W (kd_o72 rfl (kd_A rfl (kd_W (kd_o108 rfl (kd_A rfl (kd_W (kd_o108 rfl (kd_A rfl (kd_W (kd_o88 rfl (kd_A rfl (kd_W (kd_o36 rfl (kd_A rfl (kd_W (kd_W (kd_W (kd_A hn hr)))))))))))))))))))))))) (Eq.trans (b_120_112 xs _ (N := (n + 63)) (kd_W (kd_W (kd_W (kd_A rfl (kd_W (kd_o72 rfl (kd_A rfl (kd_W (kd_o72 rfl (kd_A rfl (kd_W (kd_o108 rfl (kd_A rfl (kd_W (kd_o108 rfl (kd_A rfl (kd_W (kd_o88 rfl (kd_A rfl (kd_W (kd_o36 rfl (kd_A rfl (kd_W (kd_W (kd_W (kd_A hn hr)))))))))))))))))))))))))) rfl) (Eq.trans (b_120_117 xs _ (N := (n + 64)) (kd_A rfl (kd_W (kd_W (kd_W (kd_A rfl (kd_W (kd_o72 rfl (kd_A rfl (kd_W (kd_o72 rfl (kd_A rfl (kd_W (kd_o108 rfl (kd_A rfl (kd_W (kd_o108 rfl (kd_A rfl (kd_W (kd_o88 rfl (kd_A rfl (kd_W (kd_o36 rfl (kd_A rfl (kd_W (kd_W (kd_W (kd_A hn hr))))))))))))))))))))))))))) rfl) (Eq.trans (b_120_129 xs _ (N := (n + 67)) (i_113 xs _ (n := (n + 65)) rfl (kd_N _ _ _ _ _)) (kd_o113 rfl (kd_A rfl (kd_W (kd_W (kd_A rfl (kd_W (kd_W (kd_W (kd_A rfl (kd_W (kd_o72 rfl (kd_A rfl (kd_W (kd_o72 rfl (kd_A rfl (kd_W (kd_o108 rfl (kd_A rfl (kd_W (kd_o108 rfl (kd_A rfl (kd_W (kd_o88 rfl (kd_A rfl (kd_W (kd_o36 rfl (kd_A rfl (kd_W (kd_W (kd_W (kd_A hn hr))))))))))))))))))))))))))))))) rfl) (Eq.trans (b_120_140 xs _ (N := (n + 71)) (i_11 xs _ (n := (n + 68)) rfl (kd_N _ _ _ _ _)) (kd_o11 rfl (kd_A rfl (kd_W (kd_o113 rfl (kd_A rfl (kd_W (kd_W (kd_A rfl (kd_W (kd_W (kd_W (kd_A rfl (kd_W (kd_o72 rfl (kd_A rfl (kd_W (kd_o72 rfl (kd_A rfl (kd_W (kd_o108 rfl (kd_A rfl (kd_W (kd_o108 rfl (kd_A rfl (kd_W (kd_o88 rfl (kd_A rfl (kd_W (kd_o36 rfl (kd_A rfl (kd_W (kd_W (kd_W (kd_A hn hr)))))))))))))))))))))))))))))))))) rfl) (Eq.trans (b_120_151 xs _ (N := (n + 76)) (i_60 xs _ (n := (n + 72)) rfl (kd_N _ _ _ _ _)) (kd_o60 rfl (kd_A rfl (kd_W (kd_o11 rfl (kd_A rfl (kd_W (kd_o113 rfl (kd_A rfl (kd_W (kd_W (kd_A rfl (kd_W (kd_W (kd_W (kd_A rfl (kd_W (kd_o72 rfl (kd_A rfl (kd_W (kd_o72 rfl (kd_A rfl (kd_W (kd_o108 rfl (kd_A rfl (kd_W (kd_o108 rfl (kd_A rfl (kd_W (kd_o88 rfl (kd_A rfl (kd_W (kd_o36 rfl (kd_A rfl (kd_W (kd_W (kd_W (kd_A hn hr))))))))))))))))))))))))))))))))))))) rfl) (Eq.trans (b_120_162 xs _ (N := (n + 88)) (i_19 xs _ (n := (n + 77)) rfl (kd_N _ _ _ _ _)) (kd_o19 rfl (kd_A rfl (kd_W (kd_o60 rfl (kd_A rfl (kd_W (kd_o11 rfl (kd_A rfl (kd_W (kd_o113 rfl (kd_A rfl (kd_W (kd_W (kd_A rfl (kd_W (kd_W (kd_W (kd_A rfl (kd_W (kd_o72 rfl (kd_A rfl (kd_W (kd_o72 rfl (kd_A rfl (kd_W (kd_o108 rfl (kd_A rfl (kd_W (kd_o108 rfl (kd_A rfl (kd_W (kd_o88 rfl (kd_A rfl (kd_W (kd_o36 rfl (kd_A rfl (kd_W (kd_W (kd_W (kd_A hn hr)))))))))))))))))))))))))))))))))))))))) rfl) (Eq.trans (b_120_173 xs _ (N := (n + 89)) (kd_A rfl (kd_W (kd_o19 rfl (kd_A rfl (kd_W (kd_o60 rfl (kd_A rfl (kd_W (kd_o11 rfl (kd_A rfl (kd_W (kd_o113 rfl (kd_A rfl (kd_W (kd_W (kd_A rfl (kd_W (kd_W (kd_W (kd_A rfl (kd_W (kd_o72 rfl (kd_A rfl (kd_W (kd_o72 rfl (kd_A rfl (kd_W (kd_o108 rfl (kd_A rfl (kd_W (kd_o108 rfl (kd_A rfl (kd_W (kd_o88 rfl (kd_A rfl (kd_W (kd_o36 rfl (kd_A rfl (kd_W (kd_W (kd_W (kd_A hn hr)))))))))))))))))))))))))))))))))))))))))) rfl) (b_120_181 xs _ (kd_A rfl (kd_W (kd_A rfl (kd_W (kd_o19 rfl (kd_A rfl (kd_W (kd_o60 rfl (kd_A rfl (kd_W (kd_o11 rfl (kd_A rfl (kd_W (kd_o113 rfl (kd_A rfl (kd_W (kd_W (kd_A rfl (kd_W (kd_W (kd_W (kd_A rfl (kd_W (kd_o72 rfl (kd_A rfl (kd_W (kd_o72 rfl (kd_A rfl (kd_W (kd_o108 rfl (kd_A rfl (kd_W (kd_o108 rfl (kd_A rfl (kd_W (kd_o88 rfl (kd_A rfl (kd_W (kd_o36 rfl (kd_A rfl (kd_W (kd_W (kd_W (kd_A hn hr))))))))))))))))))))))))))))))))))))))))))))))))))))))))))))))
theorem b_120_200 (xs : List Int) (d : Nat) {r a i : Nat} {h : aH} (hr : kd h r 11 20) (ha : kd h a 104 30) (hg : h.2 r 9 = ((a : Nat) : Int)) (hi : i < 30) : ev xs (d + 1) mm_120 186 [some (.inr (.inr ((r : Nat) : Int))), some (.inl ((i : Nat) : Int))] [] h = ev xs (d + 1) mm_120 186 [some (.inr (.inr ((r : Nat) : Int))), some (.inl ((i + 1 : Nat) : Int))] [] (opW (o72 (opA h h.1.1 6 9 (adf 6)) h.1.1 (h.1.1 + 1)) a i ((h.1.1 : Nat) : Int)) := by
  have e := i_72 xs d (h := opA h h.1.1 6 9 (adf 6)) (r := h.1.1) (n := h.1.1 + 1) rfl (kd_N _ _ _ _ _)
  have ew : w32 (((i : Nat) : Int) + 1) = ((i + 1 : Nat) : Int) := by rw [w32_id (by omega) (by omega)]; omega
  have k1 : ain (o72 (opA h h.1.1 6 9 (adf 6)) h.1.1 (h.1.1 + 1)).1 ((a : Nat) : Int) 104 ((i : Nat) : Int) = true := kd_in (kd_o72 rfl (kd_A rfl ha)) hi
  have k2 : aok (o72 (opA h h.1.1 6 9 (adf 6)) h.1.1 (h.1.1 + 1)).1 ((h.1.1 : Nat) : Int) 6 = true := kd_ok (kd_o72 rfl (kd_N _ _ _ _ _))
  have st : ev xs (d + 1) mm_120 186 [some (.inr (.inr ((r : Nat) : Int))), some (.inl ((i : Nat) : Int))] [] h = ev xs (d + 1) mm_120 200 [some (.inr (.inr ((r : Nat) : Int))), some (.inl ((i : Nat) : Int))] [.inr (.inr ((h.1.1 : Nat) : Int)), .inl ((i : Nat) : Int), .inr (.inr ((a : Nat) : Int))] (opA h h.1.1 6 9 (adf 6)) := by
    rw [q_120_186]
    simp (disch := omega) only [dF, cond_false, kd_ok hr, cond_true, Int.toNat_natCast, hg]
    rfl
  rw [st, q_120_200]
  simp only [nn0, cond_true, Bool.and_true, e, bV_s, k1, k2, ew, Int.toNat_natCast]
  rfl
theorem b_120_226 (xs : List Int) (d : Nat) {r a i : Nat} {h : aH} (hr : kd h r 11 20) (ha : kd h a 104 3) (hg : h.2 r 12 = ((a : Nat) : Int)) (hi : i < 3) : ev xs (d + 1) mm_120 213 [some (.inr (.inr ((r : Nat) : Int))), some (.inl ((i : Nat) : Int))] [] h = ev xs (d + 1) mm_120 213 [some (.inr (.inr ((r : Nat) : Int))), some (.inl ((i + 1 : Nat) : Int))] [] (opW (o72 (opA h h.1.1 6 9 (adf 6)) h.1.1 (h.1.1 + 1)) a i ((h.1.1 : Nat) : Int)) := by
  have e := i_72 xs d (h := opA h h.1.1 6 9 (adf 6)) (r := h.1.1) (n := h.1.1 + 1) rfl (kd_N _ _ _ _ _)
  have ew : w32 (((i : Nat) : Int) + 1) = ((i + 1 : Nat) : Int) := by rw [w32_id (by omega) (by omega)]; omega
  have k1 : ain (o72 (opA h h.1.1 6 9 (adf 6)) h.1.1 (h.1.1 + 1)).1 ((a : Nat) : Int) 104 ((i : Nat) : Int) = true := kd_in (kd_o72 rfl (kd_A rfl ha)) hi
  have k2 : aok (o72 (opA h h.1.1 6 9 (adf 6)) h.1.1 (h.1.1 + 1)).1 ((h.1.1 : Nat) : Int) 6 = true := kd_ok (kd_o72 rfl (kd_N _ _ _ _ _))
  have st : ev xs (d + 1) mm_120 213 [some (.inr (.inr ((r : Nat) : Int))), some (.inl ((i : Nat) : Int))] [] h = ev xs (d + 1) mm_120 226 [some (.inr (.inr ((r : Nat) : Int))), some (.inl ((i : Nat) : Int))] [.inr (.inr ((h.1.1 : Nat) : Int)), .inl ((i : Nat) : Int), .inr (.inr ((a : Nat) : Int))] (opA h h.1.1 6 9 (adf 6)) := by
    rw [q_120_213]
    simp (disch := omega) only [dF, cond_false, kd_ok hr, cond_true, Int.toNat_natCast, hg]
    rfl
  rw [st, q_120_226]
  simp only [nn0, cond_true, Bool.and_true, e, bV_s, k1, k2, ew, Int.toNat_natCast]
  rfl
def lpA (a c0 k : Nat) : Nat → aH → aH
  | 0, h => h
  | m + 1, h => lpA a c0 k m (opW (o72 (opA h (c0 - 5 * (m + 1)) 6 9 (adf 6)) (c0 - 5 * (m + 1)) (c0 - 5 * (m + 1) + 1)) a (k - (m + 1)) (((c0 - 5 * (m + 1)) : Nat) : Int))
theorem o72_q {h : aH} {r n q : Nat} (hr : q ≠ r) (hn : q < n) : (o72 h r n).2 q = h.2 q := by
  unfold o72
  rw [oW_q hr, oW_q hr, oW_q hr, oW_q hr, oW_q hr, oA_q (by omega), oW_q hr, oA_q (by omega), oW_q hr, oA_q (by omega), oW_q hr, oA_q (by omega), oW_q hr]
theorem kd_lpA {a c0 k : Nat} : ∀ (m : Nat) (h : aH) {q c n : Nat}, h.1.1 = c0 - 5 * m → 5 * m ≤ c0 → kd h q c n → kd (lpA a c0 k m h) q c n
  | 0, _, _, _, _, _, _, hk => hk
  | m + 1, h, _, _, _, hn, hc, hk => kd_lpA m _ (show c0 - 5 * (m + 1) + 1 + 4 = c0 - 5 * m by omega) (by omega) (kd_W (kd_o72 rfl (kd_A hn hk)))
theorem loop30 (xs : List Int) (d : Nat) {r a c0 : Nat} (hra : r ≠ a) : ∀ (m : Nat) (h : aH), m ≤ 30 → h.1.1 = c0 - 5 * m → 5 * m ≤ c0 → kd h r 11 20 → kd h a 104 30 → h.2 r 9 = ((a : Nat) : Int) → ev xs (d + 1) mm_120 186 [some (.inr (.inr ((r : Nat) : Int))), some (.inl (((30 - m : Nat)) : Int))] [] h = ev xs (d + 1) mm_120 213 [some (.inr (.inr ((r : Nat) : Int))), some (.inl 0)] [] (lpA a c0 30 m h)
  | 0, h, _, _, _, hr, ha, hg => by
    rw [q_120_186]
    rfl
  | m + 1, h, hm, hn, hc, hr, ha, hg => by
    have hr1 := hr.1
    have e := b_120_200 xs d (i := 30 - (m + 1)) hr ha hg (by omega)
    rw [hn, show 30 - (m + 1) + 1 = 30 - m by omega] at e
    refine e.trans (loop30 xs d hra m _ (by omega) (show c0 - 5 * (m + 1) + 1 + 4 = c0 - 5 * m by omega) (by omega) (kd_W (kd_o72 rfl (kd_A hn hr))) (kd_W (kd_o72 rfl (kd_A hn ha))) ?_)
    rw [oW_q hra, o72_q (by omega) (by omega), oA_q (by omega)]
    exact hg
theorem loop3 (xs : List Int) (d : Nat) {r a c0 : Nat} (hra : r ≠ a) : ∀ (m : Nat) (h : aH), m ≤ 3 → h.1.1 = c0 - 5 * m → 5 * m ≤ c0 → kd h r 11 20 → kd h a 104 3 → h.2 r 12 = ((a : Nat) : Int) → ev xs (d + 1) mm_120 213 [some (.inr (.inr ((r : Nat) : Int))), some (.inl (((3 - m : Nat)) : Int))] [] h = ev xs (d + 1) mm_120 213 [some (.inr (.inr ((r : Nat) : Int))), some (.inl ((3 : Nat) : Int))] [] (lpA a c0 3 m h)
  | 0, h, _, _, _, hr, ha, hg => rfl
  | m + 1, h, hm, hn, hc, hr, ha, hg => by
    have hr1 := hr.1
    have e := b_120_226 xs d (i := 3 - (m + 1)) hr ha hg (by omega)
    rw [hn, show 3 - (m + 1) + 1 = 3 - m by omega] at e
    refine e.trans (loop3 xs d hra m _ (by omega) (show c0 - 5 * (m + 1) + 1 + 4 = c0 - 5 * m by omega) (by omega) (kd_W (kd_o72 rfl (kd_A hn hr))) (kd_W (kd_o72 rfl (kd_A hn ha))) ?_)
    rw [oW_q hra, o72_q (by omega) (by omega), oA_q (by omega)]
    exact hg
