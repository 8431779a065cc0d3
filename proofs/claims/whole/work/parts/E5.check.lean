/-! The class's check: tells, and all of them. -/
theorem Ck.of_eq {κ : aK} {D : Nat → Nat → Int} {T : Nat → TK} {M N : aH → aO} {φ : SS → SS} (h : Ck κ D T N φ) (e : ∀ h, M h = N h) : Ck κ D T M φ := fun E g a hs => by
  rw [e]
  exact h E g a hs
theorem Ck.congr {κ : aK} {D : Nat → Nat → Int} {T : Nat → TK} {M : aH → aO} {φ ψ : SS → SS} (h : Ck κ D T M φ) (e : ∀ a, ψ (a, 0) = φ (a, 0)) : Ck κ D T M ψ := fun E g a hs => by
  rw [e]
  exact h E g a hs
theorem ifk_map {T : Nat → TK} {k : Nat} (F : SS → SS) (a : Nat) (p q : SS) : F (ifk T k (a, 0) p q) = ifk T k (a, 0) (F p) (F q) := by
  have e : ∀ p q : SS, ifk T k (a, 0) p q = (if tkK (T a) = k then p else q) := fun p q => if_pos rfl
  rw [e, e]
  split <;> rfl
theorem Ck.kNbr (xs : List Int) (d : Nat) {κ : aK} {D : Nat → Nat → Int} (hκ : Shp κ) (hc : CPtr D) {T : Nat → TK} (ht : TkC D T) : Ck κ D T (fun h => cl xs (d + 4) 55 [.inr (.inr ((2 : Nat) : Int))] h) (nbr T) := by
  have a1 : Ck κ D T (fun h => ev xs (d + 3) mm_55 22 [some (.inr (.inr ((2 : Nat) : Int)))] [.inl 142, .inr (.inr ((2 : Nat) : Int))] h) (mu T 142) := (Ck.ret hκ (Ck.due xs d hκ hc ht (k := 142) (by decide) (kk := 142) rfl)).of_eq (fun h => by apply q_55_22)
  have a2 : Ck κ D T (fun h => ev xs (d + 3) mm_55 22 [some (.inr (.inr ((2 : Nat) : Int)))] [.inl 2, .inr (.inr ((2 : Nat) : Int))] h) (mu T 2) := (Ck.ret hκ (Ck.due xs d hκ hc ht (k := 2) (by decide) (kk := 2) rfl)).of_eq (fun h => by apply q_55_22)
  have a3 := Ck.look xs (d + 2) hκ hc ht (k := 142) (kk := 142) rfl a1 a2
  exact (a3.congr (ψ := nbr T) (fun a => rfl)).of_eq (fun h => by apply c_55)
theorem Ck.s77 (xs : List Int) (d : Nat) {κ : aK} {D : Nat → Nat → Int} (hκ : Shp κ) (hc : CPtr D) {T : Nat → TK} (ht : TkC D T) : Ck κ D T (fun h => ev xs (d + 4) mm_54 77 [some (.inr (.inr ((2 : Nat) : Int)))] [] h) (optA T 133) := by
  have a1 := Ck.seq hκ (Ck.kNbr xs d hκ hc ht) (Ck.one (κ := κ) (D := D) (T := T)) (fun _ _ => rfl)
  have a2 := Ck.seq hκ (Ck.due xs (d + 1) hκ hc ht (k := 133) (by decide) (kk := 133) rfl) a1 (fun s h => nbr_f h)
  have a3 := Ck.look xs (d + 3) hκ hc ht (k := 133) (kk := 133) rfl a2 (Ck.one (κ := κ) (D := D) (T := T))
  exact (a3.congr (ψ := optA T 133) (fun a => rfl)).of_eq (fun h => by apply q_54_77)
theorem Ck.s40 (xs : List Int) (d : Nat) {κ : aK} {D : Nat → Nat → Int} (hκ : Shp κ) (hc : CPtr D) {T : Nat → TK} (ht : TkC D T) {k : Nat} (hk : ¬ k = 0) {kk : Int} (hkk : kk = (k : Int)) : Ck κ D T (fun h => ev xs (d + 4) mm_54 40 [some (.inr (.inr ((2 : Nat) : Int)))] [.inl kk, .inr (.inr ((2 : Nat) : Int))] h) (fun s => optA T 133 (optA T 132 (mu T k s))) := by
  have a1 := Ck.seq hκ (Ck.kNbr xs d hκ hc ht) (Ck.s77 xs d hκ hc ht) (fun s h => optA_f h)
  have a2 := Ck.seq hκ (Ck.due xs (d + 1) hκ hc ht (k := 132) (by decide) (kk := 132) rfl) a1 (fun s h => by show optA T 133 (nbr T s) = s; rw [nbr_f h, optA_f h])
  have a3 := Ck.look xs (d + 3) hκ hc ht (k := 132) (kk := 132) rfl a2 (Ck.s77 xs d hκ hc ht)
  have a4 := a3.congr (ψ := fun s => optA T 133 (optA T 132 s)) (fun a => ifk_map (optA T 133) a _ _)
  have a5 := Ck.seq hκ (Ck.due xs (d + 1) hκ hc ht hk hkk) a4 (fun s h => by show optA T 133 (optA T 132 s) = s; rw [optA_f h, optA_f h])
  exact (a5.congr (ψ := fun s => optA T 133 (optA T 132 (mu T k s))) (fun a => rfl)).of_eq (fun h => by apply q_54_40)
theorem Ck.kStn (xs : List Int) (d : Nat) {κ : aK} {D : Nat → Nat → Int} (hκ : Shp κ) (hc : CPtr D) {T : Nat → TK} (ht : TkC D T) : Ck κ D T (fun h => cl xs (d + 5) 54 [.inr (.inr ((2 : Nat) : Int))] h) (stnG T) := by
  have a1 := Ck.look xs (d + 3) hκ hc ht (k := 131) (kk := 131) rfl (Ck.s40 xs d hκ hc ht (k := 131) (by decide) (kk := 131) rfl) (Ck.s40 xs d hκ hc ht (k := 2) (by decide) (kk := 2) rfl)
  have a2 := a1.congr (ψ := fun s => optA T 133 (optA T 132 (non T s))) (fun a => ifk_map (fun s => optA T 133 (optA T 132 s)) a _ _)
  have f1 : ∀ s : SS, ¬ s.2 = 0 → optA T 133 (optA T 132 (non T s)) = s := fun s h => by rw [non_f h, optA_f h, optA_f h]
  have a3 := Ck.seq hκ (Ck.due xs (d + 1) hκ hc ht (k := 130) (by decide) (kk := 130) rfl) a2 f1
  have a4 := Ck.seq hκ (Ck.due xs (d + 1) hκ hc ht (k := 2) (by decide) (kk := 2) rfl) a3 (fun s h => by
    show optA T 133 (optA T 132 (non T (mu T 130 s))) = s
    rw [mu_f h]; exact f1 s h)
  exact (a4.congr (ψ := stnG T) (fun a => rfl)).of_eq (fun h => by apply c_54)
theorem Ck.kWnt (xs : List Int) (d : Nat) {κ : aK} {D : Nat → Nat → Int} (hκ : Shp κ) (hc : CPtr D) {T : Nat → TK} (ht : TkC D T) : ∀ (r n : Nat), n + r = 4 → Ck κ D T (fun h => ev xs (d + 3) mm_56 2 [some (.inr (.inr ((2 : Nat) : Int))), some (.inl (n : Int))] [] h) (wntG T r)
  | 0, n, hn => by
    have e1 : decide (4 < (n : Int)) = false := decide_eq_false (by omega)
    have e2 : decide (¬ (n : Int) = 4) = false := decide_eq_false (by omega)
    have a1 := Ck.look xs (d + 2) hκ hc ht (k := 2) (kk := 2) rfl (Ck.fail xs (d + 1) hκ hc ht (k := 2) (by decide) (kk := 2) rfl) (Ck.one (κ := κ) (D := D) (T := T))
    exact (a1.congr (ψ := wntG T 0) (fun a => rfl)).of_eq (fun h => by
      rw [q_56_2]
      simp only [e1, e2, cond_true, cond_false])
  | r + 1, n, hn => by
    have ih := Ck.kWnt xs d hκ hc ht r (n + 1) (by omega)
    have e1 : decide (4 < (n : Int)) = false := decide_eq_false (by omega)
    have e2 : decide (¬ (n : Int) = 4) = true := decide_eq_true (by omega)
    have e3 : w32 ((n : Int) + 1) = ((n + 1 : Nat) : Int) := by rw [w32_id (by omega) (by omega)]; omega
    have a1 := Ck.seqN hκ (Ck.due xs d hκ hc ht (k := 3) (by decide) (kk := 3) rfl) ih (fun s h => wntG_f h)
    have a2 := Ck.seq hκ (Ck.due xs d hκ hc ht (k := 2) (by decide) (kk := 2) rfl) a1 (fun s h => by
      show wntG T r (mu T 3 s) = s
      rw [mu_f h, wntG_f h])
    have a3 := Ck.look xs (d + 2) hκ hc ht (k := 2) (kk := 2) rfl a2 (Ck.one (κ := κ) (D := D) (T := T))
    exact (a3.congr (ψ := wntG T (r + 1)) (fun a => rfl)).of_eq (fun h => by
      rw [q_56_2]
      simp only [e1, e2, e3, cond_true, cond_false])
theorem Ck.kLawl (xs : List Int) (d : Nat) {κ : aK} {D : Nat → Nat → Int} (hκ : Shp κ) (hc : CPtr D) {T : Nat → TK} (ht : TkC D T) : ∀ (r n : Nat), n + r = 4 → Ck κ D T (fun h => ev xs (d + 4) mm_57 13 [some (.inr (.inr ((2 : Nat) : Int))), some (.inl (n : Int))] [] h) (lawL T r)
  | 0, n, hn => by
    have e1 : decide (4 < (n : Int)) = false := decide_eq_false (by omega)
    have e2 : decide (¬ (n : Int) = 4) = false := decide_eq_false (by omega)
    have a1 : Ck κ D T (fun h => ev xs (d + 4) mm_57 111 [some (.inr (.inr ((2 : Nat) : Int))), some (.inl (n : Int))] [] h) (sm T) := (Ck.ret hκ (Ck.sum xs d hκ hc ht)).of_eq (fun h => by apply q_57_111)
    have a2 := Ck.look xs (d + 3) hκ hc ht (k := 143) (kk := 143) rfl (Ck.fail xs (d + 2) hκ hc ht (k := 2) (by decide) (kk := 2) rfl) a1
    exact (a2.congr (ψ := lawL T 0) (fun a => rfl)).of_eq (fun h => by
      rw [q_57_13]
      simp only [e1, e2, cond_true, cond_false])
  | r + 1, n, hn => by
    have ih := Ck.kLawl xs d hκ hc ht r (n + 1) (by omega)
    have e1 : decide (4 < (n : Int)) = false := decide_eq_false (by omega)
    have e2 : decide (¬ (n : Int) = 4) = true := decide_eq_true (by omega)
    have e3 : w32 ((n : Int) + 1) = ((n + 1 : Nat) : Int) := by rw [w32_id (by omega) (by omega)]; omega
    have a1 : Ck κ D T (fun h => ev xs (d + 4) mm_57 111 [some (.inr (.inr ((2 : Nat) : Int))), some (.inl (n : Int))] [] h) (sm T) := (Ck.ret hκ (Ck.sum xs d hκ hc ht)).of_eq (fun h => by apply q_57_111)
    have f7 : ∀ s : SS, ¬ s.2 = 0 → lawL T r s = s := fun s h => lawL_f h
    have f6 : ∀ s : SS, ¬ s.2 = 0 → lawL T r (mu T 145 s) = s := fun s h => by rw [mu_f h, lawL_f h]
    have f5 : ∀ s : SS, ¬ s.2 = 0 → lawL T r (mu T 145 (sm T s)) = s := fun s h => by rw [sm_f h]; exact f6 s h
    have f4 : ∀ s : SS, ¬ s.2 = 0 → lawL T r (mu T 145 (sm T (mu T 144 s))) = s := fun s h => by rw [mu_f h]; exact f5 s h
    have f3 : ∀ s : SS, ¬ s.2 = 0 → lawL T r (mu T 145 (sm T (mu T 144 (sm T s)))) = s := fun s h => by rw [sm_f h]; exact f4 s h
    have f2 : ∀ s : SS, ¬ s.2 = 0 → lawL T r (mu T 145 (sm T (mu T 144 (sm T (mu T 60 s))))) = s := fun s h => by rw [mu_f h]; exact f3 s h
    have f1 : ∀ s : SS, ¬ s.2 = 0 → lawL T r (mu T 145 (sm T (mu T 144 (sm T (mu T 60 (sm T s)))))) = s := fun s h => by rw [sm_f h]; exact f2 s h
    have S := Ck.sum xs d hκ hc ht
    have b7 := Ck.seqN hκ (Ck.due xs (d + 1) hκ hc ht (k := 145) (by decide) (kk := 145) rfl) ih f7
    have b6 := Ck.seq hκ S b7 f6
    have b5 := Ck.seq hκ (Ck.due xs (d + 1) hκ hc ht (k := 144) (by decide) (kk := 144) rfl) b6 f5
    have b4 := Ck.seq hκ S b5 f4
    have b3 := Ck.seq hκ (Ck.due xs (d + 1) hκ hc ht (k := 60) (by decide) (kk := 60) rfl) b4 f3
    have b2 := Ck.seq hκ S b3 f2
    have b1 := Ck.seq hκ (Ck.due xs (d + 1) hκ hc ht (k := 143) (by decide) (kk := 143) rfl) b2 f1
    have b0 := Ck.look xs (d + 3) hκ hc ht (k := 143) (kk := 143) rfl b1 a1
    exact (b0.congr (ψ := lawL T (r + 1)) (fun a => rfl)).of_eq (fun h => by
      rw [q_57_13]
      simp only [e1, e2, e3, cond_true, cond_false])
theorem Ck.kLaw (xs : List Int) (d : Nat) {κ : aK} {D : Nat → Nat → Int} (hκ : Shp κ) (hc : CPtr D) {T : Nat → TK} (ht : TkC D T) : Ck κ D T (fun h => cl xs (d + 5) 57 [.inr (.inr ((2 : Nat) : Int))] h) (lawG T) := by
  have a1 := Ck.seqN hκ (Ck.due xs (d + 1) hκ hc ht (k := 61) (by decide) (kk := 61) rfl) (Ck.kLawl xs d hκ hc ht 4 0 rfl) (fun s h => lawL_f h)
  exact (a1.congr (ψ := lawG T) (fun a => rfl)).of_eq (fun h => by apply c_57)
def upg (g : Nat → Int) (j : Nat) (x : Int) : Nat → Int := fun i => if i = j then x else g i
/-- the first token of a tell -/
theorem first_seq (xs : List Int) (d : Nat) {κ : aK} {D : Nat → Nat → Int} {E : Nat → Nat → Int} (hκ : Shp κ) (hc : CPtr D) {T : Nat → TK} (ht : TkC D T) {a : Nat} {g : Nat → Int} (h : CkS D E T (a, 0) g) {sort has most : Nat} (hs : sort < 24) (hg : g sort = (has : Int)) (hh : has ≤ 1000) {kk mm : Int} (hkk : kk = ((128 + sort : Nat) : Int)) (hmm : mm = (most : Int)) {N : aH → aO} {ψ : SS → SS} (hN : Ck κ D T N ψ) (hf : ∀ s : SS, ¬ s.2 = 0 → ψ s = s) : ∃ E', (bif aok κ ((2 : Nat) : Int) 4 && true then bI (cl xs (d + 4) 52 [.inr (.inr ((2 : Nat) : Int)), .inl kk, .inl mm] (κ, E)) (fun x h1 => bif decide (x = 0) then some (some (.inl 0), h1) else N h1) else none) = some (some (.inl (if (ψ (fstG T (128 + sort) has most (a, 0))).2 = 0 then 1 else 0)), (κ, E')) ∧ CkS D E' T (ψ (fstG T (128 + sort) has most (a, 0))) (upg g sort ((has + 1 : Nat) : Int)) := by
  have hcE := h.ptr hc
  subst hkk hmm
  have k2 := kc_2 hκ
  obtain ⟨h1, h2, h3, h4, h5, h6, h7, h8⟩ := h
  have e0 : w32 (((128 + sort : Nat) : Int) - 128) = (sort : Int) := by rw [w32_id (by omega) (by omega)]; omega
  have hg' : E 7 sort = (has : Int) := by rw [h3]; exact hg
  have c1 : CkS D (aup E 7 sort ((has + 1 : Nat) : Int)) T (a, 0) (upg g sort ((has + 1 : Nat) : Int)) := by
    refine ⟨fun q hq hq2 => ?_, fun j x y z => ?_, ?_, ?_, ?_, ?_, h7, h8⟩
    · rw [aupN hq2]; exact h1 q hq hq2
    · rw [aupN (by decide)]; exact h2 j x y z
    · funext j
      unfold upg
      by_cases hj : j = sort
      · subst hj; rw [aupE, if_pos rfl]
      · rw [aupJ hj, if_neg hj, h3]
    · rw [aupN (by decide)]; exact h4
    · rw [aupN (by decide)]; exact h5
    · rw [aupN (by decide)]; exact h6
  have ef : fstG T (128 + sort) has most (a, 0) = (if most ≤ has then (a, 2) else mu T (128 + sort) (a, 0)) := if_pos rfl
  by_cases hm : most ≤ has
  · obtain ⟨E', e1, e2⟩ := sfail_eq xs (d + 1) hκ hc ht c1 (k := 2) (by decide) (kk := 2) rfl
    refine ⟨E', ?_, ?_⟩
    · rw [ef, if_pos hm, hf _ (show ¬ 2 = 0 by decide)]
      have : cl xs (d + 4) 52 [.inr (.inr ((2 : Nat) : Int)), .inl ((128 + sort : Nat) : Int), .inl (most : Int)] (κ, E) = some (some (.inl 0), (κ, E')) := by
        rw [c_52]
        simp (disch := omega) only [cond_true, cond_false, Bool.and_true, Bool.true_and, Bool.and_false, Bool.false_and, Int.toNat_natCast, Int.reduceToNat, bI_s, bJ_s, bV_s, bR_s, decide_true, decide_false, not_true_eq_false, not_false_eq_true, dT, dF, w_al, w_la, w_ab, w_sl, w_sb, w_dec, w_ml, w_lm, ol2i_n, aup_ne, aupE, aupJ, setc_self, setc_ne, k2, pc_2_8 hcE, nc_7 hκ, e0, hg', e1]
        rfl
      rw [this, k2]
      rfl
    · rw [ef, if_pos hm, hf _ (show ¬ 2 = 0 by decide)]
      exact e2
  · obtain ⟨E1, e1, e2⟩ := Ck.due xs d hκ hc ht (k := 128 + sort) (by omega) (kk := ((128 + sort : Nat) : Int)) rfl _ _ a c1
    have e1 : cl xs (d + 3) 51 [.inr (.inr ((2 : Nat) : Int)), .inl ((128 + sort : Nat) : Int)] (κ, aup E 7 sort ((has + 1 : Nat) : Int)) = some (some (.inl (if (mu T (128 + sort) (a, 0)).2 = 0 then 1 else 0)), (κ, E1)) := e1
    have em : cl xs (d + 4) 52 [.inr (.inr ((2 : Nat) : Int)), .inl ((128 + sort : Nat) : Int), .inl (most : Int)] (κ, E) = some (some (.inl (if (mu T (128 + sort) (a, 0)).2 = 0 then 1 else 0)), (κ, E1)) := by
      rw [c_52]
      simp (disch := omega) only [cond_true, cond_false, Bool.and_true, Bool.true_and, Bool.and_false, Bool.false_and, Int.toNat_natCast, Int.reduceToNat, bI_s, bJ_s, bV_s, bR_s, decide_true, decide_false, not_true_eq_false, not_false_eq_true, dT, dF, w_al, w_la, w_ab, w_sl, w_sb, w_dec, w_ml, w_lm, ol2i_n, aup_ne, aupE, aupJ, setc_self, setc_ne, k2, pc_2_8 hcE, nc_7 hκ, e0, hg']
      rw [q_52_42]
      simp (disch := omega) only [cond_true, cond_false, Bool.and_true, Bool.true_and, Bool.and_false, Bool.false_and, Int.toNat_natCast, Int.reduceToNat, bI_s, bJ_s, bV_s, bR_s, decide_true, decide_false, not_true_eq_false, not_false_eq_true, dT, dF, w_al, w_la, w_ab, w_sl, w_sb, w_dec, w_ml, w_lm, ol2i_n, aup_ne, aupE, aupJ, setc_self, setc_ne, k2, e1]
      by_cases hz : (mu T (128 + sort) (a, 0)).2 = 0
      · rw [if_pos hz]; rfl
      · rw [if_neg hz]; rfl
    rw [ef, if_neg hm, em, k2]
    by_cases hz : (mu T (128 + sort) (a, 0)).2 = 0
    · rw [if_pos hz]
      have hs : mu T (128 + sort) (a, 0) = ((mu T (128 + sort) (a, 0)).1, 0) := Prod.ext rfl hz
      rw [hs] at e2 ⊢
      exact hN E1 _ _ e2
    · rw [if_neg hz, hf _ hz, if_neg hz]
      exact ⟨E1, rfl, e2⟩
theorem roomOf_eq (xs : List Int) (d : Nat) (h : aH) : cl xs (d + 1) 30 [.inl 0] h = some (some (.inl 8), h) ∧ cl xs (d + 1) 30 [.inl 1] h = some (some (.inl 6), h) ∧ cl xs (d + 1) 30 [.inl 2] h = some (some (.inl 4), h) := by
  refine ⟨?_, ?_, ?_⟩
  · rw [c_30]; rfl
  · rw [c_30]; rfl
  · rw [c_30]; rfl
def cnI (g : Nat → Int) (c : Nat → Nat) : Prop := ∀ j, j < 12 → g j = (c j : Int) ∧ c j ≤ 10
theorem fst_le {T : Nat → TK} {k has most a : Nat} {F : SS → SS} (hF : ∀ s : SS, ¬ s.2 = 0 → F s = s) (h : (F (fstG T k has most (a, 0))).2 = 0) : has < most := by
  have ef : fstG T k has most (a, 0) = (if most ≤ has then (a, 2) else mu T k (a, 0)) := if_pos rfl
  by_cases hm : most ≤ has
  · rw [ef, if_pos hm, hF _ (show ¬ 2 = 0 by decide)] at h
    exact absurd h (show ¬ 2 = 0 by decide)
  · omega
theorem cnI_up {g : Nat → Int} {c : Nat → Nat} (h : cnI g c) {sort : Nat} (hs : sort < 12) {k : Nat} (hk : k = 128 + sort) (hc : c sort < 10) : cnI (upg g sort ((c sort + 1 : Nat) : Int)) (cnU c k) := fun j hj => by
  unfold upg cnU
  by_cases hjs : j = sort
  · subst hjs
    rw [if_pos rfl, if_pos (by omega)]
    exact ⟨rfl, by omega⟩
  · rw [if_neg hjs, if_neg (by omega)]
    exact h j hj
/-- one tell of the class's check -/
theorem dueTell_eq (xs : List Int) (d : Nat) {κ : aK} {D : Nat → Nat → Int} {E : Nat → Nat → Int} (hκ : Shp κ) (hc : CPtr D) {T : Nat → TK} (ht : TkC D T) {a : Nat} {g : Nat → Int} {c : Nat → Nat} (h : CkS D E T (a, 0) g) (hg : cnI g c) : ∃ E' g', cl xs (d + 6) 53 [.inr (.inr ((2 : Nat) : Int))] (κ, E) = some (some (.inl (if (rtG T c a).2 = 0 then 1 else 0)), (κ, E')) ∧ CkS D E' T (rtG T c a) g' ∧ ((rtG T c a).2 = 0 → cnI g' (cnU c (tkK (T a)))) := by
  have k2 := kc_2 hκ
  have hcE := h.ptr hc
  have htE := h.tk ht
  have h7 : a ≤ 400 := h.2.2.2.2.2.2.1
  have h4 : E 2 7 = (a : Int) := h.2.2.2.1
  have ka := kindAt_eq xs (d + 4) hκ hcE htE h7 (j := E 2 7) h4
  have Du := fun (k : Nat) (hk : ¬ k = 0) (kk : Int) (e : kk = (k : Int)) => Ck.due xs (d + 2) hκ hc ht hk (kk := kk) e
  have st : ∀ pc : Nat, asw 8 488 128 141 #[72, 115, 488, 488, 488, 488, 149, 194, 239, 284, 319, 382, 423, 455] ((tkK (T a) : Nat) : Int) = pc → cl xs (d + 6) 53 [.inr (.inr ((2 : Nat) : Int))] (κ, E) = ev xs (d + 5) mm_53 pc [some (.inr (.inr ((2 : Nat) : Int)))] [] (κ, E) := fun pc e => by
    rw [c_53]
    simp (disch := omega) only [cond_true, cond_false, Bool.and_true, Bool.true_and, Bool.and_false, Bool.false_and, Int.toNat_natCast, Int.reduceToNat, bI_s, bJ_s, bV_s, bR_s, decide_true, decide_false, not_true_eq_false, not_false_eq_true, dT, dF, w_al, w_la, w_ab, w_sl, w_sb, w_dec, w_ml, w_lm, ol2i_n, aup_ne, aupE, aupJ, setc_self, setc_ne, k2, ka, e]
  have m1 : ∀ k, ∀ s : SS, ¬ s.2 = 0 → mu T k s = s := fun k s h => mu_f h
  have m2 : ∀ k k', ∀ s : SS, ¬ s.2 = 0 → mu T k (mu T k' s) = s := fun k k' s h => by rw [mu_f h, mu_f h]
  have m3 : ∀ k k' k'', ∀ s : SS, ¬ s.2 = 0 → mu T k (mu T k' (mu T k'' s)) = s := fun k k' k'' s h => by rw [mu_f h, mu_f h, mu_f h]
  have fs := fun (sort most : Nat) (hs : sort < 12) (kk mm : Int) (hkk : kk = ((128 + sort : Nat) : Int)) (hmm : mm = (most : Int)) (hm : most ≤ 10) (N : aH → aO) (ψ : SS → SS) (hN : Ck κ D T N ψ) (hf : ∀ s : SS, ¬ s.2 = 0 → ψ s = s) => first_seq xs (d + 1) hκ hc ht h (sort := sort) (has := c sort) (most := most) (by omega) (hg sort hs).1 (by have := (hg sort hs).2; omega) (kk := kk) (mm := mm) hkk hmm hN hf
  have c59 := (Ck.seq hκ (Du 59 (by decide) 59 rfl) (Ck.one (κ := κ) (D := D) (T := T)) (fun _ _ => rfl)).congr (ψ := mu T 59) (fun a => rfl)
  have c2 := (Ck.seq hκ (Du 2 (by decide) 2 rfl) c59 (m1 59)).congr (ψ := fun s => mu T 59 (mu T 2 s)) (fun a => rfl)
  have c3 := (Ck.seq hκ (Du 3 (by decide) 3 rfl) c59 (m1 59)).congr (ψ := fun s => mu T 59 (mu T 3 s)) (fun a => rfl)
  have c22 := (Ck.seq hκ (Du 2 (by decide) 2 rfl) c2 (m2 59 2)).congr (ψ := fun s => mu T 59 (mu T 2 (mu T 2 s))) (fun a => rfl)
  have c23 := (Ck.seq hκ (Du 2 (by decide) 2 rfl) c3 (m2 59 3)).congr (ψ := fun s => mu T 59 (mu T 3 (mu T 2 s))) (fun a => rfl)
  unfold rtG
  by_cases h128 : tkK (T a) = 128
  · rw [if_pos h128, st 80 (by rw [h128]; rfl), q_53_80]
    obtain ⟨E', e1, e2⟩ := fs 0 6 (by decide) 128 6 rfl rfl (by decide) _ _ c22 (m3 59 2 2)
    exact ⟨E', _, e1, e2, fun hz => by rw [h128]; exact cnI_up hg (by decide) rfl (Nat.lt_of_lt_of_le (fst_le (m3 59 2 2) hz) (by decide))⟩
  rw [if_neg h128]
  by_cases h129 : tkK (T a) = 129
  · rw [if_pos h129, st 123 (by rw [h129]; rfl), q_53_123]
    have mf : ∀ s : SS, ¬ s.2 = 0 → mu T 59 (stnG T s) = s := fun s h => by rw [stnG_f h, mu_f h]
    obtain ⟨E', e1, e2⟩ := fs 1 7 (by decide) 129 7 rfl rfl (by decide) _ _ ((Ck.seq hκ (Ck.kStn xs d hκ hc ht) c59 (m1 59)).congr (ψ := fun s => mu T 59 (stnG T s)) (fun a => rfl)) mf
    exact ⟨E', _, e1, e2, fun hz => by rw [h129]; exact cnI_up hg (by decide) rfl (Nat.lt_of_lt_of_le (fst_le mf hz) (by decide))⟩
  rw [if_neg h129]
  by_cases h134 : tkK (T a) = 134
  · rw [if_pos h134, st 157 (by rw [h134]; rfl), q_53_157]
    obtain ⟨E', e1, e2⟩ := fs 6 8 (by decide) 134 8 rfl rfl (by decide) _ _ c23 (m3 59 3 2)
    refine ⟨E', _, ?_, e2, fun hz => by rw [h134]; exact cnI_up hg (by decide) rfl (Nat.lt_of_lt_of_le (fst_le (m3 59 3 2) hz) (by decide))⟩
    rw [(roomOf_eq xs (d + 4) (κ, E)).1]
    exact e1
  rw [if_neg h134]
  by_cases h135 : tkK (T a) = 135
  · rw [if_pos h135, st 202 (by rw [h135]; rfl), q_53_202]
    obtain ⟨E', e1, e2⟩ := fs 7 6 (by decide) 135 6 rfl rfl (by decide) _ _ c23 (m3 59 3 2)
    refine ⟨E', _, ?_, e2, fun hz => by rw [h135]; exact cnI_up hg (by decide) rfl (Nat.lt_of_lt_of_le (fst_le (m3 59 3 2) hz) (by decide))⟩
    rw [(roomOf_eq xs (d + 4) (κ, E)).2.1]
    exact e1
  rw [if_neg h135]
  by_cases h136 : tkK (T a) = 136
  · rw [if_pos h136, st 247 (by rw [h136]; rfl), q_53_247]
    obtain ⟨E', e1, e2⟩ := fs 8 4 (by decide) 136 4 rfl rfl (by decide) _ _ c23 (m3 59 3 2)
    refine ⟨E', _, ?_, e2, fun hz => by rw [h136]; exact cnI_up hg (by decide) rfl (Nat.lt_of_lt_of_le (fst_le (m3 59 3 2) hz) (by decide))⟩
    rw [(roomOf_eq xs (d + 4) (κ, E)).2.2]
    exact e1
  rw [if_neg h136]
  by_cases h137 : tkK (T a) = 137
  · rw [if_pos h137, st 292 (by rw [h137]; rfl), q_53_292]
    obtain ⟨E', e1, e2⟩ := fs 9 10 (by decide) 137 10 rfl rfl (by decide) _ _ c2 (m2 59 2)
    exact ⟨E', _, e1, e2, fun hz => by rw [h137]; exact cnI_up hg (by decide) rfl (fst_le (m2 59 2) hz)⟩
  rw [if_neg h137]
  by_cases h138 : tkK (T a) = 138
  · rw [if_pos h138, st 327 (by rw [h138]; rfl), q_53_327]
    have e375 : Ck κ D T (fun h => ev xs (d + 5) mm_53 375 [some (.inr (.inr ((2 : Nat) : Int)))] [] h) (mu T 59) := c59.of_eq (fun h => by apply q_53_375)
    have a0 := Ck.seq hκ (Du 2 (by decide) 2 rfl) e375 (m1 59)
    have a1 := (Ck.look xs (d + 4) hκ hc ht (k := 2) (kk := 2) rfl a0 e375).congr (ψ := fun s => mu T 59 (opt2 T s)) (fun a => ifk_map (mu T 59) a _ _)
    have f1 : ∀ s : SS, ¬ s.2 = 0 → mu T 59 (opt2 T s) = s := fun s h => by rw [opt2_f h, mu_f h]
    have f2 : ∀ s : SS, ¬ s.2 = 0 → mu T 59 (opt2 T (mu T 2 s)) = s := fun s h => by rw [mu_f h]; exact f1 s h
    have f3 : ∀ s : SS, ¬ s.2 = 0 → mu T 59 (opt2 T (mu T 2 (mu T 2 s))) = s := fun s h => by rw [mu_f h]; exact f2 s h
    have a2 := (Ck.seq hκ (Du 2 (by decide) 2 rfl) a1 f1).congr (ψ := fun s => mu T 59 (opt2 T (mu T 2 s))) (fun a => rfl)
    have a3 := (Ck.seq hκ (Du 2 (by decide) 2 rfl) a2 f2).congr (ψ := fun s => mu T 59 (opt2 T (mu T 2 (mu T 2 s)))) (fun a => rfl)
    obtain ⟨E', e1, e2⟩ := fs 10 8 (by decide) 138 8 rfl rfl (by decide) _ _ a3 f3
    exact ⟨E', _, e1, e2, fun hz => by rw [h138]; exact cnI_up hg (by decide) rfl (Nat.lt_of_lt_of_le (fst_le f3 hz) (by decide))⟩
  rw [if_neg h138]
  by_cases h139 : tkK (T a) = 139
  · rw [if_pos h139, st 390 (by rw [h139]; rfl), q_53_390]
    have w0 : Ck κ D T (fun h => cl xs (d + 5) 56 [.inr (.inr ((2 : Nat) : Int))] h) (wntG T 4) := (Ck.kWnt xs (d + 1) hκ hc ht 4 0 rfl).of_eq (fun h => by apply c_56)
    have f1 : ∀ s : SS, ¬ s.2 = 0 → mu T 59 (wntG T 4 s) = s := fun s h => by rw [wntG_f h, mu_f h]
    have f2 : ∀ s : SS, ¬ s.2 = 0 → mu T 59 (wntG T 4 (mu T 3 s)) = s := fun s h => by rw [mu_f h]; exact f1 s h
    have a2 := (Ck.seq hκ w0 c59 (m1 59)).congr (ψ := fun s => mu T 59 (wntG T 4 s)) (fun a => rfl)
    have a3 := (Ck.seq hκ (Du 3 (by decide) 3 rfl) a2 f1).congr (ψ := fun s => mu T 59 (wntG T 4 (mu T 3 s))) (fun a => rfl)
    obtain ⟨E', e1, e2⟩ := fs 11 5 (by decide) 139 5 rfl rfl (by decide) _ _ a3 f2
    exact ⟨E', _, e1, e2, fun hz => by rw [h139]; exact cnI_up hg (by decide) rfl (Nat.lt_of_lt_of_le (fst_le f2 hz) (by decide))⟩
  rw [if_neg h139]
  have cnN : ∀ k, 140 ≤ k → cnI g (cnU c k) := fun k hk j hj => by
    unfold cnU
    rw [if_neg (by omega)]
    exact hg j hj
  by_cases h140 : tkK (T a) = 140
  · rw [if_pos h140, st 431 (by rw [h140]; rfl), q_53_431]
    have f1 : ∀ s : SS, ¬ s.2 = 0 → mu T 59 (lawG T s) = s := fun s h => by rw [lawG_f h, mu_f h]
    have a2 := (Ck.seq hκ (Ck.kLaw xs d hκ hc ht) c59 (m1 59)).congr (ψ := fun s => mu T 59 (lawG T s)) (fun a => rfl)
    obtain ⟨E', e1, e2⟩ := (Ck.seq hκ (Du 140 (by decide) 140 rfl) a2 f1) E g a h
    exact ⟨E', g, e1, e2, fun _ => by rw [h140]; exact cnN 140 (by decide)⟩
  rw [if_neg h140]
  by_cases h141 : tkK (T a) = 141
  · rw [if_pos h141, st 463 (by rw [h141]; rfl), q_53_463]
    obtain ⟨E', e1, e2⟩ := (Ck.seq hκ (Du 141 (by decide) 141 rfl) c3 (m2 59 3)) E g a h
    exact ⟨E', g, e1, e2, fun _ => by rw [h141]; exact cnN 141 (by decide)⟩
  rw [if_neg h141]
  have es : asw 8 488 128 141 #[72, 115, 488, 488, 488, 488, 149, 194, 239, 284, 319, 382, 423, 455] ((tkK (T a) : Nat) : Int) = 496 := by
    by_cases hlo : tkK (T a) < 128
    · rw [asw_lo (by omega)]; rfl
    · by_cases hhi : 141 < tkK (T a)
      · rw [asw_hi (by omega) (by omega)]; rfl
      · have : tkK (T a) = 130 ∨ tkK (T a) = 131 ∨ tkK (T a) = 132 ∨ tkK (T a) = 133 := by omega
        rcases this with e | e | e | e <;> (rw [e]; rfl)
  rw [st 496 es, q_53_496]
  obtain ⟨E', e1, e2⟩ := Ck.fail xs (d + 3) hκ hc ht (k := 1) (by decide) (kk := 1) rfl E g a h
  exact ⟨E', g, e1, e2, fun hz => absurd hz (show ¬ 1 = 0 by decide)⟩
theorem exA_ge {T : Nat → TK} : ∀ (m a : Nat) (lv : List LV) (due : Bool) (c : VF), a ≤ (exA T m a lv due c).1
  | 0, a, _, _, c => Nat.le_refl _
  | m + 1, a, lv, true, c => by
    unfold exA
    have i1 := exA_ge (T := T) m (a + 1) ((none, none) :: lv) true c
    have i2 := exA_ge (T := T) m (a + 1) lv false (uni (T a))
    (repeat' split) <;> first | exact Nat.le_refl _ | omega
  | m + 1, a, [], false, c => Nat.le_refl _
  | m + 1, a, l :: r, false, c => by
    unfold exA
    have i1 := exA_ge (T := T) m (a + 1) ((l.1, some (apl l.2 c, tkK (T a))) :: r) true c
    have i2 := exA_ge (T := T) m (a + 1) ((some (fin1 l c, tkK (T a)), none) :: r) true c
    have i3 := exA_ge (T := T) m (a + 1) r false (fin1 l c)
    (repeat' split) <;> first | exact Nat.le_refl _ | omega
theorem mu_ge {T : Nat → TK} {k : Nat} (s : SS) : s.1 ≤ (mu T k s).1 := by
  unfold mu
  (repeat' split) <;> first | exact Nat.le_refl _ | exact Nat.le_succ _
theorem sm_ge {T : Nat → TK} (s : SS) : s.1 ≤ (sm T s).1 := by
  unfold sm
  split
  · exact exA_ge _ _ _ _ _
  · exact Nat.le_refl _
theorem ifk_ge {T : Nat → TK} {k : Nat} {s p q : SS} (hp : s.1 ≤ p.1) (hq : s.1 ≤ q.1) : s.1 ≤ (ifk T k s p q).1 := by
  unfold ifk
  (repeat' split) <;> first | exact hp | exact hq | exact Nat.le_refl _
theorem fl_ge {k : Nat} (s : SS) : s.1 ≤ (fl k s).1 := by
  unfold fl
  split <;> exact Nat.le_refl _
theorem nbr_ge {T : Nat → TK} (s : SS) : s.1 ≤ (nbr T s).1 := ifk_ge (mu_ge s) (mu_ge s)
theorem optA_ge {T : Nat → TK} {k : Nat} (s : SS) : s.1 ≤ (optA T k s).1 := ifk_ge (Nat.le_trans (mu_ge s) (nbr_ge _)) (Nat.le_refl _)
theorem stnG_ge {T : Nat → TK} (s : SS) : s.1 ≤ (stnG T s).1 := Nat.le_trans (mu_ge s) (Nat.le_trans (mu_ge _) (Nat.le_trans (ifk_ge (mu_ge _) (mu_ge _)) (Nat.le_trans (optA_ge _) (optA_ge _))))
theorem wntG_ge {T : Nat → TK} : ∀ (r : Nat) (s : SS), s.1 ≤ (wntG T r s).1
  | 0, s => ifk_ge (fl_ge s) (Nat.le_refl _)
  | r + 1, s => ifk_ge (Nat.le_trans (mu_ge s) (Nat.le_trans (mu_ge _) (wntG_ge r _))) (Nat.le_refl _)
theorem ifG_ge {T : Nat → TK} (s : SS) : s.1 ≤ (ifG T s).1 := Nat.le_trans (mu_ge s) (Nat.le_trans (sm_ge _) (Nat.le_trans (mu_ge _) (Nat.le_trans (sm_ge _) (Nat.le_trans (mu_ge _) (Nat.le_trans (sm_ge _) (mu_ge _))))))
theorem lawL_ge {T : Nat → TK} : ∀ (r : Nat) (s : SS), s.1 ≤ (lawL T r s).1
  | 0, s => ifk_ge (fl_ge s) (sm_ge s)
  | r + 1, s => ifk_ge (Nat.le_trans (ifG_ge s) (lawL_ge r _)) (sm_ge s)
theorem lawG_ge {T : Nat → TK} (s : SS) : s.1 ≤ (lawG T s).1 := Nat.le_trans (mu_ge s) (lawL_ge _ _)
theorem fstG_ge {T : Nat → TK} {k has most : Nat} (s : SS) : s.1 ≤ (fstG T k has most s).1 := by
  unfold fstG
  (repeat' split) <;> first | exact Nat.le_refl _ | exact mu_ge s
theorem mu_ok {T : Nat → TK} {k : Nat} {s : SS} (h : (mu T k s).2 = 0) : s.2 = 0 ∧ tkK (T s.1) = k ∧ s.1 < 400 ∧ mu T k s = (s.1 + 1, 0) := by
  unfold mu at h ⊢
  by_cases h1 : s.2 = 0
  · rw [if_pos h1] at h ⊢
    by_cases h2 : tkK (T s.1) = k
    · rw [if_pos h2] at h ⊢
      by_cases h3 : 400 ≤ s.1
      · rw [if_pos h3] at h
        exact absurd h (show ¬ 2 = 0 by decide)
      · rw [if_neg h3]
        exact ⟨h1, h2, by omega, rfl⟩
    · rw [if_neg h2] at h
      exact absurd h (show ¬ 1 = 0 by decide)
  · rw [if_neg h1] at h
    exact absurd h h1
theorem rtG_gt {T : Nat → TK} {c : Nat → Nat} {a : Nat} (h : (rtG T c a).2 = 0) : a < (rtG T c a).1 := by
  have fin : ∀ s : SS, a ≤ s.1 → (mu T 59 s).2 = 0 → a < (mu T 59 s).1 := fun s hs hm => by
    rw [(mu_ok hm).2.2.2]
    exact Nat.lt_succ_of_le hs
  have f0 : ∀ k has most, a ≤ (fstG T k has most (a, 0)).1 := fun _ _ _ => fstG_ge (a, 0)
  have m0 : ∀ k, a ≤ (mu T k (a, 0)).1 := fun _ => mu_ge (a, 0)
  unfold rtG at h ⊢
  by_cases h1 : tkK (T a) = 128
  · rw [if_pos h1] at h ⊢
    exact fin _ (Nat.le_trans (f0 _ _ _) (Nat.le_trans (mu_ge _) (mu_ge _))) h
  rw [if_neg h1] at h ⊢
  by_cases h2 : tkK (T a) = 129
  · rw [if_pos h2] at h ⊢
    exact fin _ (Nat.le_trans (f0 _ _ _) (stnG_ge _)) h
  rw [if_neg h2] at h ⊢
  by_cases h3 : tkK (T a) = 134
  · rw [if_pos h3] at h ⊢
    exact fin _ (Nat.le_trans (f0 _ _ _) (Nat.le_trans (mu_ge _) (mu_ge _))) h
  rw [if_neg h3] at h ⊢
  by_cases h4 : tkK (T a) = 135
  · rw [if_pos h4] at h ⊢
    exact fin _ (Nat.le_trans (f0 _ _ _) (Nat.le_trans (mu_ge _) (mu_ge _))) h
  rw [if_neg h4] at h ⊢
  by_cases h5 : tkK (T a) = 136
  · rw [if_pos h5] at h ⊢
    exact fin _ (Nat.le_trans (f0 _ _ _) (Nat.le_trans (mu_ge _) (mu_ge _))) h
  rw [if_neg h5] at h ⊢
  by_cases h6 : tkK (T a) = 137
  · rw [if_pos h6] at h ⊢
    exact fin _ (Nat.le_trans (f0 _ _ _) (mu_ge _)) h
  rw [if_neg h6] at h ⊢
  by_cases h7 : tkK (T a) = 138
  · rw [if_pos h7] at h ⊢
    exact fin _ (Nat.le_trans (f0 _ _ _) (Nat.le_trans (mu_ge _) (Nat.le_trans (mu_ge _) (ifk_ge (mu_ge _) (Nat.le_refl _))))) h
  rw [if_neg h7] at h ⊢
  by_cases h8 : tkK (T a) = 139
  · rw [if_pos h8] at h ⊢
    exact fin _ (Nat.le_trans (f0 _ _ _) (Nat.le_trans (mu_ge _) (wntG_ge _ _))) h
  rw [if_neg h8] at h ⊢
  by_cases h9 : tkK (T a) = 140
  · rw [if_pos h9] at h ⊢
    exact fin _ (Nat.le_trans (m0 _) (lawG_ge _)) h
  rw [if_neg h9] at h ⊢
  by_cases h10 : tkK (T a) = 141
  · rw [if_pos h10] at h ⊢
    exact fin _ (Nat.le_trans (m0 _) (mu_ge _)) h
  rw [if_neg h10] at h
  exact absurd h (show ¬ 1 = 0 by decide)
theorem check_loop (xs : List Int) (d : Nat) {κ : aK} {D : Nat → Nat → Int} (hκ : Shp κ) (hc : CPtr D) {T : Nat → TK} (ht : TkC D T) : ∀ (m a n : Nat) (c : Nat → Nat) (g : Nat → Int) (E : Nat → Nat → Int), 401 ≤ a + m → n ≤ a → CkS D E T (a, 0) g → cnI g c → ∃ E' g', ev xs (d + 6) mm_49 25 [some (.inr (.inr ((2 : Nat) : Int))), some (.inl (n : Int))] [] (κ, E) = some (some (.inl ((rcG T m c a).2 : Int)), (κ, E')) ∧ CkS D E' T (rcG T m c a) g'
  | 0, a, n, c, g, E, hm, hn, h, hg => absurd h.2.2.2.2.2.2.1 (by show ¬ a ≤ 400; omega)
  | m + 1, a, n, c, g, E, hm, hn, h, hg => by
    have k2 := kc_2 hκ
    have hcE := h.ptr hc
    have htE := h.tk ht
    have h7 : a ≤ 400 := h.2.2.2.2.2.2.1
    have h4 : E 2 7 = (a : Int) := h.2.2.2.1
    have ka := kindAt_eq xs (d + 5) hκ hcE htE h7 (j := E 2 7) h4
    rw [q_49_25]
    by_cases hz : tkK (T a) = 0
    · have er : rcG T (m + 1) c a = (a, 0) := if_pos hz
      rw [er]
      refine ⟨E, g, ?_, h⟩
      have h5 : E 2 4 = 0 := h.2.2.2.2.1
      simp (disch := omega) only [cond_true, cond_false, Bool.and_true, Bool.true_and, Bool.and_false, Bool.false_and, Int.toNat_natCast, Int.reduceToNat, bI_s, bJ_s, bV_s, bR_s, decide_true, decide_false, not_true_eq_false, not_false_eq_true, dT, dF, w_al, w_la, w_ab, w_sl, w_sb, w_dec, w_ml, w_lm, ol2i_n, aup_ne, aupE, aupJ, setc_self, setc_ne, k2, ka, hz, h5]
      rfl
    · obtain ⟨E1, g1, t1, t2, t3⟩ := dueTell_eq xs d hκ hc ht h hg
      by_cases hf : (rtG T c a).2 = 0
      · have er : rcG T (m + 1) c a = rcG T m (cnU c (tkK (T a))) (rtG T c a).1 := (if_neg hz).trans (if_pos hf)
        have hgt := rtG_gt hf
        have hs : rtG T c a = ((rtG T c a).1, 0) := Prod.ext rfl hf
        rw [hs] at t2
        obtain ⟨E', g', i1, i2⟩ := check_loop xs d hκ hc ht m (rtG T c a).1 (n + 1) _ g1 E1 (by omega) (by omega) t2 (t3 hf)
        rw [er]
        refine ⟨E', g', ?_, i2⟩
        rw [if_pos hf] at t1
        rw [← i1]
        have nz : ¬ ((tkK (T a) : Nat) : Int) = 0 := by omega
        simp (disch := omega) only [cond_true, cond_false, Bool.and_true, Bool.true_and, Bool.and_false, Bool.false_and, Int.toNat_natCast, Int.reduceToNat, bI_s, bJ_s, bV_s, bR_s, decide_true, decide_false, not_true_eq_false, not_false_eq_true, dT, dF, w_al, w_la, w_ab, w_sl, w_sb, w_dec, w_ml, w_lm, ol2i_n, aup_ne, aupE, aupJ, setc_self, setc_ne, k2, ka, nz, t1]
      · have er : rcG T (m + 1) c a = rtG T c a := (if_neg hz).trans (if_neg hf)
        rw [er]
        refine ⟨E1, g1, ?_, t2⟩
        rw [if_neg hf] at t1
        have nz : ¬ ((tkK (T a) : Nat) : Int) = 0 := by omega
        have h5 : E1 2 4 = ((rtG T c a).2 : Int) := t2.2.2.2.2.1
        simp (disch := omega) only [cond_true, cond_false, Bool.and_true, Bool.true_and, Bool.and_false, Bool.false_and, Int.toNat_natCast, Int.reduceToNat, bI_s, bJ_s, bV_s, bR_s, decide_true, decide_false, not_true_eq_false, not_false_eq_true, dT, dF, w_al, w_la, w_ab, w_sl, w_sb, w_dec, w_ml, w_lm, ol2i_n, aup_ne, aupE, aupJ, setc_self, setc_ne, k2, ka, nz, t1, h5]
def recG (T : Nat → TK) : SS := rcG T 401 (fun _ => 0) 0
theorem check_eq (xs : List Int) (d : Nat) {κ : aK} {D : Nat → Nat → Int} (hκ : Shp κ) (hc : CPtr D) {T : Nat → TK} (ht : TkC D T) : ∃ E' g', cl xs (d + 7) 49 [.inr (.inr ((2 : Nat) : Int))] (κ, D) = some (some (.inl ((recG T).2 : Int)), (κ, E')) ∧ CkS D E' T (recG T) g' := by
  have k2 := kc_2 hκ
  have h1 : CkS D (aup (aup (aup D 2 4 0) 2 5 (-1)) 2 7 0) T (0, 0) (D 7) := ⟨fun q hq hq2 => by rw [aupN hq, aupN hq, aupN hq], fun j x y z => by rw [aupJ z, aupJ y, aupJ x], by rw [aupN (by decide), aupN (by decide), aupN (by decide)], by rw [aupE]; rfl, by rw [aupJ (by decide), aupJ (by decide), aupE]; rfl, by rw [aupJ (by decide), aupE]; rfl, by show 0 ≤ 400; omega, live_0 _⟩
  have hcE := h1.ptr hc
  have fe := fillI_eq xs (d + 5) (D := aup (aup (aup D 2 4 0) 2 5 (-1)) 2 7 0) hκ 7 (n := 24) (by decide) rfl (by decide) 0
  generalize hE : aup (aup (aup D 2 4 0) 2 5 (-1)) 2 7 0 = E at h1 hcE fe
  have h2 : CkS D (setc E 7 (cpn 24 (fun _ => 0) (E 7))) T (0, 0) (cpn 24 (fun _ => 0) (E 7)) := by
    obtain ⟨a1, a2, a3, a4, a5, a6, a7, a8⟩ := h1
    refine ⟨fun q hq hq2 => ?_, fun j x y z => ?_, setc_self _ _ _, ?_, ?_, ?_, a7, a8⟩
    · rw [setc_ne hq2]; exact a1 q hq hq2
    · rw [setc_ne (by decide)]; exact a2 j x y z
    · rw [setc_ne (by decide)]; exact a4
    · rw [setc_ne (by decide)]; exact a5
    · rw [setc_ne (by decide)]; exact a6
  obtain ⟨E', g', i1, i2⟩ := check_loop xs d hκ hc ht 401 0 0 (fun _ => 0) _ _ (by omega) (by omega) h2 (fun j hj => ⟨cpn_at (by omega), Nat.zero_le 10⟩)
  refine ⟨E', g', ?_, i2⟩
  rw [c_49]
  simp (disch := omega) only [cond_true, cond_false, Bool.and_true, Bool.true_and, Bool.and_false, Bool.false_and, Int.toNat_natCast, Int.reduceToNat, bI_s, bJ_s, bV_s, bR_s, decide_true, decide_false, not_true_eq_false, not_false_eq_true, dT, dF, w_al, w_la, w_ab, w_sl, w_sb, w_dec, w_ml, w_lm, ol2i_n, aup_ne, aupE, aupJ, setc_self, setc_ne, k2]
  rw [hE, q_49_15]
  simp (disch := omega) only [cond_true, cond_false, Bool.and_true, Bool.true_and, Bool.and_false, Bool.false_and, Int.toNat_natCast, Int.reduceToNat, bI_s, bJ_s, bV_s, bR_s, decide_true, decide_false, not_true_eq_false, not_false_eq_true, dT, dF, w_al, w_la, w_ab, w_sl, w_sb, w_dec, w_ml, w_lm, ol2i_n, aup_ne, aupE, aupJ, setc_self, setc_ne, k2, pc_2_8 hcE, fe]
  exact i1
