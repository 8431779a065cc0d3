/-! The strings' row: what the law asks of its two constants. -/
theorem aidx_no (c : Int) : ∀ (L : List Int) (i : Int), (∀ v ∈ L, v ≠ c) → aidx L c i = -1
  | [], _, _ => rfl
  | v :: r, i, h => by
    have e : decide (v = c) = false := decide_eq_false (h v List.mem_cons_self)
    unfold aidx
    rw [e]
    exact aidx_no c r (i + 1) (fun w hw => h w (List.mem_cons_of_mem _ hw))
theorem str1_rng : ∀ v ∈ str1, 0 ≤ v ∧ v ≤ 255 := by decide
set_option maxRecDepth 100000 in
theorem jix_all : ∀ n : Nat, n < 256 → (jix (Int32.ofInt ((n : Nat) : Int)).toInt8.toInt32 (jbyt.getD 1 []) 0).toInt = aidx str1 ((n : Nat) : Int) 0 := by decide +kernel
theorem jixO_eq (x : Int32) : (jixO x).toInt = aidx str1 x.toInt 0 := by
  have out : (x.toInt < 0 ∨ 255 < x.toInt) → aidx str1 x.toInt 0 = -1 := fun h => aidx_no _ _ _ (fun v hv e => by
    have := str1_rng v hv
    omega)
  have z0 : (0 : Int32).toInt = 0 := by decide
  have z1 : (255 : Int32).toInt = 255 := by decide
  by_cases h1 : x < 0
  · have e1 : jcan x = 0 := if_pos h1
    have e2 : jixO x = -1 := if_pos e1
    rw [e2, out (Or.inl (by have := Int32.lt_iff_toInt_lt.mp h1; omega))]
    decide
  · by_cases h2 : 255 < x
    · have e1 : jcan x = 0 := (if_neg h1).trans (if_pos h2)
      have e2 : jixO x = -1 := if_pos e1
      rw [e2, out (Or.inr (by have := Int32.lt_iff_toInt_lt.mp h2; omega))]
      decide
    · have e1 : jcan x = 1 := (if_neg h1).trans (if_neg h2)
      have e2 : jixO x = jix x.toInt8.toInt32 (jbyt.getD 1 []) 0 := if_neg (by rw [e1]; decide)
      have g1 : 0 ≤ x.toInt := by
        by_cases g : x.toInt < 0
        · exact absurd (Int32.lt_iff_toInt_lt.mpr (by rw [z0]; exact g)) h1
        · omega
      have g2 : x.toInt ≤ 255 := by
        by_cases g : 255 < x.toInt
        · exact absurd (Int32.lt_iff_toInt_lt.mpr (by rw [z1]; exact g)) h2
        · omega
      obtain ⟨n, hn⟩ := Int.eq_ofNat_of_zero_le g1
      have hx : x = Int32.ofInt ((n : Nat) : Int) := by rw [← hn, Int32.ofInt_toInt]
      rw [e2, hn, hx]
      exact jix_all n (by omega)
theorem jchi : ∀ k, k < 126 → (Int32.ofInt (str0.getD k 0)).toInt = str0.getD k 0 := by decide +kernel
theorem sxo_inv {a : Nat} {sa : List aV} {x : Int} (h : sxo a sa = some x) : (a = 900 ∧ sa = [.inr (.inr (-10))] ∧ x = 126) ∨ (a = 901 ∧ ∃ i : Int, sa = [.inr (.inr (-10)), .inl i] ∧ 0 ≤ i ∧ i.toNat < 126 ∧ x = str0.getD i.toNat 0) ∨ (a = 902 ∧ ∃ c : Int, sa = [.inr (.inr (-11)), .inl c] ∧ x = aidx str1 c 0) := by
  unfold sxo at h
  split at h
  · rename_i y
    by_cases hy : y = -10
    · rw [hy] at h
      cases h
      exact Or.inl ⟨rfl, by rw [hy], rfl⟩
    · rw [decide_eq_false hy] at h
      cases h
  · rename_i y i
    by_cases hy : y = -10
    · by_cases h0 : 0 ≤ i
      · by_cases h1 : i.toNat < str0.length
        · rw [decide_eq_true hy, decide_eq_true h0, decide_eq_true h1] at h
          cases h
          exact Or.inr (Or.inl ⟨rfl, i, by rw [hy], h0, h1, rfl⟩)
        · rw [decide_eq_true hy, decide_eq_true h0, decide_eq_false h1] at h
          cases h
      · rw [decide_eq_true hy, decide_eq_false h0] at h
        cases h
    · rw [decide_eq_false hy] at h
      cases h
  · rename_i y c
    by_cases hy : y = -11
    · rw [decide_eq_true hy] at h
      cases h
      exact Or.inr (Or.inr ⟨rfl, c, by rw [hy], rfl⟩)
    · rw [decide_eq_false hy] at h
      cases h
  · cases h
theorem exS_10 {b a0 a1 a : Nat} (h : exS b a0 a1 a = -10) : a = a0 := by
  unfold exS at h
  split at h
  · assumption
  · split at h
    · exact absurd h (by decide)
    · split at h <;> exact absurd h (by decide)
theorem exS_11 {b a0 a1 a : Nat} (h : exS b a0 a1 a = -11) : a ≠ a0 ∧ a = a1 := by
  unfold exS at h
  split at h
  · exact absurd h (by decide)
  · rename_i h0
    split at h
    · rename_i h1
      exact ⟨h0, h1⟩
    · split at h <;> exact absurd h (by decide)
/-- a reference with a constant's number is that constant -/
theorem srel_c {b0 : Nat} {ex : Nat → Int} {st : List Value} {x : Int} {r : List aV} (h : srel b0 ex st (.inr (.inr x) :: r)) (hx : x < -1) : ∃ (a : Nat) (st0 : List Value), st = .ref a :: st0 ∧ x = ex a ∧ srel b0 ex st0 r := by
  obtain ⟨v, st0, e, hv, hs⟩ := srel_r h
  rcases hv with ⟨-, hv⟩ | ⟨a, rfl, hv⟩
  · omega
  · refine ⟨a, st0, e, ?_, hs⟩
    split at hv
    · exact hv
    · omega
theorem srel_n {b0 : Nat} {ex : Nat → Int} {st : List Value} (h : srel b0 ex st []) : st = [] := by
  cases st with
  | nil => rfl
  | cons _ _ => cases h
theorem nI_at {i : Int32} {k : Nat} (h : i.toInt = ((k : Nat) : Int)) (hk : k < 2 ^ 31) : i = nI k := Int32.toInt_inj.mp (h.trans (nI_toInt hk).symm)
theorem str_row (l : Launch) (b b0 a0 a1 : Nat) : StrRow l (SPs b0 a0 a1) b0 (exS b a0 a1) lw_good := by
  intro p e R s m args below meth c H locs cells slots Q cc pc ls idx a x rest vs sa hx hb hml hown hts hSP h9 h540 hcc hss hd hw hsx hsr h8 kk
  obtain ⟨adV, s1, s2, s3, s4⟩ := hSP
  have hV : SPv b0 (fun i => if i = 0 then a0 else a1) adV s H := ⟨s1, s2, s3⟩
  rcases sxo_inv hsx with ⟨rfl, rfl, rfl⟩ | ⟨rfl, i, rfl, hi0, hi1, rfl⟩ | ⟨rfl, k, rfl, rfl⟩
  · have w1 : Cond.methodLink RX4 idx yJ0_length_8abf5 ∈ lw_good := by
      rcases hw with ⟨-, h⟩ | ⟨h, -⟩ | ⟨h, -⟩
      · exact h
      · cases h
      · cases h
    obtain ⟨q, st0, rfl, hq, hs'⟩ := srel_c hsr (by decide)
    cases srel_n hs'
    cases exS_10 hq.symm
    refine jV (n := 0) (As := []) (i := 0) (rest := rest) (f := 1) (jm_len l b0 (fun i => if i = 0 then a0 else a1) adV (by decide)) hx hb hml hts hown hV (by decide) hd w1 jw_in_len jw_se_len jw_co_len jw_i_s (by decide) rfl (by decide) (by omega) (by omega) hcc hss h8 ?_
    exact kk (nI 126) (by decide)
  · have w1 : Cond.methodLink RX4 idx yJ0_charAt_5068e ∈ lw_good := by
      rcases hw with ⟨h, -⟩ | ⟨-, h⟩ | ⟨h, -⟩
      · cases h
      · exact h
      · cases h
    obtain ⟨q, st0, rfl, hq, hs'⟩ := srel_c hsr (by decide)
    obtain ⟨i', st1, rfl, hi', hs1⟩ := srel_i hs'
    cases srel_n hs1
    cases exS_10 hq.symm
    have hk : i' = nI i.toNat := nI_at (by omega) (by omega)
    rw [hk]
    refine jV (n := 1) (As := [.int (nI i.toNat)]) (i := 0) (rest := rest) (f := 3) (jm_chr l b0 (fun i => if i = 0 then a0 else a1) adV hi1) hx hb hml hts hown hV (by decide) hd w1 jw_in_chr jw_se_chr jw_co_chr jw_i_s (by decide) rfl (by decide) (by omega) (by omega) hcc hss h8 ?_
    exact kk (Int32.ofInt (str0.getD i.toNat 0)) (jchi _ hi1)
  · have w1 : Cond.methodLink RX4 idx yJ0_indexOf_0f7a4 ∈ lw_good := by
      rcases hw with ⟨h, -⟩ | ⟨h, -⟩ | ⟨-, h⟩
      · cases h
      · cases h
      · exact h
    obtain ⟨q, st0, rfl, hq, hs'⟩ := srel_c hsr (by decide)
    obtain ⟨i', st1, rfl, hi', hs1⟩ := srel_i hs'
    cases srel_n hs1
    obtain ⟨hq0, hq1⟩ := exS_11 hq.symm
    cases hq1
    refine jV (n := 1) (As := [.int i']) (i := 1) (rest := rest) (f := 3) (jm_ix1 l b0 (fun i => if i = 0 then a0 else a1) adV i') hx hb hml hts hown hV (by decide) hd w1 jw_in_ix1 jw_se_ix1 jw_co_ix1 jw_i_s (by decide) rfl (by decide) (by omega) (by omega) hcc hss h8 ?_
    exact kk (jixO i') (by rw [jixO_eq, hi'])
