/-! Orders: arrive. -/
theorem omin_nat (a b : Nat) : omin (a : Int) (b : Int) = ((min a b : Nat) : Int) := by
  unfold omin
  split <;> omega
theorem arr_scan (xs : List Int) (d : Nat) {κ : aK} {D : Nat → Nat → Int} (hκ : Shp κ) (hc : CPtr D) {t : Nat} (ht : isT t) (h5 : D 0 5 = (t : Int)) {X : TX} (hX : TXok X) (hx : TxC D t X) {a b c e g R m : Nat} (hK : OrK κ a b c e g R) {ow : Nat → Nat} {vv : Nat → VV} {wy fi sp : Nat → Nat} (hH : OrH D X a b c e g m ow vv wy fi sp) (hm : m ≤ R) {v : VV} (hf : frC D X v) {s A O W : Nat} (hA : A ≤ 14000) (hwy : ∀ i, i < m → wy i ≤ 14000) : ∀ (k n : Nat), n + k ≤ m → (∀ j, k ≤ j → j < m → ow j = s → vv j ≠ v) → (∃ (i n' : Nat), i < m ∧ ow i = s ∧ vv i = v ∧ ev xs (d + 1) mm_25 11 [some (.inr (.inr ((77 : Nat) : Int))), some (.inr (.inr (t : Int))), some (.inl (s : Int)), some (.inl (A : Int)), some (.inl (O : Int)), some (.inl (W : Int)), some (.inl (prv ow s k)), some (.inl (n : Int))] [] (κ, D) = ev xs (d + 1) mm_25 93 [some (.inr (.inr ((77 : Nat) : Int))), some (.inr (.inr (t : Int))), some (.inl (s : Int)), some (.inl (A : Int)), some (.inl (O : Int)), some (.inl (W : Int)), some (.inl (i : Int)), some (.inl (n' : Int))] [] (κ, aup (aup (aup D b i ((wy i + A : Nat) : Int)) c i ((min (fi i) O : Nat) : Int)) e i ((min (sp i) W : Nat) : Int))) ∨ ((∀ j, j < m → ow j = s → vv j ≠ v) ∧ ∃ (v6 v7 : Int), ev xs (d + 1) mm_25 11 [some (.inr (.inr ((77 : Nat) : Int))), some (.inr (.inr (t : Int))), some (.inl (s : Int)), some (.inl (A : Int)), some (.inl (O : Int)), some (.inl (W : Int)), some (.inl (prv ow s k)), some (.inl (n : Int))] [] (κ, D) = ev xs (d + 1) mm_25 109 [some (.inr (.inr ((77 : Nat) : Int))), some (.inr (.inr (t : Int))), some (.inl (s : Int)), some (.inl (A : Int)), some (.inl (O : Int)), some (.inl (W : Int)), some (.inl v6), some (.inl v7)] [] (κ, D)) := by
  have hH' := hH
  obtain ⟨⟨f1, f2, f3, f4, f5, f6⟩, _, hE⟩ := hH
  obtain ⟨_, ⟨o1, o2, o3, o4, o5⟩, ⟨d1, d2, d3, d4, d5, d6, d7, d8, d9, d10⟩, r1, r2⟩ := hK
  have hK' : OrK κ a b c e g R := ⟨by assumption, ⟨o1, o2, o3, o4, o5⟩, ⟨d1, d2, d3, d4, d5, d6, d7, d8, d9, d10⟩, r1, r2⟩
  have k77 := kc_77 hκ
  unfold okc at o1 o2 o3 o4 o5
  intro k
  induction k using Nat.strongRecOn with
  | ind k ih =>
    intro n hn hj
    rcases prv_spec ow s k with ⟨p1, p2⟩ | ⟨i, p1, p2, p3, p4⟩
    · right
      refine ⟨fun j hjm ho => ?_, -1, (n : Int), ?_⟩
      · by_cases hjk : j < k
        · exact absurd ho (p2 j hjk)
        · exact hj j (by omega) hjm ho
      · rw [p1, q_25_11]
        by_cases hnm : m ≤ n
        · simp (disch := omega) only [cond_true, cond_false, Bool.and_true, Bool.true_and, Bool.and_false, Bool.false_and, Int.toNat_natCast, Int.reduceToNat, bI_s, bJ_s, bV_s, bR_s, decide_true, decide_false, not_true_eq_false, not_false_eq_true, dT, dF, w_al, w_la, w_ab, w_sl, w_sb, w_dec, w_ml, w_lm, ol2i_n, aup_ne, aupE, aupJ, setc_self, setc_ne, k77, f1]
        · simp (disch := omega) only [cond_true, cond_false, Bool.and_true, Bool.true_and, Bool.and_false, Bool.false_and, Int.toNat_natCast, Int.reduceToNat, bI_s, bJ_s, bV_s, bR_s, decide_true, decide_false, not_true_eq_false, not_false_eq_true, dT, dF, w_al, w_la, w_ab, w_sl, w_sb, w_dec, w_ml, w_lm, ol2i_n, aup_ne, aupE, aupJ, setc_self, setc_ne, k77, f1]
    · have is := isAs_eq xs d hκ hc ht h5 hX hx hK' hH' hm hf (i := i) (by omega)
      obtain ⟨e1, e2, e3, e4, e5, e6⟩ := hE i (by omega)
      have wi := hwy i (by omega)
      by_cases hv : vv i = v
      · left
        refine ⟨i, n, by omega, p3, hv, ?_⟩
        rw [if_pos hv] at is
        rw [p2, q_25_11]
        simp (disch := omega) only [cond_true, cond_false, Bool.and_true, Bool.true_and, Bool.and_false, Bool.false_and, Int.toNat_natCast, Int.reduceToNat, bI_s, bJ_s, bV_s, bR_s, decide_true, decide_false, not_true_eq_false, not_false_eq_true, dT, dF, w_al, w_la, w_ab, w_sl, w_sb, w_dec, w_ml, w_lm, ol2i_n, aup_ne, aupE, aupJ, setc_self, setc_ne, k77, f1, is, f3, f4, f5, ok_b hK', ok_c hK', ok_e hK', e2, e3, e4, omin_nat]
      · rw [if_neg hv] at is
        have step : ev xs (d + 1) mm_25 11 [some (.inr (.inr ((77 : Nat) : Int))), some (.inr (.inr (t : Int))), some (.inl (s : Int)), some (.inl (A : Int)), some (.inl (O : Int)), some (.inl (W : Int)), some (.inl (prv ow s k)), some (.inl (n : Int))] [] (κ, D) = ev xs (d + 1) mm_25 11 [some (.inr (.inr ((77 : Nat) : Int))), some (.inr (.inr (t : Int))), some (.inl (s : Int)), some (.inl (A : Int)), some (.inl (O : Int)), some (.inl (W : Int)), some (.inl (prv ow s i)), some (.inl ((n + 1 : Nat) : Int))] [] (κ, D) := by
          rw [p3] at e1
          rw [p2, q_25_11]
          simp (disch := omega) only [cond_true, cond_false, Bool.and_true, Bool.true_and, Bool.and_false, Bool.false_and, Int.toNat_natCast, Int.reduceToNat, bI_s, bJ_s, bV_s, bR_s, decide_true, decide_false, not_true_eq_false, not_false_eq_true, dT, dF, w_al, w_la, w_ab, w_sl, w_sb, w_dec, w_ml, w_lm, ol2i_n, aup_ne, aupE, aupJ, setc_self, setc_ne, k77, f1, f2, is, ok_a hK', e1]
        rw [step]
        exact ih i p1 (n + 1) (by omega) (fun j h1 h2 ho => by
          by_cases hji : j = i
          · rw [hji]; exact hv
          · by_cases hjk : j < k
            · exact absurd ho (p4 j (by omega) hjk)
            · exact hj j (by omega) h2 ho)
