/-! Orders: the reference's three questions. -/
theorem cd8_dig : ∀ {h : List Nat} {i : Nat}, dg h → i < h.length → cd8 h / 8 ^ (h.length - 1 - i) % 8 = h.getD i 0
  | [], _, _, hi => absurd hi (by simp)
  | a :: t, 0, hd, _ => by
    have ht := cd8_lt (dg_t hd)
    have ha := hd a List.mem_cons_self
    show (a * 8 ^ t.length + cd8 t) / 8 ^ (t.length + 1 - 1 - 0) % 8 = a
    rw [show t.length + 1 - 1 - 0 = t.length by omega, Nat.mul_comm, Nat.mul_add_div (Nat.pow_pos (by decide)), Nat.div_eq_of_lt ht, Nat.add_zero]
    exact Nat.mod_eq_of_lt ha
  | a :: t, i + 1, hd, hi => by
    rw [List.length_cons] at hi
    have ih := cd8_dig (dg_t hd) (show i < t.length by omega)
    show (a * 8 ^ t.length + cd8 t) / 8 ^ (t.length + 1 - 1 - (i + 1)) % 8 = t.getD i 0
    rw [← ih]
    have e1 : t.length + 1 - 1 - (i + 1) = t.length - 1 - i := by omega
    have e2 : 8 ^ t.length = 8 ^ (t.length - 1 - i) * (8 ^ i * 8) := by
      rw [← Nat.pow_succ, ← Nat.pow_add]
      congr 1
      omega
    rw [e1, e2, show a * (8 ^ (t.length - 1 - i) * (8 ^ i * 8)) = 8 ^ (t.length - 1 - i) * (a * 8 ^ i * 8) by
      rw [Nat.mul_left_comm, Nat.mul_assoc], Nat.mul_add_div (Nat.pow_pos (by decide)), Nat.add_comm, Nat.add_mul_mod_self_right]
theorem fo_285 (xs : List Int) (d : Nat) {κ : aK} {D : Nat → Nat → Int} (hκ : Shp κ) {v : Nat} {X : TX} (hX : TXok X) (hR : RI D v X) {S : ST} (hS : STok X S) (hn : RowR (D 301) X S) {k : Nat} (hk' : k ≤ xpr X) : ∃ D' L, NL (els (son S)) L ∧ RSame D D' ∧ OC D' (psS X S) ((els (son S) :: L).filter (fitL (tkX X) (xPI X) (xPO X) k)) ∧ D' 256 74 = ((els (son S)).length : Int) ∧ cl xs (d + 4) 285 [.inr (.inr 256), .inl (k : Int)] (κ, D) = some (none, (κ, D')) := by
  have k256 := k_256 hκ
  have hon := hS.1
  have h7 := on_lt hX hS
  obtain ⟨L, hL⟩ := NL_ex (8 ^ (els (son S)).length) (els (son S)) (els_dg _) (Nat.sub_le _ _)
  have hlen : L.length ≤ 99999 := by
    have h1 := (BG_ref h7 hL).length_eq
    have h2 := BG_fb (all := son S) (s := son S) (w := son S) (by omega) h7
    have h3 : fb (son S) ≤ 13700 := by rw [← fb_sum]; exact sumN_mem (f := fb) h7
    rw [List.length_cons] at h1
    omega
  have c1 := copiesX xs (d + 2) hκ hR
  generalize hE : setc (cpD D) 303 (D 303) = E at c1
  have rE : RSame D E := by rw [← hE]; exact RSame.q hR.2.2.2.1
  have hRE := hR.same rE
  have E301 : E 301 = D 301 := rE.1 301 (by decide) (by decide)
  have E302 : E 302 52 = (son S : Int) := by
    rw [← hE, setc_ne (by decide)]
    show setc D 302 (cpn 60 (D 301) (D 302)) 302 52 = _
    rw [setc_self, cpn_at (by decide)]
    exact hn.2.2.2.2.2.1
  obtain ⟨G, g1, g2, g3, g4, g5⟩ := fo_eq xs (d + 2) hκ hX hRE hon hS.2.1 hS.2.2.1 E302 (fun k hk => by rw [E301]; exact hn.2.2.2.2.1 k hk)
  have hRG := hRE.same g1
  have r1 := RSame.upf hRG.2.2.2.1 (j := 77) (by decide) 0
  have r2 := RSame.upf r1.2.2 (j := 79) (by decide) (-2)
  have r12 := r1.trans r2
  have hO : OS (aup (aup G 256 77 0) 256 79 (-2)) v X (psS X S) (els (son S)) := ⟨hRG.same r12, by rw [aupJ (by decide), aupJ (by decide)]; exact g2, by rw [aupN (by decide), aupN (by decide)]; exact g3, fun st hst => by rw [aupN (by decide), aupN (by decide)]; exact g4 st hst⟩
  have hC : OC (aup (aup G 256 77 0) 256 79 (-2)) (psS X S) [] := ⟨by rw [aupJ (by decide), aupE]; rfl, fun _ => by rw [aupE], fun h r q => by cases q⟩
  obtain ⟨D', q1, q2, q3, q4⟩ := all_ord xs d hκ hX hon hk' L (els (son S)) [] _ none none none hL (List.Perm.refl _) hO hC (by rw [List.length_nil]; omega)
  refine ⟨D', L, hL, ((rE.trans g1).trans r12).trans q1, q2, q3, ?_⟩
  rw [c_285, ← q4]
  simp (disch := omega) only [cond_true, cond_false, Bool.and_true, Bool.true_and, Bool.and_false, Bool.false_and, Int.toNat_natCast, Int.reduceToNat, bI_s, bJ_s, bV_s, bR_s, decide_true, decide_false, not_true_eq_false, not_false_eq_true, dT, dF, w_al, w_la, w_ab, w_sl, w_sb, w_dec, w_ml, w_lm, ol2i_n, aup_ne, aupE, aupJ, setc_self, setc_ne, k256, c1, g5]
theorem ref_ft {X : TX} {S : ST} (hX : TXok X) (hS : STok X S) {L : List (List Nat)} (hL : NL (els (son S)) L) (k : Nat) : List.Perm (ftX X S k) ((els (son S) :: L).filter (fitL (tkX X) (xPI X) (xPO X) k)) := (BG_ref (on_lt hX hS) hL).filter _
theorem rorders (xs : List Int) (d : Nat) {κ : aK} {D : Nat → Nat → Int} (hκ : Shp κ) {v : Nat} {X : TX} (hX : TXok X) (hR : RI D v X) {S : ST} (hS : STok X S) (hn : RowR (D 301) X S) (k : Int) : ∃ D', RSame D D' ∧ cl xs (d + 5) 286 [.inr (.inr 256), .inl k] (κ, D) = some (some (.inl (qOrders X S k)), (κ, D')) := by
  have k256 := k_256 hκ
  have hp := isPairsX xs (d + 2) hκ hX hR (g := D 303) k
  rw [setc_id] at hp
  unfold qOrders
  by_cases h : 0 ≤ k ∧ k ≤ (xpr X : Int)
  · rw [if_pos h]
    rw [if_pos h] at hp
    obtain ⟨K, rfl⟩ := Int.eq_ofNat_of_zero_le h.1
    obtain ⟨D', L, hL, q1, q2, q3, q4⟩ := fo_285 xs d hκ hX hR hS hn (k := K) (by omega)
    refine ⟨D', q1, ?_⟩
    have e77 : D' 256 77 = ((ftX X S K).length : Int) := by rw [q2.1, (ref_ft hX hS hL K).length_eq]
    rw [c_286]
    simp (disch := omega) only [cond_true, cond_false, Bool.and_true, Bool.true_and, Bool.and_false, Bool.false_and, Int.toNat_natCast, Int.reduceToNat, bI_s, bJ_s, bV_s, bR_s, decide_true, decide_false, not_true_eq_false, not_false_eq_true, dT, dF, w_al, w_la, w_ab, w_sl, w_sb, w_dec, w_ml, w_lm, ol2i_n, aup_ne, aupE, aupJ, setc_self, setc_ne, k256, hp, q4, e77]
  · rw [if_neg h]
    rw [if_neg h] at hp
    refine ⟨D, RSame.rfl' hR.2.2.2.1, ?_⟩
    rw [c_286]
    simp (disch := omega) only [cond_true, cond_false, Bool.and_true, Bool.true_and, Bool.and_false, Bool.false_and, Int.toNat_natCast, Int.reduceToNat, bI_s, bJ_s, bV_s, bR_s, decide_true, decide_false, not_true_eq_false, not_false_eq_true, dT, dF, w_al, w_la, w_ab, w_sl, w_sb, w_dec, w_ml, w_lm, ol2i_n, aup_ne, aupE, aupJ, setc_self, setc_ne, k256, hp]
theorem rswaps (xs : List Int) (d : Nat) {κ : aK} {D : Nat → Nat → Int} (hκ : Shp κ) {v : Nat} {X : TX} (hX : TXok X) (hR : RI D v X) {S : ST} (hS : STok X S) (hn : RowR (D 301) X S) (k : Int) : ∃ D', RSame D D' ∧ cl xs (d + 5) 288 [.inr (.inr 256), .inl k] (κ, D) = some (some (.inl (qSwaps X S k)), (κ, D')) := by
  have k256 := k_256 hκ
  have hp := isPairsX xs (d + 2) hκ hX hR (g := D 303) k
  rw [setc_id] at hp
  unfold qSwaps
  by_cases h : 0 ≤ k ∧ k ≤ (xpr X : Int)
  · rw [if_pos h]
    rw [if_pos h] at hp
    obtain ⟨K, rfl⟩ := Int.eq_ofNat_of_zero_le h.1
    obtain ⟨D', L, hL, q1, ⟨o1, o2, o3⟩, q3, q4⟩ := fo_285 xs d hκ hX hR hS hn (k := K) (by omega)
    refine ⟨D', q1, ?_⟩
    have hft := ref_ft hX hS hL K
    rw [show ((K : Int)).toNat = K from Int.toNat_natCast K]
    generalize hFF : (els (son S) :: L).filter (fitL (tkX X) (xPI X) (xPO X) K) = F at *
    have e79 : D' 256 79 = (if (ftX X S K).length = 0 then -2 else (lsM (inv (psS X S)) (ftX X S K) : Int)) := by
      rw [hft.length_eq]
      cases hF : F with
      | nil => rw [if_pos (show ([] : List (List Nat)).length = 0 from rfl)]; exact o2 hF
      | cons hd tl =>
        rw [if_neg (by simp)]
        obtain ⟨_, z, z1, z2⟩ := o3 hd tl hF
        have hne : ftX X S K ≠ [] := fun q => by
          have := hft.length_eq
          rw [q, hF] at this
          simp at this
        rw [z1, isMin_uniq (isMin_perm hft.symm z2) (lsM_min _ _ hne)]
    rw [c_288, ← e79]
    simp (disch := omega) only [cond_true, cond_false, Bool.and_true, Bool.true_and, Bool.and_false, Bool.false_and, Int.toNat_natCast, Int.reduceToNat, bI_s, bJ_s, bV_s, bR_s, decide_true, decide_false, not_true_eq_false, not_false_eq_true, dT, dF, w_al, w_la, w_ab, w_sl, w_sb, w_dec, w_ml, w_lm, ol2i_n, aup_ne, aupE, aupJ, setc_self, setc_ne, k256, hp, q4]
  · rw [if_neg h]
    rw [if_neg h] at hp
    refine ⟨D, RSame.rfl' hR.2.2.2.1, ?_⟩
    rw [c_288]
    simp (disch := omega) only [cond_true, cond_false, Bool.and_true, Bool.true_and, Bool.and_false, Bool.false_and, Int.toNat_natCast, Int.reduceToNat, bI_s, bJ_s, bV_s, bR_s, decide_true, decide_false, not_true_eq_false, not_false_eq_true, dT, dF, w_al, w_la, w_ab, w_sl, w_sb, w_dec, w_ml, w_lm, ol2i_n, aup_ne, aupE, aupJ, setc_self, setc_ne, k256, hp]
theorem rorderAt (xs : List Int) (d : Nat) {κ : aK} {D : Nat → Nat → Int} (hκ : Shp κ) {v : Nat} {X : TX} (hX : TXok X) (hR : RI D v X) {S : ST} (hS : STok X S) (hn : RowR (D 301) X S) (k i : Int) : ∃ D', RSame D D' ∧ cl xs (d + 5) 287 [.inr (.inr 256), .inl k, .inl i] (κ, D) = some (some (.inl (qOrderAt X S k i)), (κ, D')) := by
  have k256 := k_256 hκ
  have h7 := on_lt hX hS
  have hp := isPairsX xs (d + 2) hκ hX hR (g := D 303) k
  rw [setc_id] at hp
  unfold qOrderAt
  by_cases h : 0 ≤ k ∧ k ≤ (xpr X : Int)
  · rw [if_pos h]
    rw [if_pos h] at hp
    obtain ⟨K, rfl⟩ := Int.eq_ofNat_of_zero_le h.1
    by_cases hi : 0 ≤ i
    · rw [if_pos hi]
      obtain ⟨I, rfl⟩ := Int.eq_ofNat_of_zero_le hi
      obtain ⟨D', L, hL, q1, ⟨o1, o2, o3⟩, q3, q4⟩ := fo_285 xs d hκ hX hR hS hn (k := K) (by omega)
      refine ⟨D', q1, ?_⟩
      have hp' := (hR.same q1).1
      have hft := ref_ft hX hS hL K
      have hpw := (NL_all (els_dg _) (els_sorted _) hL).1
      have hmem : ∀ q, q ∈ (els (son S) :: L).filter (fitL (tkX X) (xPI X) (xPO X) K) → List.Perm q (els (son S)) := fun q hq => ((NL_all (els_dg _) (els_sorted _) hL).2 q).mp (List.mem_filter.mp hq).1
      have hpf := List.Pairwise.filter (fitL (tkX X) (xPI X) (xPO X) K) hpw
      rw [show ((K : Int)).toNat = K from Int.toNat_natCast K, show ((I : Int)).toNat = I from Int.toNat_natCast I, ← bcn_els _ h7] at *
      generalize hFF : (els (son S) :: L).filter (fitL (tkX X) (xPI X) (xPO X) K) = F at *
      rw [hft.length_eq, c_287]
      cases hF : F with
      | nil =>
        have e77 : D' 256 77 = 0 := by rw [o1, hF]; rfl
        rw [if_pos (show ([] : List (List Nat)).length = 0 from rfl)]
        simp (disch := omega) only [cond_true, cond_false, Bool.and_true, Bool.true_and, Bool.and_false, Bool.false_and, Int.toNat_natCast, Int.reduceToNat, bI_s, bJ_s, bV_s, bR_s, decide_true, decide_false, not_true_eq_false, not_false_eq_true, dT, dF, w_al, w_la, w_ab, w_sl, w_sb, w_dec, w_ml, w_lm, ol2i_n, aup_ne, aupE, aupJ, setc_self, setc_ne, k256, hp, q4, e77]
      | cons hd tl =>
        have e77 : D' 256 77 = ((hd :: tl).length : Int) := by rw [o1, hF]
        have hne0 : ¬ ((hd :: tl).length : Int) = 0 := by rw [List.length_cons]; omega
        rw [if_neg (show ¬ (hd :: tl).length = 0 by simp)]
        by_cases hb : (bcn (son S) 10 : Int) ≤ (I : Int)
        · rw [if_pos hb]
          simp (disch := omega) only [cond_true, cond_false, Bool.and_true, Bool.true_and, Bool.and_false, Bool.false_and, Int.toNat_natCast, Int.reduceToNat, bI_s, bJ_s, bV_s, bR_s, decide_true, decide_false, not_true_eq_false, not_false_eq_true, dT, dF, w_al, w_la, w_ab, w_sl, w_sb, w_dec, w_ml, w_lm, ol2i_n, aup_ne, aupE, aupJ, setc_self, setc_ne, k256, hp, q4, e77, hne0, q3]
        · rw [if_neg hb]
          have hbl := bcn_le (son S) 10
          have hpe := hmem hd (by rw [hF]; exact List.mem_cons_self)
          have hhl : hd.length = bcn (son S) 10 := by rw [hpe.length_eq, bcn_els _ h7]
          have e309 := PmA_get (o3 hd tl hF).1 (k := I) (by omega)
          rw [Nat.zero_add] at e309
          have hmin : isMin cd8 F (cd8 hd) := by
            rw [hF]
            refine ⟨⟨hd, List.mem_cons_self, rfl⟩, fun l hl => ?_⟩
            rw [hF] at hpf
            rcases List.mem_cons.mp hl with rfl | hl
            · exact Nat.le_refl _
            · exact Nat.le_of_lt ((List.pairwise_cons.mp hpf).1 l hl)
          have hne : ftX X S K ≠ [] := fun q => by
            have := hft.length_eq
            rw [q, hF] at this
            simp at this
          have els8 : lsM cd8 (ftX X S K) = cd8 hd := isMin_uniq (lsM_min _ _ hne) (isMin_perm hft.symm hmin)
          have edig : lsM cd8 (ftX X S K) / 2 ^ (3 * (bcn (son S) 10 - 1 - I)) % 8 = hd.getD I 0 := by
            rw [els8, Nat.pow_mul, show 2 ^ 3 = 8 from rfl, ← hhl]
            exact cd8_dig (dg_perm (els_dg _) hpe) (by omega)
          have hl7 : (els (son S)).length ≤ 7 := by
            unfold els
            exact Nat.le_trans (List.length_filter_le _ _) (Nat.le_of_eq List.length_range)
          have hb7 : bcn (son S) 10 ≤ 7 := by rw [bcn_els _ h7]; exact hl7
          rw [edig]
          simp (disch := omega) only [cond_true, cond_false, Bool.and_true, Bool.true_and, Bool.and_false, Bool.false_and, Int.toNat_natCast, Int.reduceToNat, bI_s, bJ_s, bV_s, bR_s, decide_true, decide_false, not_true_eq_false, not_false_eq_true, dT, dF, w_al, w_la, w_ab, w_sl, w_sb, w_dec, w_ml, w_lm, ol2i_n, aup_ne, aupE, aupJ, setc_self, setc_ne, k256, hp, q4, e77, hne0, q3, pr_78 hp', n_309 hκ, e309]
    · rw [if_neg hi]
      refine ⟨D, RSame.rfl' hR.2.2.2.1, ?_⟩
      rw [c_287]
      simp (disch := omega) only [cond_true, cond_false, Bool.and_true, Bool.true_and, Bool.and_false, Bool.false_and, Int.toNat_natCast, Int.reduceToNat, bI_s, bJ_s, bV_s, bR_s, decide_true, decide_false, not_true_eq_false, not_false_eq_true, dT, dF, w_al, w_la, w_ab, w_sl, w_sb, w_dec, w_ml, w_lm, ol2i_n, aup_ne, aupE, aupJ, setc_self, setc_ne, k256, hp]
  · rw [if_neg h]
    rw [if_neg h] at hp
    refine ⟨D, RSame.rfl' hR.2.2.2.1, ?_⟩
    rw [c_287]
    simp (disch := omega) only [cond_true, cond_false, Bool.and_true, Bool.true_and, Bool.and_false, Bool.false_and, Int.toNat_natCast, Int.reduceToNat, bI_s, bJ_s, bV_s, bR_s, decide_true, decide_false, not_true_eq_false, not_false_eq_true, dT, dF, w_al, w_la, w_ab, w_sl, w_sb, w_dec, w_ml, w_lm, ol2i_n, aup_ne, aupE, aupJ, setc_self, setc_ne, k256, hp]
