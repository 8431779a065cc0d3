/-! The law's start: from a run of the abstract machine to the walk of the law's body. -/
def h00 : aH := ((0, 0, fun _ => (0, 0)), fun _ _ => 0)
def LawEv : Prop := ∀ xs : List Int, xs.length ≤ 3072 → (∀ j, -2147483648 ≤ xs.getD j 0 ∧ xs.getD j 0 < 2147483648) → ∃ h' : aH, ev xs 1300 mm_321 0 [some (.inr (.inr (-2))), none, none, none] [] h00 = some (some (.inl 1), h') ∧ h'.1.1 ≤ 600000 ∧ h'.1.2.1 ≤ 7302250
def SPs (b0 a0 a1 : Nat) (U : State) (H : Heap) : Prop := ∃ adV : Nat → Nat, vk_S 2 [126, 9] [str0.map Int32.ofInt, str1.map Int32.ofInt] (fun i => if i = 0 then a0 else a1) adV (fun q => b0 ≤ q) U H ∧ va_Z "java/lang/String" "COMPACT_STRINGS" "Z" (.int 1) (fun q => b0 ≤ q) U H ∧ va_Zq "jdk/internal/util/Preconditions" "SIOOBE_FORMATTER" "Ljava/util/function/BiFunction;" (fun q => b0 ≤ q) U H ∧ b0 ≤ H.size
def exS (b a0 a1 : Nat) (a : Nat) : Int := if a = a0 then -10 else if a = a1 then -11 else if a = b then -2 else -3
theorem exS_le (b a0 a1 a : Nat) : exS b a0 a1 a ≤ -2 := by
  unfold exS
  split
  · decide
  · split
    · decide
    · split <;> decide
theorem SPs.warm {b0 a0 a1 : Nat} {s U : State} {H : Heap} (hW : s.WarmedH U.vm) (h : SPs b0 a0 a1 s H) : SPs b0 a0 a1 U H := by
  obtain ⟨adV, h1, h2, h3, h4⟩ := h
  exact ⟨adV, vk_S.moved hW.alike h1, va_Z.moved hW.alike h2, va_Zq.moved hW.alike h3, h4⟩
/-- the classes and the arrays' classes are known -/
theorem va_K_start {s : State} {args : Array Value} (hts : ∀ w ∈ lw_good, w.before args s = true) (hC : clsOK lw_good) (hin : ∀ (ci : Nat) (q : vw_C), vwCl[ci]? = some q → Cond.instantiable q.1 q.2.2 ∈ lw_good) (hao : (Cond.arrayOver (.object "WordMill$State")).before args s = true) (har : Cond.arrayClass .int ∈ lw_good ∧ Cond.arrayClass .long ∈ lw_good ∧ Cond.arrayClass .byte ∈ lw_good ∧ Cond.arrayClass .boolean ∈ lw_good) : ∃ (G : va_G) (ga : Nat → ClassId), va_K G vwCl (tysG ga) s := by
  have h1 : ∀ c : Nat, ∃ r : ClassId × (Nat → Nat), ∀ q, vwCl[c]? = some q → u_Kn s q.1 q.2.1 q.2.2 r.1 r.2 := by
    intro c
    cases hq : vwCl[c]? with
    | none => exact ⟨(0, fun _ => 0), fun q h => by cases h⟩
    | some q =>
      obtain ⟨cC, iS, hK⟩ := u_known hts (hC c q hq).1 (hts _ (hin c q hq))
      exact ⟨(cC, iS), fun q' h => by cases h; exact hK⟩
  obtain ⟨gr, hgr⟩ := Classical.axiomOfChoice h1
  have arr : ∀ ty : FieldType, Cond.arrayClass ty ∈ lw_good → ∃ cA : ClassId, ArrOfT s cA ty ∧ s.vm.findClass ("[" ++ ty.toString) = some cA := by
    intro ty hw
    obtain ⟨cA, kA, comp, e1, e2, e3⟩ := Cond.arrayClass_spec (hts _ hw)
    exact ⟨cA, fun n z => ⟨fun k h => (by cases h), kA, e2, comp, e3⟩, e1⟩
  obtain ⟨c0, a0, b0⟩ := arr .int har.1
  obtain ⟨c1, a1, b1⟩ := arr .long har.2.1
  obtain ⟨c2, a2, b2⟩ := arr .byte har.2.2.1
  obtain ⟨c3, a3, b3⟩ := arr .boolean har.2.2.2
  obtain ⟨comp, c4, k4, e1, -, e3, e4, e5⟩ := Cond.arrayOver_spec hao
  refine ⟨(fun c => (gr c).1, fun c => (gr c).2), (fun t => match t with | 100 => c0 | 101 => c1 | 102 => c2 | 103 => c3 | _ => c4), fun c q hq => hgr c q hq, fun k q hk => ?_⟩
  match k, hk with
  | 0, hk => cases hk; exact ⟨a0, b0⟩
  | 1, hk => cases hk; exact ⟨a1, b1⟩
  | 2, hk => cases hk; exact ⟨a2, b2⟩
  | 3, hk => cases hk; exact ⟨a3, b3⟩
  | 4, hk => cases hk; exact ⟨fun n z => ⟨fun k h => (by cases h), k4, e3, comp, e4⟩, k4, comp, e3, e4, e1, e5⟩
theorem clsOK_good : clsOK lw_good := by
  intro ci q hq
  have hc : ci < 13 := (List.getElem?_eq_some_iff.mp hq).1
  have key : ∀ ci, ci < 13 → ∀ q, vwCl[ci]? = some q → (∀ k, k < q.2.2 → parseFieldDescriptor (q.2.1 k).2.2.1 = some (tyA ci k)) ∧ (∀ a, a < q.2.2 → ∀ b, b < q.2.2 → a ≠ b → (q.2.1 a).2.1 ≠ (q.2.1 b).2.1) ∧ ∀ k, k < q.2.2 → ftc (tyA ci k) ≠ 9 := by
    intro ci hci
    match ci, hci with
    | 0, _ => intro q hq; cases hq; exact ⟨tyX0_ok, nmX0, by decide +kernel⟩
    | 1, _ => intro q hq; cases hq; exact ⟨tyX1_ok, nmX1, by decide +kernel⟩
    | 2, _ => intro q hq; cases hq; exact ⟨tyX2_ok, nmX2, by decide +kernel⟩
    | 3, _ => intro q hq; cases hq; exact ⟨tyX3_ok, nmX3, by decide +kernel⟩
    | 4, _ => intro q hq; cases hq; exact ⟨tyX4_ok, nmX4, by decide +kernel⟩
    | 5, _ => intro q hq; cases hq; exact ⟨tyX5_ok, nmX5, by decide +kernel⟩
    | 6, _ => intro q hq; cases hq; exact ⟨tyX6_ok, nmX6, by decide +kernel⟩
    | 7, _ => intro q hq; cases hq; exact ⟨tyX7_ok, nmX7, by decide +kernel⟩
    | 8, _ => intro q hq; cases hq; exact ⟨tyX8_ok, nmX8, by decide +kernel⟩
    | 9, _ => intro q hq; cases hq; exact ⟨tyX9_ok, nmX9, by decide +kernel⟩
    | 10, _ => intro q hq; cases hq; exact ⟨tyX10_ok, nmX10, by decide +kernel⟩
    | 11, _ => intro q hq; cases hq; exact ⟨tyX11_ok, nmX11, by decide +kernel⟩
    | 12, _ => intro q hq; cases hq; exact ⟨tyX12_ok, nmX12, by decide +kernel⟩
  exact ⟨fun w hw => lay_good ci q hq w hw, key ci hc q hq⟩
/-- the walk of the law's body, out of a run of the abstract machine -/
theorem start_of (hlaw : LawEv) (hstr : ∀ (l : Launch) (b b0 a0 a1 : Nat), StrRow l (SPs b0 a0 a1) b0 (exS b a0 a1) lw_good) {p : Program} {e : Env} {s : State} {m : MethodId} {below : List Frame} {meth : Method} {c : Code} (l : Launch) {b L : Nat} {xs : Nat → Int32} (hL : L ≤ 3072) (C0 : lw_At p s m meth c b L xs) : W p l e room_1 s m #[Value.ref b] below meth c s.heap [] 0 0 (lw_Z below #[Value.ref b] s) (entryFrame m ([Value.ref b] : List Value).toArray 4) := by
  obtain ⟨hx, hb, hr, hml, hown, hts, hX, hbl, hlocks, hgv⟩ := C0
  have htg : ∀ w ∈ lw_good, w.before #[Value.ref b] s = true := fun w hw => hts w (List.mem_filter.mp hw).1
  have htt : ∀ w ∈ tables_1, w.before #[Value.ref b] s = true := fun w hw => hts w (List.mem_append_right _ hw)
  have hs0 := flat_of_before _ hgv
  obtain ⟨-, -, -, -, -, -, -, -, -, har, -⟩ := tabs_ok
  have hao : (Cond.arrayOver (.object "WordMill$State")).before #[Value.ref b] s = true := htt _ ao_in
  obtain ⟨G, ga, hK⟩ := va_K_start htg clsOK_good inst_good hao har
  have hA : ∀ a : Nat, a < s.heap.size → ¬ (fun q => s.heap.size ≤ q) a := fun a h1 h2 => Nat.not_le.mpr h1 h2
  obtain ⟨adK, adV, hvk, hev⟩ := vk_Sof (args := #[Value.ref b]) (s := s) (N := 2) (tm := strT) (len := [126, 9]) (byt := [str0.map Int32.ofInt, str1.map Int32.ofInt]) (A := fun q => s.heap.size ≤ q) (by decide) (fun i hi => hs0 _ (st_ex i hi)) (fun i hi => hs0 _ (st_co i hi)) (fun i hi => hs0 _ (st_ar i hi)) (fun i hi => hs0 _ (st_le i hi)) (fun i hi j hj => hs0 _ (st_el i hi j hj)) (fun i j hi hj hne => by
    match i, hi, j, hj, hne with
    | 0, _, 1, _, _ => exact Or.inl (hs0 _ st_ne)
    | 1, _, 0, _, _ => exact Or.inr (hs0 _ st_ne)
    | 0, _, 0, _, h => exact absurd rfl h
    | 1, _, 1, _, h => exact absurd rfl h) hA
  have hk01 : adK 0 ≠ adK 1 := fun h => by have := hvk.2 0 1 (by decide) (by decide) h; cases this
  have hlt : ∀ i, i < 2 → adK i < s.heap.size := fun i hi => by
    obtain ⟨⟨cell, h1, -⟩, -⟩ := hvk.1 i hi
    exact (Array.getElem?_eq_some_iff.mp h1).1
  obtain ⟨scr, x1, x2, x3, x4, x5⟩ := hX
  have hnb : ∀ i, i < 2 → adK i ≠ b := fun i hi he => by
    obtain ⟨-, -, ⟨cf, k, fi, f, cell, h1, h2, h3, h4, h5, h6⟩, -⟩ := hvk.1 i hi
    rw [he, x1] at h3
    cases h3
    have hlt2 := (Array.getElem?_eq_some_iff.mp h5).1
    rw [x5 _ (by rw [← x4]; exact hlt2)] at h5
    cases h5
  have hvk' : vk_S 2 [126, 9] [str0.map Int32.ofInt, str1.map Int32.ofInt] (fun i => if i = 0 then adK 0 else adK 1) adV (fun q => s.heap.size ≤ q) s s.heap := by
    have e : ∀ i, i < 2 → (if i = 0 then adK 0 else adK 1) = adK i := fun i hi => by
      match i, hi with
      | 0, _ => rfl
      | 1, _ => rfl
    refine ⟨fun i hi => ?_, fun i j hi hj h => hvk.2 i j hi hj ?_⟩
    · simp only [e i hi]
      exact hvk.1 i hi
    · simp only [e i hi, e j hj] at h
      exact h
  have hSP : SPs s.heap.size (adK 0) (adK 1) s s.heap := ⟨adV, hvk', va_Zof (htt _ cs_in) (htg _ ci_in) (va_eqt (hs0 _ cs_eq)) hA, va_Zqof (htt _ sf_in) (htg _ pi_in) (hs0 _ sf_ref) hA, Nat.le_refl _⟩
  have hex0 : exS b (adK 0) (adK 1) (adK 0) = -10 := by simp [exS]
  have hex1 : exS b (adK 0) (adK 1) (adK 1) = -11 := by simp [exS, Ne.symm hk01]
  have hexb : exS b (adK 0) (adK 1) b = -2 := by simp [exS, Ne.symm (hnb 0 (by decide)), Ne.symm (hnb 1 (by decide))]
  have hw : wld G ga s.heap.size (exS b (adK 0) (adK 1)) s := by
    refine ⟨hK, va_AO.of hao, fun w hw => ?_, fun t ht => ?_⟩
    · obtain ⟨h1, h2⟩ := List.mem_filter.mp hw
      have h3 := htt w h1
      cases w <;> first | exact va_tabs rfl rfl h3 | cases h2
    · rcases List.mem_cons.mp ht with rfl | ht
      · exact ⟨_, adK 0, vk_R.of (htt _ s0_in) (hev 0 (by decide)), hlt 0 (by decide), hex0⟩
      · rcases List.mem_cons.mp ht with rfl | ht
        · exact ⟨_, adK 1, vk_R.of (htt _ s1_in) (hev 1 (by decide)), hlt 1 (by decide), hex1⟩
        · cases ht
  have hgetD : ∀ j, j < L → ((List.range L).map (fun j => (xs j).toInt)).getD j 0 = (xs j).toInt := fun j hj => by
    rw [List.getD_eq_getElem?_getD, List.getElem?_map, List.getElem?_range hj]; rfl
  have hrng : ∀ j, -2147483648 ≤ ((List.range L).map (fun j => (xs j).toInt)).getD j 0 ∧ ((List.range L).map (fun j => (xs j).toInt)).getD j 0 < 2147483648 := by
    intro j
    by_cases hj : j < L
    · rw [hgetD j hj]
      exact ⟨by have := (xs j).le_toInt; simpa using this, by have := (xs j).toInt_lt; simpa using this⟩
    · rw [List.getD_eq_getElem?_getD, List.getElem?_eq_none (by simp; omega)]
      decide
  obtain ⟨h', hrun, hc1, hc2⟩ := hlaw ((List.range L).map (fun j => (xs j).toInt)) (by simp; exact hL) hrng
  obtain ⟨f, hf⟩ := of_aev hrun
  have hsc : scrP s.heap.size (exS b (adK 0) (adK 1)) ((List.range L).map (fun j => (xs j).toInt)) s s.heap := by
    intro a ha hea
    have : a = b := by
      unfold exS at hea
      split at hea
      · cases hea
      · split at hea
        · cases hea
        · split at hea
          · assumption
          · cases hea
    subst this
    refine ⟨scr, x1, x2, x3, by simpa using x4, fun j hj => ?_⟩
    have hj' : j < L := by simpa using hj
    rw [x5 j hj']
    show _ = some (Value.int (Int32.ofInt _))
    rw [hgetD j hj', Int32.ofInt_toInt]
  rw [lg_entry_eq]
  refine sound (G := G) (ga := ga) (b := s.heap.size) (ex := exS b (adK 0) (adK 1)) (SP := SPs s.heap.size (adK 0) (adK 1)) (Ts := lw_good) (P := gP) (X := gX) lw_good_good clsOK_good gP_ok (fun _ => rfl) (exS_le _ _ _) hrng (by simp; exact hL) (fun _ _ _ hW h => SPs.warm hW h) ?_ (hstr l b s.heap.size (adK 0) (adK 1)) f 1300 mm_321 0 _ [] h00 _ h' hf (mo_all _ (List.mem_of_getElem? (i := 321) rfl)) hx hb hml hown htg (fun h => by cases h) hw hsc hSP (aent_rel (vs := [Value.ref b]) (args := [.inr (.inr (-2))]) ⟨by show _ = _; rw [if_pos hbl, hexb], trivial⟩ rfl) trivial ⟨rfl, fun r hr => by cases hr⟩ (fun _ _ => rfl) (fun z hz => by cases hz) (Nat.le_of_ble_eq_true rfl) (Nat.le_of_ble_eq_true rfl) (by show 0 + (h'.1.1 - 0) ≤ 600000; omega) (by show 0 + (h'.1.2.1 - 0) ≤ 7302250; omega) ?_
  · intro U H H1 hq h
    obtain ⟨adV', g1, g2, g3, g4⟩ := h
    have hk : ∀ a : Nat, a < H.size → ¬ (fun q => s.heap.size ≤ q) a → H1[a]? = H[a]? := fun a _ h2 => hq a (Nat.not_le.mp h2)
    refine ⟨adV', vk_S.kept g1 hk, va_Z.kept g2 hk, va_Zq.kept g3 hk, ?_⟩
    by_cases hz : s.heap.size = 0
    · omega
    · have h1 := hq (s.heap.size - 1) (by omega)
      have h2 : s.heap.size - 1 < H.size := by omega
      rw [Array.getElem?_eq_getElem h2] at h1
      have := (Array.getElem?_eq_some_iff.mp h1).1
      omega
  · intro pc i H' locs' ls' st' sa' g1 g2 g3 g4 g5 g6
    have hst : i = .ireturn ∧ sa' = [.inl 1] := by
      unfold artn at g2
      split at g2
      · split at g2
        · rename_i x
          have e : mm_321.2.2.2.1 = some FieldType.boolean := rfl
          simp only [e] at g2
          cases hq : (decide (x = 0) || decide (x = 1)) <;> rw [hq] at g2 <;> cases g2
          exact ⟨rfl, rfl⟩
        · cases g2
      · split at g2
        · split at g2 <;> cases g2
        · cases g2
      · split at g2
        · split at g2 <;> cases g2
        · cases g2
      · split at g2
        · split at g2 <;> cases g2
        · cases g2
      · cases g2
    obtain ⟨rfl, rfl⟩ := hst
    obtain ⟨v, st0, rfl, hv, hs'⟩ := srel_i g3
    cases st0 with
    | cons _ _ => cases hs'
    | nil =>
      have hv1 : v = 1 := Int32.toInt_inj.mp hv.symm
      subst hv1
      refine va_forget g6 (W.widen (k := 600000) (n := 7302250) (by show 0 + (h'.1.1 - 0) ≤ 600000; omega) (by show 0 + (h'.1.2.1 - 0) ≤ 7302250; omega) ?_)
      exact lw_ret hx hb hr hlocks g1
