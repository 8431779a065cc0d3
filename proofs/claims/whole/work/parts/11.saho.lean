/-! All instructions of the heap. -/
def hpok (Ts : List Cond) (own : String) (ini : Bool) (i : Instr) (a b c : Nat) (z : Int) : Prop := match i with
  | .ldc idx => (c = 28 ∧ (own, idx, z) ∈ strW) ∨ (c ≠ 28 ∧ Cond.constant own idx (Int32.ofInt z) ∈ Ts ∧ -2147483648 ≤ z ∧ z < 2147483648)
  | .ldc_w idx => Cond.constant own idx (Int32.ofInt z) ∈ Ts ∧ -2147483648 ≤ z ∧ z < 2147483648
  | .ldc2_w idx => Cond.constantLong own idx (Int64.ofInt z) ∈ Ts ∧ -9223372036854775808 ≤ z ∧ z < 9223372036854775808
  | .getfield idx => ∃ q, vwCl[a]? = some q ∧ b < q.2.2 ∧ a < 100 ∧ c = ftc (tyA a b) ∧ Cond.fieldLink own idx (q.2.1 b).1 (q.2.1 b).2.1 (q.2.1 b).2.2.1 ∈ Ts
  | .putfield idx => ∃ q, vwCl[a]? = some q ∧ b < q.2.2 ∧ a < 100 ∧ c = ftc (tyA a b) ∧ Cond.fieldLink own idx (q.2.1 b).1 (q.2.1 b).2.1 (q.2.1 b).2.2.1 ∈ Ts ∧ ((q.2.1 b).2.2.2 = false ∨ ((q.2.1 b).2.2.2 = true ∧ ini = true ∧ (q.2.1 b).1 = own))
  | .new idx => ∃ q, vwCl[a]? = some q ∧ a < 100 ∧ b = q.2.2 ∧ Cond.classLink own idx q.1 ∈ Ts ∧ Cond.instantiable q.1 q.2.2 ∈ Ts ∧ Cond.initialized q.1 ∈ Ts
  | .newarray at' => ((at' = .int ∧ c = 100) ∨ (at' = .long ∧ c = 101) ∨ (at' = .byte ∧ c = 102) ∨ (at' = .boolean ∧ c = 103)) ∧ Cond.arrayClass (newarray.typeOf at') ∈ Ts
  | .anewarray idx => Cond.classLink own idx "WordMill$State" ∈ Ts
  | .aastore => a = 6
  | _ => True
theorem ftc_0 {t : FieldType} (h : 0 = ftc t) : t = .int := by cases t <;> first | rfl | cases h
theorem ftc_1 {t : FieldType} (h : 1 = ftc t) : t = .long := by cases t <;> first | rfl | cases h
theorem ftc_3 {t : FieldType} (h : 3 = ftc t) : t = .boolean := by cases t <;> first | rfl | cases h
theorem ftc_2 {t : FieldType} (h : 2 = ftc t) : (∃ n, t = .object n) ∨ ∃ n, t = .array n := by cases t <;> first | exact Or.inl ⟨_, rfl⟩ | exact Or.inr ⟨_, rfl⟩ | cases h
theorem am_z64 {n : Int} (h1 : -9223372036854775808 ≤ n) (h2 : n < 9223372036854775808) : (Int64.ofInt n).toInt = n := Int64.toInt_ofInt_of_le (by simpa using h1) (by simpa using h2)
theorem bool_01 {v : Int32} (h : (decide (v.toInt = 0) || decide (v.toInt = 1)) = true) : v = 0 ∨ v = 1 := by
  simp only [Bool.or_eq_true, decide_eq_true_eq] at h
  rcases h with h | h
  · exact Or.inl (Int32.toInt_inj.mp h)
  · exact Or.inr (Int32.toInt_inj.mp h)
theorem cvv_new (b : Nat) (ex : Nat → Int) (n : Nat) : cvv b ex (.ref (b + n)) (.inr (.inr (n : Int))) := by
  show _ = _
  rw [if_neg (Nat.not_lt.mpr (Nat.le_add_right _ _)), show ((b + n : Nat) : Int) - (b : Int) = n by omega]
section SAho
variable {p : Program} {l : Launch} {e : Env} {R : Room} {s : State} {m : MethodId} {args : Array Value} {below : List Frame} {meth : Method} {c : Code} {H : Heap} {locs : List Loc} {cells slots : Nat} {Q : State → Prop}
variable {cc : ByteArray} {pc : Nat} {ls : Array Slot} {b : Nat} {ex : Nat → Int} {G : va_G} {ga : Nat → ClassId} {Ts : List Cond} {own : String}
set_option maxHeartbeats 4000000 in
theorem s_aho (hx : p.tables.exec = Jvm.exec) (hb : c.code = cc) (hts : ∀ w ∈ Ts, w.before args s = true) (hC : clsOK Ts) (hown : s.vm.findClass own = some m.cls) (hw : wld G ga b ex s) (hex : ∀ a, ex a ≤ -2) {xs : List Int} (hxr : ∀ j, -2147483648 ≤ xs.getD j 0 ∧ xs.getD j 0 < 2147483648) (hxl : xs.length ≤ 3072) (hsc : scrP b ex xs s H) {ini : Bool} (hini : ini = true → meth.name = "<init>")
    {i : Instr} {a k t : Nat} {z : Int} {st : List Value} {sa sa' : List aV} {h h' : aH} (hd : decode cc pc = .ok (i, ilen i)) (hok : hpok Ts own ini i a k t z) (ha : aho xs i a k t z sa h = some (sa', h')) (hs : srel b ex st sa) (hh : hrel G ga b ex h H) (hlo : ∀ z ∈ locs, b ≤ z.base)
    (hcells : cells + (h'.1.1 - h.1.1) ≤ R.cells) (hslots : slots + (h'.1.2.1 - h.1.2.1) ≤ R.slots)
    (kk : ∀ H' locs' st', srel b ex st' sa' → hrel G ga b ex h' H' → (∀ z, z < b → H'[z]? = H[z]?) → (∀ z ∈ locs', b ≤ z.base) → W p l e R s m args below meth c H' locs' (cells + (h'.1.1 - h.1.1)) (slots + (h'.1.2.1 - h.1.2.1)) Q (F0 m (pc + ilen i) ls st')) : W p l e R s m args below meth c H locs cells slots Q (F0 m pc ls st) := by
  have kk0 : h' = h → ∀ st', srel b ex st' sa' → W p l e R s m args below meth c H locs cells slots Q (F0 m (pc + ilen i) ls st') := by
    intro e st' hst'
    have := kk H locs st' hst' (by rw [e]; exact hh) (fun _ _ => rfl) hlo
    rw [e, Nat.sub_self, Nat.sub_self] at this
    exact this
  have kk1 : h'.1 = h.1 → ∀ H' locs' st', srel b ex st' sa' → hrel G ga b ex h' H' → (∀ z, z < b → H'[z]? = H[z]?) → (∀ z ∈ locs', b ≤ z.base) → W p l e R s m args below meth c H' locs' cells slots Q (F0 m (pc + ilen i) ls st') := by
    intro e H' locs' st' h1 h2 h3 h4
    have := kk H' locs' st' h1 h2 h3 h4
    rw [e, Nat.sub_self, Nat.sub_self] at this
    exact this
  have script : ∀ (x : Int) (v : Value), x = -2 → ((v = .null ∧ x = -1) ∨ ∃ a : Nat, v = .ref a ∧ x = if a < b then ex a else (a : Int) - (b : Int)) → ∃ q : Nat, v = .ref q ∧ va_X q xs.length (fun j => Int32.ofInt (xs.getD j 0)) s H := by
    rintro x v hx2 (⟨-, h1⟩ | ⟨q, rfl, h1⟩)
    · omega
    · by_cases hq : q < b
      · rw [if_pos hq] at h1
        exact ⟨q, rfl, hsc q hq (by omega)⟩
      · rw [if_neg hq] at h1
        omega
  cases i
  case ldc idx =>
    rcases hok with ⟨rfl, h1⟩ | ⟨h0, h1, h2, h3⟩
    · cases ha
      obtain ⟨tx, q, r1, r2, r3⟩ := hw.2.2.2 _ h1
      refine va_ldcS hx hb hown r1 hd (kk0 rfl _ ⟨?_, hs⟩)
      show _ = _
      rw [if_pos r2, r3]
    · have e : aho xs (.ldc idx) a k t z sa h = some (.inl z :: sa, h) := by
        show (match t with | 28 => _ | _ => _) = _
        split
        · exact absurd rfl h0
        · rfl
      rw [e] at ha
      cases ha
      refine lv_ldc hx hb hown (hts _ h1) hd (kk0 rfl _ ⟨?_, hs⟩)
      show _ = _
      rw [am_w32 h2 h3]
  case ldc_w idx =>
    obtain ⟨h1, h2, h3⟩ := hok
    cases ha
    refine lv_ldcw hx hb hown (hts _ h1) hd (kk0 rfl _ ⟨?_, hs⟩)
    show _ = _
    rw [am_w32 h2 h3]
  case ldc2_w idx =>
    obtain ⟨h1, h2, h3⟩ := hok
    cases ha
    refine lv_ldc2 hx hb hown (hts _ h1) hd (kk0 rfl _ ⟨?_, hs⟩)
    show _ = _
    rw [am_z64 h2 h3]
  case getfield idx =>
    obtain ⟨q, h1, h2, h3, h4, h5⟩ := hok
    rcases sa with _ | ⟨v1 | v1 | v1, r⟩ <;> try (cases ha; done)
    simp only [aho] at ha
    cases hg : aok h.1 v1 a <;> rw [hg] at ha <;> cases ha
    obtain ⟨st0, rfl, hs'⟩ := srel_a hex hs (aok_iff hg).1
    refine s_get hx hb hts hC hown hw hh h1 h2 h3 h5 hg hd (fun v hv => kk0 rfl _ ⟨?_, hs'⟩)
    rw [h4]
    exact hv
  case putfield idx =>
    obtain ⟨q, h1, h2, h3, h4, h5, h6⟩ := hok
    have h6' : (q.2.1 k).2.2.2 = false ∨ ((q.2.1 k).2.2.2 = true ∧ meth.name = "<init>" ∧ (q.2.1 k).1 = own) := h6.imp_right (fun w => ⟨w.1, hini w.2.1, w.2.2⟩)
    rcases t with _ | _ | _ | _ | t
    · rcases sa with _ | ⟨v1 | v1 | v1, _ | ⟨v2 | v2 | v2, r⟩⟩ <;> try (cases ha; done)
      simp only [aho] at ha
      cases hg : aok h.1 v2 a <;> rw [hg] at ha <;> cases ha
      obtain ⟨j, st0, rfl, rfl, hs'⟩ := srel_i hs
      obtain ⟨st1, rfl, hs''⟩ := srel_a hex hs' (aok_iff hg).1
      have ht := ftc_0 h4
      exact s_put hx hb hts hC hown hw hh h1 h2 h3 h5 h6' hg (by rw [ht]; rfl) (by rw [ht]; rfl) (by rw [ht]; rfl) hlo hd (fun H' locs' g1 g2 g3 => kk1 rfl H' locs' _ hs'' g1 g2 g3)
    · rcases sa with _ | ⟨v1 | v1 | v1, _ | ⟨v2 | v2 | v2, r⟩⟩ <;> try (cases ha; done)
      simp only [aho] at ha
      cases hg : aok h.1 v2 a <;> rw [hg] at ha <;> cases ha
      obtain ⟨j, st0, rfl, rfl, hs'⟩ := srel_j hs
      obtain ⟨st1, rfl, hs''⟩ := srel_a hex hs' (aok_iff hg).1
      have ht := ftc_1 h4
      exact s_put hx hb hts hC hown hw hh h1 h2 h3 h5 h6' hg (by rw [ht]; rfl) (by rw [ht]; rfl) (by rw [ht]; rfl) hlo hd (fun H' locs' g1 g2 g3 => kk1 rfl H' locs' _ hs'' g1 g2 g3)
    · rcases sa with _ | ⟨v1 | v1 | v1, _ | ⟨v2 | v2 | v2, r⟩⟩ <;> try (cases ha; done)
      simp only [aho] at ha
      cases hg : aok h.1 v2 a <;> rw [hg] at ha <;> cases ha
      obtain ⟨v, st0, rfl, hv, hs'⟩ := srel_r hs
      obtain ⟨st1, rfl, hs''⟩ := srel_a hex hs' (aok_iff hg).1
      have hcv := hs.1
      have ht := ftc_2 h4
      refine s_put hx hb hts hC hown hw hh h1 h2 h3 h5 h6' hg (v := v) (y := v1) ?_ ?_ ?_ hlo hd (fun H' locs' g1 g2 g3 => kk1 rfl H' locs' _ hs'' g1 g2 g3)
      · rcases ht with ⟨n, ht⟩ | ⟨n, ht⟩ <;> rw [ht] <;> exact hcv
      · rcases ht with ⟨n, ht⟩ | ⟨n, ht⟩ <;> rw [ht] <;> rcases cvv_r hcv with rfl | ⟨q, rfl⟩ <;> rfl
      · rcases ht with ⟨n, ht⟩ | ⟨n, ht⟩ <;> rw [ht] <;> rcases cvv_r hcv with rfl | ⟨q, rfl⟩ <;> rfl
    · rcases sa with _ | ⟨v1 | v1 | v1, _ | ⟨v2 | v2 | v2, r⟩⟩ <;> try (cases ha; done)
      simp only [aho] at ha
      cases hg : (aok h.1 v2 a && (decide (v1 = 0) || decide (v1 = 1))) <;> rw [hg] at ha <;> cases ha
      rw [Bool.and_eq_true] at hg
      obtain ⟨j, st0, rfl, rfl, hs'⟩ := srel_i hs
      obtain ⟨st1, rfl, hs''⟩ := srel_a hex hs' (aok_iff hg.1).1
      have ht := ftc_3 h4
      have h01 := bool_01 hg.2
      exact s_put hx hb hts hC hown hw hh h1 h2 h3 h5 h6' hg.1 (v := .int j) (y := j.toInt) (by rw [ht]; rfl) (by rw [ht]; rcases h01 with rfl | rfl <;> rfl) (by rw [ht]; rcases h01 with rfl | rfl <;> rfl) hlo hd (fun H' locs' g1 g2 g3 => kk1 rfl H' locs' _ hs'' g1 g2 g3)
    · cases ha
  case iaload =>
    rcases t with _ | _ | _ | _ | _ | _ | t <;> try (cases ha; done)
    · rcases sa with _ | ⟨v1 | v1 | v1, _ | ⟨v2 | v2 | v2, r⟩⟩ <;> try (cases ha; done)
      simp only [aho] at ha
      cases hg : ain h.1 v2 100 v1 <;> rw [hg] at ha <;> cases ha
      obtain ⟨j, st0, rfl, rfl, hs'⟩ := srel_i hs
      obtain ⟨st1, rfl, hs''⟩ := srel_a hex hs' (ain_iff hg).1.1
      exact s_iald hx hb hw hh hg hd (fun v hv => kk0 rfl _ ⟨hv, hs''⟩)
    · rcases sa with _ | ⟨v1 | v1 | v1, _ | ⟨v2 | v2 | v2, r⟩⟩ <;> try (cases ha; done)
      simp only [aho] at ha
      cases hg : (decide (v2 = -2) && (decide (0 ≤ v1) && decide (v1.toNat < xs.length))) <;> rw [hg] at ha <;> cases ha
      simp only [Bool.and_eq_true, decide_eq_true_eq] at hg
      obtain ⟨j, st0, rfl, rfl, hs'⟩ := srel_i hs
      obtain ⟨v, st1, rfl, hv, hs''⟩ := srel_r hs'
      obtain ⟨q, rfl, scr, x1, x2, x3, x4, x5⟩ := script _ _ hg.1 hv
      have hr := hxr j.toInt.toNat
      exact W.iald hx hb x1 x2 x3 (by rw [x4]; exact am_idx hg.2.1 hg.2.2) (x5 _ hg.2.2) rfl rfl hd (kk0 rfl _ ⟨congrArg Sum.inl (am_w32 hr.1 hr.2).symm, hs''⟩)
  case laload =>
    rcases sa with _ | ⟨v1 | v1 | v1, _ | ⟨v2 | v2 | v2, r⟩⟩ <;> try (cases ha; done)
    simp only [aho] at ha
    cases hg : ain h.1 v2 101 v1 <;> rw [hg] at ha <;> cases ha
    obtain ⟨j, st0, rfl, rfl, hs'⟩ := srel_i hs
    obtain ⟨st1, rfl, hs''⟩ := srel_a hex hs' (ain_iff hg).1.1
    exact s_lald hx hb hw hh hg hd (fun v hv => kk0 rfl _ ⟨hv, hs''⟩)
  case aaload =>
    rcases sa with _ | ⟨v1 | v1 | v1, _ | ⟨v2 | v2 | v2, r⟩⟩ <;> try (cases ha; done)
    simp only [aho] at ha
    cases hg : ain h.1 v2 104 v1 <;> rw [hg] at ha <;> cases ha
    obtain ⟨j, st0, rfl, rfl, hs'⟩ := srel_i hs
    obtain ⟨st1, rfl, hs''⟩ := srel_a hex hs' (ain_iff hg).1.1
    exact s_aald hx hb hw hh hg hd (fun v hv => kk0 rfl _ ⟨hv, hs''⟩)
  case baload =>
    rcases t with _ | _ | _ | _ | t <;> try (cases ha; done)
    · rcases sa with _ | ⟨v1 | v1 | v1, _ | ⟨v2 | v2 | v2, r⟩⟩ <;> try (cases ha; done)
      simp only [aho] at ha
      cases hg : ain h.1 v2 102 v1 <;> rw [hg] at ha <;> cases ha
      obtain ⟨j, st0, rfl, rfl, hs'⟩ := srel_i hs
      obtain ⟨st1, rfl, hs''⟩ := srel_a hex hs' (ain_iff hg).1.1
      exact s_bald hx hb hw hh hg hd (fun v hv => kk0 rfl _ ⟨hv, hs''⟩)
    · rcases sa with _ | ⟨v1 | v1 | v1, _ | ⟨v2 | v2 | v2, r⟩⟩ <;> try (cases ha; done)
      simp only [aho] at ha
      cases hg : ain h.1 v2 103 v1 <;> rw [hg] at ha <;> cases ha
      obtain ⟨j, st0, rfl, rfl, hs'⟩ := srel_i hs
      obtain ⟨st1, rfl, hs''⟩ := srel_a hex hs' (ain_iff hg).1.1
      exact s_zald hx hb hw hh hg hd (fun v hv => kk0 rfl _ ⟨hv, hs''⟩)
  case iastore =>
    rcases sa with _ | ⟨v1 | v1 | v1, _ | ⟨v2 | v2 | v2, _ | ⟨v3 | v3 | v3, r⟩⟩⟩ <;> try (cases ha; done)
    simp only [aho] at ha
    cases hg : ain h.1 v3 100 v2 <;> rw [hg] at ha <;> cases ha
    obtain ⟨v, st0, rfl, rfl, hs'⟩ := srel_i hs
    obtain ⟨j, st1, rfl, rfl, hs''⟩ := srel_i hs'
    obtain ⟨st2, rfl, hs3⟩ := srel_a hex hs'' (ain_iff hg).1.1
    exact s_iast hx hb hw hh hg hlo hd (fun H' locs' g1 g2 g3 => kk1 rfl H' locs' _ hs3 g1 g2 g3)
  case lastore =>
    rcases sa with _ | ⟨v1 | v1 | v1, _ | ⟨v2 | v2 | v2, _ | ⟨v3 | v3 | v3, r⟩⟩⟩ <;> try (cases ha; done)
    simp only [aho] at ha
    cases hg : ain h.1 v3 101 v2 <;> rw [hg] at ha <;> cases ha
    obtain ⟨v, st0, rfl, rfl, hs'⟩ := srel_j hs
    obtain ⟨j, st1, rfl, rfl, hs''⟩ := srel_i hs'
    obtain ⟨st2, rfl, hs3⟩ := srel_a hex hs'' (ain_iff hg).1.1
    exact s_last hx hb hw hh hg hlo hd (fun H' locs' g1 g2 g3 => kk1 rfl H' locs' _ hs3 g1 g2 g3)
  case bastore =>
    rcases t with _ | _ | _ | _ | t <;> try (cases ha; done)
    · rcases sa with _ | ⟨v1 | v1 | v1, _ | ⟨v2 | v2 | v2, _ | ⟨v3 | v3 | v3, r⟩⟩⟩ <;> try (cases ha; done)
      simp only [aho] at ha
      cases hg : ain h.1 v3 102 v2 <;> rw [hg] at ha <;> cases ha
      obtain ⟨v, st0, rfl, rfl, hs'⟩ := srel_i hs
      obtain ⟨j, st1, rfl, rfl, hs''⟩ := srel_i hs'
      obtain ⟨st2, rfl, hs3⟩ := srel_a hex hs'' (ain_iff hg).1.1
      exact s_bast hx hb hw hh hg hlo hd (fun H' locs' g1 g2 g3 => kk1 rfl H' locs' _ hs3 g1 g2 g3)
    · rcases sa with _ | ⟨v1 | v1 | v1, _ | ⟨v2 | v2 | v2, _ | ⟨v3 | v3 | v3, r⟩⟩⟩ <;> try (cases ha; done)
      simp only [aho] at ha
      cases hg : (ain h.1 v3 103 v2 && (decide (v1 = 0) || decide (v1 = 1))) <;> rw [hg] at ha <;> cases ha
      rw [Bool.and_eq_true] at hg
      obtain ⟨v, st0, rfl, rfl, hs'⟩ := srel_i hs
      obtain ⟨j, st1, rfl, rfl, hs''⟩ := srel_i hs'
      obtain ⟨st2, rfl, hs3⟩ := srel_a hex hs'' (ain_iff hg.1).1.1
      exact s_zast hx hb hw hh hg.1 ((bool_01 hg.2).imp (fun w => by rw [w]) (fun w => by rw [w])) hlo hd (fun H' locs' g1 g2 g3 => kk1 rfl H' locs' _ hs3 g1 g2 g3)
  case aastore =>
    obtain rfl : a = 6 := hok
    rcases sa with _ | ⟨v1 | v1 | v1, _ | ⟨v2 | v2 | v2, _ | ⟨v3 | v3 | v3, r⟩⟩⟩ <;> try (cases ha; done)
    simp only [aho] at ha
    cases hg : (ain h.1 v3 104 v2 && aok h.1 v1 6) <;> rw [hg] at ha <;> cases ha
    rw [Bool.and_eq_true] at hg
    obtain ⟨st0, rfl, hs'⟩ := srel_a hex hs (aok_iff hg.2).1
    obtain ⟨j, st1, rfl, rfl, hs''⟩ := srel_i hs'
    obtain ⟨st2, rfl, hs3⟩ := srel_a hex hs'' (ain_iff hg.1).1.1
    exact s_aast hx hb hw hh hg.1 hg.2 hlo hd (fun H' locs' g1 g2 g3 => kk1 rfl H' locs' _ hs3 g1 g2 g3)
  case arraylength =>
    rcases t with _ | _ | _ | _ | _ | _ | t <;> try (cases ha; done)
    · rcases sa with _ | ⟨v1 | v1 | v1, r⟩ <;> try (cases ha; done)
      simp only [aho] at ha
      cases hg : aoa h.1 v1 <;> rw [hg] at ha <;> cases ha
      have h0 : 0 ≤ v1 := by simp only [aoa, Bool.and_eq_true, decide_eq_true_eq] at hg; exact hg.1
      obtain ⟨st0, rfl, hs'⟩ := srel_a hex hs h0
      exact s_alen hx hb hw hh hg hd (fun v hv => kk0 rfl _ ⟨hv, hs'⟩)
    · rcases sa with _ | ⟨v1 | v1 | v1, r⟩ <;> try (cases ha; done)
      simp only [aho] at ha
      cases hg : decide (v1 = -2) <;> rw [hg] at ha <;> cases ha
      obtain ⟨v, st0, rfl, hv, hs'⟩ := srel_r hs
      obtain ⟨q, rfl, scr, x1, x2, x3, x4, x5⟩ := script _ _ (of_decide_eq_true hg) hv
      exact W.alen (n := Int32.ofNat xs.length) hx hb x1 x2 (by rw [x4] <;> rfl) rfl rfl hd (kk0 rfl _ ⟨by show _ = _; rw [Int32.toInt_ofNat_of_lt (by omega)], hs'⟩)
  case new idx =>
    obtain ⟨q, h1, h2, rfl, h4, h5, h6⟩ := hok
    cases ha
    have e1 : h.1.1 + 1 - h.1.1 = 1 := by omega
    have e2 : h.1.2.1 + q.2.2 - h.1.2.1 = q.2.2 := by omega
    simp only [e1, e2] at kk hcells hslots
    exact s_new hx hb hts hC hown hw hh h1 h2 h4 h5 h6 hcells hslots hd (fun H' g1 g2 => kk H' locs _ ⟨cvv_new _ _ _, hs⟩ g1 g2 hlo)
  case newarray at' =>
    obtain ⟨h1, h2⟩ := hok
    rcases sa with _ | ⟨v1 | v1 | v1, r⟩ <;> try (cases ha; done)
    simp only [aho] at ha
    cases hg : (decide (0 ≤ v1) && decide (v1 ≤ 1000000)) <;> rw [hg] at ha <;> cases ha
    simp only [Bool.and_eq_true, decide_eq_true_eq] at hg
    obtain ⟨n, st0, rfl, rfl, hs'⟩ := srel_i hs
    have e1 : h.1.1 + 1 - h.1.1 = 1 := by omega
    have e2 : h.1.2.1 + n.toInt.toNat - h.1.2.1 = n.toInt.toNat := by omega
    simp only [e1, e2] at kk hcells hslots
    exact s_newa hx hb hts hw hh h1 h2 hg.1 hg.2 hcells hslots hd (fun H' g1 g2 => kk H' locs _ ⟨cvv_new _ _ _, hs'⟩ g1 g2 hlo)
  case anewarray idx =>
    rcases sa with _ | ⟨v1 | v1 | v1, r⟩ <;> try (cases ha; done)
    simp only [aho] at ha
    cases hg : (decide (0 ≤ v1) && decide (v1 ≤ 1000000)) <;> rw [hg] at ha <;> cases ha
    simp only [Bool.and_eq_true, decide_eq_true_eq] at hg
    obtain ⟨n, st0, rfl, rfl, hs'⟩ := srel_i hs
    have e1 : h.1.1 + 1 - h.1.1 = 1 := by omega
    have e2 : h.1.2.1 + n.toInt.toNat - h.1.2.1 = n.toInt.toNat := by omega
    simp only [e1, e2] at kk hcells hslots
    exact s_anew hx hb hts hown hw hh hok hg.1 hg.2 hcells hslots hd (fun H' g1 g2 => kk H' locs _ ⟨cvv_new _ _ _, hs'⟩ g1 g2 hlo)
  case idiv =>
    rcases sa with _ | ⟨v1 | v1 | v1, _ | ⟨v2 | v2 | v2, r⟩⟩ <;> try (cases ha; done)
    simp only [aho] at ha
    cases hg : decide (v1 = 0) <;> rw [hg] at ha <;> cases ha
    obtain ⟨j, st0, rfl, rfl, hs'⟩ := srel_i hs
    obtain ⟨i, st1, rfl, rfl, hs''⟩ := srel_i hs'
    exact lv_idiv hx hb hd (fun w => (of_decide_eq_false hg) (by rw [w]; rfl)) (kk0 rfl _ ⟨by show _ = _; simp only [odiv, Int32.ofInt_toInt], hs''⟩)
  case irem =>
    rcases sa with _ | ⟨v1 | v1 | v1, _ | ⟨v2 | v2 | v2, r⟩⟩ <;> try (cases ha; done)
    simp only [aho] at ha
    cases hg : decide (v1 = 0) <;> rw [hg] at ha <;> cases ha
    obtain ⟨j, st0, rfl, rfl, hs'⟩ := srel_i hs
    obtain ⟨i, st1, rfl, rfl, hs''⟩ := srel_i hs'
    exact lv_irem hx hb hd (fun w => (of_decide_eq_false hg) (by rw [w]; rfl)) (kk0 rfl _ ⟨by show _ = _; simp only [orem, Int32.ofInt_toInt], hs''⟩)
  case ldiv =>
    rcases sa with _ | ⟨v1 | v1 | v1, _ | ⟨v2 | v2 | v2, r⟩⟩ <;> try (cases ha; done)
    simp only [aho] at ha
    cases hg : decide (v1 = 0) <;> rw [hg] at ha <;> cases ha
    obtain ⟨j, st0, rfl, rfl, hs'⟩ := srel_j hs
    obtain ⟨i, st1, rfl, rfl, hs''⟩ := srel_j hs'
    exact lv_ldiv hx hb hd (fun w => (of_decide_eq_false hg) (by rw [w]; rfl)) (kk0 rfl _ ⟨by show _ = _; simp only [oldiv, Int64.ofInt_toInt], hs''⟩)
  case lrem =>
    rcases sa with _ | ⟨v1 | v1 | v1, _ | ⟨v2 | v2 | v2, r⟩⟩ <;> try (cases ha; done)
    simp only [aho] at ha
    cases hg : decide (v1 = 0) <;> rw [hg] at ha <;> cases ha
    obtain ⟨j, st0, rfl, rfl, hs'⟩ := srel_j hs
    obtain ⟨i, st1, rfl, rfl, hs''⟩ := srel_j hs'
    exact lv_lrem hx hb hd (fun w => (of_decide_eq_false hg) (by rw [w]; rfl)) (kk0 rfl _ ⟨by show _ = _; simp only [olrem, Int64.ofInt_toInt], hs''⟩)
  all_goals cases ha
end SAho
