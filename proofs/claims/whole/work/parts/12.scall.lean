/-! Calls, copies, answers. -/
def orel (b : Nat) (ex : Nat → Int) : Option Value → Option aV → Prop
  | none, none => True
  | some v, some x => cvv b ex v x
  | _, _ => False
def PcA (SP : State → Heap → Prop) (G : va_G) (ga : Nat → ClassId) (b : Nat) (ex : Nat → Int) (xs : List Int) (args : List aV) (h : aH) : Array Value → State → Prop := fun v U => (∃ vs : List Value, v = vs.toArray ∧ srel b ex vs args) ∧ hrel G ga b ex h U.heap ∧ wld G ga b ex U ∧ scrP b ex xs U U.heap ∧ SP U U.heap
def QcA (G : va_G) (ga : Nat → ClassId) (b : Nat) (ex : Nat → Int) (rv : Option aV) (h' : aH) : Array Value → State → Outcome → State → Prop := fun _ st o t => (∃ cv, o = .returned cv ∧ orel b ex cv rv) ∧ hrel G ga b ex h' t.heap ∧ ∀ q, q < b → t.heap[q]? = st.heap[q]?
def rmD (d mc ms : Nat) : Room := { frames := d + 1, cells := mc, slots := ms, locals := 60 * d + 60 }
theorem PcA.blind {SP : State → Heap → Prop} (hSP : ∀ s U H, s.WarmedH U.vm → SP s H → SP U H) (G : va_G) (ga : Nat → ClassId) (b : Nat) (ex : Nat → Int) (xs : List Int) (args : List aV) (h : aH) : FrameBlind (PcA SP G ga b ex xs args h) := fun a U g mk hp => ⟨hp.1, hp.2.1, wld.warm (s := U) (U := U.calling g mk a) (State.WarmedH.refl U) hp.2.2.1, scrP.warm (s := U) (U := U.calling g mk a) (State.WarmedH.refl U) hp.2.2.2.1, hSP U (U.calling g mk a) _ (State.WarmedH.refl U) hp.2.2.2.2⟩
def cpyV (f g : Nat → Value) (sp dp n : Nat) : Nat → Value := va_cpy f g sp dp n
section SCall
variable {p : Program} {l : Launch} {e : Env} {R : Room} {s : State} {m : MethodId} {args : Array Value} {below : List Frame} {meth : Method} {c : Code} {H : Heap} {locs : List Loc} {cells slots : Nat} {Q : State → Prop}
variable {cc : ByteArray} {pc : Nat} {ls : Array Slot} {b : Nat} {ex : Nat → Int} {G : va_G} {ga : Nat → ClassId} {Ts : List Cond} {own : String} {rest : List Value} {mc ms : Nat}
theorem run_go {st : List Value} {rv : Option aV} {h1 : aH} {A : Array Value} (hr : va_Run p l e R s m args below meth c H locs cells slots mc ms (F0 m pc ls st) rest (QcA G ga b ex rv h1 A) (fun q => b ≤ q)) (hlo : ∀ z ∈ locs, b ≤ z.base)
    (kk : ∀ cv H1 locs1, orel b ex cv rv → hrel G ga b ex h1 H1 → (∀ q, q < b → H1[q]? = H[q]?) → (∀ z ∈ locs1, b ≤ z.base) → W p l e R s m args below meth c H1 locs1 (cells + mc) (slots + ms) Q (F0 m (pc + 3) ls (cv.toList ++ rest))) : W p l e R s m args below meth c H locs cells slots Q (F0 m pc ls st) := by
  intro T hT X
  obtain ⟨v, st₀, t, T', L, h0, X', hL, e1, e2, ⟨⟨cv, hv, ho⟩, hh, hold⟩, go⟩ := hr T hT X
  cases hv
  obtain ⟨t2, a1, b1⟩ := kk v T'.heap (locs ++ L) ho (by rw [e1]; exact hh) (fun q hq => by rw [e1, hold q hq, h0]) (fun z hz => by
      rcases List.mem_append.mp hz with h | h
      · exact hlo z h
      · exact hL z h) T' rfl X'
  exact ⟨t2, go t2 a1, b1⟩
theorem acpy_rel {b : Nat} {ex : Nat → Int} {f g : Nat → Value} {df dg : Nat → Int} {sp dp n n0 n1 t : Nat} (h1 : ∀ j, j < n0 → cvv b ex (f j) (atg t (df j))) (h2 : ∀ j, j < n1 → cvv b ex (g j) (atg t (dg j))) (hs : sp + n ≤ n0) : ∀ j, j < n1 → cvv b ex (va_cpy f g sp dp n j) (atg t (acpy df dg sp dp n j)) := by
  intro j hj
  unfold va_cpy acpy
  by_cases hq : dp ≤ j ∧ j < dp + n
  · rw [if_pos hq, if_pos hq]
    exact h1 _ (by omega)
  · rw [if_neg hq, if_neg hq]
    exact h2 j hj
set_option maxHeartbeats 4000000 in
theorem s_acp (hx : p.tables.exec = Jvm.exec) (hb : c.code = cc) (hml : c.maxLocals = ls.size) (hts : ∀ w ∈ Ts, w.before args s = true) (hown : s.vm.findClass own = some m.cls) (hw : wld G ga b ex s) (hex : ∀ a, ex a ≤ -2) {idx a : Nat} (ha1 : a = 100 ∨ a = 101) (w1 : Cond.methodLink own idx arraycopyName ∈ Ts) (w2 : Cond.native arraycopyName ∈ Ts) (w3 : Cond.static arraycopyName ∈ Ts) (w4 : Cond.initialized "java/lang/System" ∈ Ts) (hfr : 1 ≤ R.frames) (hlc : 60 ≤ R.locals)
    {st : List Value} {sa sa' : List aV} {h h' : aH} (hd : decode cc pc = .ok (.invokestatic idx, 3)) (ha : acp a sa h = some (sa', h')) (hs : srel b ex st sa) (hh : hrel G ga b ex h H) (hlo : ∀ z ∈ locs, b ≤ z.base)
    (kk : ∀ H' locs' st', srel b ex st' sa' → hrel G ga b ex h' H' → (∀ z, z < b → H'[z]? = H[z]?) → (∀ z ∈ locs', b ≤ z.base) → W p l e R s m args below meth c H' locs' cells slots Q (F0 m (pc + 3) ls st')) : W p l e R s m args below meth c H locs cells slots Q (F0 m pc ls st) := by
  unfold acp at ha
  split at ha
  · rename_i n dp y sp x r
    cases hg : (aok h.1 x a && (aok h.1 y a && (decide (0 ≤ sp) && (decide (0 ≤ dp) && (decide (0 ≤ n) && (decide (sp.toNat + n.toNat ≤ aln h.1 x) && (decide (dp.toNat + n.toNat ≤ aln h.1 y) && Nat.ble (acats r) 8))))))) <;> rw [hg] at ha <;> cases ha
    simp only [Bool.and_eq_true, decide_eq_true_eq] at hg
    obtain ⟨gx, gy, h1, h2, h3, h4, h5, h6⟩ := hg
    obtain ⟨n, st0, rfl, rfl, hs1⟩ := srel_i hs
    obtain ⟨dp, st1, rfl, rfl, hs2⟩ := srel_i hs1
    obtain ⟨st2, rfl, hs3⟩ := srel_a hex hs2 (aok_iff gy).1
    obtain ⟨sp, st3, rfl, rfl, hs4⟩ := srel_i hs3
    obtain ⟨rest, rfl, hs5⟩ := srel_a hex hs4 (aok_iff gx).1
    have h100 : 100 ≤ a := by omega
    obtain ⟨a1, a2, f, a3, a4⟩ := hrel_arr hh gx h100
    obtain ⟨-, b2, g, b3, b4⟩ := hrel_arr hh gy h100
    obtain ⟨y0, y1, y2⟩ := aok_iff gy
    have hprim : refKind (ety a) = false := by rcases ha1 with rfl | rfl <;> rfl
    have hK := hw.1.2 _ _ (tysG_at ga h100 a1)
    obtain ⟨-, k0, hk0, cm0, hkk0⟩ := hK.1 (aln h.1 x) f
    obtain ⟨-, k1, hk1, cm1, hkk1⟩ := hK.1 (aln h.1 y) g
    have nl : ∀ z : Int32, 0 ≤ z.toInt → ¬ z < 0 := fun z hz hl => by
      have := Int32.lt_iff_toInt_lt.mp hl
      have e0 : (0 : Int32).toInt = 0 := rfl
      omega
    have hfit : ∀ i, i < n.toInt.toNat → fits (ety a) (f (sp.toInt.toNat + i)) = true := by
      intro i hi
      have hc := a4 (sp.toInt.toNat + i) (by omega)
      rcases ha1 with rfl | rfl
      · obtain ⟨q, e1, -⟩ := cvv_i (show cvv b ex _ (.inl _) from hc)
        rw [e1]; rfl
      · obtain ⟨q, e1, -⟩ := cvv_j (show cvv b ex _ (.inr (.inl _)) from hc)
        rw [e1]; rfl
    intro T hT X
    obtain ⟨vm', X', step⟩ := X.arraycopy hx hown (hts _ w1) (hts _ w2) (hts _ w3) (hts _ w4) (src := b + x.toNat) (dst := b + y.toNat) (cs := arrV (ga a) (aln h.1 x) f) (cd := arrV (ga a) (aln h.1 y) g) (srcPos := sp) (destPos := dp) (n := n) (by rw [hT]; exact a3) (by rw [hT]; exact b3)
      (fun _ h => by cases h) (fun _ h => by cases h) (fun h => by cases h) (fun h => by cases h) hk0 hk1 hkk0 hkk1 (by simp [hprim]) (nl _ h1) (nl _ h2) (nl _ h3)
      (by rw [arrV_size]; omega)
      (by rw [arrV_size]; omega)
      (fun vm₁ _ i hi => by
        have e : (arrV (ga a) (aln h.1 x) f).slots.getD (sp.toNatClampNeg + i) .null = f (sp.toInt.toNat + i) := by
          rw [Array.getD_eq_getD_getElem?]
          show ((arrV (ga a) (aln h.1 x) f).slots[sp.toInt.toNat + i]?).getD Value.null = _
          rw [arrV_read _ _ (show sp.toInt.toNat + i < aln h.1 x by have : i < n.toInt.toNat := hi; omega)]
          rfl
        have hf := hfit i hi
        refine ⟨?_, ?_⟩
        · rw [e]
          exact hf
        · rw [e]
          have hc := a4 (sp.toInt.toNat + i) (by have : i < n.toInt.toNat := hi; omega)
          rcases ha1 with rfl | rfl
          · obtain ⟨q, e1, -⟩ := cvv_i (show cvv b ex _ (.inl _) from hc)
            rw [e1]; exact trivial
          · obtain ⟨q, e1, -⟩ := cvv_j (show cvv b ex _ (.inr (.inl _)) from hc)
            rw [e1]; exact trivial)
      (g := F0 m pc ls (.int n :: .int dp :: .ref (b + y.toNat) :: .int sp :: .ref (b + x.toNat) :: rest)) rfl (by rw [hml]) (rest := rest) rfl (by rw [hb]; exact hd) hfr (by
        have h8 := Nat.le_of_ble_eq_true h6
        rw [← srel_cats hs5] at h8
        show 2 * 0 + _ + _ ≤ _
        have : nativeFrameWords "java/lang/System" "arraycopy" 5 = 7 := by decide
        omega)
    have e1 : copied (arrV (ga a) (aln h.1 x) f) (arrV (ga a) (aln h.1 y) g) sp dp n = arrV (ga a) (aln h.1 y) (va_cpy f g sp.toInt.toNat dp.toInt.toNat n.toInt.toNat) := va_copied (fun z => z) (ga a) (ga a) f g h4
    rw [e1] at X' step
    have hl : b + y.toNat < H.size := (Array.getElem?_eq_some_iff.mp b3).1
    have hheap : ((T.setVm vm').setCell (b + y.toNat) (arrV (ga a) (aln h.1 y) (va_cpy f g sp.toInt.toNat dp.toInt.toNat n.toInt.toNat))).heap = H.setIfInBounds (b + y.toNat) (arrV (ga a) (aln h.1 y) (va_cpy f g sp.toInt.toNat dp.toInt.toNat n.toInt.toNat)) := by rw [← hT]; rfl
    have oq : ∀ q : Nat, q ≠ b + y.toNat → (H.setIfInBounds (b + y.toNat) (arrV (ga a) (aln h.1 y) (va_cpy f g sp.toInt.toNat dp.toInt.toNat n.toInt.toNat)))[q]? = H[q]? := fun q hq => by simp [Array.getElem?_setIfInBounds, Ne.symm hq]
    obtain ⟨t, a1', b1⟩ := kk _ _ rest hs5 (hrel_put hh y1 (fun q hq => by funext j; simp [hq]) (by simp) oq ⟨_, (by simp [Array.getElem?_setIfInBounds, hl] : (H.setIfInBounds (b + y.toNat) (arrV (ga a) (aln h.1 y) (va_cpy f g sp.toInt.toNat dp.toInt.toNat n.toInt.toNat)))[b + y.toNat]? = some (arrV (ga a) (aln h.1 y) (va_cpy f g sp.toInt.toNat dp.toInt.toNat n.toInt.toNat))), Or.inr ⟨by rw [y2]; exact h100, by rw [y2]; exact a1, b2, _, by rw [y2]; rfl, (by
          rw [y2]
          simp only [if_true]
          exact acpy_rel a4 b4 h4)⟩⟩) (fun z hz => oq z (Nat.ne_of_lt (Nat.lt_of_lt_of_le hz (Nat.le_add_right _ _)))) (fun z hz => by
        rcases List.mem_append.mp hz with hz | hz
        · exact hlo z hz
        · obtain ⟨w, -, hw'⟩ := List.mem_map.mp hz
          rw [← hw']
          exact Nat.le_add_right _ _) _ hheap X'
    exact ⟨t, step t a1', b1⟩
  · cases ha
set_option maxHeartbeats 4000000 in
theorem s_ret (hx : p.tables.exec = Jvm.exec) (hb : c.code = cc) {ret : Option FieldType} (hr : meth.sig.returnType = ret) (hlocks : meth.locks = false) {i : Instr} {st : List Value} {sa : List aV} {rv : Option aV} {h : aH} (hd : decode cc pc = .ok (i, 1)) (ha : artn i ret sa = some rv) (hs : srel b ex st sa) (hh : hrel G ga b ex h H) (hold : ∀ q, q < b → H[q]? = s.heap[q]?) (hlo : ∀ z ∈ locs, b ≤ z.base) : W p l e R s m args below meth c H locs cells slots (MQ below (QcA G ga b ex rv h) args s cells slots (fun q => b ≤ q)) (F0 m pc ls st) := by
  have fin : ∀ cv, orel b ex cv rv → ∀ t : State, t.heap = H → s.WarmedH t.vm → QcA G ga b ex rv h args s (.returned cv) t := fun cv ho t ht _ => ⟨⟨cv, rfl, ho⟩, by rw [ht]; exact hh, fun q hq => by rw [ht]; exact hold q hq⟩
  unfold artn at ha
  split at ha
  · split at ha
    · rename_i x
      obtain ⟨v, st0, rfl, rfl, hs'⟩ := srel_i hs
      cases st0 with
      | cons _ _ => cases hs'
      | nil =>
        split at ha
        · cases ha
          exact W.iret hx hb hr (fin _ rfl) hlo hd
        · cases hg : (decide (v.toInt = 0) || decide (v.toInt = 1)) <;> rw [hg] at ha <;> cases ha
          exact W.zret hx hb hr (by rcases bool_01 hg with rfl | rfl <;> rfl) (fin _ rfl) hlo hd
        · cases ha
    · cases ha
  · split at ha
    · obtain ⟨v, st0, rfl, rfl, hs'⟩ := srel_j hs
      cases st0 with
      | cons _ _ => cases hs'
      | nil =>
        split at ha
        · cases ha
          exact W.lret hx hb hr (fin _ rfl) hlo hd
        · cases ha
    · cases ha
  · split at ha
    · obtain ⟨v, st0, rfl, hv, hs'⟩ := srel_r hs
      cases st0 with
      | cons _ _ => cases hs'
      | nil =>
        split at ha
        · cases ha
          exact W.aret hx hb hr (Or.inl ⟨_, rfl⟩) (cvv_r hs.1) (fin (some v) hs.1) hlo hd
        · cases ha
          exact W.aret hx hb hr (Or.inr ⟨_, rfl⟩) (cvv_r hs.1) (fin (some v) hs.1) hlo hd
        · cases ha
    · cases ha
  · split at ha
    · cases st with
      | cons _ _ => cases hs
      | nil =>
        split at ha
        · cases ha
          exact W.vret hx hb hr (fin none trivial) hlo hd
        · cases ha
    · cases ha
  · cases ha
end SCall
