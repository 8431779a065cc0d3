/-! Strings: length, charAt, indexOf of the two constants, walked over the machine. -/
def jlen : List Nat := [126, 9]
def jbyt : List (List Int32) := [str0.map Int32.ofInt, str1.map Int32.ofInt]
def SPv (b0 : Nat) (ad adV : Nat → Nat) (U : State) (H : Heap) : Prop := vk_S 2 jlen jbyt ad adV (fun q => b0 ≤ q) U H ∧ va_Z "java/lang/String" "COMPACT_STRINGS" "Z" (.int 1) (fun q => b0 ≤ q) U H ∧ va_Zq "jdk/internal/util/Preconditions" "SIOOBE_FORMATTER" "Ljava/util/function/BiFunction;" (fun q => b0 ≤ q) U H
theorem SPv.warm {b0 : Nat} {ad adV : Nat → Nat} {s U : State} {H : Heap} (hW : s.WarmedH U.vm) (h : SPv b0 ad adV s H) : SPv b0 ad adV U H := ⟨vk_S.moved hW.alike h.1, va_Z.moved hW.alike h.2.1, va_Zq.moved hW.alike h.2.2⟩
def PJ (b0 : Nat) (ad adV : Nat → Nat) (av : List Value) : Array Value → State → Prop := fun v U => v = av.toArray ∧ SPv b0 ad adV U U.heap
def QJ (rv : Option Value) : Array Value → State → Outcome → State → Prop := fun _ st o t => o = .returned rv ∧ t.heap = st.heap
theorem PJ.blind (b0 : Nat) (ad adV : Nat → Nat) (av : List Value) : FrameBlind (PJ b0 ad adV av) := fun a U g mk hp => ⟨hp.1, SPv.warm (s := U) (U := U.calling g mk a) (State.WarmedH.refl U) hp.2⟩
section JS
variable {p : Program} {l : Launch} {e : Env} {R : Room} {s : State} {m : MethodId} {args : Array Value} {below : List Frame} {meth : Method} {c : Code} {H : Heap} {locs : List Loc} {cells slots : Nat} {Q : State → Prop}
variable {cc : ByteArray} {pc : Nat} {ls : Array Slot} {rest : List Value} {own : String} {b0 : Nat} {ad adV : Nat → Nat}
theorem j_go {st : List Value} {rv : Option Value} {A : Array Value} (hr : va_Run p l e R s m args below meth c H locs cells slots 0 0 (F0 m pc ls st) rest (QJ rv A) (fun _ => False)) (kk : W p l e R s m args below meth c H locs cells slots Q (F0 m (pc + 3) ls (rv.toList ++ rest))) : W p l e R s m args below meth c H locs cells slots Q (F0 m pc ls st) := by
  intro T hT X
  obtain ⟨v, st₀, t, T', L, h0, X', hL, e1, e2, ⟨hv, hh⟩, go⟩ := hr T hT X
  cases hv
  have hLn : L = [] := by
    cases L with
    | nil => rfl
    | cons q r => exact absurd (hL q List.mem_cons_self) id
  subst hLn
  rw [List.append_nil] at X'
  obtain ⟨t2, a1, b1⟩ := kk T' (by rw [e1, hh, h0]) X'
  exact ⟨t2, go t2 a1, b1⟩
theorem jV {y : MethodName} {bytes : ByteArray} {maxL f i n : Nat} {ret : Option FieldType} {As : List Value} {rv : Option Value} (hM : Met l y (Cond.code y bytes maxL ret :: lw_good) (rmD f 0 0) (PJ b0 ad adV (.ref (ad i) :: As)) (QJ rv) 0 0 (fun _ => False)) (hx : p.tables.exec = Jvm.exec) (hb : c.code = cc) (hml : c.maxLocals = ls.size) (hts : ∀ w ∈ lw_good, w.before args s = true) (hown : s.vm.findClass own = some m.cls) (hSP : SPv b0 ad adV s H) (hi : i < 2) {idx : Nat} (hd : decode cc pc = .ok (.invokevirtual idx, 3)) (w1 : Cond.methodLink own idx y ∈ lw_good) (w2 : Cond.instanceMethod y ∈ lw_good) (w3 : Cond.selects RJ0 y y ∈ lw_good) (w5 : Cond.code y bytes maxL ret ∈ lw_good) (w4 : Cond.initialized y.cls ∈ lw_good) (hy : y.cls ≠ "java/lang/invoke/MethodHandle" ∧ y.cls ≠ "java/lang/invoke/VarHandle" ∧ (parseMethodDescriptor y.desc).map (fun d => d.parameters.length) = some n) (hn : As.length = n) (h41 : maxL ≤ 41) (hRf : f + 2 ≤ R.frames) (hRl : 60 * f + 120 ≤ R.locals) (hc : cells ≤ R.cells) (hs : slots ≤ R.slots) (h8 : (rest.map fun v => v.category).sum ≤ 8) (kk : W p l e R s m args below meth c H locs cells slots Q (F0 m (pc + 3) ls (rv.toList ++ rest))) : W p l e R s m args below meth c H locs cells slots Q (F0 m pc ls (As.reverse ++ .ref (ad i) :: rest)) := by
  obtain ⟨cell, q1, q2, q3, -⟩ := (hSP.1.1 i hi).1
  exact j_go (va_runV (C := RJ0) (As := As) (rest := rest) ⟨hx, hb, hml, hown, hts⟩ hM ⟨callB_of n hts (good_cons lw_good_good w5) rfl rfl rfl (hts _ w4) (hts _ w1) hy ⟨hRf, by show 8 + (maxL + 11) + (60 * f + 60) ≤ _; omega⟩, hts _ w2, hts _ w3⟩ ⟨PJ.blind b0 ad adV _, ⟨cell, q1, q2, q3⟩, fun U hU hW => ⟨rfl, by rw [hU]; exact SPv.warm hW hSP⟩⟩ rfl hn rfl rfl (by show 2 * 0 + _ ≤ 8; omega) hd ⟨hc, hs⟩) kk
theorem jS {y : MethodName} {bytes : ByteArray} {maxL f n : Nat} {ret : Option FieldType} {As : List Value} {rv : Option Value} (hM : Met l y (Cond.code y bytes maxL ret :: lw_good) (rmD f 0 0) (PJ b0 ad adV As) (QJ rv) 0 0 (fun _ => False)) (hx : p.tables.exec = Jvm.exec) (hb : c.code = cc) (hml : c.maxLocals = ls.size) (hts : ∀ w ∈ lw_good, w.before args s = true) (hown : s.vm.findClass own = some m.cls) (hSP : SPv b0 ad adV s H) {idx : Nat} (hd : decode cc pc = .ok (.invokestatic idx, 3)) (w1 : Cond.methodLink own idx y ∈ lw_good) (w2 : Cond.static y ∈ lw_good) (w5 : Cond.code y bytes maxL ret ∈ lw_good) (w4 : Cond.initialized y.cls ∈ lw_good) (hy : y.cls ≠ "java/lang/invoke/MethodHandle" ∧ y.cls ≠ "java/lang/invoke/VarHandle" ∧ (parseMethodDescriptor y.desc).map (fun d => d.parameters.length) = some n) (hn : As.length = n) (h41 : maxL ≤ 41) (hRf : f + 2 ≤ R.frames) (hRl : 60 * f + 120 ≤ R.locals) (hc : cells ≤ R.cells) (hs : slots ≤ R.slots) (h8 : (rest.map fun v => v.category).sum ≤ 8) (kk : W p l e R s m args below meth c H locs cells slots Q (F0 m (pc + 3) ls (rv.toList ++ rest))) : W p l e R s m args below meth c H locs cells slots Q (F0 m pc ls (As.reverse ++ rest)) := by
  exact j_go (va_runS (As := As) (rest := rest) ⟨hx, hb, hml, hown, hts⟩ hM ⟨callB_of n hts (good_cons lw_good_good w5) rfl rfl rfl (hts _ w4) (hts _ w1) hy ⟨hRf, by show 8 + (maxL + 11) + (60 * f + 60) ≤ _; omega⟩, hts _ w2⟩ ⟨PJ.blind b0 ad adV _, fun U hU hW => ⟨rfl, by rw [hU]; exact SPv.warm hW hSP⟩⟩ rfl hn rfl rfl (by show 2 * 0 + _ ≤ 8; omega) hd ⟨hc, hs⟩) kk
end JS
theorem jm_coder (l : Launch) (b0 : Nat) (ad adV : Nat → Nat) {i : Nat} (hi : i < 2) : Met l yJ0_coder_7d493 (Cond.code yJ0_coder_7d493 cJ0_coder_7d493 1 (some .byte) :: lw_good) (rmD 0 0 0) (PJ b0 ad adV [.ref (ad i)]) (QJ (some (.int 0))) 0 0 (fun _ => False) := by
  refine Met.ofW (cc := cJ0_coder_7d493) (maxL := 1) (ret := (some .byte)) (by decide) rfl ?_
  intro p e s m args below meth c s₁ B hml hv
  obtain ⟨rfl, hSP⟩ := hv
  have hx := B.exec
  have hb := B.bytes
  have hr := B.returns
  have hts : ∀ w ∈ lw_good, w.before _ s = true := fun w hw => atoms_spec (ws := Cond.code yJ0_coder_7d493 cJ0_coder_7d493 1 (some .byte) :: lw_good) B.pre w (List.mem_cons_of_mem _ hw)
  have hown : s.vm.findClass RJ0 = some m.cls := findClass_of_methodNamed B.named
  have hlocks := B.notSynchronized
  have hS : va_S (fun q => b0 ≤ q) s.heap s.heap [] := va_S.rf
  have hl := lv_entry [.ref (ad i)] (n := 1) (Nat.le_of_ble_eq_true rfl)
  rw [lg_entry_eq]
  generalize (lg_sl [.ref (ad i)] ++ List.replicate (1 - (lg_sl [.ref (ad i)]).length) Slot.unset).toArray = ls at hl ⊢
  have hl : lv_has ls 1 [(0, .ref (ad i))] := hl
  have hsz : c.maxLocals = ls.size := hml.trans hl.1.symm
  refine va_gets hx hb hSP.2.1 hS hown (hts _ jw_fl_cs) (fun _ h => h) jd_coder_0 ?_
  refine lv_if_eq hx hb jd_coder_3 (tgt := 13) rfl (fun h => absurd h (by decide)) (fun _ => ?_)
  refine lv_aload_n hx hb jd_coder_6 rfl (lv_at hl 0 rfl) ?_
  refine vk_getf hx hb (hSP.1.1 i hi).2.1 hS hown (hts _ jw_fl_cb) (fun _ h => h) jd_coder_7 ?_
  refine lv_goto hx hb jd_coder_10 (tgt := 14) rfl ?_
  exact W.zret (v := 0) hx hb hr rfl (fun t ht hW => ⟨rfl, ht⟩) (fun q hq => by cases hq) jd_coder_14
theorem jm_isL (l : Launch) (b0 : Nat) (ad adV : Nat → Nat) {i : Nat} (hi : i < 2) : Met l yJ0_isLatin1_aae02 (Cond.code yJ0_isLatin1_aae02 cJ0_isLatin1_aae02 1 (some .boolean) :: lw_good) (rmD 0 0 0) (PJ b0 ad adV [.ref (ad i)]) (QJ (some (.int 1))) 0 0 (fun _ => False) := by
  refine Met.ofW (cc := cJ0_isLatin1_aae02) (maxL := 1) (ret := (some .boolean)) (by decide) rfl ?_
  intro p e s m args below meth c s₁ B hml hv
  obtain ⟨rfl, hSP⟩ := hv
  have hx := B.exec
  have hb := B.bytes
  have hr := B.returns
  have hts : ∀ w ∈ lw_good, w.before _ s = true := fun w hw => atoms_spec (ws := Cond.code yJ0_isLatin1_aae02 cJ0_isLatin1_aae02 1 (some .boolean) :: lw_good) B.pre w (List.mem_cons_of_mem _ hw)
  have hown : s.vm.findClass RJ0 = some m.cls := findClass_of_methodNamed B.named
  have hlocks := B.notSynchronized
  have hS : va_S (fun q => b0 ≤ q) s.heap s.heap [] := va_S.rf
  have hl := lv_entry [.ref (ad i)] (n := 1) (Nat.le_of_ble_eq_true rfl)
  rw [lg_entry_eq]
  generalize (lg_sl [.ref (ad i)] ++ List.replicate (1 - (lg_sl [.ref (ad i)]).length) Slot.unset).toArray = ls at hl ⊢
  have hl : lv_has ls 1 [(0, .ref (ad i))] := hl
  have hsz : c.maxLocals = ls.size := hml.trans hl.1.symm
  refine va_gets hx hb hSP.2.1 hS hown (hts _ jw_fl_cs) (fun _ h => h) jd_isL_0 ?_
  refine lv_if_eq hx hb jd_isL_3 (tgt := 17) rfl (fun h => absurd h (by decide)) (fun _ => ?_)
  refine lv_aload_n hx hb jd_isL_6 rfl (lv_at hl 0 rfl) ?_
  refine vk_getf hx hb (hSP.1.1 i hi).2.1 hS hown (hts _ jw_fl_cb) (fun _ h => h) jd_isL_7 ?_
  refine lv_if_ne hx hb jd_isL_10 (tgt := 17) rfl (fun h => absurd rfl h) (fun _ => ?_)
  refine lv_iconst hx hb jd_isL_13 (v := 1) rfl ?_
  refine lv_goto hx hb jd_isL_14 (tgt := 18) rfl ?_
  exact W.zret (v := 1) hx hb hr rfl (fun t ht hW => ⟨rfl, ht⟩) (fun q hq => by cases hq) jd_isL_18
theorem jshr : ∀ i, i < 2 → (Int32.ofNat (jlen.getD i 0)) >>> ((0 : Int32) &&& 31) = nI (jlen.getD i 0) := by decide +kernel
theorem jm_len (l : Launch) (b0 : Nat) (ad adV : Nat → Nat) {i : Nat} (hi : i < 2) : Met l yJ0_length_8abf5 (Cond.code yJ0_length_8abf5 cJ0_length_8abf5 1 (some .int) :: lw_good) (rmD 1 0 0) (PJ b0 ad adV [.ref (ad i)]) (QJ (some (.int (nI (jlen.getD i 0))))) 0 0 (fun _ => False) := by
  refine Met.ofW (cc := cJ0_length_8abf5) (maxL := 1) (ret := (some .int)) (by decide) rfl ?_
  intro p e s m args below meth c s₁ B hml hv
  obtain ⟨rfl, hSP⟩ := hv
  have hx := B.exec
  have hb := B.bytes
  have hr := B.returns
  have hts : ∀ w ∈ lw_good, w.before _ s = true := fun w hw => atoms_spec (ws := Cond.code yJ0_length_8abf5 cJ0_length_8abf5 1 (some .int) :: lw_good) B.pre w (List.mem_cons_of_mem _ hw)
  have hown : s.vm.findClass RJ0 = some m.cls := findClass_of_methodNamed B.named
  have hlocks := B.notSynchronized
  have hS : va_S (fun q => b0 ≤ q) s.heap s.heap [] := va_S.rf
  have hl := lv_entry [.ref (ad i)] (n := 1) (Nat.le_of_ble_eq_true rfl)
  rw [lg_entry_eq]
  generalize (lg_sl [.ref (ad i)] ++ List.replicate (1 - (lg_sl [.ref (ad i)]).length) Slot.unset).toArray = ls at hl ⊢
  have hl : lv_has ls 1 [(0, .ref (ad i))] := hl
  have hsz : c.maxLocals = ls.size := hml.trans hl.1.symm
  refine lv_aload_n hx hb jd_len_0 rfl (lv_at hl 0 rfl) ?_
  refine vk_getf hx hb (hSP.1.1 i hi).2.2.1 hS hown (hts _ jw_fl_va) (fun _ h => h) jd_len_1 ?_
  refine va_tlen hx hb (hSP.1.1 i hi).2.2.2 hS rfl jd_len_4 ?_
  refine lv_aload_n hx hb jd_len_5 rfl (lv_at hl 0 rfl) ?_
  refine jV (n := 0) (As := []) (i := i) (jm_coder l b0 ad adV hi) hx hb hsz hts hown hSP hi jd_len_6 jw_ml_coder jw_in_coder jw_se_coder jw_co_coder jw_i_s (by decide) rfl (by decide) (Nat.le_of_ble_eq_true rfl) (Nat.le_of_ble_eq_true rfl) (Nat.zero_le _) (Nat.zero_le _) (Nat.le_of_ble_eq_true rfl) ?_
  refine lv_ishr hx hb jd_len_9 ?_
  rw [jshr i hi]
  exact W.iret hx hb hr (fun t ht hW => ⟨rfl, ht⟩) (fun q hq => by cases hq) jd_len_10
theorem jm_pci (l : Launch) (b0 : Nat) (ad adV : Nat → Nat) {k n : Nat} (hk : k < n) (hn : n < 2 ^ 31) {v : Value} (hv0 : v = .null ∨ ∃ t, v = .ref t) : Met l yJ3_checkIndex_8e157 (Cond.code yJ3_checkIndex_8e157 cJ3_checkIndex_8e157 3 (some .int) :: lw_good) (rmD 0 0 0) (PJ b0 ad adV [.int (nI k), .int (nI n), v]) (QJ (some (.int (nI k)))) 0 0 (fun _ => False) := by
  rcases hv0 with rfl | ⟨tt, rfl⟩
  · skip
    refine Met.ofW (cc := cJ3_checkIndex_8e157) (maxL := 3) (ret := (some .int)) (by decide) rfl ?_
    intro p e s m args below meth c s₁ B hml hv
    obtain ⟨rfl, hSP⟩ := hv
    have hx := B.exec
    have hb := B.bytes
    have hr := B.returns
    have hts : ∀ w ∈ lw_good, w.before _ s = true := fun w hw => atoms_spec (ws := Cond.code yJ3_checkIndex_8e157 cJ3_checkIndex_8e157 3 (some .int) :: lw_good) B.pre w (List.mem_cons_of_mem _ hw)
    have hown : s.vm.findClass RJ3 = some m.cls := findClass_of_methodNamed B.named
    have hlocks := B.notSynchronized
    have hS : va_S (fun q => b0 ≤ q) s.heap s.heap [] := va_S.rf
    have hl := lv_entry [.int (nI k), .int (nI n), .null] (n := 3) (Nat.le_of_ble_eq_true rfl)
    rw [lg_entry_eq]
    generalize (lg_sl [.int (nI k), .int (nI n), .null] ++ List.replicate (3 - (lg_sl [.int (nI k), .int (nI n), .null]).length) Slot.unset).toArray = ls at hl ⊢
    have hl : lv_has ls 3 [(0, .int (nI k)), (1, .int (nI n)), (2, .null)] := hl
    have hsz : c.maxLocals = ls.size := hml.trans hl.1.symm
    refine lv_iload_n hx hb jd_pci_0 rfl (lv_at hl 0 rfl) ?_
    refine lv_if_lt hx hb jd_pci_1 (tgt := 9) rfl (fun h => absurd h (nI_pos (by omega))) (fun _ => ?_)
    refine lv_iload_n hx hb jd_pci_4 rfl (lv_at hl 0 rfl) ?_
    refine lv_iload_n hx hb jd_pci_5 rfl (lv_at hl 1 rfl) ?_
    refine lv_icmp_lt hx hb jd_pci_6 (tgt := 16) rfl (fun _ => ?_) (fun h => absurd (nI_lt hk hn) h)
    refine lv_iload_n hx hb jd_pci_16 rfl (lv_at hl 0 rfl) ?_
    exact W.iret hx hb hr (fun t ht hW => ⟨rfl, ht⟩) (fun q hq => by cases hq) jd_pci_17
  · skip
    refine Met.ofW (cc := cJ3_checkIndex_8e157) (maxL := 3) (ret := (some .int)) (by decide) rfl ?_
    intro p e s m args below meth c s₁ B hml hv
    obtain ⟨rfl, hSP⟩ := hv
    have hx := B.exec
    have hb := B.bytes
    have hr := B.returns
    have hts : ∀ w ∈ lw_good, w.before _ s = true := fun w hw => atoms_spec (ws := Cond.code yJ3_checkIndex_8e157 cJ3_checkIndex_8e157 3 (some .int) :: lw_good) B.pre w (List.mem_cons_of_mem _ hw)
    have hown : s.vm.findClass RJ3 = some m.cls := findClass_of_methodNamed B.named
    have hlocks := B.notSynchronized
    have hS : va_S (fun q => b0 ≤ q) s.heap s.heap [] := va_S.rf
    have hl := lv_entry [.int (nI k), .int (nI n), .ref tt] (n := 3) (Nat.le_of_ble_eq_true rfl)
    rw [lg_entry_eq]
    generalize (lg_sl [.int (nI k), .int (nI n), .ref tt] ++ List.replicate (3 - (lg_sl [.int (nI k), .int (nI n), .ref tt]).length) Slot.unset).toArray = ls at hl ⊢
    have hl : lv_has ls 3 [(0, .int (nI k)), (1, .int (nI n)), (2, .ref tt)] := hl
    have hsz : c.maxLocals = ls.size := hml.trans hl.1.symm
    refine lv_iload_n hx hb jd_pci_0 rfl (lv_at hl 0 rfl) ?_
    refine lv_if_lt hx hb jd_pci_1 (tgt := 9) rfl (fun h => absurd h (nI_pos (by omega))) (fun _ => ?_)
    refine lv_iload_n hx hb jd_pci_4 rfl (lv_at hl 0 rfl) ?_
    refine lv_iload_n hx hb jd_pci_5 rfl (lv_at hl 1 rfl) ?_
    refine lv_icmp_lt hx hb jd_pci_6 (tgt := 16) rfl (fun _ => ?_) (fun h => absurd (nI_lt hk hn) h)
    refine lv_iload_n hx hb jd_pci_16 rfl (lv_at hl 0 rfl) ?_
    exact W.iret hx hb hr (fun t ht hW => ⟨rfl, ht⟩) (fun q hq => by cases hq) jd_pci_17
theorem jm_cki (l : Launch) (b0 : Nat) (ad adV : Nat → Nat) {k n : Nat} (hk : k < n) (hn : n < 2 ^ 31) : Met l yJ0_checkIndex_df160 (Cond.code yJ0_checkIndex_df160 cJ0_checkIndex_df160 2 none :: lw_good) (rmD 1 0 0) (PJ b0 ad adV [.int (nI k), .int (nI n)]) (QJ none) 0 0 (fun _ => False) := by
  refine Met.ofW (cc := cJ0_checkIndex_df160) (maxL := 2) (ret := none) (by decide) rfl ?_
  intro p e s m args below meth c s₁ B hml hv
  obtain ⟨rfl, hSP⟩ := hv
  have hx := B.exec
  have hb := B.bytes
  have hr := B.returns
  have hts : ∀ w ∈ lw_good, w.before _ s = true := fun w hw => atoms_spec (ws := Cond.code yJ0_checkIndex_df160 cJ0_checkIndex_df160 2 none :: lw_good) B.pre w (List.mem_cons_of_mem _ hw)
  have hown : s.vm.findClass RJ0 = some m.cls := findClass_of_methodNamed B.named
  have hlocks := B.notSynchronized
  have hS : va_S (fun q => b0 ≤ q) s.heap s.heap [] := va_S.rf
  have hl := lv_entry [.int (nI k), .int (nI n)] (n := 2) (Nat.le_of_ble_eq_true rfl)
  rw [lg_entry_eq]
  generalize (lg_sl [.int (nI k), .int (nI n)] ++ List.replicate (2 - (lg_sl [.int (nI k), .int (nI n)]).length) Slot.unset).toArray = ls at hl ⊢
  have hl : lv_has ls 2 [(0, .int (nI k)), (1, .int (nI n))] := hl
  have hsz : c.maxLocals = ls.size := hml.trans hl.1.symm
  refine lv_iload_n hx hb jd_cki_0 rfl (lv_at hl 0 rfl) ?_
  refine lv_iload_n hx hb jd_cki_1 rfl (lv_at hl 1 rfl) ?_
  have fin : ∀ v : Value, (v = .null ∨ ∃ t, v = .ref t) → W p l e (headSpec (Cond.code yJ0_checkIndex_df160 cJ0_checkIndex_df160 2 none :: lw_good) (rmD 1 0 0)).room s m (List.toArray [.int (nI k), .int (nI n)]) below meth c s.heap [] 0 0 (MQ below (QJ none) (List.toArray [.int (nI k), .int (nI n)]) s 0 0 (fun _ => False)) (F0 m 5 ls [v, .int (nI n), .int (nI k)]) := by
    intro v hv
    refine jS (n := 3) (As := [.int (nI k), .int (nI n), v]) (rest := []) (jm_pci l b0 ad adV hk hn hv) hx hb hsz hts hown hSP jd_cki_5 jw_ml_pci jw_st_pci jw_co_pci jw_i_p (by decide) rfl (by decide) (Nat.le_of_ble_eq_true rfl) (Nat.le_of_ble_eq_true rfl) (Nat.zero_le _) (Nat.zero_le _) (Nat.le_of_ble_eq_true rfl) ?_
    refine lv_pop hx hb jd_cki_8 rfl ?_
    exact W.vret hx hb hr (fun t ht hW => ⟨rfl, ht⟩) (fun q hq => by cases hq) jd_cki_9
  rcases hSP.2.2 with h | ⟨t, h⟩
  · exact va_gets hx hb h hS hown (hts _ jw_fl_sf) (fun _ h => h) jd_cki_2 (fin _ (Or.inl rfl))
  · exact va_gets hx hb h hS hown (hts _ jw_fl_sf) (fun _ h => h) jd_cki_2 (fin _ (Or.inr ⟨t, rfl⟩))
theorem jchr : ∀ k, k < 126 → ((((jbyt.getD 0 []).getD k 0) &&& 255).toUInt32 % 65536).toInt32 = Int32.ofInt (str0.getD k 0) := by decide +kernel
theorem jchn : ∀ k, k < 126 → (Int32.ofInt (str0.getD k 0)).toUInt32.toUInt16.toUInt32.toInt32 = Int32.ofInt (str0.getD k 0) := by decide +kernel
theorem jm_lch (l : Launch) (b0 : Nat) (ad adV : Nat → Nat) {k : Nat} (hk : k < 126) : Met l yJ1_charAt_3b067 (Cond.code yJ1_charAt_3b067 cJ1_charAt_3b067 2 (some .char) :: lw_good) (rmD 2 0 0) (PJ b0 ad adV [.ref (adV 0), .int (nI k)]) (QJ (some (.int (Int32.ofInt (str0.getD k 0))))) 0 0 (fun _ => False) := by
  refine Met.ofW (cc := cJ1_charAt_3b067) (maxL := 2) (ret := (some .char)) (by decide) rfl ?_
  intro p e s m args below meth c s₁ B hml hv
  obtain ⟨rfl, hSP⟩ := hv
  have hx := B.exec
  have hb := B.bytes
  have hr := B.returns
  have hts : ∀ w ∈ lw_good, w.before _ s = true := fun w hw => atoms_spec (ws := Cond.code yJ1_charAt_3b067 cJ1_charAt_3b067 2 (some .char) :: lw_good) B.pre w (List.mem_cons_of_mem _ hw)
  have hown : s.vm.findClass RJ1 = some m.cls := findClass_of_methodNamed B.named
  have hlocks := B.notSynchronized
  have hS : va_S (fun q => b0 ≤ q) s.heap s.heap [] := va_S.rf
  have hl := lv_entry [.ref (adV 0), .int (nI k)] (n := 2) (Nat.le_of_ble_eq_true rfl)
  rw [lg_entry_eq]
  generalize (lg_sl [.ref (adV 0), .int (nI k)] ++ List.replicate (2 - (lg_sl [.ref (adV 0), .int (nI k)]).length) Slot.unset).toArray = ls at hl ⊢
  have hl : lv_has ls 2 [(0, .ref (adV 0)), (1, .int (nI k))] := hl
  have hsz : c.maxLocals = ls.size := hml.trans hl.1.symm
  refine lv_iload_n hx hb jd_lch_0 rfl (lv_at hl 1 rfl) ?_
  refine lv_aload_n hx hb jd_lch_1 rfl (lv_at hl 0 rfl) ?_
  refine va_tlen hx hb (hSP.1.1 0 (by decide)).2.2.2 hS (v := nI 126) rfl jd_lch_2 ?_
  refine jS (n := 2) (As := [.int (nI k), .int (nI 126)]) (rest := []) (jm_cki l b0 ad adV hk (by decide)) hx hb hsz hts hown hSP jd_lch_3 jw_ml_cki jw_st_cki jw_co_cki jw_i_s (by decide) rfl (by decide) (Nat.le_of_ble_eq_true rfl) (Nat.le_of_ble_eq_true rfl) (Nat.zero_le _) (Nat.zero_le _) (Nat.le_of_ble_eq_true rfl) ?_
  refine lv_aload_n hx hb jd_lch_6 rfl (lv_at hl 0 rfl) ?_
  refine lv_iload_n hx hb jd_lch_7 rfl (lv_at hl 1 rfl) ?_
  refine va_tb hx hb (hSP.1.1 0 (by decide)).2.2.2 hS (vp_in_nI (n := k) (N := jlen.getD 0 0) hk (by decide)) (v := .int ((jbyt.getD 0 []).getD k 0)) (by rw [nI_clamp (by omega)]) jd_lch_8 ?_
  refine lv_sipush hx hb jd_lch_9 (v := 255) rfl ?_
  refine lv_iand hx hb jd_lch_12 ?_
  refine lv_i2c hx hb jd_lch_13 (jchr k hk) ?_
  exact W.zret hx hb hr (by show Value.int _ = _; rw [jchn k hk]) (fun t ht hW => ⟨rfl, ht⟩) (fun q hq => by cases hq) jd_lch_14
theorem jm_chr (l : Launch) (b0 : Nat) (ad adV : Nat → Nat) {k : Nat} (hk : k < 126) : Met l yJ0_charAt_5068e (Cond.code yJ0_charAt_5068e cJ0_charAt_5068e 2 (some .char) :: lw_good) (rmD 3 0 0) (PJ b0 ad adV [.ref (ad 0), .int (nI k)]) (QJ (some (.int (Int32.ofInt (str0.getD k 0))))) 0 0 (fun _ => False) := by
  refine Met.ofW (cc := cJ0_charAt_5068e) (maxL := 2) (ret := (some .char)) (by decide) rfl ?_
  intro p e s m args below meth c s₁ B hml hv
  obtain ⟨rfl, hSP⟩ := hv
  have hx := B.exec
  have hb := B.bytes
  have hr := B.returns
  have hts : ∀ w ∈ lw_good, w.before _ s = true := fun w hw => atoms_spec (ws := Cond.code yJ0_charAt_5068e cJ0_charAt_5068e 2 (some .char) :: lw_good) B.pre w (List.mem_cons_of_mem _ hw)
  have hown : s.vm.findClass RJ0 = some m.cls := findClass_of_methodNamed B.named
  have hlocks := B.notSynchronized
  have hS : va_S (fun q => b0 ≤ q) s.heap s.heap [] := va_S.rf
  have hl := lv_entry [.ref (ad 0), .int (nI k)] (n := 2) (Nat.le_of_ble_eq_true rfl)
  rw [lg_entry_eq]
  generalize (lg_sl [.ref (ad 0), .int (nI k)] ++ List.replicate (2 - (lg_sl [.ref (ad 0), .int (nI k)]).length) Slot.unset).toArray = ls at hl ⊢
  have hl : lv_has ls 2 [(0, .ref (ad 0)), (1, .int (nI k))] := hl
  have hsz : c.maxLocals = ls.size := hml.trans hl.1.symm
  refine lv_aload_n hx hb jd_chr_0 rfl (lv_at hl 0 rfl) ?_
  refine jV (n := 0) (As := []) (i := 0) (rest := []) (f := 0) (jm_isL l b0 ad adV (by decide)) hx hb hsz hts hown hSP (by decide) jd_chr_1 jw_ml_isL jw_in_isL jw_se_isL jw_co_isL jw_i_s (by decide) rfl (by decide) (Nat.le_of_ble_eq_true rfl) (Nat.le_of_ble_eq_true rfl) (Nat.zero_le _) (Nat.zero_le _) (Nat.le_of_ble_eq_true rfl) ?_
  refine lv_if_eq hx hb jd_chr_4 (tgt := 16) rfl (fun h => absurd h (by decide)) (fun _ => ?_)
  refine lv_aload_n hx hb jd_chr_7 rfl (lv_at hl 0 rfl) ?_
  refine vk_getf hx hb (hSP.1.1 0 (by decide)).2.2.1 hS hown (hts _ jw_fl_va) (fun _ h => h) jd_chr_8 ?_
  refine lv_iload_n hx hb jd_chr_11 rfl (lv_at hl 1 rfl) ?_
  refine jS (n := 2) (As := [.ref (adV 0), .int (nI k)]) (rest := []) (jm_lch l b0 ad adV hk) hx hb hsz hts hown hSP jd_chr_12 jw_ml_lch jw_st_lch jw_co_lch jw_i_l (by decide) rfl (by decide) (Nat.le_of_ble_eq_true rfl) (Nat.le_of_ble_eq_true rfl) (Nat.zero_le _) (Nat.zero_le _) (Nat.le_of_ble_eq_true rfl) ?_
  exact W.zret hx hb hr (by show Value.int _ = _; rw [jchn k hk]) (fun t ht hW => ⟨rfl, ht⟩) (fun q hq => by cases hq) jd_chr_15
/-- whether one byte holds it -/
def jcan (c : Int32) : Int32 := if c < 0 then 0 else if 255 < c then 0 else 1
theorem jm_can (l : Launch) (b0 : Nat) (ad adV : Nat → Nat) (x : Int32) : Met l yJ1_canEncode_9a6ad (Cond.code yJ1_canEncode_9a6ad cJ1_canEncode_9a6ad 1 (some .boolean) :: lw_good) (rmD 0 0 0) (PJ b0 ad adV [.int x]) (QJ (some (.int (jcan x)))) 0 0 (fun _ => False) := by
  refine Met.ofW (cc := cJ1_canEncode_9a6ad) (maxL := 1) (ret := (some .boolean)) (by decide) rfl ?_
  intro p e s m args below meth c s₁ B hml hv
  obtain ⟨rfl, hSP⟩ := hv
  have hx := B.exec
  have hb := B.bytes
  have hr := B.returns
  have hts : ∀ w ∈ lw_good, w.before _ s = true := fun w hw => atoms_spec (ws := Cond.code yJ1_canEncode_9a6ad cJ1_canEncode_9a6ad 1 (some .boolean) :: lw_good) B.pre w (List.mem_cons_of_mem _ hw)
  have hown : s.vm.findClass RJ1 = some m.cls := findClass_of_methodNamed B.named
  have hlocks := B.notSynchronized
  have hS : va_S (fun q => b0 ≤ q) s.heap s.heap [] := va_S.rf
  have hl := lv_entry [.int x] (n := 1) (Nat.le_of_ble_eq_true rfl)
  rw [lg_entry_eq]
  generalize (lg_sl [.int x] ++ List.replicate (1 - (lg_sl [.int x]).length) Slot.unset).toArray = ls at hl ⊢
  have hl : lv_has ls 1 [(0, .int x)] := hl
  have hsz : c.maxLocals = ls.size := hml.trans hl.1.symm
  have no : jcan x = 0 → W p l e (headSpec (Cond.code yJ1_canEncode_9a6ad cJ1_canEncode_9a6ad 1 (some .boolean) :: lw_good) (rmD 0 0 0)).room s m (List.toArray [.int x]) below meth c s.heap [] 0 0 (MQ below (QJ (some (.int (jcan x)))) (List.toArray [.int x]) s 0 0 (fun _ => False)) (F0 m 15 ls []) := by
    intro h
    rw [h]
    refine lv_iconst hx hb jd_can_15 (v := 0) rfl ?_
    exact W.zret (v := 0) hx hb hr rfl (fun t ht hW => ⟨rfl, ht⟩) (fun q hq => by cases hq) jd_can_16
  refine lv_iload_n hx hb jd_can_0 rfl (lv_at hl 0 rfl) ?_
  refine lv_if_lt hx hb jd_can_1 (tgt := 15) rfl (fun h => no (if_pos h)) (fun h1 => ?_)
  refine lv_iload_n hx hb jd_can_4 rfl (lv_at hl 0 rfl) ?_
  refine lv_sipush hx hb jd_can_5 (v := 255) rfl ?_
  refine lv_icmp_gt hx hb jd_can_8 (tgt := 15) rfl (fun h => no ((if_neg h1).trans (if_pos h))) (fun h2 => ?_)
  refine lv_iconst hx hb jd_can_11 (v := 1) rfl ?_
  refine lv_goto hx hb jd_can_12 (tgt := 16) rfl ?_
  have e : jcan x = 1 := (if_neg h1).trans (if_neg h2)
  rw [e]
  exact W.zret (v := 1) hx hb hr rfl (fun t ht hW => ⟨rfl, ht⟩) (fun q hq => by cases hq) jd_can_16
theorem jdrop (L : List Int32) (k : Nat) (h : k < L.length) : L.drop k = L.getD k 0 :: L.drop (k + 1) := by
  rw [List.drop_eq_getElem_cons h, List.getD_eq_getElem?_getD, List.getElem?_eq_getElem h]
  rfl
/-- the place of a byte from place k on -/
def jix (x : Int32) : List Int32 → Nat → Int32
  | [], _ => -1
  | v :: r, k => if v = x then nI k else jix x r (k + 1)
theorem jm_lic (l : Launch) (b0 : Nat) (ad adV : Nat → Nat) (x : Int32) : Met l yJ1_indexOfChar_4cfef (Cond.code yJ1_indexOfChar_4cfef cJ1_indexOfChar_4cfef 6 (some .int) :: lw_good) (rmD 0 0 0) (PJ b0 ad adV [.ref (adV 1), .int x, .int (nI 0), .int (nI 9)]) (QJ (some (.int (jix x.toInt8.toInt32 (jbyt.getD 1 []) 0)))) 0 0 (fun _ => False) := by
  refine Met.ofW (cc := cJ1_indexOfChar_4cfef) (maxL := 6) (ret := (some .int)) (by decide) rfl ?_
  intro p e s m args below meth c s₁ B hml hv
  obtain ⟨rfl, hSP⟩ := hv
  have hx := B.exec
  have hb := B.bytes
  have hr := B.returns
  have hts : ∀ w ∈ lw_good, w.before _ s = true := fun w hw => atoms_spec (ws := Cond.code yJ1_indexOfChar_4cfef cJ1_indexOfChar_4cfef 6 (some .int) :: lw_good) B.pre w (List.mem_cons_of_mem _ hw)
  have hown : s.vm.findClass RJ1 = some m.cls := findClass_of_methodNamed B.named
  have hlocks := B.notSynchronized
  have hS : va_S (fun q => b0 ≤ q) s.heap s.heap [] := va_S.rf
  have hl := lv_entry [.ref (adV 1), .int x, .int (nI 0), .int (nI 9)] (n := 6) (Nat.le_of_ble_eq_true rfl)
  rw [lg_entry_eq]
  generalize (lg_sl [.ref (adV 1), .int x, .int (nI 0), .int (nI 9)] ++ List.replicate (6 - (lg_sl [.ref (adV 1), .int x, .int (nI 0), .int (nI 9)]).length) Slot.unset).toArray = ls at hl ⊢
  have hl : lv_has ls 6 [(0, .ref (adV 1)), (1, .int x), (2, .int (nI 0)), (3, .int (nI 9))] := hl
  have hsz : c.maxLocals = ls.size := hml.trans hl.1.symm
  refine lv_iload_n hx hb jd_lic_0 rfl (lv_at hl 1 rfl) ?_
  refine lv_i2b hx hb jd_lic_1 rfl ?_
  refine lv_istore hx hb jd_lic_2 hl (by decide) rfl (fun ls1 hl1 => ?_)
  refine lv_iload_n hx hb jd_lic_4 rfl (lv_at hl1 3 rfl) ?_
  refine lv_istore hx hb jd_lic_5 hl1 (by decide) rfl (fun ls2 hl2 => ?_)
  have loop : ∀ (n k : Nat) (ls : Array Slot), k + n = 9 → lv_has ls 6 [(5, .int (nI k)), (4, .int x.toInt8.toInt32), (0, .ref (adV 1)), (1, .int x), (2, .int (nI 0)), (3, .int (nI 9))] → W p l e (headSpec (Cond.code yJ1_indexOfChar_4cfef cJ1_indexOfChar_4cfef 6 (some .int) :: lw_good) (rmD 0 0 0)).room s m (List.toArray [.ref (adV 1), .int x, .int (nI 0), .int (nI 9)]) below meth c s.heap [] 0 0 (MQ below (QJ (some (.int (jix x.toInt8.toInt32 ((jbyt.getD 1 []).drop k) k)))) (List.toArray [.ref (adV 1), .int x, .int (nI 0), .int (nI 9)]) s 0 0 (fun _ => False)) (F0 m 7 ls []) := by
    intro n
    induction n with
    | zero =>
      intro k ls hk hl
      have hk9 : k = 9 := by omega
      subst hk9
      refine lv_iload hx hb jd_lic_7 (lv_at hl 0 rfl) ?_
      refine lv_iload_n hx hb jd_lic_9 rfl (lv_at hl 5 rfl) ?_
      refine lv_icmp_ge hx hb jd_lic_10 (tgt := 31) rfl (fun _ => ?_) (fun h => absurd (nI_le (Nat.le_refl 9) (by decide)) h)
      refine lv_iconst hx hb jd_lic_31 (v := -1) rfl ?_
      exact W.iret hx hb hr (fun t ht hW => ⟨rfl, ht⟩) (fun q hq => by cases hq) jd_lic_32
    | succ n ih =>
      intro k ls hk hl
      have hk9 : k < 9 := by omega
      have hd : (jbyt.getD 1 []).drop k = (jbyt.getD 1 []).getD k 0 :: (jbyt.getD 1 []).drop (k + 1) := by
        exact jdrop _ k hk9
      refine lv_iload hx hb jd_lic_7 (lv_at hl 0 rfl) ?_
      refine lv_iload_n hx hb jd_lic_9 rfl (lv_at hl 5 rfl) ?_
      refine lv_icmp_ge hx hb jd_lic_10 (tgt := 31) rfl (fun h => absurd h (nI_ge hk9 (by decide))) (fun _ => ?_)
      refine lv_aload_n hx hb jd_lic_13 rfl (lv_at hl 2 rfl) ?_
      refine lv_iload hx hb jd_lic_14 (lv_at hl 0 rfl) ?_
      refine va_tb hx hb (hSP.1.1 1 (by decide)).2.2.2 hS (vp_in_nI (n := k) (N := jlen.getD 1 0) hk9 (by decide)) (v := .int ((jbyt.getD 1 []).getD k 0)) (by rw [nI_clamp (by omega)]) jd_lic_16 ?_
      refine lv_iload hx hb jd_lic_17 (lv_at hl 1 rfl) ?_
      refine lv_icmp_ne hx hb jd_lic_19 (tgt := 25) rfl (fun hne => ?_) (fun heq => ?_)
      · refine lv_iinc hx hb jd_lic_25 hl (k := 0) rfl (v := nI (k + 1)) (nI_succ k).symm (by decide) rfl (fun ls3 hl3 => ?_)
        refine lv_goto hx hb jd_lic_28 (tgt := 7) rfl ?_
        have := ih (k + 1) ls3 (by omega) hl3
        rw [hd, show jix x.toInt8.toInt32 ((jbyt.getD 1 []).getD k 0 :: (jbyt.getD 1 []).drop (k + 1)) k = jix x.toInt8.toInt32 ((jbyt.getD 1 []).drop (k + 1)) (k + 1) from if_neg hne]
        exact this
      · refine lv_iload hx hb jd_lic_22 (lv_at hl 0 rfl) ?_
        rw [hd, show jix x.toInt8.toInt32 ((jbyt.getD 1 []).getD k 0 :: (jbyt.getD 1 []).drop (k + 1)) k = nI k from if_pos heq]
        exact W.iret hx hb hr (fun t ht hW => ⟨rfl, ht⟩) (fun q hq => by cases hq) jd_lic_24
  exact loop 9 0 ls2 rfl hl2
def jixO (x : Int32) : Int32 := if jcan x = 0 then -1 else jix x.toInt8.toInt32 (jbyt.getD 1 []) 0
theorem jmax : (if nI 0 < (0 : Int32) then (0 : Int32) else nI 0) = nI 0 := by decide
theorem jmin : (if nI 9 < nI 9 then nI 9 else nI 9) = nI 9 := by decide
theorem jm_lix (l : Launch) (b0 : Nat) (ad adV : Nat → Nat) (x : Int32) : Met l yJ1_indexOf_4cfef (Cond.code yJ1_indexOf_4cfef cJ1_indexOf_4cfef 4 (some .int) :: lw_good) (rmD 1 0 0) (PJ b0 ad adV [.ref (adV 1), .int x, .int (nI 0), .int (nI 9)]) (QJ (some (.int (jixO x)))) 0 0 (fun _ => False) := by
  refine Met.ofW (cc := cJ1_indexOf_4cfef) (maxL := 4) (ret := (some .int)) (by decide) rfl ?_
  intro p e s m args below meth c s₁ B hml hv
  obtain ⟨rfl, hSP⟩ := hv
  have hx := B.exec
  have hb := B.bytes
  have hr := B.returns
  have hts : ∀ w ∈ lw_good, w.before _ s = true := fun w hw => atoms_spec (ws := Cond.code yJ1_indexOf_4cfef cJ1_indexOf_4cfef 4 (some .int) :: lw_good) B.pre w (List.mem_cons_of_mem _ hw)
  have hown : s.vm.findClass RJ1 = some m.cls := findClass_of_methodNamed B.named
  have hlocks := B.notSynchronized
  have hS : va_S (fun q => b0 ≤ q) s.heap s.heap [] := va_S.rf
  have hl := lv_entry [.ref (adV 1), .int x, .int (nI 0), .int (nI 9)] (n := 4) (Nat.le_of_ble_eq_true rfl)
  rw [lg_entry_eq]
  generalize (lg_sl [.ref (adV 1), .int x, .int (nI 0), .int (nI 9)] ++ List.replicate (4 - (lg_sl [.ref (adV 1), .int x, .int (nI 0), .int (nI 9)]).length) Slot.unset).toArray = ls at hl ⊢
  have hl : lv_has ls 4 [(0, .ref (adV 1)), (1, .int x), (2, .int (nI 0)), (3, .int (nI 9))] := hl
  have hsz : c.maxLocals = ls.size := hml.trans hl.1.symm
  refine lv_iload_n hx hb jd_lix_0 rfl (lv_at hl 1 rfl) ?_
  refine jS (n := 1) (As := [.int x]) (rest := []) (jm_can l b0 ad adV x) hx hb hsz hts hown hSP jd_lix_1 jw_ml_can jw_st_can jw_co_can jw_i_l (by decide) rfl (by decide) (Nat.le_of_ble_eq_true rfl) (Nat.le_of_ble_eq_true rfl) (Nat.zero_le _) (Nat.zero_le _) (Nat.le_of_ble_eq_true rfl) ?_
  refine lv_if_ne hx hb jd_lix_4 (tgt := 9) rfl (fun h1 => ?_) (fun h1 => ?_)
  · have e : jixO x = jix x.toInt8.toInt32 (jbyt.getD 1 []) 0 := if_neg h1
    rw [e]
    refine lv_iload_n hx hb jd_lix_9 rfl (lv_at hl 2 rfl) ?_
    refine lv_iconst hx hb jd_lix_10 (v := 0) rfl ?_
    refine va_mmax hx hb hsz hown (hts _ jw_ml_max) (hts _ jw_st_max) (hts _ jw_i_m) (hts _ jw_co_max) (Nat.le_of_ble_eq_true rfl) (Nat.le_of_ble_eq_true rfl) (Nat.zero_le _) (Nat.zero_le _) jd_lix_11 ?_
    rw [jmax]
    refine lv_istore_n hx hb jd_lix_14 rfl hl (by decide) rfl (fun ls1 hl1 => ?_)
    refine lv_iload_n hx hb jd_lix_15 rfl (lv_at hl1 3 rfl) ?_
    refine lv_aload_n hx hb jd_lix_16 rfl (lv_at hl1 1 rfl) ?_
    refine va_tlen hx hb (hSP.1.1 1 (by decide)).2.2.2 hS (v := nI 9) rfl jd_lix_17 ?_
    have hsz1 : c.maxLocals = ls1.size := hml.trans hl1.1.symm
    refine va_mmin hx hb hsz1 hown (hts _ jw_ml_min) (hts _ jw_st_min) (hts _ jw_i_m) (hts _ jw_co_min) (Nat.le_of_ble_eq_true rfl) (Nat.le_of_ble_eq_true rfl) (Nat.zero_le _) (Nat.zero_le _) jd_lix_18 ?_
    rw [jmin]
    refine lv_istore_n hx hb jd_lix_21 rfl hl1 (by decide) rfl (fun ls2 hl2 => ?_)
    have hsz2 : c.maxLocals = ls2.size := hml.trans hl2.1.symm
    have hl2 : lv_has ls2 4 [(3, .int (nI 9)), (2, .int (nI 0)), (0, .ref (adV 1)), (1, .int x)] := hl2
    refine lv_iload_n hx hb jd_lix_22 rfl (lv_at hl2 1 rfl) ?_
    refine lv_iload_n hx hb jd_lix_23 rfl (lv_at hl2 0 rfl) ?_
    refine lv_icmp_lt hx hb jd_lix_24 (tgt := 29) rfl (fun _ => ?_) (fun h => absurd (nI_lt (show 0 < 9 by decide) (by decide)) h)
    refine lv_aload_n hx hb jd_lix_29 rfl (lv_at hl2 2 rfl) ?_
    refine lv_iload_n hx hb jd_lix_30 rfl (lv_at hl2 3 rfl) ?_
    refine lv_iload_n hx hb jd_lix_31 rfl (lv_at hl2 1 rfl) ?_
    refine lv_iload_n hx hb jd_lix_32 rfl (lv_at hl2 0 rfl) ?_
    refine jS (n := 4) (As := [.ref (adV 1), .int x, .int (nI 0), .int (nI 9)]) (rest := []) (jm_lic l b0 ad adV x) hx hb hsz2 hts hown hSP jd_lix_33 jw_ml_lic jw_st_lic jw_co_lic jw_i_l (by decide) rfl (by decide) (Nat.le_of_ble_eq_true rfl) (Nat.le_of_ble_eq_true rfl) (Nat.zero_le _) (Nat.zero_le _) (Nat.le_of_ble_eq_true rfl) ?_
    exact W.iret hx hb hr (fun t ht hW => ⟨rfl, ht⟩) (fun q hq => by cases hq) jd_lix_36
  · have e : jixO x = -1 := if_pos h1
    rw [e]
    refine lv_iconst hx hb jd_lix_7 (v := -1) rfl ?_
    exact W.iret hx hb hr (fun t ht hW => ⟨rfl, ht⟩) (fun q hq => by cases hq) jd_lix_8
theorem jm_ix2 (l : Launch) (b0 : Nat) (ad adV : Nat → Nat) (x : Int32) : Met l yJ0_indexOf_7cf53 (Cond.code yJ0_indexOf_7cf53 cJ0_indexOf_7cf53 3 (some .int) :: lw_good) (rmD 2 0 0) (PJ b0 ad adV [.ref (ad 1), .int x, .int (nI 0)]) (QJ (some (.int (jixO x)))) 0 0 (fun _ => False) := by
  refine Met.ofW (cc := cJ0_indexOf_7cf53) (maxL := 3) (ret := (some .int)) (by decide) rfl ?_
  intro p e s m args below meth c s₁ B hml hv
  obtain ⟨rfl, hSP⟩ := hv
  have hx := B.exec
  have hb := B.bytes
  have hr := B.returns
  have hts : ∀ w ∈ lw_good, w.before _ s = true := fun w hw => atoms_spec (ws := Cond.code yJ0_indexOf_7cf53 cJ0_indexOf_7cf53 3 (some .int) :: lw_good) B.pre w (List.mem_cons_of_mem _ hw)
  have hown : s.vm.findClass RJ0 = some m.cls := findClass_of_methodNamed B.named
  have hlocks := B.notSynchronized
  have hS : va_S (fun q => b0 ≤ q) s.heap s.heap [] := va_S.rf
  have hl := lv_entry [.ref (ad 1), .int x, .int (nI 0)] (n := 3) (Nat.le_of_ble_eq_true rfl)
  rw [lg_entry_eq]
  generalize (lg_sl [.ref (ad 1), .int x, .int (nI 0)] ++ List.replicate (3 - (lg_sl [.ref (ad 1), .int x, .int (nI 0)]).length) Slot.unset).toArray = ls at hl ⊢
  have hl : lv_has ls 3 [(0, .ref (ad 1)), (1, .int x), (2, .int (nI 0))] := hl
  have hsz : c.maxLocals = ls.size := hml.trans hl.1.symm
  refine lv_aload_n hx hb jd_ix2_0 rfl (lv_at hl 0 rfl) ?_
  refine jV (n := 0) (As := []) (i := 1) (rest := []) (f := 0) (jm_isL l b0 ad adV (by decide)) hx hb hsz hts hown hSP (by decide) jd_ix2_1 jw_ml_isL jw_in_isL jw_se_isL jw_co_isL jw_i_s (by decide) rfl (by decide) (Nat.le_of_ble_eq_true rfl) (Nat.le_of_ble_eq_true rfl) (Nat.zero_le _) (Nat.zero_le _) (Nat.le_of_ble_eq_true rfl) ?_
  refine lv_if_eq hx hb jd_ix2_4 (tgt := 23) rfl (fun h => absurd h (by decide)) (fun _ => ?_)
  refine lv_aload_n hx hb jd_ix2_7 rfl (lv_at hl 0 rfl) ?_
  refine vk_getf hx hb (hSP.1.1 1 (by decide)).2.2.1 hS hown (hts _ jw_fl_va) (fun _ h => h) jd_ix2_8 ?_
  refine lv_iload_n hx hb jd_ix2_11 rfl (lv_at hl 1 rfl) ?_
  refine lv_iload_n hx hb jd_ix2_12 rfl (lv_at hl 2 rfl) ?_
  refine lv_aload_n hx hb jd_ix2_13 rfl (lv_at hl 0 rfl) ?_
  refine jV (n := 0) (As := []) (i := 1) (rest := [.int (nI 0), .int x, .ref (adV 1)]) (f := 1) (jm_len l b0 ad adV (by decide)) hx hb hsz hts hown hSP (by decide) jd_ix2_14 jw_ml_len jw_in_len jw_se_len jw_co_len jw_i_s (by decide) rfl (by decide) (Nat.le_of_ble_eq_true rfl) (Nat.le_of_ble_eq_true rfl) (Nat.zero_le _) (Nat.zero_le _) (Nat.le_of_ble_eq_true rfl) ?_
  refine jS (n := 4) (As := [.ref (adV 1), .int x, .int (nI 0), .int (nI 9)]) (rest := []) (jm_lix l b0 ad adV x) hx hb hsz hts hown hSP jd_ix2_17 jw_ml_lix jw_st_lix jw_co_lix jw_i_l (by decide) rfl (by decide) (Nat.le_of_ble_eq_true rfl) (Nat.le_of_ble_eq_true rfl) (Nat.zero_le _) (Nat.zero_le _) (Nat.le_of_ble_eq_true rfl) ?_
  refine lv_goto hx hb jd_ix2_20 (tgt := 36) rfl ?_
  exact W.iret hx hb hr (fun t ht hW => ⟨rfl, ht⟩) (fun q hq => by cases hq) jd_ix2_36
theorem jm_ix1 (l : Launch) (b0 : Nat) (ad adV : Nat → Nat) (x : Int32) : Met l yJ0_indexOf_0f7a4 (Cond.code yJ0_indexOf_0f7a4 cJ0_indexOf_0f7a4 2 (some .int) :: lw_good) (rmD 3 0 0) (PJ b0 ad adV [.ref (ad 1), .int x]) (QJ (some (.int (jixO x)))) 0 0 (fun _ => False) := by
  refine Met.ofW (cc := cJ0_indexOf_0f7a4) (maxL := 2) (ret := (some .int)) (by decide) rfl ?_
  intro p e s m args below meth c s₁ B hml hv
  obtain ⟨rfl, hSP⟩ := hv
  have hx := B.exec
  have hb := B.bytes
  have hr := B.returns
  have hts : ∀ w ∈ lw_good, w.before _ s = true := fun w hw => atoms_spec (ws := Cond.code yJ0_indexOf_0f7a4 cJ0_indexOf_0f7a4 2 (some .int) :: lw_good) B.pre w (List.mem_cons_of_mem _ hw)
  have hown : s.vm.findClass RJ0 = some m.cls := findClass_of_methodNamed B.named
  have hlocks := B.notSynchronized
  have hS : va_S (fun q => b0 ≤ q) s.heap s.heap [] := va_S.rf
  have hl := lv_entry [.ref (ad 1), .int x] (n := 2) (Nat.le_of_ble_eq_true rfl)
  rw [lg_entry_eq]
  generalize (lg_sl [.ref (ad 1), .int x] ++ List.replicate (2 - (lg_sl [.ref (ad 1), .int x]).length) Slot.unset).toArray = ls at hl ⊢
  have hl : lv_has ls 2 [(0, .ref (ad 1)), (1, .int x)] := hl
  have hsz : c.maxLocals = ls.size := hml.trans hl.1.symm
  refine lv_aload_n hx hb jd_ix1_0 rfl (lv_at hl 0 rfl) ?_
  refine lv_iload_n hx hb jd_ix1_1 rfl (lv_at hl 1 rfl) ?_
  refine lv_iconst hx hb jd_ix1_2 (v := nI 0) rfl ?_
  refine jV (n := 2) (As := [.int x, .int (nI 0)]) (i := 1) (rest := []) (f := 2) (jm_ix2 l b0 ad adV x) hx hb hsz hts hown hSP (by decide) jd_ix1_3 jw_ml_ix2 jw_in_ix2 jw_se_ix2 jw_co_ix2 jw_i_s (by decide) rfl (by decide) (Nat.le_of_ble_eq_true rfl) (Nat.le_of_ble_eq_true rfl) (Nat.zero_le _) (Nat.zero_le _) (Nat.le_of_ble_eq_true rfl) ?_
  exact W.iret hx hb hr (fun t ht hW => ⟨rfl, ht⟩) (fun q hq => by cases hq) jd_ix1_6
