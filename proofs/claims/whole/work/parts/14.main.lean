def StrRow (l : Launch) (SP : State → Heap → Prop) (b : Nat) (ex : Nat → Int) (Ts : List Cond) : Prop := ∀ (p : Program) (e : Env) (R : Room) (s : State) (m : MethodId) (args : Array Value) (below : List Frame) (meth : Method) (c : Code) (H : Heap) (locs : List Loc) (cells slots : Nat) (Q : State → Prop) (cc : ByteArray) (pc : Nat) (ls : Array Slot) (idx a : Nat) (x : Int) (rest vs : List Value) (sa : List aV),
  p.tables.exec = Jvm.exec → c.code = cc → c.maxLocals = ls.size → s.vm.findClass RX4 = some m.cls → (∀ w ∈ Ts, w.before args s = true) → SP s H → 9 ≤ R.frames → 540 ≤ R.locals → cells ≤ R.cells → slots ≤ R.slots → decode cc pc = .ok (.invokevirtual idx, 3) →
  ((a = 900 ∧ Cond.methodLink RX4 idx ⟨"java/lang/String", "length", "()I"⟩ ∈ Ts) ∨ (a = 901 ∧ Cond.methodLink RX4 idx ⟨"java/lang/String", "charAt", "(I)C"⟩ ∈ Ts) ∨ (a = 902 ∧ Cond.methodLink RX4 idx ⟨"java/lang/String", "indexOf", "(I)I"⟩ ∈ Ts)) →
  sxo a sa = some x → srel b ex vs sa → (rest.map fun v => v.category).sum ≤ 8 →
  (∀ i : Int32, i.toInt = x → W p l e R s m args below meth c H locs cells slots Q (F0 m (pc + 3) ls (.int i :: rest))) → W p l e R s m args below meth c H locs cells slots Q (F0 m pc ls (vs.reverse ++ rest))
section Sound
variable {l : Launch} {SP : State → Heap → Prop} {G : va_G} {ga : Nat → ClassId} {b : Nat} {ex : Nat → Int} {xs : List Int} {Ts : List Cond} {P : Nat → Option aM} {X : Nat → Option (List aV → Option (Option aV))}
theorem good_cons {Ts : List Cond} {w1 : Cond} (hG : ∀ w ∈ Ts, (w.onTables && w.keeps) = true ∨ ∃ ty, w = .arrayClass ty) (h : w1 ∈ Ts) : GoodIn Ts (w1 :: Ts) := fun w hw => by
  have hm : w ∈ Ts := by
    rcases List.mem_cons.mp hw with rfl | hw
    · exact h
    · exact hw
  exact ⟨hm, hG w hm⟩
set_option maxHeartbeats 8000000 in
theorem sound (hG : ∀ w ∈ Ts, (w.onTables && w.keeps) = true ∨ ∃ ty, w = .arrayClass ty) (hC : clsOK Ts) (hP : ∀ m M, P m = some M → mok Ts P M) (hX : ∀ m, X m = none) (hex : ∀ a, ex a ≤ -2) (hxr : ∀ j, -2147483648 ≤ xs.getD j 0 ∧ xs.getD j 0 < 2147483648) (hxl : xs.length ≤ 3072)
    (hSw : ∀ s U H, s.WarmedH U.vm → SP s H → SP U H) (hSk : ∀ s H H1, (∀ q, q < b → H1[q]? = H[q]?) → SP s H → SP s H1) (hstr : StrRow l SP b ex Ts) :
    ∀ (f d : Nat) (M : aM) (pc : Nat) (la : aL) (sa : List aV) (h : aH) (rv : Option aV) (h' : aH), arun P X xs f d M pc la sa h = some (rv, h') → mok Ts P M →
    ∀ {p : Program} {e : Env} {R : Room} {s : State} {m : MethodId} {args : Array Value} {below : List Frame} {meth : Method} {c : Code} {H : Heap} {locs : List Loc} {cells slots : Nat} {Q : State → Prop} {ls : Array Slot} {st : List Value},
    p.tables.exec = Jvm.exec → c.code = M.2.1 → c.maxLocals = M.2.2.1 → s.vm.findClass M.1.cls = some m.cls → (∀ w ∈ Ts, w.before args s = true) → ((M.1.name == "<init>") = true → meth.name = "<init>") → wld G ga b ex s → scrP b ex xs s H → SP s H →
    lrel b ex M.2.2.1 ls la → srel b ex st sa → hrel G ga b ex h H → (∀ q, q < b → H[q]? = s.heap[q]?) → (∀ z ∈ locs, b ≤ z.base) → d + 1 ≤ R.frames → 60 * d + 60 ≤ R.locals → cells + (h'.1.1 - h.1.1) ≤ R.cells → slots + (h'.1.2.1 - h.1.2.1) ≤ R.slots →
    (∀ (pc : Nat) (i : Instr) (H' : Heap) (locs' : List Loc) (ls' : Array Slot) (st' : List Value) (sa' : List aV), decode M.2.1 pc = .ok (i, 1) → artn i M.2.2.2.1 sa' = some rv → srel b ex st' sa' → hrel G ga b ex h' H' → (∀ q, q < b → H'[q]? = s.heap[q]?) → (∀ z ∈ locs', b ≤ z.base) → W p l e R s m args below meth c H' locs' (cells + (h'.1.1 - h.1.1)) (slots + (h'.1.2.1 - h.1.2.1)) Q (F0 m pc ls' st')) →
    W p l e R s m args below meth c H locs cells slots Q (F0 m pc ls st)
  | 0, _, _, _, _, _, _, _, _, hr => by cases hr
  | f + 1, d, M, pc, la, sa, h, rv, h', hr => by
    intro hM p e R s m args below meth c H locs cells slots Q ls st hx hb hml hown hts hini hw hsc hSP hl hs hh hold hlo hRf hRl hcells hslots hfin
    have hts' : ∀ w ∈ Ts, w.before args s = true := hts
    obtain ⟨i, len, a, k, t, z, he, hc⟩ := aph_cases (show aph xs (arun P X xs f) (acw P X (arun P X xs f)) d M pc la sa h = some (rv, h') from hr)
    have hE := hM.2.2 pc i len a k t z he
    have hlsz : c.maxLocals = ls.size := by
      obtain ⟨-, lv, hv, -⟩ := hl
      rw [hml]; exact hv.1.symm
    have go : ∀ (pc' : Nat) (la' : aL) (sa' : List aV) (h1 : aH), arun P X xs f d M pc' la' sa' h1 = some (rv, h') → h.1.1 ≤ h1.1.1 → h.1.2.1 ≤ h1.1.2.1 → ∀ (H' : Heap) (locs' : List Loc) (ls' : Array Slot) (st' : List Value), lrel b ex M.2.2.1 ls' la' → srel b ex st' sa' → hrel G ga b ex h1 H' → (∀ q, q < b → H'[q]? = H[q]?) → (∀ z ∈ locs', b ≤ z.base) → W p l e R s m args below meth c H' locs' (cells + (h1.1.1 - h.1.1)) (slots + (h1.1.2.1 - h.1.2.1)) Q (F0 m pc' ls' st') := by
      intro pc' la' sa' h1 hrun hn1 hn2 H' locs' ls' st' hl' hs' hh' hold' hlo'
      have hn := arun_n hrun
      have e1 : cells + (h1.1.1 - h.1.1) + (h'.1.1 - h1.1.1) = cells + (h'.1.1 - h.1.1) := by have := hn.1; dsimp only at this; omega
      have e2 : slots + (h1.1.2.1 - h.1.2.1) + (h'.1.2.1 - h1.1.2.1) = slots + (h'.1.2.1 - h.1.2.1) := by have := hn.2; dsimp only at this; omega
      refine sound hG hC hP hX hex hxr hxl hSw hSk hstr f d M pc' la' sa' h1 rv h' hrun hM hx hb hml hown hts hini hw (hsc.kept hold') (hSk s H H' hold' hSP) hl' hs' hh' (fun q hq => (hold' q hq).trans (hold q hq)) hlo' hRf hRl (by rw [e1]; exact hcells) (by rw [e2]; exact hslots) ?_
      rw [e1, e2]
      exact hfin
    have go0 : ∀ (pc' : Nat) (la' : aL) (sa' : List aV), arun P X xs f d M pc' la' sa' h = some (rv, h') → ∀ (ls' : Array Slot) (st' : List Value), lrel b ex M.2.2.1 ls' la' → srel b ex st' sa' → W p l e R s m args below meth c H locs cells slots Q (F0 m pc' ls' st') := by
      intro pc' la' sa' hrun ls' st' hl' hs'
      have := go pc' la' sa' h hrun (Nat.le_refl _) (Nat.le_refl _) H locs ls' st' hl' hs' hh (fun _ _ => rfl) hlo
      rw [Nat.sub_self, Nat.sub_self] at this
      exact this
    unfold aCs at hc
    rcases hc with ⟨rfl, sa', h1, h2⟩ | ⟨rfl, la', sa', h1, h2⟩ | ⟨rfl, pc', sa', h1, h2⟩ | ⟨rfl, h1, h2⟩ | ⟨rfl, x, rest, rfl, h1, h2, h3⟩ | ⟨rfl, sa', h1', h1, h2⟩ | ⟨rfl, al, rest, rv1, h1, sa', h2, h3, h4, h5, h6, h7⟩ | ⟨rfl, al, rest, x, h2, h3, h4, h5, h6⟩ | ⟨rfl, x, y, rest, rfl, h2, h3⟩ | ⟨hc, sa', h1', h1, h2⟩
    · rcases hE with ⟨-, e1, hd⟩ | ⟨hz, -⟩ | ⟨hz, -⟩ | ⟨hz, -⟩ | ⟨hz, -⟩ | ⟨hz, -⟩ | ⟨hz, -⟩ | ⟨hz, -⟩ | ⟨hz, -⟩ | hz
      any_goals (cases hz; done)
      · subst e1
        exact s_apu hx hb hd h1 hs (fun st' hs' => go0 _ _ _ h2 _ _ hl hs')
      · exact absurd rfl hz.1
    · rcases hE with ⟨hz, -⟩ | ⟨-, e1, hd⟩ | ⟨hz, -⟩ | ⟨hz, -⟩ | ⟨hz, -⟩ | ⟨hz, -⟩ | ⟨hz, -⟩ | ⟨hz, -⟩ | ⟨hz, -⟩ | hz
      any_goals (cases hz; done)
      · subst e1
        exact s_alo hx hb hd h1 hs hl (fun ls' st' hl' hs' => go0 _ _ _ h2 _ _ hl' hs')
      · exact absurd rfl hz.2.1
    · rcases hE with ⟨hz, -⟩ | ⟨hz, -⟩ | ⟨-, e1, e2, hd⟩ | ⟨hz, -⟩ | ⟨hz, -⟩ | ⟨hz, -⟩ | ⟨hz, -⟩ | ⟨hz, -⟩ | ⟨hz, -⟩ | hz
      any_goals (cases hz; done)
      · exact s_abr hx hb hd e1 e2 h1 hs (fun st' hs' => go0 _ _ _ h2 _ _ hl hs')
      · exact absurd rfl hz.2.2.1
    · rcases hE with ⟨hz, -⟩ | ⟨hz, -⟩ | ⟨hz, -⟩ | ⟨-, hd⟩ | ⟨hz, -⟩ | ⟨hz, -⟩ | ⟨hz, -⟩ | ⟨hz, -⟩ | ⟨hz, -⟩ | hz
      any_goals (cases hz; done)
      · have e : h' = h := h2
        subst e
        have := hfin pc i H locs ls st sa hd h1 hs hh hold hlo
        rw [Nat.sub_self, Nat.sub_self] at this
        exact this
      · exact absurd rfl hz.2.2.2.1
    · rcases hE with ⟨hz, -⟩ | ⟨hz, -⟩ | ⟨hz, -⟩ | ⟨hz, -⟩ | ⟨-, idx, hd, w1, w2, w3⟩ | ⟨hz, -⟩ | ⟨hz, -⟩ | ⟨hz, -⟩ | ⟨hz, -⟩ | hz
      any_goals (cases hz; done)
      · obtain ⟨st0, rfl, hs'⟩ := srel_a hex hs h1
        refine W.objInit hx hb hown (hts' _ w1) (hts' _ w2) (hts' _ w3) rfl hlsz.symm rfl hd (by omega) ?_ (go0 _ _ _ h3 _ _ hl hs')
        have h8 := h2
        rw [← srel_cats hs'] at h8
        show 2 * 0 + _ + 12 ≤ _
        omega
      · exact absurd rfl hz.2.2.2.2.1
    · rcases hE with ⟨hz, -⟩ | ⟨hz, -⟩ | ⟨hz, -⟩ | ⟨hz, -⟩ | ⟨hz, -⟩ | ⟨-, e1, idx, hd, w1, w2, w3, w4⟩ | ⟨hz, -⟩ | ⟨hz, -⟩ | ⟨hz, -⟩ | hz
      any_goals (cases hz; done)
      · have e := acp_le h1
        refine s_acp hx hb hlsz hts' hown hw hex e1 w1 w2 w3 w4 (by omega) (by omega) hd h1 hs hh hlo (fun H' locs' st' g1 g2 g3 g4 => ?_)
        have := go _ _ _ h1' h2 (by rw [e]; exact Nat.le_refl _) (by rw [e]; exact Nat.le_refl _) H' locs' ls st' hl g1 g2 g3 g4
        rw [e, Nat.sub_self, Nat.sub_self] at this
        exact this
      · exact absurd rfl hz.2.2.2.2.2.1
    · rcases hE with ⟨hz, -⟩ | ⟨hz, -⟩ | ⟨hz, -⟩ | ⟨hz, -⟩ | ⟨hz, -⟩ | ⟨hz, -⟩ | ⟨-, ⟨M', n, p1, p0, p2, p3, p4, p5⟩, hd⟩ | ⟨hz, -⟩ | ⟨hz, -⟩ | hz
      any_goals (cases hz; done)
      · obtain ⟨d', rfl, ⟨fx, q1, -⟩ | ⟨-, M2, ls2, q1, q2, q3⟩⟩ := acw_cases h5
        · rw [hX] at q1; cases q1
        · rw [p1] at q1
          cases q1
          have hM' := hP a M' p1
          have hn1 := arun_n q3
          have hn2 := arun_n h7
          dsimp only at hn1 hn2
          have hMet : Met l M'.1 (Cond.code M'.1 M'.2.1 M'.2.2.1 M'.2.2.2.1 :: Ts) (rmD d' (h1.1.1 - h.1.1) (h1.1.2.1 - h.1.2.1)) (PcA SP G ga b ex xs al h) (QcA G ga b ex rv1 h1) (h1.1.1 - h.1.1) (h1.1.2.1 - h.1.2.1) (fun q => b ≤ q) := by
            refine Met.ofW (cc := M'.2.1) (maxL := M'.2.2.1) (ret := M'.2.2.2.1) hM'.1 rfl ?_
            intro p e s m args below meth c s₁ B hml hv
            obtain ⟨⟨vs, rfl, hvs⟩, hh, hw, hsc, hSP⟩ := hv
            rw [lg_entry_eq]
            refine sound hG hC hP hX hex hxr hxl hSw hSk hstr f d' M' 0 ls2 [] h rv1 h1 q3 hM' B.exec B.bytes hml (findClass_of_methodNamed B.named) (fun w hw => atoms_spec (ws := Cond.code M'.1 M'.2.1 M'.2.2.1 M'.2.2.2.1 :: Ts) B.pre w (List.mem_cons_of_mem _ hw)) (fun q => by rw [(name_of_methodNamed B.named B.method).1]; exact eq_of_beq q) hw hsc hSP (aent_rel hvs q2) trivial hh (fun _ _ => rfl) (fun z hz => by cases hz) (Nat.le_refl _) (Nat.le_refl _) (by rw [Nat.zero_add]; exact Nat.le_refl _) (by rw [Nat.zero_add]; exact Nat.le_refl _) ?_
            intro pc i H' locs' ls' st' sa' g1 g2 g3 g4 g5 g6
            rw [Nat.zero_add, Nat.zero_add]
            exact s_ret B.exec B.bytes B.returns B.notSynchronized g1 g2 g3 g4 g5 g6
          obtain ⟨es, el⟩ := aarg_some h2
          subst es
          obtain ⟨t1, t2, rfl, r1, r2⟩ := srel_app hs
          have r1' := srel_rev r1
          rw [List.reverse_reverse] at r1'
          have hlen := srel_len r1'
          have h8 : (t2.map fun v => v.category).sum ≤ 8 := by rw [srel_cats r2]; exact h4
          have hGI : GoodIn Ts (Cond.code M'.1 M'.2.1 M'.2.2.1 M'.2.2.2.1 :: Ts) := good_cons hG p0
          have hroom : (rmD d' (h1.1.1 - h.1.1) (h1.1.2.1 - h.1.2.1)).frames + 1 ≤ R.frames ∧ 8 + (M'.2.2.1 + 11) + (rmD d' (h1.1.1 - h.1.1) (h1.1.2.1 - h.1.2.1)).locals ≤ R.locals := by
            have h41 := hM'.2.1
            exact ⟨hRf, by show 8 + (M'.2.2.1 + 11) + (60 * d' + 60) ≤ _; omega⟩
          have hfit : cells + (h1.1.1 - h.1.1) ≤ R.cells ∧ slots + (h1.1.2.1 - h.1.2.1) ≤ R.slots := by
            have := hn2.1
            have := hn2.2
            exact ⟨by omega, by omega⟩
          have hPc : ∀ U : State, U.heap = H → s.WarmedH U.vm → PcA SP G ga b ex xs al h t1.reverse.toArray U := fun U hU hW => ⟨⟨_, rfl, r1'⟩, by rw [hU]; exact hh, wld.warm hW hw, by rw [hU]; exact scrP.warm hW hsc, by rw [hU]; exact hSw s U H hW hSP⟩
          have hS : CallFix p m c M.2.1 M.2.2.1 s args Ts M.1.cls := ⟨hx, hb, hml, hown, hts⟩
          have fin : ∀ {A : Array Value}, va_Run p l e R s m args below meth c H locs cells slots (h1.1.1 - h.1.1) (h1.1.2.1 - h.1.2.1) (F0 m pc ls (t1 ++ t2)) t2 (QcA G ga b ex rv1 h1 A) (fun q => b ≤ q) → W p l e R s m args below meth c H locs cells slots Q (F0 m pc ls (t1 ++ t2)) := by
            intro A hrun
            refine run_go hrun hlo (fun cv H1 locs1 g1 g2 g3 g4 => ?_)
            exact go _ _ _ h1 h7 hn1.1 hn1.2 H1 locs1 ls _ hl (apsh_rel h6 g1 r2) g2 g3 g4
          have hcd : (Cond.code M'.1 M'.2.1 M'.2.2.1 M'.2.2.2.1 :: Ts) = Cond.code M'.1 M'.2.1 M'.2.2.1 M'.2.2.2.1 :: Ts := rfl
          rcases p5 with ⟨idx, rfl, rfl, u1, u2⟩ | ⟨idx, rfl, rfl, u1, u2, u3, u4⟩ | ⟨idx, q, rfl, rfl, u1, u2, u3, u4, u5, u6⟩
          · have hst : t1 ++ t2 = t1.reverse.reverse ++ t2 := by rw [List.reverse_reverse]
            rcases u2 with u2 | ⟨host, u2⟩
            · exact fin (va_runS (As := t1.reverse) (rest := t2) hS hMet ⟨callB_of _ hts hGI hcd rfl rfl (hts' _ p2) (hts' _ u2) ⟨p3.1, p3.2, p4⟩ hroom, hts' _ u1⟩ ⟨PcA.blind hSw G ga b ex xs al h, hPc⟩ rfl (hlen.trans el) (hlsz.symm.trans hml) hst (lv_room (rest := t1 ++ t2) h8) hd hfit)
            · exact fin (va_runSN (As := t1.reverse) (rest := t2) hS hMet ⟨va_cnB _ hts hGI hcd rfl rfl (hw.2.2.1 _ u2) (hts' _ p2) ⟨p3.1, p3.2, p4⟩ hroom, hts' _ u1, trivial⟩ ⟨PcA.blind hSw G ga b ex xs al h, hPc⟩ rfl (hlen.trans el) (hlsz.symm.trans hml) hst (lv_room (rest := t1 ++ t2) h8) hd hfit)
          · rcases al with _ | ⟨x1 | x1 | x1, as⟩
            · cases h3
            · cases h3
            · cases h3
            · have hx0 : 0 ≤ x1 := of_decide_eq_true h3
              obtain ⟨As, eA, hAs⟩ := srel_a hex r1' hx0
              rw [eA] at hPc hlen
              have et : t1 = As.reverse ++ [.ref (b + x1.toNat)] := by rw [← List.reverse_reverse t1, eA, List.reverse_cons]
              have hst : t1 ++ t2 = As.reverse ++ .ref (b + x1.toNat) :: t2 := by rw [et, List.append_assoc]; rfl
              have hAn : As.length = n := by
                have e1 : As.length + 1 = as.length + 1 := hlen
                have e2 : as.length + 1 = n + 1 := el
                omega
              rw [u2] at hMet hGI hcd
              rcases u4 with u4 | ⟨host, u4⟩
              · exact fin (va_runI (As := As) (rest := t2) hS hMet ⟨callB_of _ hts hGI hcd rfl rfl (hts' _ p2) (hts' _ u4) ⟨p3.1, p3.2, p4⟩ hroom, u1, hts' _ u3⟩ ⟨PcA.blind hSw G ga b ex xs _ h, hPc⟩ rfl hAn (hlsz.symm.trans hml) hst (lv_room (rest := t1 ++ t2) h8) hd hfit)
              · exact fin (va_runIN (As := As) (rest := t2) hS hMet ⟨va_cnB _ hts hGI hcd rfl rfl (hw.2.2.1 _ u4) (hts' _ p2) ⟨p3.1, p3.2, p4⟩ hroom, u1, hts' _ u3⟩ ⟨PcA.blind hSw G ga b ex xs _ h, hPc⟩ rfl hAn (hlsz.symm.trans hml) hst (lv_room (rest := t1 ++ t2) h8) hd hfit)
          · rcases al with _ | ⟨x1 | x1 | x1, as⟩
            · cases h3
            · cases h3
            · cases h3
            · have hk : aok h.1 x1 z.toNat = true := h3
              obtain ⟨cell, q1', rr, hrr, -, q2', q3', -⟩ := hrel_obj hh hk u2
              obtain ⟨As, eA, hAs⟩ := srel_a hex r1' (aok_iff hk).1
              rw [eA] at hPc hlen
              have et : t1 = As.reverse ++ [.ref (b + x1.toNat)] := by rw [← List.reverse_reverse t1, eA, List.reverse_cons]
              have hst : t1 ++ t2 = As.reverse ++ .ref (b + x1.toNat) :: t2 := by rw [et, List.append_assoc]; rfl
              have hAn : As.length = n := by
                have e1 : As.length + 1 = as.length + 1 := hlen
                have e2 : as.length + 1 = n + 1 := el
                omega
              have hrecv : ∃ cellB : Cell, H[b + x1.toNat]? = some cellB ∧ cellB.vm.isStatics = false ∧ s.vm.findClass M'.1.cls = some cellB.cls := ⟨cell, q1', by rw [q3']; rfl, by rw [← u3, q2']; exact (hw.1.1 _ q u1).2.1⟩
              rcases u6 with u6 | ⟨host, u6⟩
              · exact fin (va_runV (As := As) (rest := t2) hS hMet ⟨callB_of _ hts hGI hcd rfl rfl (hts' _ p2) (hts' _ u6) ⟨p3.1, p3.2, p4⟩ hroom, hts' _ u4, hts' _ u5⟩ ⟨PcA.blind hSw G ga b ex xs _ h, hrecv, hPc⟩ rfl hAn (hlsz.symm.trans hml) hst (lv_room (rest := t1 ++ t2) h8) hd hfit)
              · exact fin (va_runVN (As := As) (rest := t2) hS hMet ⟨va_cnB _ hts hGI hcd rfl rfl (hw.2.2.1 _ u6) (hts' _ p2) ⟨p3.1, p3.2, p4⟩ hroom, hts' _ u4, hts' _ u5⟩ ⟨PcA.blind hSw G ga b ex xs _ h, hrecv, hPc⟩ rfl hAn (hlsz.symm.trans hml) hst (lv_room (rest := t1 ++ t2) h8) hd hfit)
      · exact absurd rfl hz.2.2.2.2.2.2.1
    · rcases hE with ⟨hz, -⟩ | ⟨hz, -⟩ | ⟨hz, -⟩ | ⟨hz, -⟩ | ⟨hz, -⟩ | ⟨hz, -⟩ | ⟨hz, -⟩ | ⟨-, idx, hd, e1, e2⟩ | ⟨hz, -⟩ | hz
      any_goals (cases hz; done)
      · obtain ⟨es, el⟩ := aarg_some h2
        subst es
        obtain ⟨t1, t2, rfl, r1, r2⟩ := srel_app hs
        have r1' := srel_rev r1
        rw [List.reverse_reverse] at r1'
        have h8 : (t2.map fun v => v.category).sum ≤ 8 := by rw [srel_cats r2]; exact h4
        rw [e1] at hown e2
        rw [← List.reverse_reverse t1]
        have := arun_n h6
        refine hstr p e R s m args below meth c H locs cells slots Q M.2.1 pc ls idx a x t2 t1.reverse al hx hb hlsz hown hts' hSP (by omega) (by omega) (by omega) (by omega) hd ?_ h5 r1' h8 (fun i hi => go0 _ _ _ h6 _ _ hl ⟨by show _ = _; rw [hi], r2⟩)
        rcases e2 with ⟨e2, -, e3⟩ | ⟨e2, -, e3⟩ | ⟨e2, -, e3⟩
        · exact Or.inl ⟨e2, e3⟩
        · exact Or.inr (Or.inl ⟨e2, e3⟩)
        · exact Or.inr (Or.inr ⟨e2, e3⟩)
      · exact absurd rfl hz.2.2.2.2.2.2.2.1
    · rcases hE with ⟨hz, -⟩ | ⟨hz, -⟩ | ⟨hz, -⟩ | ⟨hz, -⟩ | ⟨hz, -⟩ | ⟨hz, -⟩ | ⟨hz, -⟩ | ⟨hz, -⟩ | ⟨-, idx, hd, w0, w⟩ | hz
      any_goals (cases hz; done)
      · obtain ⟨v2, st1, rfl, rfl, hs1⟩ := srel_i hs
        obtain ⟨v1, st2, rfl, rfl, hs2⟩ := srel_i hs1
        have h8 := h2
        rw [← srel_cats hs2] at h8
        have := arun_n h3
        rcases w with ⟨rfl, w1, w2, w3⟩ | ⟨rfl, w1, w2, w3⟩
        · refine va_mmax hx hb hlsz hown (hts' _ w1) (hts' _ w2) (hts' _ w0) (hts' _ w3) (by omega) (by omega) (by omega) (by omega) hd (go0 _ _ _ h3 _ _ hl ⟨?_, hs2⟩)
          show _ = _
          unfold ammx omax
          by_cases hlt : v1 < v2
          · rw [if_pos hlt]; simp only [if_pos (Int32.lt_iff_toInt_lt.mp hlt)]
          · rw [if_neg hlt]; simp only [if_neg (fun q => hlt (Int32.lt_iff_toInt_lt.mpr q))]
        · refine va_mmin hx hb hlsz hown (hts' _ w1) (hts' _ w2) (hts' _ w0) (hts' _ w3) (by omega) (by omega) (by omega) (by omega) hd (go0 _ _ _ h3 _ _ hl ⟨?_, hs2⟩)
          show _ = _
          unfold ammx omin
          by_cases hlt : v2 < v1
          · rw [if_pos hlt]; simp only [if_pos (Int32.lt_iff_toInt_lt.mp hlt)]
          · rw [if_neg hlt]; simp only [if_neg (fun q => hlt (Int32.lt_iff_toInt_lt.mpr q))]
      · exact absurd rfl hz.2.2.2.2.2.2.2.2.1
    · rcases hE with ⟨hz, -⟩ | ⟨hz, -⟩ | ⟨hz, -⟩ | ⟨hz, -⟩ | ⟨hz, -⟩ | ⟨hz, -⟩ | ⟨hz, -⟩ | ⟨hz, -⟩ | ⟨hz, -⟩ | ⟨-, -, -, -, -, -, -, -, -, e1, hd, hok⟩
      any_goals (exfalso; omega)
      subst e1
      have hn1 := aho_le h1
      have hn2 := arun_n h2
      dsimp only at hn2
      exact s_aho hx hb hts' hC hown hw hex hxr hxl hsc hini hd hok h1 hs hh hlo (by omega) (by omega) (fun H' locs' st' g1 g2 g3 g4 => go _ _ _ h1' h2 hn1.1 hn1.2 H' locs' ls st' hl g1 g2 g3 g4)
end Sound
