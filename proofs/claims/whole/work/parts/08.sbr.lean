/-! Branches. -/
section SBr
variable {p : Program} {l : Launch} {e : Env} {R : Room} {s : State} {m : MethodId} {args : Array Value} {below : List Frame} {meth : Method} {c : Code} {H : Heap} {locs : List Loc} {cells slots : Nat} {Q : State → Prop}
variable {cc : ByteArray} {pc : Nat} {ls : Array Slot} {b : Nat} {ex : Nat → Int}
/-- what is asked of a branch's entry: its target -/
def brok (i : Instr) (pc a : Nat) : Bool := match i with
  | .goto off => decide ((pc : Int) + off = (a : Int))
  | .ifCond _ off => decide ((pc : Int) + off = (a : Int))
  | .if_icmp _ off => decide ((pc : Int) + off = (a : Int))
  | .tableswitch dflt lo hi offs => decide (0 ≤ (pc : Int) + dflt) && (decide (lo ≤ hi) && (decide ((offs.size : Int) = hi - lo + 1) && offs.toList.all (fun o => decide (0 ≤ (pc : Int) + o))))
  | _ => false
theorem am_z {x : Int32} : x = 0 ↔ x.toInt = 0 := ⟨fun h => by rw [h]; rfl, fun h => Int32.toInt_inj.mp h⟩
set_option maxHeartbeats 4000000 in
theorem s_abr (hx : p.tables.exec = Jvm.exec) (hb : c.code = cc) {i : Instr} {len a pc' : Nat} {st : List Value} {sa sa' : List aV} (hd : decode cc pc = .ok (i, len)) (hlen : (∃ d lo hi o, i = .tableswitch d lo hi o) ∨ len = 3) (hok : brok i pc a = true) (ha : abr i pc len a sa = some (pc', sa')) (hs : srel b ex st sa)
    (kk : ∀ st', srel b ex st' sa' → W p l e R s m args below meth c H locs cells slots Q (F0 m pc' ls st')) : W p l e R s m args below meth c H locs cells slots Q (F0 m pc ls st) := by
  cases i
  case goto off =>
    obtain rfl : len = 3 := by rcases hlen with ⟨_, _, _, _, h⟩ | h; cases h; exact h
    cases ha
    exact lv_goto hx hb hd (of_decide_eq_true hok) (kk _ hs)
  case tableswitch dflt lo hi offs =>
    rcases sa with _ | ⟨v1 | v1 | v1, r⟩ <;> cases ha
    obtain ⟨x, st0, rfl, rfl, hs'⟩ := srel_i hs
    simp only [brok, Bool.and_eq_true, decide_eq_true_eq, List.all_eq_true] at hok
    obtain ⟨k1, k2, k3, k4⟩ := hok
    have kk' := kk st0 hs'
    unfold asw at kk'
    by_cases h1 : x.toInt < lo
    · rw [if_pos h1] at kk'
      exact lv_tableOut hx hb hd (Or.inl h1) (by omega) kk'
    · rw [if_neg h1] at kk'
      by_cases h2 : hi < x.toInt
      · rw [if_pos h2] at kk'
        exact lv_tableOut hx hb hd (Or.inr h2) (by omega) kk'
      · rw [if_neg h2] at kk'
        have hlt : (x.toInt - lo).toNat < offs.size := by omega
        have he : offs[(x.toInt - lo).toNat]? = some offs[(x.toInt - lo).toNat] := Array.getElem?_eq_getElem hlt
        have hg : offs.getD (x.toInt - lo).toNat dflt = offs[(x.toInt - lo).toNat] := by rw [Array.getD_eq_getD_getElem?, he]; rfl
        rw [hg] at kk'
        have h4 := k4 (offs[(x.toInt - lo).toNat]) (by rw [← Array.mem_def]; exact Array.getElem_mem hlt)
        exact lv_tableIn hx hb hd h1 h2 he (by omega) kk' 
  case ifCond cd off =>
    obtain rfl : len = 3 := by rcases hlen with ⟨_, _, _, _, h⟩ | h; cases h; exact h
    rcases sa with _ | ⟨v1 | v1 | v1, r⟩ <;> cases ha
    obtain ⟨x, st0, rfl, rfl, hs'⟩ := srel_i hs
    have ht := of_decide_eq_true hok
    have kk' := kk st0 hs'
    cases cd
    · refine lv_if_eq hx hb hd ht (fun q => ?_) (fun q => ?_)
      · rw [show acnd .eq x.toInt 0 = true from decide_eq_true (am_z.mp q)] at kk'; exact kk'
      · rw [show acnd .eq x.toInt 0 = false from decide_eq_false (fun w => q (am_z.mpr w))] at kk'; exact kk' 
    · refine lv_if_ne hx hb hd ht (fun q => ?_) (fun q => ?_)
      · rw [show acnd .ne x.toInt 0 = true from decide_eq_true (fun w => q (am_z.mpr w))] at kk'; exact kk'
      · rw [show acnd .ne x.toInt 0 = false from decide_eq_false (fun w => w (am_z.mp q))] at kk'; exact kk' 
    · refine lv_if_lt hx hb hd ht (fun q => ?_) (fun q => ?_)
      · rw [show acnd .lt x.toInt 0 = true from decide_eq_true (Int32.lt_iff_toInt_lt.mp q)] at kk'; exact kk'
      · rw [show acnd .lt x.toInt 0 = false from decide_eq_false (fun w => q (Int32.lt_iff_toInt_lt.mpr w))] at kk'; exact kk' 
    · refine lv_if_ge hx hb hd ht (fun q => ?_) (fun q => ?_)
      · rw [show acnd .ge x.toInt 0 = true from decide_eq_true (Int32.le_iff_toInt_le.mp q)] at kk'; exact kk'
      · rw [show acnd .ge x.toInt 0 = false from decide_eq_false (fun w => q (Int32.le_iff_toInt_le.mpr w))] at kk'; exact kk' 
    · refine lv_if_gt hx hb hd ht (fun q => ?_) (fun q => ?_)
      · rw [show acnd .gt x.toInt 0 = true from decide_eq_true (Int32.lt_iff_toInt_lt.mp q)] at kk'; exact kk'
      · rw [show acnd .gt x.toInt 0 = false from decide_eq_false (fun w => q (Int32.lt_iff_toInt_lt.mpr w))] at kk'; exact kk' 
    · refine lv_if_le hx hb hd ht (fun q => ?_) (fun q => ?_)
      · rw [show acnd .le x.toInt 0 = true from decide_eq_true (Int32.le_iff_toInt_le.mp q)] at kk'; exact kk'
      · rw [show acnd .le x.toInt 0 = false from decide_eq_false (fun w => q (Int32.le_iff_toInt_le.mpr w))] at kk'; exact kk' 
  case if_icmp cd off =>
    obtain rfl : len = 3 := by rcases hlen with ⟨_, _, _, _, h⟩ | h; cases h; exact h
    rcases sa with _ | ⟨v1 | v1 | v1, _ | ⟨v2 | v2 | v2, r⟩⟩ <;> cases ha
    obtain ⟨y, st0, rfl, rfl, hs'⟩ := srel_i hs
    obtain ⟨x, st1, rfl, rfl, hs''⟩ := srel_i hs'
    have ht := of_decide_eq_true hok
    have kk' := kk st1 hs''
    cases cd
    · refine lv_icmp_eq hx hb hd ht (fun q => ?_) (fun q => ?_)
      · rw [show acnd .eq x.toInt y.toInt = true from decide_eq_true (by rw [q])] at kk'; exact kk'
      · rw [show acnd .eq x.toInt y.toInt = false from decide_eq_false (fun w => q (Int32.toInt_inj.mp w))] at kk'; exact kk' 
    · refine lv_icmp_ne hx hb hd ht (fun q => ?_) (fun q => ?_)
      · rw [show acnd .ne x.toInt y.toInt = true from decide_eq_true (fun w => q (Int32.toInt_inj.mp w))] at kk'; exact kk'
      · rw [show acnd .ne x.toInt y.toInt = false from decide_eq_false (fun w => w (by rw [q]))] at kk'; exact kk' 
    · refine lv_icmp_lt hx hb hd ht (fun q => ?_) (fun q => ?_)
      · rw [show acnd .lt x.toInt y.toInt = true from decide_eq_true (Int32.lt_iff_toInt_lt.mp q)] at kk'; exact kk'
      · rw [show acnd .lt x.toInt y.toInt = false from decide_eq_false (fun w => q (Int32.lt_iff_toInt_lt.mpr w))] at kk'; exact kk' 
    · refine lv_icmp_ge hx hb hd ht (fun q => ?_) (fun q => ?_)
      · rw [show acnd .ge x.toInt y.toInt = true from decide_eq_true (Int32.le_iff_toInt_le.mp q)] at kk'; exact kk'
      · rw [show acnd .ge x.toInt y.toInt = false from decide_eq_false (fun w => q (Int32.le_iff_toInt_le.mpr w))] at kk'; exact kk' 
    · refine lv_icmp_gt hx hb hd ht (fun q => ?_) (fun q => ?_)
      · rw [show acnd .gt x.toInt y.toInt = true from decide_eq_true (Int32.lt_iff_toInt_lt.mp q)] at kk'; exact kk'
      · rw [show acnd .gt x.toInt y.toInt = false from decide_eq_false (fun w => q (Int32.lt_iff_toInt_lt.mpr w))] at kk'; exact kk' 
    · refine lv_icmp_le hx hb hd ht (fun q => ?_) (fun q => ?_)
      · rw [show acnd .le x.toInt y.toInt = true from decide_eq_true (Int32.le_iff_toInt_le.mp q)] at kk'; exact kk'
      · rw [show acnd .le x.toInt y.toInt = false from decide_eq_false (fun w => q (Int32.le_iff_toInt_le.mpr w))] at kk'; exact kk' 
  all_goals cases ha
end SBr
