/-! The stack's own instructions. -/
theorem sI1_some {f : Int → Int} {sa sa' : List aV} (h : sI1 f sa = some sa') : ∃ x r, sa = .inl x :: r ∧ sa' = .inl (f x) :: r := by
  rcases sa with _ | ⟨v1 | v1 | v1, r⟩ <;> cases h
  exact ⟨_, _, rfl, rfl⟩
theorem sI2_some {f : Int → Int → Int} {sa sa' : List aV} (h : sI2 f sa = some sa') : ∃ x y r, sa = .inl y :: .inl x :: r ∧ sa' = .inl (f x y) :: r := by
  rcases sa with _ | ⟨v1 | v1 | v1, _ | ⟨v2 | v2 | v2, r⟩⟩ <;> cases h
  exact ⟨_, _, _, rfl, rfl⟩
theorem sJ2_some {f : Int → Int → Int} {sa sa' : List aV} (h : sJ2 f sa = some sa') : ∃ x y r, sa = .inr (.inl y) :: .inr (.inl x) :: r ∧ sa' = .inr (.inl (f x y)) :: r := by
  rcases sa with _ | ⟨v1 | v1 | v1, _ | ⟨v2 | v2 | v2, r⟩⟩ <;> cases h
  exact ⟨_, _, _, rfl, rfl⟩
theorem sJS_some {f : Int → Int → Int} {sa sa' : List aV} (h : sJS f sa = some sa') : ∃ x y r, sa = .inl y :: .inr (.inl x) :: r ∧ sa' = .inr (.inl (f x y)) :: r := by
  rcases sa with _ | ⟨v1 | v1 | v1, _ | ⟨v2 | v2 | v2, r⟩⟩ <;> cases h
  exact ⟨_, _, _, rfl, rfl⟩
theorem sJJ_some {f : Int → Int → Int} {sa sa' : List aV} (h : sJJ f sa = some sa') : ∃ x y r, sa = .inr (.inl y) :: .inr (.inl x) :: r ∧ sa' = .inl (f x y) :: r := by
  rcases sa with _ | ⟨v1 | v1 | v1, _ | ⟨v2 | v2 | v2, r⟩⟩ <;> cases h
  exact ⟨_, _, _, rfl, rfl⟩
theorem sIJ_some {f : Int → Int} {sa sa' : List aV} (h : sIJ f sa = some sa') : ∃ x r, sa = .inl x :: r ∧ sa' = .inr (.inl (f x)) :: r := by
  rcases sa with _ | ⟨v1 | v1 | v1, r⟩ <;> cases h
  exact ⟨_, _, rfl, rfl⟩
theorem sJI_some {f : Int → Int} {sa sa' : List aV} (h : sJI f sa = some sa') : ∃ x r, sa = .inr (.inl x) :: r ∧ sa' = .inl (f x) :: r := by
  rcases sa with _ | ⟨v1 | v1 | v1, r⟩ <;> cases h
  exact ⟨_, _, rfl, rfl⟩
section SPure
variable {p : Program} {l : Launch} {e : Env} {R : Room} {s : State} {m : MethodId} {args : Array Value} {below : List Frame} {meth : Method} {c : Code} {H : Heap} {locs : List Loc} {cells slots : Nat} {Q : State → Prop}
variable {cc : ByteArray} {pc : Nat} {ls : Array Slot} {b : Nat} {ex : Nat → Int}
set_option maxHeartbeats 4000000 in
theorem s_apu (hx : p.tables.exec = Jvm.exec) (hb : c.code = cc) {i : Instr} {st : List Value} {sa sa' : List aV} (hd : decode cc pc = .ok (i, ilen i)) (ha : apu i sa = some sa') (hs : srel b ex st sa)
    (kk : ∀ st', srel b ex st' sa' → W p l e R s m args below meth c H locs cells slots Q (F0 m (pc + ilen i) ls st')) : W p l e R s m args below meth c H locs cells slots Q (F0 m pc ls st) := by
  cases i
  case iconst n =>
    simp only [apu] at ha
    cases hg : decide (-128 ≤ n) && decide (n ≤ 127) <;> rw [hg] at ha <;> cases ha
    simp only [Bool.and_eq_true, decide_eq_true_eq] at hg
    exact lv_iconst hx hb hd rfl (kk _ ⟨by show _ = _; rw [am_w32 (by omega) (by omega)], hs⟩)
  case bipush n =>
    simp only [apu] at ha
    cases hg : decide (-128 ≤ n) && decide (n ≤ 127) <;> rw [hg] at ha <;> cases ha
    simp only [Bool.and_eq_true, decide_eq_true_eq] at hg
    exact lv_bipush hx hb hd rfl (kk _ ⟨by show _ = _; rw [am_w8 hg.1 hg.2], hs⟩)
  case sipush n =>
    simp only [apu] at ha
    cases hg : decide (-32768 ≤ n) && decide (n ≤ 32767) <;> rw [hg] at ha <;> cases ha
    simp only [Bool.and_eq_true, decide_eq_true_eq] at hg
    exact lv_sipush hx hb hd rfl (kk _ ⟨by show _ = _; rw [am_w16 hg.1 hg.2], hs⟩)
  case lconst n =>
    cases ha
    refine lv_lconst hx hb hd rfl (kk _ ⟨?_, hs⟩)
    show _ = _
    rcases n with ⟨n, hn⟩
    have : n = 0 ∨ n = 1 := by omega
    rcases this with rfl | rfl <;> rfl
  case iadd =>
    obtain ⟨x, y, r, rfl, rfl⟩ := sI2_some ha
    obtain ⟨j, st0, rfl, rfl, hs'⟩ := srel_i hs
    obtain ⟨i, st1, rfl, rfl, hs''⟩ := srel_i hs'
    exact lv_iadd hx hb hd (kk _ ⟨by show _ = _; rw [am_add], hs''⟩)
  case isub =>
    obtain ⟨x, y, r, rfl, rfl⟩ := sI2_some ha
    obtain ⟨j, st0, rfl, rfl, hs'⟩ := srel_i hs
    obtain ⟨i, st1, rfl, rfl, hs''⟩ := srel_i hs'
    exact lv_isub hx hb hd (kk _ ⟨by show _ = _; rw [am_sub], hs''⟩)
  case imul =>
    obtain ⟨x, y, r, rfl, rfl⟩ := sI2_some ha
    obtain ⟨j, st0, rfl, rfl, hs'⟩ := srel_i hs
    obtain ⟨i, st1, rfl, rfl, hs''⟩ := srel_i hs'
    exact lv_imul hx hb hd (kk _ ⟨by show _ = _; rw [am_mul], hs''⟩)
  case iand =>
    obtain ⟨x, y, r, rfl, rfl⟩ := sI2_some ha
    obtain ⟨j, st0, rfl, rfl, hs'⟩ := srel_i hs
    obtain ⟨i, st1, rfl, rfl, hs''⟩ := srel_i hs'
    exact lv_iand hx hb hd (kk _ ⟨by show _ = _; rw [oand, Int32.ofInt_toInt, Int32.ofInt_toInt], hs''⟩)
  case ior =>
    obtain ⟨x, y, r, rfl, rfl⟩ := sI2_some ha
    obtain ⟨j, st0, rfl, rfl, hs'⟩ := srel_i hs
    obtain ⟨i, st1, rfl, rfl, hs''⟩ := srel_i hs'
    exact lv_ior hx hb hd (kk _ ⟨by show _ = _; rw [oor, Int32.ofInt_toInt, Int32.ofInt_toInt], hs''⟩)
  case ixor =>
    obtain ⟨x, y, r, rfl, rfl⟩ := sI2_some ha
    obtain ⟨j, st0, rfl, rfl, hs'⟩ := srel_i hs
    obtain ⟨i, st1, rfl, rfl, hs''⟩ := srel_i hs'
    exact lv_ixor hx hb hd (kk _ ⟨by show _ = _; rw [oxor, Int32.ofInt_toInt, Int32.ofInt_toInt], hs''⟩)
  case ishl =>
    obtain ⟨x, y, r, rfl, rfl⟩ := sI2_some ha
    obtain ⟨j, st0, rfl, rfl, hs'⟩ := srel_i hs
    obtain ⟨i, st1, rfl, rfl, hs''⟩ := srel_i hs'
    exact lv_ishl hx hb hd (kk _ ⟨by show _ = _; rw [oshl, Int32.ofInt_toInt, Int32.ofInt_toInt], hs''⟩)
  case ishr =>
    obtain ⟨x, y, r, rfl, rfl⟩ := sI2_some ha
    obtain ⟨j, st0, rfl, rfl, hs'⟩ := srel_i hs
    obtain ⟨i, st1, rfl, rfl, hs''⟩ := srel_i hs'
    exact lv_ishr hx hb hd (kk _ ⟨by show _ = _; rw [oshr, Int32.ofInt_toInt, Int32.ofInt_toInt], hs''⟩)
  case iushr =>
    obtain ⟨x, y, r, rfl, rfl⟩ := sI2_some ha
    obtain ⟨j, st0, rfl, rfl, hs'⟩ := srel_i hs
    obtain ⟨i, st1, rfl, rfl, hs''⟩ := srel_i hs'
    exact lv_iushr hx hb hd rfl (kk _ ⟨by show _ = _; rw [oushr, Int32.ofInt_toInt, Int32.ofInt_toInt], hs''⟩)
  case ineg =>
    obtain ⟨x, r, rfl, rfl⟩ := sI1_some ha
    obtain ⟨i, st1, rfl, rfl, hs'⟩ := srel_i hs
    exact lv_ineg hx hb hd (kk _ ⟨by show _ = _; rw [am_neg], hs'⟩)
  case i2l =>
    obtain ⟨x, r, rfl, rfl⟩ := sIJ_some ha
    obtain ⟨i, st1, rfl, rfl, hs'⟩ := srel_i hs
    exact lv_i2l hx hb hd rfl (kk _ ⟨by show _ = _; rw [am_i2l], hs'⟩)
  case i2b =>
    obtain ⟨x, r, rfl, rfl⟩ := sI1_some ha
    obtain ⟨i, st1, rfl, rfl, hs'⟩ := srel_i hs
    exact lv_i2b hx hb hd rfl (kk _ ⟨by show _ = _; rw [oi2b, Int32.ofInt_toInt], hs'⟩)
  case i2c =>
    obtain ⟨x, r, rfl, rfl⟩ := sI1_some ha
    obtain ⟨i, st1, rfl, rfl, hs'⟩ := srel_i hs
    exact lv_i2c hx hb hd rfl (kk _ ⟨by show _ = _; rw [oi2c, Int32.ofInt_toInt], hs'⟩)
  case l2i =>
    obtain ⟨x, r, rfl, rfl⟩ := sJI_some ha
    obtain ⟨i, st1, rfl, rfl, hs'⟩ := srel_j hs
    exact lv_l2i hx hb hd rfl (kk _ ⟨by show _ = _; rw [ol2i, Int64.ofInt_toInt], hs'⟩)
  case ladd =>
    obtain ⟨x, y, r, rfl, rfl⟩ := sJ2_some ha
    obtain ⟨j, st0, rfl, rfl, hs'⟩ := srel_j hs
    obtain ⟨i, st1, rfl, rfl, hs''⟩ := srel_j hs'
    exact lv_ladd hx hb hd (kk _ ⟨by show _ = _; rw [am_addL], hs''⟩)
  case lsub =>
    obtain ⟨x, y, r, rfl, rfl⟩ := sJ2_some ha
    obtain ⟨j, st0, rfl, rfl, hs'⟩ := srel_j hs
    obtain ⟨i, st1, rfl, rfl, hs''⟩ := srel_j hs'
    exact lv_lsub hx hb hd (kk _ ⟨by show _ = _; rw [am_subL], hs''⟩)
  case lmul =>
    obtain ⟨x, y, r, rfl, rfl⟩ := sJ2_some ha
    obtain ⟨j, st0, rfl, rfl, hs'⟩ := srel_j hs
    obtain ⟨i, st1, rfl, rfl, hs''⟩ := srel_j hs'
    exact lv_lmul hx hb hd (kk _ ⟨by show _ = _; rw [am_mulL], hs''⟩)
  case land =>
    obtain ⟨x, y, r, rfl, rfl⟩ := sJ2_some ha
    obtain ⟨j, st0, rfl, rfl, hs'⟩ := srel_j hs
    obtain ⟨i, st1, rfl, rfl, hs''⟩ := srel_j hs'
    exact lv_land hx hb hd (kk _ ⟨by show _ = _; rw [oland, Int64.ofInt_toInt, Int64.ofInt_toInt], hs''⟩)
  case lor =>
    obtain ⟨x, y, r, rfl, rfl⟩ := sJ2_some ha
    obtain ⟨j, st0, rfl, rfl, hs'⟩ := srel_j hs
    obtain ⟨i, st1, rfl, rfl, hs''⟩ := srel_j hs'
    exact lv_lor hx hb hd (kk _ ⟨by show _ = _; rw [olor, Int64.ofInt_toInt, Int64.ofInt_toInt], hs''⟩)
  case lxor =>
    obtain ⟨x, y, r, rfl, rfl⟩ := sJ2_some ha
    obtain ⟨j, st0, rfl, rfl, hs'⟩ := srel_j hs
    obtain ⟨i, st1, rfl, rfl, hs''⟩ := srel_j hs'
    exact lv_lxor hx hb hd (kk _ ⟨by show _ = _; rw [olxor, Int64.ofInt_toInt, Int64.ofInt_toInt], hs''⟩)
  case lshl =>
    obtain ⟨x, y, r, rfl, rfl⟩ := sJS_some ha
    obtain ⟨j, st0, rfl, rfl, hs'⟩ := srel_i hs
    obtain ⟨i, st1, rfl, rfl, hs''⟩ := srel_j hs'
    exact lv_lshl hx hb hd rfl (kk _ ⟨by show _ = _; rw [olshl, Int64.ofInt_toInt, Int32.ofInt_toInt], hs''⟩)
  case lshr =>
    obtain ⟨x, y, r, rfl, rfl⟩ := sJS_some ha
    obtain ⟨j, st0, rfl, rfl, hs'⟩ := srel_i hs
    obtain ⟨i, st1, rfl, rfl, hs''⟩ := srel_j hs'
    exact lv_lshr hx hb hd rfl (kk _ ⟨by show _ = _; rw [olshr, Int64.ofInt_toInt, Int32.ofInt_toInt], hs''⟩)
  case lushr =>
    obtain ⟨x, y, r, rfl, rfl⟩ := sJS_some ha
    obtain ⟨j, st0, rfl, rfl, hs'⟩ := srel_i hs
    obtain ⟨i, st1, rfl, rfl, hs''⟩ := srel_j hs'
    exact lv_lushr hx hb hd rfl (kk _ ⟨by show _ = _; rw [olushr, Int64.ofInt_toInt, Int32.ofInt_toInt], hs''⟩)
  case lcmp =>
    obtain ⟨x, y, r, rfl, rfl⟩ := sJJ_some ha
    obtain ⟨j, st0, rfl, rfl, hs'⟩ := srel_j hs
    obtain ⟨i, st1, rfl, rfl, hs''⟩ := srel_j hs'
    exact W.lcmp hx hb hd (kk _ ⟨by show _ = _; rw [am_cmp], hs''⟩)
  case dup =>
    rcases sa with _ | ⟨v1 | v1 | v1, r⟩ <;> cases ha
    · obtain ⟨i, st1, rfl, rfl, hs'⟩ := srel_i hs
      exact lv_dup hx hb hd rfl (kk _ ⟨rfl, rfl, hs'⟩)
    · obtain ⟨v, st1, rfl, hv, hs1⟩ := srel_r hs
      exact lv_dup hx hb hd (cvv_cat hs.1) (kk _ ⟨hs.1, hs.1, hs1⟩)
  case pop =>
    rcases sa with _ | ⟨v1 | v1 | v1, r⟩ <;> cases ha
    · obtain ⟨i, st1, rfl, rfl, hs'⟩ := srel_i hs
      exact lv_pop hx hb hd rfl (kk _ hs')
    · obtain ⟨v, st1, rfl, hv, hs1⟩ := srel_r hs
      exact lv_pop hx hb hd (cvv_cat hs.1) (kk _ hs1)
  case dup2 =>
    rcases sa with _ | ⟨v1 | v1 | v1, r⟩
    · cases ha
    · rcases r with _ | ⟨v2 | v2 | v2, r⟩ <;> cases ha
      · obtain ⟨i, st1, rfl, rfl, hs'⟩ := srel_i hs
        obtain ⟨j, st2, rfl, rfl, hs''⟩ := srel_i hs'
        exact lv_dup2_11 hx hb hd rfl rfl (kk _ ⟨rfl, rfl, rfl, rfl, hs''⟩)
      · obtain ⟨i, st1, rfl, rfl, hs'⟩ := srel_i hs
        obtain ⟨v, st2, rfl, hv, hs1⟩ := srel_r hs'
        exact lv_dup2_11 hx hb hd rfl (cvv_cat hs'.1) (kk _ ⟨rfl, hs'.1, rfl, hs'.1, hs1⟩)
    · cases ha
      obtain ⟨i, st1, rfl, rfl, hs'⟩ := srel_j hs
      exact lv_dup2_2 hx hb hd rfl (kk _ ⟨rfl, rfl, hs'⟩)
    · rcases r with _ | ⟨v2 | v2 | v2, r⟩ <;> cases ha
      · obtain ⟨v, st1, rfl, hv, hs1⟩ := srel_r hs
        obtain ⟨j, st2, rfl, rfl, hs2⟩ := srel_i hs1
        exact lv_dup2_11 hx hb hd (cvv_cat hs.1) rfl (kk _ ⟨hs.1, rfl, hs.1, rfl, hs2⟩)
      · obtain ⟨v, st1, rfl, hv, hs1⟩ := srel_r hs
        obtain ⟨w, st2, rfl, hw, hs2⟩ := srel_r hs1
        exact lv_dup2_11 hx hb hd (cvv_cat hs.1) (cvv_cat hs1.1) (kk _ ⟨hs.1, hs1.1, hs.1, hs1.1, hs2⟩)
  all_goals cases ha
end SPure
