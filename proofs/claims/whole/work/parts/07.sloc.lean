/-! Loads and stores of locals. -/
def lrl (b : Nat) (ex : Nat → Int) (lv : List (Nat × Value)) (la : aL) : Prop := ∀ (i : Nat) (v : aV), la[i]? = some (some v) → ∃ cv, (i, cv) ∈ lv ∧ cvv b ex cv v
theorem amod_length : ∀ (la : aL) (j : Nat), (amod la j).length = la.length
  | [], _ => rfl
  | _ :: _, 0 => rfl
  | v :: r, n + 1 => by show (amod r n).length + 1 = r.length + 1; rw [amod_length r n]
theorem amod_get : ∀ (la : aL) (j k : Nat), (amod la j)[k]? = if k = j then la[k]?.map acl else la[k]?
  | [], j, k => by simp [amod]
  | v :: r, 0, 0 => by simp [amod]
  | v :: r, 0, k + 1 => by simp [amod]
  | v :: r, n + 1, 0 => by simp [amod]
  | v :: r, n + 1, k + 1 => by
    show (amod r n)[k]? = _
    rw [amod_get r n k]
    simp
theorem acl_some {x : Option aV} {w : aV} (h : acl x = some w) : x = some w ∧ acat w = 1 := by
  rcases x with _ | v | v | v
  · cases h
  · cases h; exact ⟨rfl, rfl⟩
  · cases h
  · cases h; exact ⟨rfl, rfl⟩
theorem aset_1 {la la' : aL} {i : Nat} {v : aV} (hc : acat v = 1) (ha : aset la i v = some la') : i < la.length ∧ la'.length = la.length ∧ ∀ (k : Nat) (w : aV), la'[k]? = some (some w) → (k = i ∧ w = v) ∨ (k ≠ i ∧ la[k]? = some (some w) ∧ (k + 1 = i → acat w = 1)) := by
  cases i with
  | zero =>
    have e : (bif Nat.blt 0 la.length then some (la.set 0 (some v)) else none) = some la' := by
      rcases v with v | v | v
      · exact ha
      · cases hc
      · exact ha
    cases hg : Nat.blt 0 la.length <;> rw [hg] at e <;> cases e
    have hl : 0 < la.length := Nat.le_of_ble_eq_true hg
    refine ⟨hl, by simp, fun k w hk => ?_⟩
    by_cases h0 : k = 0
    · subst h0
      simp [hl] at hk
      exact Or.inl ⟨rfl, hk.symm⟩
    · rw [List.getElem?_set_ne (by omega)] at hk
      exact Or.inr ⟨h0, hk, fun q => by omega⟩
  | succ j =>
    have e : (bif Nat.blt (j + 1) la.length then some ((amod la j).set (j + 1) (some v)) else none) = some la' := by
      rcases v with v | v | v
      · exact ha
      · cases hc
      · exact ha
    cases hg : Nat.blt (j + 1) la.length <;> rw [hg] at e <;> cases e
    have hl : j + 1 < la.length := Nat.le_of_ble_eq_true hg
    refine ⟨hl, by simp [amod_length], fun k w hk => ?_⟩
    by_cases h0 : k = j + 1
    · subst h0
      simp [amod_length, hl] at hk
      exact Or.inl ⟨rfl, hk.symm⟩
    · rw [List.getElem?_set_ne (by omega), amod_get] at hk
      by_cases h1 : k = j
      · rw [if_pos h1] at hk
        cases hx : la[k]? with
        | none => rw [hx] at hk; cases hk
        | some x =>
          rw [hx] at hk
          obtain ⟨e1, e2⟩ := acl_some (Option.some.inj hk)
          subst e1
          exact Or.inr ⟨h0, rfl, fun _ => e2⟩
      · rw [if_neg h1] at hk
        exact Or.inr ⟨h0, hk, fun q => by omega⟩
theorem aset_2 {la la' : aL} {i : Nat} {x : Int} (ha : aset la i (.inr (.inl x)) = some la') : i + 1 < la.length ∧ la'.length = la.length ∧ ∀ (k : Nat) (w : aV), la'[k]? = some (some w) → (k = i ∧ w = .inr (.inl x)) ∨ (k ≠ i ∧ k ≠ i + 1 ∧ la[k]? = some (some w) ∧ (k + 1 = i → acat w = 1)) := by
  cases i with
  | zero =>
    have e : (bif Nat.blt 1 la.length then some ((la.set 0 (some (.inr (.inl x)))).set 1 none) else none) = some la' := ha
    cases hg : Nat.blt 1 la.length <;> rw [hg] at e <;> cases e
    have hl : 1 < la.length := Nat.le_of_ble_eq_true hg
    refine ⟨hl, by simp, fun k w hk => ?_⟩
    by_cases h1 : k = 1
    · subst h1
      simp [hl] at hk
    · rw [List.getElem?_set_ne (by omega)] at hk
      by_cases h0 : k = 0
      · subst h0
        rw [List.getElem?_set_self (by omega)] at hk
        exact Or.inl ⟨rfl, (Option.some.inj (Option.some.inj hk)).symm⟩
      · rw [List.getElem?_set_ne (by omega)] at hk
        exact Or.inr ⟨h0, h1, hk, fun q => by omega⟩
  | succ j =>
    have e : (bif Nat.blt (j + 2) la.length then some (((amod la j).set (j + 1) (some (.inr (.inl x)))).set (j + 2) none) else none) = some la' := ha
    cases hg : Nat.blt (j + 2) la.length <;> rw [hg] at e <;> cases e
    have hl : j + 2 < la.length := Nat.le_of_ble_eq_true hg
    refine ⟨hl, by simp [amod_length], fun k w hk => ?_⟩
    by_cases h1 : k = j + 2
    · subst h1
      simp [amod_length, hl] at hk
    · rw [List.getElem?_set_ne (by omega)] at hk
      by_cases h0 : k = j + 1
      · subst h0
        rw [List.getElem?_set_self (by rw [amod_length]; omega)] at hk
        exact Or.inl ⟨rfl, (Option.some.inj (Option.some.inj hk)).symm⟩
      · rw [List.getElem?_set_ne (by omega), amod_get] at hk
        by_cases h2 : k = j
        · rw [if_pos h2] at hk
          cases hx : la[k]? with
          | none => rw [hx] at hk; cases hk
          | some y =>
            rw [hx] at hk
            obtain ⟨e1, e2⟩ := acl_some (Option.some.inj hk)
            subst e1
            exact Or.inr ⟨h0, h1, rfl, fun _ => e2⟩
        · rw [if_neg h2] at hk
          exact Or.inr ⟨h0, h1, hk, fun q => by omega⟩
theorem lrl_1 {b : Nat} {ex : Nat → Int} {lv : List (Nat × Value)} {la la' : aL} {i : Nat} {v : aV} {cv : Value} (h : lrl b ex lv la) (hc : acat v = 1) (ha : aset la i v = some la') (hv : cvv b ex cv v) : lrl b ex ((i, cv) :: lv.filter (fun q => !(q.1 == i) && !(q.1 + 1 == i && q.2.category == 2))) la' := by
  intro k w hk
  rcases (aset_1 hc ha).2.2 k w hk with ⟨rfl, rfl⟩ | ⟨h1, h2, h3⟩
  · exact ⟨cv, List.mem_cons_self, hv⟩
  · obtain ⟨cw, m1, m2⟩ := h k w h2
    refine ⟨cw, List.mem_cons_of_mem _ (List.mem_filter.mpr ⟨m1, ?_⟩), m2⟩
    rw [cvv_cat m2]
    by_cases e : k + 1 = i
    · rw [h3 e]; simp [h1]
    · simp [h1, e]
theorem lrl_2 {b : Nat} {ex : Nat → Int} {lv : List (Nat × Value)} {la la' : aL} {i : Nat} {x : Int} {cv : Value} (h : lrl b ex lv la) (ha : aset la i (.inr (.inl x)) = some la') (hv : cvv b ex cv (.inr (.inl x))) : lrl b ex ((i, cv) :: lv.filter (fun q => !(q.1 == i) && (!(q.1 == i + 1) && !(q.1 + 1 == i && q.2.category == 2)))) la' := by
  intro k w hk
  rcases (aset_2 ha).2.2 k w hk with ⟨rfl, rfl⟩ | ⟨h1, h1', h2, h3⟩
  · exact ⟨cv, List.mem_cons_self, hv⟩
  · obtain ⟨cw, m1, m2⟩ := h k w h2
    refine ⟨cw, List.mem_cons_of_mem _ (List.mem_filter.mpr ⟨m1, ?_⟩), m2⟩
    rw [cvv_cat m2]
    by_cases e : k + 1 = i
    · rw [h3 e]; simp [h1, h1']
    · simp [h1, h1', e]
theorem agt_some {la : aL} {i : Nat} {v : aV} (h : agt la i = some v) : la[i]? = some (some v) := by
  unfold agt at h
  split at h
  · rename_i w hw
    cases h
    exact hw
  · cases h
theorem lrel_at {b : Nat} {ex : Nat → Int} {n : Nat} {ls : Array Slot} {la : aL} {i : Nat} {v : aV} (h : lrel b ex n ls la) (hg : agt la i = some v) : ∃ cv, ls[i]? = some (.val cv) ∧ cvv b ex cv v := by
  obtain ⟨-, lv, h1, h2⟩ := h
  obtain ⟨cv, m1, m2⟩ := h2 i v (agt_some hg)
  exact ⟨cv, h1.2.2 (i, cv) m1, m2⟩
theorem cvv_i {b : Nat} {ex : Nat → Int} {cv : Value} {x : Int} (h : cvv b ex cv (.inl x)) : ∃ i : Int32, cv = .int i ∧ x = i.toInt := by
  cases cv <;> first | exact ⟨_, rfl, Sum.inl.inj h⟩ | cases h
theorem cvv_j {b : Nat} {ex : Nat → Int} {cv : Value} {x : Int} (h : cvv b ex cv (.inr (.inl x))) : ∃ i : Int64, cv = .long i ∧ x = i.toInt := by
  cases cv <;> first | exact ⟨_, rfl, Sum.inl.inj (Sum.inr.inj h)⟩ | cases h
theorem cvv_r {b : Nat} {ex : Nat → Int} {cv : Value} {x : Int} (h : cvv b ex cv (.inr (.inr x))) : cv = .null ∨ ∃ a : Nat, cv = .ref a := by
  cases cv <;> first | exact Or.inl rfl | exact Or.inr ⟨_, rfl⟩ | cases h
section SLoc
variable {p : Program} {l : Launch} {e : Env} {R : Room} {s : State} {m : MethodId} {args : Array Value} {below : List Frame} {meth : Method} {c : Code} {H : Heap} {locs : List Loc} {cells slots : Nat} {Q : State → Prop}
variable {cc : ByteArray} {pc nL : Nat} {ls : Array Slot} {b : Nat} {ex : Nat → Int}
set_option maxHeartbeats 4000000 in
theorem s_alo (hx : p.tables.exec = Jvm.exec) (hb : c.code = cc) {i : Instr} {st : List Value} {sa sa' : List aV} {la la' : aL} (hd : decode cc pc = .ok (i, ilen i)) (ha : alo i la sa = some (la', sa')) (hs : srel b ex st sa) (hl : lrel b ex nL ls la)
    (kk : ∀ ls' st', lrel b ex nL ls' la' → srel b ex st' sa' → W p l e R s m args below meth c H locs cells slots Q (F0 m (pc + ilen i) ls' st')) : W p l e R s m args below meth c H locs cells slots Q (F0 m pc ls st) := by
  cases i
  case iload n =>
    cases h0 : aldI la n sa with
    | none => simp only [alo, h0, Option.map_none] at ha; cases ha
    | some r0 =>
      simp only [alo, h0, Option.map_some] at ha
      cases ha
      unfold aldI at h0
      split at h0
      · rename_i x hg
        cases h0
        obtain ⟨cv, g1, g2⟩ := lrel_at hl hg
        obtain ⟨i, rfl, rfl⟩ := cvv_i g2
        exact lv_iload hx hb hd g1 (kk _ _ hl ⟨g2, hs⟩)
      · cases h0
  case iload_n n =>
    cases h0 : aldI la n sa with
    | none => simp only [alo, h0, Option.map_none] at ha; cases ha
    | some r0 =>
      simp only [alo, h0, Option.map_some] at ha
      cases ha
      unfold aldI at h0
      split at h0
      · rename_i x hg
        cases h0
        obtain ⟨cv, g1, g2⟩ := lrel_at hl hg
        obtain ⟨i, rfl, rfl⟩ := cvv_i g2
        exact lv_iload_n hx hb hd rfl g1 (kk _ _ hl ⟨g2, hs⟩)
      · cases h0
  case istore n =>
    obtain ⟨hn, lv, hlv, hrl⟩ := hl
    rcases sa with _ | ⟨v1 | v1 | v1, r⟩ <;> try (cases ha; done)
    simp only [alo, astI] at ha
    split at ha
    · rename_i l1 h1
      cases ha
      obtain ⟨j, st0, rfl, rfl, hs'⟩ := srel_i hs
      exact lv_istore hx hb hd hlv (by rw [← hn]; exact (aset_1 rfl h1).1) rfl (fun ls' hls => kk ls' _ ⟨(aset_1 rfl h1).2.1.trans hn, _, hls, lrl_1 hrl rfl h1 hs.1⟩ hs')
    · cases ha
  case istore_n n =>
    obtain ⟨hn, lv, hlv, hrl⟩ := hl
    rcases sa with _ | ⟨v1 | v1 | v1, r⟩ <;> try (cases ha; done)
    simp only [alo, astI] at ha
    split at ha
    · rename_i l1 h1
      cases ha
      obtain ⟨j, st0, rfl, rfl, hs'⟩ := srel_i hs
      exact lv_istore_n hx hb hd rfl hlv (by rw [← hn]; exact (aset_1 rfl h1).1) rfl (fun ls' hls => kk ls' _ ⟨(aset_1 rfl h1).2.1.trans hn, _, hls, lrl_1 hrl rfl h1 hs.1⟩ hs')
    · cases ha
  case lload n =>
    cases h0 : aldJ la n sa with
    | none => simp only [alo, h0, Option.map_none] at ha; cases ha
    | some r0 =>
      simp only [alo, h0, Option.map_some] at ha
      cases ha
      unfold aldJ at h0
      split at h0
      · rename_i x hg
        cases h0
        obtain ⟨cv, g1, g2⟩ := lrel_at hl hg
        obtain ⟨i, rfl, rfl⟩ := cvv_j g2
        exact lv_lload hx hb hd g1 (kk _ _ hl ⟨g2, hs⟩)
      · cases h0
  case lload_n n =>
    cases h0 : aldJ la n sa with
    | none => simp only [alo, h0, Option.map_none] at ha; cases ha
    | some r0 =>
      simp only [alo, h0, Option.map_some] at ha
      cases ha
      unfold aldJ at h0
      split at h0
      · rename_i x hg
        cases h0
        obtain ⟨cv, g1, g2⟩ := lrel_at hl hg
        obtain ⟨i, rfl, rfl⟩ := cvv_j g2
        exact lv_lload_n hx hb hd rfl g1 (kk _ _ hl ⟨g2, hs⟩)
      · cases h0
  case lstore n =>
    obtain ⟨hn, lv, hlv, hrl⟩ := hl
    rcases sa with _ | ⟨v1 | v1 | v1, r⟩ <;> try (cases ha; done)
    simp only [alo, astJ] at ha
    split at ha
    · rename_i l1 h1
      cases ha
      obtain ⟨j, st0, rfl, rfl, hs'⟩ := srel_j hs
      exact lv_lstore hx hb hd hlv (by rw [← hn]; exact (aset_2 h1).1) rfl (fun ls' hls => kk ls' _ ⟨(aset_2 h1).2.1.trans hn, _, hls, lrl_2 hrl h1 hs.1⟩ hs')
    · cases ha
  case lstore_n n =>
    obtain ⟨hn, lv, hlv, hrl⟩ := hl
    rcases sa with _ | ⟨v1 | v1 | v1, r⟩ <;> try (cases ha; done)
    simp only [alo, astJ] at ha
    split at ha
    · rename_i l1 h1
      cases ha
      obtain ⟨j, st0, rfl, rfl, hs'⟩ := srel_j hs
      exact lv_lstore_n hx hb hd rfl hlv (by rw [← hn]; exact (aset_2 h1).1) rfl (fun ls' hls => kk ls' _ ⟨(aset_2 h1).2.1.trans hn, _, hls, lrl_2 hrl h1 hs.1⟩ hs')
    · cases ha
  case aload n =>
    cases h0 : aldR la n sa with
    | none => simp only [alo, h0, Option.map_none] at ha; cases ha
    | some r0 =>
      simp only [alo, h0, Option.map_some] at ha
      cases ha
      unfold aldR at h0
      split at h0
      · rename_i x hg
        cases h0
        obtain ⟨cv, g1, g2⟩ := lrel_at hl hg
        rcases cvv_r g2 with rfl | ⟨a, rfl⟩
        · exact lv_aloadN hx hb hd g1 (kk _ _ hl ⟨g2, hs⟩)
        · exact lv_aload hx hb hd g1 (kk _ _ hl ⟨g2, hs⟩)
      · cases h0
  case aload_n n =>
    cases h0 : aldR la n sa with
    | none => simp only [alo, h0, Option.map_none] at ha; cases ha
    | some r0 =>
      simp only [alo, h0, Option.map_some] at ha
      cases ha
      unfold aldR at h0
      split at h0
      · rename_i x hg
        cases h0
        obtain ⟨cv, g1, g2⟩ := lrel_at hl hg
        rcases cvv_r g2 with rfl | ⟨a, rfl⟩
        · exact lv_aload_nN hx hb hd rfl g1 (kk _ _ hl ⟨g2, hs⟩)
        · exact lv_aload_n hx hb hd rfl g1 (kk _ _ hl ⟨g2, hs⟩)
      · cases h0
  case astore n =>
    obtain ⟨hn, lv, hlv, hrl⟩ := hl
    rcases sa with _ | ⟨v1 | v1 | v1, r⟩ <;> try (cases ha; done)
    simp only [alo, astR] at ha
    split at ha
    · rename_i l1 h1
      cases ha
      obtain ⟨v, st0, rfl, hv, hs'⟩ := srel_r hs
      rcases cvv_r hs.1 with rfl | ⟨a, rfl⟩
      · exact lv_astoreN hx hb hd hlv (by rw [← hn]; exact (aset_1 rfl h1).1) rfl (fun ls' hls => kk ls' _ ⟨(aset_1 rfl h1).2.1.trans hn, _, hls, lrl_1 hrl rfl h1 hs.1⟩ hs')
      · exact lv_astore hx hb hd hlv (by rw [← hn]; exact (aset_1 rfl h1).1) rfl (fun ls' hls => kk ls' _ ⟨(aset_1 rfl h1).2.1.trans hn, _, hls, lrl_1 hrl rfl h1 hs.1⟩ hs')
    · cases ha
  case astore_n n =>
    obtain ⟨hn, lv, hlv, hrl⟩ := hl
    rcases sa with _ | ⟨v1 | v1 | v1, r⟩ <;> try (cases ha; done)
    simp only [alo, astR] at ha
    split at ha
    · rename_i l1 h1
      cases ha
      obtain ⟨v, st0, rfl, hv, hs'⟩ := srel_r hs
      rcases cvv_r hs.1 with rfl | ⟨a, rfl⟩
      · exact lv_astore_nN hx hb hd rfl hlv (by rw [← hn]; exact (aset_1 rfl h1).1) rfl (fun ls' hls => kk ls' _ ⟨(aset_1 rfl h1).2.1.trans hn, _, hls, lrl_1 hrl rfl h1 hs.1⟩ hs')
      · exact lv_astore_n hx hb hd rfl hlv (by rw [← hn]; exact (aset_1 rfl h1).1) rfl (fun ls' hls => kk ls' _ ⟨(aset_1 rfl h1).2.1.trans hn, _, hls, lrl_1 hrl rfl h1 hs.1⟩ hs')
    · cases ha
  case iinc n k =>
    obtain ⟨hn, lv, hlv, hrl⟩ := hl
    cases h0 : ainc la n k with
    | none => simp only [alo, h0, Option.map_none] at ha; cases ha
    | some r0 =>
      simp only [alo, h0, Option.map_some] at ha
      cases ha
      unfold ainc at h0
      split at h0
      · rename_i x hg
        obtain ⟨cv, m1, m2⟩ := hrl n _ (agt_some hg)
        obtain ⟨i, rfl, rfl⟩ := cvv_i m2
        obtain ⟨q, hq⟩ := List.mem_iff_getElem?.mp m1
        have hz : cvv b ex (.int (i + Int32.ofInt k)) (.inl (w32 (i.toInt + k))) := by
          show _ = _
          rw [w32, Int32.ofInt_add, Int32.ofInt_toInt]
        exact lv_iinc hx hb hd hlv hq rfl (by rw [← hn]; exact (aset_1 rfl h0).1) rfl (fun ls' hls => kk ls' _ ⟨(aset_1 rfl h0).2.1.trans hn, _, hls, lrl_1 hrl rfl h0 hz⟩ hs)
      · cases h0
  all_goals cases ha
end SLoc
