/-! The heap. -/
def nestW : List Cond := tables_1.filter (fun w => match w with
  | .methodLinkNest _ _ _ _ => true
  | _ => false)
def strW : List (String × Nat × Int) := [(RX4, 41, -10), (RX4, 77, -11)]
def tysG (ga : Nat → ClassId) : List (ClassId × FieldType) := [(ga 100, .int), (ga 101, .long), (ga 102, .byte), (ga 103, .boolean), (ga 104, .object "WordMill$State")]
def wld (G : va_G) (ga : Nat → ClassId) (b : Nat) (ex : Nat → Int) (U : State) : Prop := va_K G vwCl (tysG ga) U ∧ va_AO "WordMill$State" U ∧ (∀ w ∈ nestW, va_Nw w U) ∧ ∀ t ∈ strW, ∃ (tx : String) (q : Nat), vk_R t.1 t.2.1 tx q U ∧ q < b ∧ ex q = t.2.2
def scrP (b : Nat) (ex : Nat → Int) (xs : List Int) (U : State) (H : Heap) : Prop := ∀ a, a < b → ex a = -2 → va_X a xs.length (fun j => Int32.ofInt (xs.getD j 0)) U H
theorem wld.warm {G : va_G} {ga : Nat → ClassId} {b : Nat} {ex : Nat → Int} {s U : State} (hW : s.WarmedH U.vm) (h : wld G ga b ex s) : wld G ga b ex U := by
  obtain ⟨h1, h2, h3, h4⟩ := h
  refine ⟨va_K.moved hW.alike h1, va_AO.moved hW.alike h2, fun w hw => ?_, fun t ht => ?_⟩
  · have hz := h3 w hw
    obtain ⟨-, hm⟩ := List.mem_filter.mp hw
    cases w <;> first | exact va_Nw.warmM hW hz | cases hm
  · obtain ⟨tx, q, k1, k2, k3⟩ := h4 t ht
    exact ⟨tx, q, vk_R.warm hW k1, k2, k3⟩
theorem scrP.warm {b : Nat} {ex : Nat → Int} {xs : List Int} {s U : State} {H : Heap} (hW : s.WarmedH U.vm) (h : scrP b ex xs s H) : scrP b ex xs U H := fun a h1 h2 => (h a h1 h2).moved hW.alike
theorem scrP.kept {b : Nat} {ex : Nat → Int} {xs : List Int} {s : State} {H H1 : Heap} (hq : ∀ q, q < b → H1[q]? = H[q]?) (h : scrP b ex xs s H) : scrP b ex xs s H1 := fun a h1 h2 => (h a h1 h2).kept (hq a h1)
theorem aok_iff {κ : aK} {x : Int} {code : Nat} (h : aok κ x code = true) : 0 ≤ x ∧ x.toNat < κ.1 ∧ (κ.2.2 x.toNat).1 = code := by
  simp only [aok, Bool.and_eq_true, decide_eq_true_eq] at h
  exact ⟨h.1, h.2.1, Nat.eq_of_beq_eq_true h.2.2⟩
theorem ain_iff {κ : aK} {x : Int} {code : Nat} {i : Int} (h : ain κ x code i = true) : (0 ≤ x ∧ x.toNat < κ.1 ∧ (κ.2.2 x.toNat).1 = code) ∧ 0 ≤ i ∧ i.toNat < (κ.2.2 x.toNat).2 := by
  simp only [ain, Bool.and_eq_true, decide_eq_true_eq] at h
  exact ⟨aok_iff h.1, h.2.1, h.2.2⟩
theorem hrel_obj {G : va_G} {ga : Nat → ClassId} {b : Nat} {ex : Nat → Int} {h : aH} {H : Heap} {x : Int} {code : Nat} (hh : hrel G ga b ex h H) (hk : aok h.1 x code = true) (hc : code < 100) : ∃ cell, H[b + x.toNat]? = some cell ∧ celO G b ex (code, (h.1.2.2 x.toNat).2) (h.2 x.toNat) cell := by
  obtain ⟨h1, h2, h3⟩ := aok_iff hk
  obtain ⟨cell, c1, ⟨-, c2⟩ | ⟨c2, -⟩⟩ := hh.2 _ h2
  · rw [show h.1.2.2 x.toNat = (code, (h.1.2.2 x.toNat).2) by rw [← h3]] at c2
    exact ⟨cell, c1, c2⟩
  · rw [h3] at c2; omega
theorem hrel_arr {G : va_G} {ga : Nat → ClassId} {b : Nat} {ex : Nat → Int} {h : aH} {H : Heap} {x : Int} {code : Nat} (hh : hrel G ga b ex h H) (hk : aok h.1 x code = true) (hc : 100 ≤ code) : code ≤ 104 ∧ aln h.1 x ≤ 1000000 ∧ ∃ f : Nat → Value, H[b + x.toNat]? = some (arrV (ga code) (aln h.1 x) f) ∧ ∀ j, j < aln h.1 x → cvv b ex (f j) (atg (elt code) (h.2 x.toNat j)) := by
  obtain ⟨h1, h2, h3⟩ := aok_iff hk
  obtain ⟨cell, c1, ⟨c2, -⟩ | ⟨-, c2, c3, f, c4, c5⟩⟩ := hh.2 _ h2
  · rw [h3] at c2; omega
  · rw [h3] at c2 c4 c5
    subst c4
    exact ⟨c2, c3, f, c1, c5⟩
theorem hrel_put {G : va_G} {ga : Nat → ClassId} {b : Nat} {ex : Nat → Int} {κ : aK} {D D' : Nat → Nat → Int} {H H' : Heap} {r : Nat} (hh : hrel G ga b ex (κ, D) H) (hr : r < κ.1) (hD : ∀ q, q ≠ r → D' q = D q) (hz : H'.size = H.size) (ho : ∀ q, q ≠ b + r → H'[q]? = H[q]?) (hc : ∃ cell, H'[b + r]? = some cell ∧ cel G ga b ex (κ.2.2 r) (D' r) cell) : hrel G ga b ex (κ, D') H' := by
  refine ⟨hz.trans hh.1, fun q hq => ?_⟩
  by_cases e : q = r
  · subst e
    exact hc
  · obtain ⟨cell, c1, c2⟩ := hh.2 q hq
    refine ⟨cell, by rw [ho _ (by omega)]; exact c1, ?_⟩
    show cel G ga b ex (κ.2.2 q) (D' q) cell
    rw [hD q e]
    exact c2
theorem aup_ne {D : Nat → Nat → Int} {r k : Nat} {v : Int} {q : Nat} (h : q ≠ r) : aup D r k v q = D q := by
  funext j
  simp [aup, h]
theorem aup_self (D : Nat → Nat → Int) (r k : Nat) (v : Int) (j : Nat) : aup D r k v r j = if j = k then v else D r j := by simp [aup]
def clsOK (Ts : List Cond) : Prop := ∀ (ci : Nat) (q : vw_C), vwCl[ci]? = some q → (∀ w ∈ u_ws q.1 q.2.1 q.2.2, w ∈ Ts) ∧ (∀ k, k < q.2.2 → parseFieldDescriptor (q.2.1 k).2.2.1 = some (tyA ci k)) ∧ (∀ a, a < q.2.2 → ∀ b, b < q.2.2 → a ≠ b → (q.2.1 a).2.1 ≠ (q.2.1 b).2.1) ∧ ∀ k, k < q.2.2 → ftc (tyA ci k) ≠ 9
section SHeap
variable {p : Program} {l : Launch} {e : Env} {R : Room} {s : State} {m : MethodId} {args : Array Value} {below : List Frame} {meth : Method} {c : Code} {H : Heap} {locs : List Loc} {cells slots : Nat} {Q : State → Prop}
variable {cc : ByteArray} {pc : Nat} {ls : Array Slot} {b : Nat} {ex : Nat → Int} {G : va_G} {ga : Nat → ClassId} {Ts : List Cond} {own : String} {rest : List Value}
theorem s_get (hx : p.tables.exec = Jvm.exec) (hb : c.code = cc) (hts : ∀ w ∈ Ts, w.before args s = true) (hC : clsOK Ts) (hown : s.vm.findClass own = some m.cls) (hw : wld G ga b ex s) {h : aH} (hh : hrel G ga b ex h H) {x : Int} {a k idx : Nat} {q : vw_C} (hq : vwCl[a]? = some q) (hk : k < q.2.2) (ha : a < 100) (hlink : Cond.fieldLink own idx (q.2.1 k).1 (q.2.1 k).2.1 (q.2.1 k).2.2.1 ∈ Ts) (hok : aok h.1 x a = true) (hd : decode cc pc = .ok (.getfield idx, 3))
    (kk : ∀ v, cvv b ex v (atg (ftc (tyA a k)) (h.2 x.toNat k)) → W p l e R s m args below meth c H locs cells slots Q (F0 m (pc + 3) ls (v :: rest))) : W p l e R s m args below meth c H locs cells slots Q (F0 m pc ls (.ref (b + x.toNat) :: rest)) := by
  obtain ⟨cell, q1, r, hr, -, q2, q3, q4⟩ := hrel_obj hh hok ha
  have er : r = q := Option.some.inj (hr.symm.trans hq)
  subst er
  obtain ⟨C1, C2, C3, C4⟩ := hC a r hq
  obtain ⟨v, v1, v2⟩ := q4 k hk
  obtain ⟨hS, hfc, kC, hkC, hkind⟩ := hw.1.1 a _ hq
  obtain ⟨cf, kf, fi, f, hi, hsl⟩ := hS k hk
  refine W.getf hx hb hown (hts _ hlink) hi (u_facts hfc hkC (u_lays hts C1 hk) hi).1 q1 (by rw [q3]; exact fun h => by cases h) (v := v) ?_ rfl rfl hd (kk v v2)
  rw [hsl]
  exact v1
theorem s_put (hx : p.tables.exec = Jvm.exec) (hb : c.code = cc) (hts : ∀ w ∈ Ts, w.before args s = true) (hC : clsOK Ts) (hown : s.vm.findClass own = some m.cls) (hw : wld G ga b ex s) {h : aH} (hh : hrel G ga b ex h H) {x : Int} {a k idx : Nat} {q : vw_C} (hq : vwCl[a]? = some q) (hk : k < q.2.2) (ha : a < 100) (hlink : Cond.fieldLink own idx (q.2.1 k).1 (q.2.1 k).2.1 (q.2.1 k).2.2.1 ∈ Ts) (hfin : (q.2.1 k).2.2.2 = false ∨ ((q.2.1 k).2.2.2 = true ∧ meth.name = "<init>" ∧ (q.2.1 k).1 = own)) (hok : aok h.1 x a = true) {v : Value} {y : Int} (hv : cvv b ex v (atg (ftc (tyA a k)) y)) (hn : narrow (tyA a k) v = v) (hfit : fits (tyA a k) v = true) (hlo : ∀ z ∈ locs, b ≤ z.base) (hd : decode cc pc = .ok (.putfield idx, 3))
    (kk : ∀ H' locs', hrel G ga b ex (h.1, aup h.2 x.toNat k y) H' → (∀ z, z < b → H'[z]? = H[z]?) → (∀ z ∈ locs', b ≤ z.base) → W p l e R s m args below meth c H' locs' cells slots Q (F0 m (pc + 3) ls rest)) : W p l e R s m args below meth c H locs cells slots Q (F0 m pc ls (v :: .ref (b + x.toNat) :: rest)) := by
  obtain ⟨cell, q1, r, hr, hN, q2, q3, q4⟩ := hrel_obj hh hok ha
  have er : r = q := Option.some.inj (hr.symm.trans hq)
  subst er
  obtain ⟨C1, C2, C3, C4⟩ := hC a r hq
  have hap := va_apart (own := own) hts C1 (tyA a) C2 C3 hw.1 hq
  obtain ⟨hS, hfc, kC, hkC, hkind⟩ := hw.1.1 a _ hq
  obtain ⟨cf, kf, fi, f, hi, hsl⟩ := hS k hk
  have hst := (u_facts hfc hkC (u_lays hts C1 hk) hi).1
  have hlay := hts _ (C1 _ (u_in_lay hk))
  have hsz : G.2 a k < cell.slots.size := k2_hasslot (q4 k hk).choose_spec.1
  have hV : ∀ j, j < r.2.2 → cell.slots[G.2 a j]? = some ((fun j => (cell.slots[G.2 a j]?).getD .null) j) := fun j hj => by
    obtain ⟨w, w1, -⟩ := q4 j hj
    show _ = some ((cell.slots[G.2 a j]?).getD .null)
    rw [w1]; rfl
  have fin : ∀ H' : Heap, H'[b + x.toNat]? = some (cell.setSlot f.slot v) → H'.size = H.size → (∀ z, z ≠ b + x.toNat → H'[z]? = H[z]?) → W p l e R s m args below meth c H' (locs ++ [⟨b + x.toNat, f.slot⟩]) cells slots Q (F0 m (pc + 3) ls rest) := by
    intro H' e1 e2 e3
    rw [hsl] at e1 ⊢
    obtain ⟨k1, k2, k3⟩ := aok_iff hok
    refine kk H' _ (hrel_put hh k2 (fun z hz => aup_ne hz) e2 e3 ⟨_, e1, Or.inl ⟨by rw [k3]; exact ha, r, by rw [k3]; exact hq, by rw [← hN], by rw [k3]; exact q2, q3, fun j hj => ?_⟩⟩) (fun z hz => e3 z (by omega)) (fun z hz => ?_)
    · rw [k3]
      refine ⟨_, t_set hV hap hk v j hj, ?_⟩
      show cvv b ex (updV _ k v j) (atg _ (aup h.2 x.toNat k y x.toNat j))
      rw [aup_self]
      unfold updV
      by_cases ej : j = k
      · subst ej
        rw [if_pos rfl, if_pos rfl]; exact hv
      · rw [if_neg ej, if_neg ej]
        obtain ⟨w, w1, w2⟩ := q4 j hj
        show cvv b ex ((cell.slots[G.2 a j]?).getD .null) _
        rw [w1]
        exact w2
    · rcases List.mem_append.mp hz with hz | hz
      · exact hlo z hz
      · rw [List.mem_singleton.mp hz]; exact Nat.le_add_right _ _
  rcases hfin with hfin | ⟨hfin, hin2, hdecl⟩
  · unfold u_lay at hlay
    rw [if_neg (by rw [hfin]; decide)] at hlay
    have h6 := u_store hfc hkC hkind hlay hi (C2 k hk) hn hfit
    exact W.putK hx hb (f := f) ⟨hown, hts _ hlink, ⟨_, _, _, hi⟩, hst⟩ (by rw [q2]; exact h6) q1 q3 (by rw [hsl]; exact hsz) rfl rfl hd fin
  · unfold u_lay at hlay
    rw [if_pos hfin] at hlay
    have hcf : m.cls = cf := by
      obtain ⟨_, _, c', _, _, _, -, -, hf', -, -, -, hown2, -⟩ := Cond.laysFinal_spec hlay
      have e1 : c' = cf := by have := hi.symm.trans hf'; simp at this; exact this.1.symm
      rw [hdecl] at hown2
      rw [← e1]; exact Option.some.inj (hown.symm.trans hown2)
    have h6 := u_fits hfc hkC hkind (Or.inr hlay) hi (C2 k hk) hn hfit
    exact W.putFinK hx hb hown (hts _ hlink) hi hst hcf hin2 (by rw [q2]; exact h6) q1 q3 (by rw [hsl]; exact hsz) rfl rfl hd fin
end SHeap
