/-! Arrays, new cells. -/
theorem hrel_new {G : va_G} {ga : Nat → ClassId} {b : Nat} {ex : Nat → Int} {h : aH} {H H' : Heap} {kc : Nat × Nat} {dt : Nat → Int} (N : Nat) (hh : hrel G ga b ex h H) (hz : H'.size = H.size + 1) (ho : ∀ q, q < H.size → H'[q]? = H[q]?) (hc : ∃ cell, H'[H.size]? = some cell ∧ cel G ga b ex kc dt cell) : hrel G ga b ex ((h.1.1 + 1, h.1.2.1 + N, fun q => if q = h.1.1 then kc else h.1.2.2 q), fun q j => if q = h.1.1 then dt j else h.2 q j) H' := by
  refine ⟨by rw [hz, hh.1]; rfl, fun q hq => ?_⟩
  have hq : q < h.1.1 + 1 := hq
  by_cases e : q = h.1.1
  · subst e
    obtain ⟨cell, c1, c2⟩ := hc
    refine ⟨cell, by rw [← hh.1]; exact c1, ?_⟩
    simp only [if_true]
    exact c2
  · obtain ⟨cell, c1, c2⟩ := hh.2 q (by omega)
    refine ⟨cell, by rw [ho _ (by rw [hh.1]; omega)]; exact c1, ?_⟩
    simp only [if_neg e]
    exact c2
theorem tysG_at (ga : Nat → ClassId) {t : Nat} (h1 : 100 ≤ t) (h2 : t ≤ 104) : (tysG ga)[t - 100]? = some (ga t, ety t) := by
  have : t = 100 ∨ t = 101 ∨ t = 102 ∨ t = 103 ∨ t = 104 := by omega
  rcases this with rfl | rfl | rfl | rfl | rfl <;> rfl
theorem am_idx {i : Int32} {n : Nat} (h1 : 0 ≤ i.toInt) (h2 : i.toInt.toNat < n) : ¬ (i < 0 ∨ n ≤ i.toNatClampNeg) := by
  rintro (h | h)
  · have := Int32.lt_iff_toInt_lt.mp h
    have e : (0 : Int32).toInt = 0 := rfl
    omega
  · have : n ≤ i.toInt.toNat := h
    omega
theorem upd_rel {b : Nat} {ex : Nat → Int} {f : Nat → Value} {D : Nat → Nat → Int} {r k n t : Nat} {v : Value} {y : Int} (h : ∀ j, j < n → cvv b ex (f j) (atg t (D r j))) (hv : cvv b ex v (atg t y)) : ∀ j, j < n → cvv b ex (updV f k v j) (atg t (aup D r k y r j)) := by
  intro j hj
  rw [aup_self]
  unfold updV
  by_cases ej : j = k
  · rw [if_pos ej, if_pos ej]; exact hv
  · rw [if_neg ej, if_neg ej]; exact h j hj
section SArr
variable {p : Program} {l : Launch} {e : Env} {R : Room} {s : State} {m : MethodId} {args : Array Value} {below : List Frame} {meth : Method} {c : Code} {H : Heap} {locs : List Loc} {cells slots : Nat} {Q : State → Prop}
variable {cc : ByteArray} {pc : Nat} {ls : Array Slot} {b : Nat} {ex : Nat → Int} {G : va_G} {ga : Nat → ClassId} {Ts : List Cond} {own : String} {rest : List Value}
theorem s_iald (hx : p.tables.exec = Jvm.exec) (hb : c.code = cc) (hw : wld G ga b ex s) {h : aH} (hh : hrel G ga b ex h H) {x : Int} {j : Int32} (hok : ain h.1 x 100 j.toInt = true) (hd : decode cc pc = .ok (.iaload, 1))
    (kk : ∀ v, cvv b ex v (atg (elt 100) (h.2 x.toNat j.toInt.toNat)) → W p l e R s m args below meth c H locs cells slots Q (F0 m (pc + 1) ls (v :: rest))) : W p l e R s m args below meth c H locs cells slots Q (F0 m pc ls (.int j :: .ref (b + x.toNat) :: rest)) := by
  obtain ⟨k1, k2, k3⟩ := ain_iff hok
  simp only [ain, Bool.and_eq_true] at hok
  obtain ⟨a1, a2, f, a3, a4⟩ := hrel_arr hh hok.1 (by decide)
  have hA := (hw.1.2 _ _ (tysG_at ga (t := 100) (by decide) (by decide))).1 (aln h.1 x) f
  exact W.iald hx hb a3 hA (fun q => by cases q) (by rw [arrV_size]; exact am_idx k2 k3) (arrV_read _ _ k3) rfl rfl hd (kk _ (a4 _ k3))
theorem s_lald (hx : p.tables.exec = Jvm.exec) (hb : c.code = cc) (hw : wld G ga b ex s) {h : aH} (hh : hrel G ga b ex h H) {x : Int} {j : Int32} (hok : ain h.1 x 101 j.toInt = true) (hd : decode cc pc = .ok (.laload, 1))
    (kk : ∀ v, cvv b ex v (atg (elt 101) (h.2 x.toNat j.toInt.toNat)) → W p l e R s m args below meth c H locs cells slots Q (F0 m (pc + 1) ls (v :: rest))) : W p l e R s m args below meth c H locs cells slots Q (F0 m pc ls (.int j :: .ref (b + x.toNat) :: rest)) := by
  obtain ⟨k1, k2, k3⟩ := ain_iff hok
  simp only [ain, Bool.and_eq_true] at hok
  obtain ⟨a1, a2, f, a3, a4⟩ := hrel_arr hh hok.1 (by decide)
  have hA := (hw.1.2 _ _ (tysG_at ga (t := 101) (by decide) (by decide))).1 (aln h.1 x) f
  exact W.lald hx hb a3 hA (fun q => by cases q) (by rw [arrV_size]; exact am_idx k2 k3) (arrV_read _ _ k3) rfl rfl hd (kk _ (a4 _ k3))
theorem s_bald (hx : p.tables.exec = Jvm.exec) (hb : c.code = cc) (hw : wld G ga b ex s) {h : aH} (hh : hrel G ga b ex h H) {x : Int} {j : Int32} (hok : ain h.1 x 102 j.toInt = true) (hd : decode cc pc = .ok (.baload, 1))
    (kk : ∀ v, cvv b ex v (atg (elt 102) (h.2 x.toNat j.toInt.toNat)) → W p l e R s m args below meth c H locs cells slots Q (F0 m (pc + 1) ls (v :: rest))) : W p l e R s m args below meth c H locs cells slots Q (F0 m pc ls (.int j :: .ref (b + x.toNat) :: rest)) := by
  obtain ⟨k1, k2, k3⟩ := ain_iff hok
  simp only [ain, Bool.and_eq_true] at hok
  obtain ⟨a1, a2, f, a3, a4⟩ := hrel_arr hh hok.1 (by decide)
  have hA := (hw.1.2 _ _ (tysG_at ga (t := 102) (by decide) (by decide))).1 (aln h.1 x) f
  exact W.bald hx hb a3 hA (fun q => by cases q) (by rw [arrV_size]; exact am_idx k2 k3) (arrV_read _ _ k3) rfl rfl hd (kk _ (a4 _ k3))
theorem s_zald (hx : p.tables.exec = Jvm.exec) (hb : c.code = cc) (hw : wld G ga b ex s) {h : aH} (hh : hrel G ga b ex h H) {x : Int} {j : Int32} (hok : ain h.1 x 103 j.toInt = true) (hd : decode cc pc = .ok (.baload, 1))
    (kk : ∀ v, cvv b ex v (atg (elt 103) (h.2 x.toNat j.toInt.toNat)) → W p l e R s m args below meth c H locs cells slots Q (F0 m (pc + 1) ls (v :: rest))) : W p l e R s m args below meth c H locs cells slots Q (F0 m pc ls (.int j :: .ref (b + x.toNat) :: rest)) := by
  obtain ⟨k1, k2, k3⟩ := ain_iff hok
  simp only [ain, Bool.and_eq_true] at hok
  obtain ⟨a1, a2, f, a3, a4⟩ := hrel_arr hh hok.1 (by decide)
  have hA := (hw.1.2 _ _ (tysG_at ga (t := 103) (by decide) (by decide))).1 (aln h.1 x) f
  exact W.zald hx hb a3 hA (fun q => by cases q) (by rw [arrV_size]; exact am_idx k2 k3) (arrV_read _ _ k3) rfl rfl hd (kk _ (a4 _ k3))
theorem s_aald (hx : p.tables.exec = Jvm.exec) (hb : c.code = cc) (hw : wld G ga b ex s) {h : aH} (hh : hrel G ga b ex h H) {x : Int} {j : Int32} (hok : ain h.1 x 104 j.toInt = true) (hd : decode cc pc = .ok (.aaload, 1))
    (kk : ∀ v, cvv b ex v (atg (elt 104) (h.2 x.toNat j.toInt.toNat)) → W p l e R s m args below meth c H locs cells slots Q (F0 m (pc + 1) ls (v :: rest))) : W p l e R s m args below meth c H locs cells slots Q (F0 m pc ls (.int j :: .ref (b + x.toNat) :: rest)) := by
  obtain ⟨k1, k2, k3⟩ := ain_iff hok
  simp only [ain, Bool.and_eq_true] at hok
  obtain ⟨a1, a2, f, a3, a4⟩ := hrel_arr hh hok.1 (by decide)
  have hA := (hw.1.2 _ _ (tysG_at ga (t := 104) (by decide) (by decide))).1 (aln h.1 x) f
  exact W.aald hx hb a3 hA rfl (fun q => by cases q) (by rw [arrV_size]; exact am_idx k2 k3) (arrV_read _ _ k3) rfl rfl hd (kk _ (a4 _ k3))
theorem s_iast (hx : p.tables.exec = Jvm.exec) (hb : c.code = cc) (hw : wld G ga b ex s) {h : aH} (hh : hrel G ga b ex h H) {x : Int} {j : Int32} {v : Int32} (hok : ain h.1 x 100 j.toInt = true) (hlo : ∀ z ∈ locs, b ≤ z.base) (hd : decode cc pc = .ok (.iastore, 1))
    (kk : ∀ H' locs', hrel G ga b ex (h.1, aup h.2 x.toNat j.toInt.toNat v.toInt) H' → (∀ z, z < b → H'[z]? = H[z]?) → (∀ z ∈ locs', b ≤ z.base) → W p l e R s m args below meth c H' locs' cells slots Q (F0 m (pc + 1) ls rest)) : W p l e R s m args below meth c H locs cells slots Q (F0 m pc ls (.int v :: .int j :: .ref (b + x.toNat) :: rest)) := by
  obtain ⟨⟨k0, k01, k02⟩, k2, k3⟩ := ain_iff hok
  simp only [ain, Bool.and_eq_true] at hok
  obtain ⟨a1, a2, f, a3, a4⟩ := hrel_arr hh hok.1 (by decide)
  have hA := (hw.1.2 _ _ (tysG_at ga (t := 100) (by decide) (by decide))).1 (aln h.1 x) f
  refine W.iast hx hb a3 hA (fun q => by cases q) (by rw [arrV_size]; exact am_idx k2 k3) rfl rfl hd fun H1 e1 e2 e3 => ?_
  rw [arrV_store] at e1
  refine kk H1 _ (hrel_put hh k01 (fun z hz => aup_ne hz) e2 e3 ⟨_, e1, Or.inr ⟨by rw [k02]; decide, by rw [k02]; decide, a2, _, by rw [k02]; rfl, ?_⟩⟩) (fun z hz => e3 z (Nat.ne_of_lt (Nat.lt_of_lt_of_le hz (Nat.le_add_right _ _)))) (fun z hz => ?_)
  · rw [k02]
    exact upd_rel a4 rfl
  · rcases List.mem_append.mp hz with hz | hz
    · exact hlo z hz
    · rw [List.mem_singleton.mp hz]; exact Nat.le_add_right _ _
theorem s_last (hx : p.tables.exec = Jvm.exec) (hb : c.code = cc) (hw : wld G ga b ex s) {h : aH} (hh : hrel G ga b ex h H) {x : Int} {j : Int32} {v : Int64} (hok : ain h.1 x 101 j.toInt = true) (hlo : ∀ z ∈ locs, b ≤ z.base) (hd : decode cc pc = .ok (.lastore, 1))
    (kk : ∀ H' locs', hrel G ga b ex (h.1, aup h.2 x.toNat j.toInt.toNat v.toInt) H' → (∀ z, z < b → H'[z]? = H[z]?) → (∀ z ∈ locs', b ≤ z.base) → W p l e R s m args below meth c H' locs' cells slots Q (F0 m (pc + 1) ls rest)) : W p l e R s m args below meth c H locs cells slots Q (F0 m pc ls (.long v :: .int j :: .ref (b + x.toNat) :: rest)) := by
  obtain ⟨⟨k0, k01, k02⟩, k2, k3⟩ := ain_iff hok
  simp only [ain, Bool.and_eq_true] at hok
  obtain ⟨a1, a2, f, a3, a4⟩ := hrel_arr hh hok.1 (by decide)
  have hA := (hw.1.2 _ _ (tysG_at ga (t := 101) (by decide) (by decide))).1 (aln h.1 x) f
  refine W.last hx hb a3 hA (fun q => by cases q) (by rw [arrV_size]; exact am_idx k2 k3) rfl rfl hd fun H1 e1 e2 e3 => ?_
  rw [arrV_store] at e1
  refine kk H1 _ (hrel_put hh k01 (fun z hz => aup_ne hz) e2 e3 ⟨_, e1, Or.inr ⟨by rw [k02]; decide, by rw [k02]; decide, a2, _, by rw [k02]; rfl, ?_⟩⟩) (fun z hz => e3 z (Nat.ne_of_lt (Nat.lt_of_lt_of_le hz (Nat.le_add_right _ _)))) (fun z hz => ?_)
  · rw [k02]
    exact upd_rel a4 rfl
  · rcases List.mem_append.mp hz with hz | hz
    · exact hlo z hz
    · rw [List.mem_singleton.mp hz]; exact Nat.le_add_right _ _
theorem s_bast (hx : p.tables.exec = Jvm.exec) (hb : c.code = cc) (hw : wld G ga b ex s) {h : aH} (hh : hrel G ga b ex h H) {x : Int} {j : Int32} {v : Int32} (hok : ain h.1 x 102 j.toInt = true) (hlo : ∀ z ∈ locs, b ≤ z.base) (hd : decode cc pc = .ok (.bastore, 1))
    (kk : ∀ H' locs', hrel G ga b ex (h.1, aup h.2 x.toNat j.toInt.toNat (oi2b v.toInt)) H' → (∀ z, z < b → H'[z]? = H[z]?) → (∀ z ∈ locs', b ≤ z.base) → W p l e R s m args below meth c H' locs' cells slots Q (F0 m (pc + 1) ls rest)) : W p l e R s m args below meth c H locs cells slots Q (F0 m pc ls (.int v :: .int j :: .ref (b + x.toNat) :: rest)) := by
  obtain ⟨⟨k0, k01, k02⟩, k2, k3⟩ := ain_iff hok
  simp only [ain, Bool.and_eq_true] at hok
  obtain ⟨a1, a2, f, a3, a4⟩ := hrel_arr hh hok.1 (by decide)
  have hA := (hw.1.2 _ _ (tysG_at ga (t := 102) (by decide) (by decide))).1 (aln h.1 x) f
  refine W.bast hx hb a3 hA (fun q => by cases q) (by rw [arrV_size]; exact am_idx k2 k3) rfl rfl hd fun H1 e1 e2 e3 => ?_
  rw [arrV_store] at e1
  refine kk H1 _ (hrel_put hh k01 (fun z hz => aup_ne hz) e2 e3 ⟨_, e1, Or.inr ⟨by rw [k02]; decide, by rw [k02]; decide, a2, _, by rw [k02]; rfl, ?_⟩⟩) (fun z hz => e3 z (Nat.ne_of_lt (Nat.lt_of_lt_of_le hz (Nat.le_add_right _ _)))) (fun z hz => ?_)
  · rw [k02]
    refine upd_rel a4 ?_
    show _ = _; rw [oi2b, Int32.ofInt_toInt]; rfl
  · rcases List.mem_append.mp hz with hz | hz
    · exact hlo z hz
    · rw [List.mem_singleton.mp hz]; exact Nat.le_add_right _ _
theorem s_zast (hx : p.tables.exec = Jvm.exec) (hb : c.code = cc) (hw : wld G ga b ex s) {h : aH} (hh : hrel G ga b ex h H) {x : Int} {j : Int32} {v : Int32} (hok : ain h.1 x 103 j.toInt = true) (hv : v.toInt = (0 : Int32).toInt ∨ v.toInt = (1 : Int32).toInt) (hlo : ∀ z ∈ locs, b ≤ z.base) (hd : decode cc pc = .ok (.bastore, 1))
    (kk : ∀ H' locs', hrel G ga b ex (h.1, aup h.2 x.toNat j.toInt.toNat v.toInt) H' → (∀ z, z < b → H'[z]? = H[z]?) → (∀ z ∈ locs', b ≤ z.base) → W p l e R s m args below meth c H' locs' cells slots Q (F0 m (pc + 1) ls rest)) : W p l e R s m args below meth c H locs cells slots Q (F0 m pc ls (.int v :: .int j :: .ref (b + x.toNat) :: rest)) := by
  obtain ⟨⟨k0, k01, k02⟩, k2, k3⟩ := ain_iff hok
  simp only [ain, Bool.and_eq_true] at hok
  obtain ⟨a1, a2, f, a3, a4⟩ := hrel_arr hh hok.1 (by decide)
  have hA := (hw.1.2 _ _ (tysG_at ga (t := 103) (by decide) (by decide))).1 (aln h.1 x) f
  refine W.zast hx hb a3 hA (fun q => by cases q) (by rw [arrV_size]; exact am_idx k2 k3) rfl rfl hd fun H1 e1 e2 e3 => ?_
  rw [arrV_store] at e1
  refine kk H1 _ (hrel_put hh k01 (fun z hz => aup_ne hz) e2 e3 ⟨_, e1, Or.inr ⟨by rw [k02]; decide, by rw [k02]; decide, a2, _, by rw [k02]; rfl, ?_⟩⟩) (fun z hz => e3 z (Nat.ne_of_lt (Nat.lt_of_lt_of_le hz (Nat.le_add_right _ _)))) (fun z hz => ?_)
  · rw [k02]
    refine upd_rel a4 ?_
    rcases hv with hv | hv <;> (have e := Int32.toInt_inj.mp (hv : v.toInt = Int32.toInt _); subst e; rfl)
  · rcases List.mem_append.mp hz with hz | hz
    · exact hlo z hz
    · rw [List.mem_singleton.mp hz]; exact Nat.le_add_right _ _
theorem s_aast (hx : p.tables.exec = Jvm.exec) (hb : c.code = cc) (hw : wld G ga b ex s) {h : aH} (hh : hrel G ga b ex h H) {x y : Int} {j : Int32} (hok : ain h.1 x 104 j.toInt = true) (hy : aok h.1 y 6 = true) (hlo : ∀ z ∈ locs, b ≤ z.base) (hd : decode cc pc = .ok (.aastore, 1))
    (kk : ∀ H' locs', hrel G ga b ex (h.1, aup h.2 x.toNat j.toInt.toNat y) H' → (∀ z, z < b → H'[z]? = H[z]?) → (∀ z ∈ locs', b ≤ z.base) → W p l e R s m args below meth c H' locs' cells slots Q (F0 m (pc + 1) ls rest)) : W p l e R s m args below meth c H locs cells slots Q (F0 m pc ls (.ref (b + y.toNat) :: .int j :: .ref (b + x.toNat) :: rest)) := by
  obtain ⟨⟨k0, k01, k02⟩, k2, k3⟩ := ain_iff hok
  simp only [ain, Bool.and_eq_true] at hok
  obtain ⟨a1, a2, f, a3, a4⟩ := hrel_arr hh hok.1 (by decide)
  obtain ⟨kA, comp, r1, r2, r3, -⟩ := (hw.1.2 _ _ (tysG_at ga (t := 104) (by decide) (by decide))).2
  obtain ⟨cellV, g1, rr, hrr, -, g2, g3, -⟩ := hrel_obj hh hy (by decide)
  have hcls := (hw.1.1 6 (RX6, TX6, 9) rfl).2
  have hcomp : comp = G.1 6 := Option.some.inj (r3.symm.trans hcls.1)
  subst hcomp
  obtain ⟨kC, hkC, -⟩ := hcls.2
  have hy0 := (aok_iff hy).1
  refine W.aast hx hb a3 (fun q h => by cases h) (fun h => by cases h) r1 r2 rfl hkC ⟨fun hl => am_idx k2 k3 (Or.inl hl), by rw [arrV_size]; exact k3⟩ g1 (fun q h => by rw [g3] at h; cases h) (by rw [g2]; exact hkC) (by rw [g2]; exact va_assign hcls) rfl rfl hd fun H1 e1 e2 e3 => ?_
  rw [arrV_store] at e1
  refine kk H1 _ (hrel_put hh k01 (fun z hz => aup_ne hz) e2 e3 ⟨_, e1, Or.inr ⟨by rw [k02]; decide, by rw [k02]; decide, a2, _, by rw [k02]; rfl, ?_⟩⟩) (fun z hz => e3 z (Nat.ne_of_lt (Nat.lt_of_lt_of_le hz (Nat.le_add_right _ _)))) (fun z hz => ?_)
  · rw [k02]
    refine upd_rel a4 ?_
    show _ = _
    rw [if_neg (Nat.not_lt.mpr (Nat.le_add_right _ _)), show ((b + y.toNat : Nat) : Int) - (b : Int) = y by omega]
    rfl
  · rcases List.mem_append.mp hz with hz | hz
    · exact hlo z hz
    · rw [List.mem_singleton.mp hz]; exact Nat.le_add_right _ _
theorem s_alen (hx : p.tables.exec = Jvm.exec) (hb : c.code = cc) (hw : wld G ga b ex s) {h : aH} (hh : hrel G ga b ex h H) {x : Int} (hok : aoa h.1 x = true) (hd : decode cc pc = .ok (.arraylength, 1))
    (kk : ∀ v, cvv b ex v (.inl (aln h.1 x : Int)) → W p l e R s m args below meth c H locs cells slots Q (F0 m (pc + 1) ls (v :: rest))) : W p l e R s m args below meth c H locs cells slots Q (F0 m pc ls (.ref (b + x.toNat) :: rest)) := by
  simp only [aoa, Bool.and_eq_true, decide_eq_true_eq] at hok
  have hk : aok h.1 x (h.1.2.2 x.toNat).1 = true := by simp [aok, hok.1, hok.2.1]
  obtain ⟨a1, a2, f, a3, a4⟩ := hrel_arr hh hk (Nat.le_of_ble_eq_true hok.2.2)
  have hA := (hw.1.2 _ _ (tysG_at ga (Nat.le_of_ble_eq_true hok.2.2) a1)).1 (aln h.1 x) f
  refine W.alen (n := Int32.ofNat (aln h.1 x)) hx hb a3 hA (by rw [arrV_size] <;> rfl) rfl rfl hd (kk _ ?_)
  show _ = _
  rw [Int32.toInt_ofNat_of_lt (by omega)]
theorem s_new (hx : p.tables.exec = Jvm.exec) (hb : c.code = cc) (hts : ∀ w ∈ Ts, w.before args s = true) (hC : clsOK Ts) (hown : s.vm.findClass own = some m.cls) (hw : wld G ga b ex s) {h : aH} (hh : hrel G ga b ex h H) {a idx : Nat} {q : vw_C} (hq : vwCl[a]? = some q) (ha : a < 100) (h1 : Cond.classLink own idx q.1 ∈ Ts) (h2 : Cond.instantiable q.1 q.2.2 ∈ Ts) (h3 : Cond.initialized q.1 ∈ Ts) (hcells : cells + 1 ≤ R.cells) (hslots : slots + q.2.2 ≤ R.slots) (hd : decode cc pc = .ok (.new idx, 3))
    (kk : ∀ H', hrel G ga b ex ((h.1.1 + 1, h.1.2.1 + q.2.2, fun z => if z = h.1.1 then (a, q.2.2) else h.1.2.2 z), fun z j => if z = h.1.1 then adf a j else h.2 z j) H' → (∀ z, z < b → H'[z]? = H[z]?) → W p l e R s m args below meth c H' locs (cells + 1) (slots + q.2.2) Q (F0 m (pc + 3) ls (.ref (b + h.1.1) :: rest))) : W p l e R s m args below meth c H locs cells slots Q (F0 m pc ls rest) := by
  have hKn := hw.1.1 a _ hq
  obtain ⟨C1, C2, C3, C4⟩ := hC a q hq
  refine W.newcK hx hb hown (hts _ h1) (hts _ h2) (hts _ h3) rfl hd hcells hslots hKn.2.1 rfl fun H1 kC hkC e1 z1 o1 => ?_
  rw [← hh.1] at kk
  refine kk H1 (hrel_new _ hh z1 o1 ⟨_, e1, Or.inl ⟨ha, q, hq, rfl, ?_, ?_, ?_⟩⟩) (fun z hz => o1 z (by rw [hh.1]; omega))
  · rfl
  · rfl
  · obtain ⟨cell, c1, c2, c3, c4⟩ := u_born (o := H.size) (tyA a) hts C1 hKn hkC e1 C2
    have ec := Option.some.inj (c1.symm.trans e1)
    subst ec
    intro k hk
    refine ⟨defaultValue (tyA a k), c4 k hk, ?_⟩
    have h9 := C4 k hk
    unfold adf
    revert h9
    cases tyA a k <;> intro h9 <;> first | rfl | exact absurd rfl h9
theorem s_newa (hx : p.tables.exec = Jvm.exec) (hb : c.code = cc) (hts : ∀ w ∈ Ts, w.before args s = true) (hw : wld G ga b ex s) {h : aH} (hh : hrel G ga b ex h H) {at' : ArrayType} {t : Nat} (ht : (at' = .int ∧ t = 100) ∨ (at' = .long ∧ t = 101) ∨ (at' = .byte ∧ t = 102) ∨ (at' = .boolean ∧ t = 103)) (h1 : Cond.arrayClass (newarray.typeOf at') ∈ Ts) {n : Int32} (hn0 : 0 ≤ n.toInt) (hn1 : n.toInt ≤ 1000000) (hcells : cells + 1 ≤ R.cells) (hslots : slots + n.toInt.toNat ≤ R.slots) (hd : decode cc pc = .ok (.newarray at', 2))
    (kk : ∀ H', hrel G ga b ex ((h.1.1 + 1, h.1.2.1 + n.toInt.toNat, fun z => if z = h.1.1 then (t, n.toInt.toNat) else h.1.2.2 z), fun z j => if z = h.1.1 then 0 else h.2 z j) H' → (∀ z, z < b → H'[z]? = H[z]?) → W p l e R s m args below meth c H' locs (cells + 1) (slots + n.toInt.toNat) Q (F0 m (pc + 2) ls (.ref (b + h.1.1) :: rest))) : W p l e R s m args below meth c H locs cells slots Q (F0 m pc ls (.int n :: rest)) := by
  have hty : newarray.typeOf at' = ety t ∧ 100 ≤ t ∧ t ≤ 103 := by rcases ht with ⟨rfl, rfl⟩ | ⟨rfl, rfl⟩ | ⟨rfl, rfl⟩ | ⟨rfl, rfl⟩ <;> exact ⟨rfl, by decide, by decide⟩
  have hbytes : n.toInt.toNat * componentBytes (newarray.typeOf at') ≤ 536870912 := by
    have : componentBytes (newarray.typeOf at') ≤ 8 := by rcases ht with ⟨rfl, rfl⟩ | ⟨rfl, rfl⟩ | ⟨rfl, rfl⟩ | ⟨rfl, rfl⟩ <;> decide
    have h2 : n.toInt.toNat ≤ 1000000 := by omega
    exact Nat.le_trans (Nat.mul_le_mul h2 this) (by decide)
  refine va_newaK hx hb (hts _ h1) (g := F0 m pc ls (.int n :: rest)) rfl hd rfl (fun hl => by have := Int32.lt_iff_toInt_lt.mp hl; have e : (0 : Int32).toInt = 0 := rfl; omega) (N := n.toInt.toNat) rfl hbytes hcells hslots rfl fun H1 cA e1 z1 o1 hAr hNm => ?_
  rw [← hh.1] at kk
  have hga : cA = ga t := by
    have h4 := (hw.1.2 _ _ (tysG_at ga hty.2.1 (by omega))).2
    have h5 : s.vm.findClass ("[" ++ (ety t).toString) = some (ga t) := by
      rcases ht with ⟨rfl, rfl⟩ | ⟨rfl, rfl⟩ | ⟨rfl, rfl⟩ | ⟨rfl, rfl⟩ <;> exact h4
    rw [hty.1] at hNm
    exact Option.some.inj (hNm.symm.trans h5)
  subst hga
  refine kk H1 (hrel_new _ hh z1 o1 ⟨_, e1, Or.inr ⟨hty.2.1, by show t ≤ 104; omega, by show n.toInt.toNat ≤ 1000000; omega, _, rfl, fun j _ => ?_⟩⟩) (fun z hz => o1 z (by rw [hh.1]; omega))
  rcases ht with ⟨rfl, rfl⟩ | ⟨rfl, rfl⟩ | ⟨rfl, rfl⟩ | ⟨rfl, rfl⟩ <;> rfl
theorem s_anew (hx : p.tables.exec = Jvm.exec) (hb : c.code = cc) (hts : ∀ w ∈ Ts, w.before args s = true) (hown : s.vm.findClass own = some m.cls) (hw : wld G ga b ex s) {h : aH} (hh : hrel G ga b ex h H) {idx : Nat} (h1 : Cond.classLink own idx "WordMill$State" ∈ Ts) {n : Int32} (hn0 : 0 ≤ n.toInt) (hn1 : n.toInt ≤ 1000000) (hcells : cells + 1 ≤ R.cells) (hslots : slots + n.toInt.toNat ≤ R.slots) (hd : decode cc pc = .ok (.anewarray idx, 3))
    (kk : ∀ H', hrel G ga b ex ((h.1.1 + 1, h.1.2.1 + n.toInt.toNat, fun z => if z = h.1.1 then (104, n.toInt.toNat) else h.1.2.2 z), fun z j => if z = h.1.1 then -1 else h.2 z j) H' → (∀ z, z < b → H'[z]? = H[z]?) → W p l e R s m args below meth c H' locs (cells + 1) (slots + n.toInt.toNat) Q (F0 m (pc + 3) ls (.ref (b + h.1.1) :: rest))) : W p l e R s m args below meth c H locs cells slots Q (F0 m pc ls (.int n :: rest)) := by
  refine W.anew hx hb hown (hts _ h1) (va_AO.use hw.2.1) (g := F0 m pc ls (.int n :: rest)) rfl hd rfl (fun hl => by have := Int32.lt_iff_toInt_lt.mp hl; have e : (0 : Int32).toInt = 0 := rfl; omega) (show n.toInt.toNat * 4 ≤ 536870912 by omega) hcells hslots fun cA kA comp f1 f2 f3 f4 => ?_
  rw [← hh.1] at kk
  obtain ⟨kA', comp', -, -, -, r4⟩ := (hw.1.2 _ _ (tysG_at ga (t := 104) (by decide) (by decide))).2
  have hga : cA = ga 104 := Option.some.inj (f1.symm.trans r4)
  subst hga
  have z1 : (H.push ({ cls := ga 104, slots := Array.replicate n.toNatClampNeg .null, vm := .none } : Cell)).size = H.size + 1 := by rw [Array.size_push]
  have o1 : ∀ q : Nat, q < H.size → (H.push ({ cls := ga 104, slots := Array.replicate n.toNatClampNeg .null, vm := .none } : Cell))[q]? = H[q]? := fun q hq => by rw [Array.getElem?_push, if_neg (Nat.ne_of_lt hq)]
  refine kk _ (hrel_new (kc := (104, n.toInt.toNat)) (dt := fun _ => -1) _ hh z1 o1 ⟨arrV (ga 104) n.toInt.toNat (fun _ => .null), by rw [Array.getElem?_push_size, arrV_new]; rfl, Or.inr ⟨by show (100 : Nat) ≤ 104; decide, Nat.le_refl _, by show n.toInt.toNat ≤ 1000000; omega, _, rfl, fun j _ => rfl⟩⟩) (fun z hz => o1 z (by rw [hh.1]; omega))
end SArr
