/-! The abstract machine is sound. -/
abbrev aS : Type := MethodName × ByteArray × Nat × Option FieldType
def lnk (Ts : List Cond) (own : String) (idx : Nat) (y : MethodName) : Prop := Cond.methodLink own idx y ∈ Ts ∨ ∃ host, Cond.methodLinkNest own idx y host ∈ nestW
def calok (Ts : List Cond) (P : Nat → Option aM) (own : String) (i : Instr) (a b : Nat) (z : Int) : Prop := ∃ (M : aM) (n : Nat), P a = some M ∧ Cond.code M.1 M.2.1 M.2.2.1 M.2.2.2.1 ∈ Ts ∧ Cond.initialized M.1.cls ∈ Ts ∧ (M.1.cls ≠ "java/lang/invoke/MethodHandle" ∧ M.1.cls ≠ "java/lang/invoke/VarHandle") ∧ (parseMethodDescriptor M.1.desc).map (fun d => d.parameters.length) = some n ∧
  ((∃ idx, i = .invokestatic idx ∧ b = n ∧ Cond.static M.1 ∈ Ts ∧ lnk Ts own idx M.1) ∨
   (∃ idx, i = .invokespecial idx ∧ b = n + 1 ∧ M.1.name = "<init>" ∧ M.2.2.2.1 = none ∧ Cond.instanceMethod M.1 ∈ Ts ∧ lnk Ts own idx M.1) ∨
   (∃ idx q, i = .invokevirtual idx ∧ b = n + 1 ∧ vwCl[z.toNat]? = some q ∧ z.toNat < 100 ∧ q.1 = M.1.cls ∧ Cond.instanceMethod M.1 ∈ Ts ∧ Cond.selects M.1.cls M.1 M.1 ∈ Ts ∧ lnk Ts own idx M.1))
def eok (Ts : List Cond) (P : Nat → Option aM) (y : MethodName) (cc : ByteArray) (pc : Nat) (i : Instr) (len a b c : Nat) (z : Int) : Prop :=
  (c = 20 ∧ len = ilen i ∧ decode cc pc = .ok (i, len)) ∨
  (c = 21 ∧ len = ilen i ∧ decode cc pc = .ok (i, len)) ∨
  (c = 22 ∧ ((∃ d lo hi o, i = .tableswitch d lo hi o) ∨ len = 3) ∧ brok i pc a = true ∧ decode cc pc = .ok (i, len)) ∨
  (c = 23 ∧ decode cc pc = .ok (i, 1)) ∨
  (c = 24 ∧ ∃ idx, decode cc pc = .ok (.invokespecial idx, 3) ∧ Cond.methodLink y.cls idx objectInit ∈ Ts ∧ Cond.instanceMethod objectInit ∈ Ts ∧ Cond.code objectInit ⟨#[0xb1]⟩ 1 none ∈ Ts) ∨
  (c = 25 ∧ (a = 100 ∨ a = 101) ∧ ∃ idx, decode cc pc = .ok (.invokestatic idx, 3) ∧ Cond.methodLink y.cls idx arraycopyName ∈ Ts ∧ Cond.native arraycopyName ∈ Ts ∧ Cond.static arraycopyName ∈ Ts ∧ Cond.initialized "java/lang/System" ∈ Ts) ∨
  (c = 26 ∧ calok Ts P y.cls i a b z ∧ decode cc pc = .ok (i, 3)) ∨
  (c = 29 ∧ ∃ idx, decode cc pc = .ok (.invokevirtual idx, 3) ∧ y.cls = RX4 ∧ ((a = 900 ∧ b = 1 ∧ Cond.methodLink y.cls idx ⟨"java/lang/String", "length", "()I"⟩ ∈ Ts) ∨ (a = 901 ∧ b = 2 ∧ Cond.methodLink y.cls idx ⟨"java/lang/String", "charAt", "(I)C"⟩ ∈ Ts) ∨ (a = 902 ∧ b = 2 ∧ Cond.methodLink y.cls idx ⟨"java/lang/String", "indexOf", "(I)I"⟩ ∈ Ts))) ∨
  (c = 30 ∧ ∃ idx, decode cc pc = .ok (.invokestatic idx, 3) ∧ Cond.initialized "java/lang/Math" ∈ Ts ∧ ((a = 1 ∧ Cond.methodLink y.cls idx Lib.Math.max.name ∈ Ts ∧ Cond.static Lib.Math.max.name ∈ Ts ∧ Cond.code Lib.Math.max.name Lib.Math.max.code 2 (some .int) ∈ Ts) ∨ (a = 2 ∧ Cond.methodLink y.cls idx Lib.Math.min.name ∈ Ts ∧ Cond.static Lib.Math.min.name ∈ Ts ∧ Cond.code Lib.Math.min.name Lib.Math.min.code 2 (some .int) ∈ Ts))) ∨
  (¬ c = 20 ∧ ¬ c = 21 ∧ ¬ c = 22 ∧ ¬ c = 23 ∧ ¬ c = 24 ∧ ¬ c = 25 ∧ ¬ c = 26 ∧ ¬ c = 29 ∧ ¬ c = 30 ∧ len = ilen i ∧ decode cc pc = .ok (i, len) ∧ hpok Ts y.cls (y.name == "<init>") i a b c z)
def mok (Ts : List Cond) (P : Nat → Option aM) (M : aM) : Prop := plainName M.1.cls = true ∧ M.2.2.1 ≤ 41 ∧ ∀ pc i len a b c z, afind M.2.2.2.2 pc = some (i, len, a, b, c, z) → eok Ts P M.1 M.2.1 pc i len a b c z
theorem aho_le {xs : List Int} {i : Instr} {a b c : Nat} {z : Int} {st st' : List aV} {h h' : aH} (ha : aho xs i a b c z st h = some (st', h')) : h.1.1 ≤ h'.1.1 ∧ h.1.2.1 ≤ h'.1.2.1 := by
  have key : h'.1 = h.1 ∨ (h'.1.1 = h.1.1 + 1 ∧ h.1.2.1 ≤ h'.1.2.1) := by
    unfold aho at ha
    split at ha <;> (repeat' (split at ha)) <;> first
      | (cases ha; done)
      | (cases ha; exact Or.inl rfl)
      | (cases ha; exact Or.inr ⟨rfl, Nat.le_add_right _ _⟩)
      | (rename_i g0; revert ha; generalize hq : (_ : Bool) = q; cases q <;> intro ha <;> cases ha)
      | (simp only [cond_eq_ite] at ha; split at ha <;> cases ha <;> first | exact Or.inl rfl | exact Or.inr ⟨rfl, Nat.le_add_right _ _⟩)
  rcases key with e | ⟨e1, e2⟩
  · rw [e]; exact ⟨Nat.le_refl _, Nat.le_refl _⟩
  · exact ⟨by omega, e2⟩
theorem acp_le {a : Nat} {st st' : List aV} {h h' : aH} (ha : acp a st h = some (st', h')) : h'.1 = h.1 := by
  unfold acp at ha
  split at ha
  · simp only [cond_eq_ite] at ha
    split at ha <;> cases ha
    rfl
  · cases ha
theorem arun_n {P : Nat → Option aM} {X : Nat → Option (List aV → Option (Option aV))} {xs : List Int} : ∀ {f d : Nat} {M : aM} {pc : Nat} {ls : aL} {st : List aV} {h : aH} {r : Option aV × aH}, arun P X xs f d M pc ls st h = some r → h.1.1 ≤ r.2.1.1 ∧ h.1.2.1 ≤ r.2.1.2.1
  | 0, _, _, _, _, _, _, _, hr => by cases hr
  | f + 1, d, M, pc, ls, st, h, r, hr => by
    obtain ⟨i, len, a, b, c, z, he, hc⟩ := aph_cases (show aph xs (arun P X xs f) (acw P X (arun P X xs f)) d M pc ls st h = some r from hr)
    unfold aCs at hc
    rcases hc with ⟨e, st', h1, h2⟩ | ⟨e, ls', st', h1, h2⟩ | ⟨e, pc', st', h1, h2⟩ | ⟨e, h1, h2⟩ | ⟨e, x, rest, e2, h1, h2, h3⟩ | ⟨e, st', h', h1, h2⟩ | ⟨e, args, rest, rv, h1, st', h2, h3, h4, h5, h6, h7⟩ | ⟨e, args, rest, x, h2, h3, h4, h5, h6⟩ | ⟨e, x, y, rest, e2, h2, h3⟩ | ⟨hc, st', h', h1, h2⟩
    · exact arun_n h2
    · exact arun_n h2
    · exact arun_n h2
    · rw [h2]; exact ⟨Nat.le_refl _, Nat.le_refl _⟩
    · exact arun_n h3
    · have := arun_n h2
      rw [acp_le h1] at this
      exact this
    · have k1 := arun_n h7
      obtain ⟨d', rfl, ⟨fx, q1, q0, q2, q3⟩ | ⟨q0, M', ls', q1, q2, q3⟩⟩ := acw_cases h5
      · rw [show h1 = h from q3] at k1; exact k1
      · have k2 := arun_n q3
        exact ⟨Nat.le_trans k2.1 k1.1, Nat.le_trans k2.2 k1.2⟩
    · exact arun_n h6
    · exact arun_n h3
    · have k1 := aho_le h1
      have k2 := arun_n h2
      exact ⟨Nat.le_trans k1.1 k2.1, Nat.le_trans k1.2 k2.2⟩
theorem srel_len {b : Nat} {ex : Nat → Int} : ∀ {st : List Value} {sa : List aV}, srel b ex st sa → st.length = sa.length
  | [], [], _ => rfl
  | _ :: r, _ :: q, h => by
    show r.length + 1 = q.length + 1
    rw [srel_len h.2]
theorem srel_app {b : Nat} {ex : Nat → Int} : ∀ {st : List Value} {s1 s2 : List aV}, srel b ex st (s1 ++ s2) → ∃ t1 t2, st = t1 ++ t2 ∧ srel b ex t1 s1 ∧ srel b ex t2 s2
  | st, [], s2, h => ⟨[], st, rfl, trivial, h⟩
  | v :: r, x :: q, s2, h => by
    obtain ⟨t1, t2, rfl, h1, h2⟩ := srel_app (s1 := q) h.2
    exact ⟨v :: t1, t2, rfl, ⟨h.1, h1⟩, h2⟩
theorem srel_snoc {b : Nat} {ex : Nat → Int} : ∀ {st : List Value} {sa : List aV} {v : Value} {x : aV}, srel b ex st sa → cvv b ex v x → srel b ex (st ++ [v]) (sa ++ [x])
  | [], [], _, _, _, hv => ⟨hv, trivial⟩
  | _ :: _, _ :: _, _, _, h, hv => ⟨h.1, srel_snoc h.2 hv⟩
theorem srel_rev {b : Nat} {ex : Nat → Int} : ∀ {st : List Value} {sa : List aV}, srel b ex st sa → srel b ex st.reverse sa.reverse
  | [], [], _ => trivial
  | v :: r, x :: q, h => by
    rw [List.reverse_cons, List.reverse_cons]
    exact srel_snoc (srel_rev h.2) h.1
theorem aarg_some {b : Nat} {sa args rest : List aV} (h : aarg b sa = some (args, rest)) : sa = args.reverse ++ rest ∧ args.length = b := by
  unfold aarg at h
  cases hg : Nat.ble b sa.length <;> rw [hg] at h <;> cases h
  refine ⟨by rw [List.reverse_reverse, List.take_append_drop], ?_⟩
  rw [List.length_reverse, List.length_take]
  have := Nat.le_of_ble_eq_true hg
  omega
theorem aslots_len {b : Nat} {ex : Nat → Int} : ∀ {vs : List Value} {args : List aV}, srel b ex vs args → (lg_sl vs).length = (aslots args).length
  | [], [], _ => rfl
  | v :: r, x :: q, h => by
    have ih := aslots_len h.2
    have hc := cvv_cat h.1
    unfold lg_sl at ih ⊢
    rw [List.flatMap_cons, List.length_append, ih, hc]
    rcases x with x | x | x <;> simp [acat, aslots] <;> omega
theorem aslots_in {b : Nat} {ex : Nat → Int} : ∀ {vs : List Value} {args : List aV} (i0 : Nat), srel b ex vs args → ∀ (k : Nat) (v : aV), (aslots args)[k]? = some (some v) → ∃ cv, (i0 + k, cv) ∈ lv_args i0 vs ∧ cvv b ex cv v
  | [], [], _, _, k, v, hk => by simp [aslots] at hk
  | w :: r, x :: q, i0, h, k, v, hk => by
    have hc := cvv_cat h.1
    by_cases hj : acat x = 2
    · rcases x with x | x | x
      · cases hj
      · rw [show aslots (.inr (.inl x) :: q) = some (.inr (.inl x)) :: none :: aslots q from rfl] at hk
        match k, hk with
        | 0, hk =>
          cases hk
          exact ⟨w, List.mem_cons_self, h.1⟩
        | k + 2, hk =>
          obtain ⟨cv, m1, m2⟩ := aslots_in (i0 + 2) h.2 k v hk
          refine ⟨cv, List.mem_cons_of_mem _ ?_, m2⟩
          rw [hc, if_pos (show acat (.inr (.inl x)) = 2 from rfl)]
          rw [show i0 + (k + 2) = i0 + 2 + k by omega]
          exact m1
      · cases hj
    · have e : aslots (x :: q) = some x :: aslots q := by
        rcases x with x | x | x
        · rfl
        · exact absurd rfl hj
        · rfl
      rw [e] at hk
      match k, hk with
      | 0, hk =>
        cases hk
        exact ⟨w, List.mem_cons_self, h.1⟩
      | k + 1, hk =>
        obtain ⟨cv, m1, m2⟩ := aslots_in (i0 + 1) h.2 k v hk
        refine ⟨cv, List.mem_cons_of_mem _ ?_, m2⟩
        rw [hc, if_neg hj]
        rw [show i0 + (k + 1) = i0 + 1 + k by omega]
        exact m1
theorem aent_rel {b : Nat} {ex : Nat → Int} {vs : List Value} {args : List aV} {n : Nat} {la : aL} (h : srel b ex vs args) (he : aent n args = some la) : lrel b ex n ((lg_sl vs ++ List.replicate (n - (lg_sl vs).length) Slot.unset).toArray) la := by
  unfold aent at he
  cases hg : Nat.ble (aslots args).length n <;> rw [hg] at he <;> cases he
  have hle := Nat.le_of_ble_eq_true hg
  refine ⟨by simp; omega, lv_args 0 vs, lv_entry vs (by rw [aslots_len h]; exact hle), fun i v hi => ?_⟩
  by_cases hlt : i < (aslots args).length
  · rw [List.getElem?_append_left hlt] at hi
    obtain ⟨cv, m1, m2⟩ := aslots_in 0 h i v hi
    rw [Nat.zero_add] at m1
    exact ⟨cv, m1, m2⟩
  · rw [List.getElem?_append_right (by omega)] at hi
    rw [List.getElem?_replicate] at hi
    split at hi <;> cases hi
theorem apsh_rel {b : Nat} {ex : Nat → Int} {rk : Nat} {rv : Option aV} {rest sa' : List aV} {cv : Option Value} {st : List Value} (ha : apsh rk rv rest = some sa') (ho : orel b ex cv rv) (hs : srel b ex st rest) : srel b ex (cv.toList ++ st) sa' := by
  unfold apsh at ha
  split at ha
  · cases ha
    cases cv with
    | none => exact hs
    | some _ => cases ho
  all_goals first
    | (cases ha; done)
    | (cases ha
       cases cv with
       | none => cases ho
       | some v => exact ⟨ho, hs⟩)
