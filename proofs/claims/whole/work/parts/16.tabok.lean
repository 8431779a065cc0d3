theorem beqN {a b : Nat} (h : Nat.beq a b = true) : a = b := Nat.eq_of_beq_eq_true h
/-- what is known of the tables -/
def tabs (P : Nat → Option aM) (FL : List (Nat × Nat × Nat × Nat)) (ML CF : List (Nat × Nat × Nat)) (KC KL : List (Nat × Nat × Int)) (CL OI AC SL MX : List (Nat × Nat × Nat)) : Prop :=
  (∀ t ∈ FL, flok t) ∧ (∀ t ∈ ML, mlok P t) ∧ (∀ a ci n kd, CF[a]? = some (ci, n, kd) → cfok P a ci n kd) ∧ (∀ t ∈ KC, kcok t) ∧ (∀ t ∈ KL, klok t) ∧ (∀ t ∈ CL, clok t) ∧
  ((∀ t ∈ OI, Cond.methodLink (cname t.1) t.2.1 objectInit ∈ lw_good) ∧ Cond.instanceMethod objectInit ∈ lw_good ∧ Cond.code objectInit ⟨#[0xb1]⟩ 1 none ∈ lw_good) ∧
  ((∀ t ∈ AC, Cond.methodLink (cname t.1) t.2.1 arraycopyName ∈ lw_good) ∧ Cond.native arraycopyName ∈ lw_good ∧ Cond.static arraycopyName ∈ lw_good ∧ Cond.initialized "java/lang/System" ∈ lw_good) ∧
  (∀ t ∈ SL, (t.2.2 = 900 ∧ Cond.methodLink RX4 t.2.1 ⟨"java/lang/String", "length", "()I"⟩ ∈ lw_good) ∨ (t.2.2 = 901 ∧ Cond.methodLink RX4 t.2.1 ⟨"java/lang/String", "charAt", "(I)C"⟩ ∈ lw_good) ∨ (t.2.2 = 902 ∧ Cond.methodLink RX4 t.2.1 ⟨"java/lang/String", "indexOf", "(I)I"⟩ ∈ lw_good)) ∧
  (Cond.arrayClass .int ∈ lw_good ∧ Cond.arrayClass .long ∈ lw_good ∧ Cond.arrayClass .byte ∈ lw_good ∧ Cond.arrayClass .boolean ∈ lw_good) ∧
  (∀ ci q k, vwCl[ci]? = some q → k < q.2.2 → (q.2.1 k).1 = cname ci) ∧ RX6 = "WordMill$State" ∧
  (Cond.initialized "java/lang/Math" ∈ lw_good ∧ ∀ t ∈ MX, (t.2.2 = 1 ∧ Cond.methodLink (cname t.1) t.2.1 Lib.Math.max.name ∈ lw_good ∧ Cond.static Lib.Math.max.name ∈ lw_good ∧ Cond.code Lib.Math.max.name Lib.Math.max.code 2 (some .int) ∈ lw_good) ∨ (t.2.2 = 2 ∧ Cond.methodLink (cname t.1) t.2.1 Lib.Math.min.name ∈ lw_good ∧ Cond.static Lib.Math.min.name ∈ lw_good ∧ Cond.code Lib.Math.min.name Lib.Math.min.code 2 (some .int) ∈ lw_good))
set_option maxHeartbeats 4000000 in
theorem eokB_ok {P : Nat → Option aM} {FL : List (Nat × Nat × Nat × Nat)} {ML CF : List (Nat × Nat × Nat)} {KC KL : List (Nat × Nat × Int)} {CL OI AC SL MX : List (Nat × Nat × Nat)} (hT : tabs P FL ML CF KC KL CL OI AC SL MX) {oc : Nat} {ini : Bool} {y : MethodName} {cc : ByteArray} {pc : Nat} {i : Instr} {len a b c : Nat} {z : Int} (hy : y.cls = cname oc) (hi : (y.name == "<init>") = ini) (h : eokB FL ML CF KC KL CL OI AC SL MX oc ini cc pc (i, len, a, b, c, z) = true) : eok lw_good P y cc pc i len a b c z := by
  obtain ⟨tFL, tML, tCF, tKC, tKL, tCL, ⟨tO1, tO2, tO3⟩, ⟨tA1, tA2, tA3, tA4⟩, tSL, ⟨tr1, tr2, tr3, tr4⟩, tDC, tR6, tM0, tMX⟩ := hT
  unfold eokB at h
  simp only at h
  unfold eok
  split at h
  · simp only [Bool.and_eq_true, decide_eq_true_eq] at h
    exact Or.inl ⟨rfl, beqN h.1, h.2⟩
  · simp only [Bool.and_eq_true, decide_eq_true_eq] at h
    exact Or.inr (Or.inl ⟨rfl, beqN h.1, h.2⟩)
  · simp only [Bool.and_eq_true, Bool.or_eq_true, decide_eq_true_eq] at h
    refine Or.inr (Or.inr (Or.inl ⟨rfl, ?_, h.2.1, h.2.2⟩))
    rcases h.1 with h1 | h1
    · split at h1
      · exact Or.inl ⟨_, _, _, _, rfl⟩
      · cases h1
    · exact Or.inr (beqN h1)
  · exact Or.inr (Or.inr (Or.inr (Or.inl ⟨rfl, of_decide_eq_true h⟩)))
  · refine Or.inr (Or.inr (Or.inr (Or.inr (Or.inl ⟨rfl, ?_⟩))))
    split at h
    · rename_i idx
      simp only [Bool.and_eq_true, decide_eq_true_eq] at h
      obtain ⟨h1, h2⟩ := h
      split at h2
      · rename_i q hq
        exact ⟨idx, h1, by rw [hy]; exact tO1 _ (find3_mem hq), tO2, tO3⟩
      · cases h2
    · cases h
  · refine Or.inr (Or.inr (Or.inr (Or.inr (Or.inr (Or.inl ⟨rfl, ?_⟩)))))
    split at h
    · rename_i idx
      simp only [Bool.and_eq_true, Bool.or_eq_true, decide_eq_true_eq] at h
      obtain ⟨h0, h1, h2⟩ := h
      split at h2
      · rename_i q hq
        exact ⟨h0.imp beqN beqN, idx, h1, by rw [hy]; exact tA1 _ (find3_mem hq), tA2, tA3, tA4⟩
      · cases h2
    · cases h
  · refine Or.inr (Or.inr (Or.inr (Or.inr (Or.inr (Or.inr (Or.inl ⟨rfl, ?_⟩))))))
    simp only [Bool.and_eq_true, decide_eq_true_eq] at h
    obtain ⟨h1, h2⟩ := h
    refine ⟨?_, h1⟩
    split at h2
    · cases h2
    · rename_i ci n kd hcf
      obtain ⟨M, p1, p0, p2, p3, p4, p5⟩ := tCF _ _ _ _ hcf
      refine ⟨M, n, p1, p0, p2, p3, p4, ?_⟩
      have lk : ∀ idx, (match find3 ML oc idx with | some a' => Nat.beq a' a | none => false) = true → lnk lw_good y.cls idx M.1 := by
        intro idx hh
        split at hh
        · rename_i a' ha'
          have := beqN hh
          subst this
          obtain ⟨M2, m1, m2⟩ := tML _ (find3_mem ha')
          have e : M2 = M := Option.some.inj (m1.symm.trans p1)
          subst e
          rw [hy]; exact m2
        · cases hh
      split at h2
      · rename_i idx
        simp only [Bool.and_eq_true] at h2
        obtain ⟨k1, k2, k3⟩ := h2
        have k1 := beqN k1
        subst k1
        rcases p5 with ⟨-, u⟩ | ⟨u, -⟩ | ⟨u, -⟩
        · exact Or.inl ⟨idx, rfl, beqN k2, u, lk idx k3⟩
        · cases u
        · cases u
      · rename_i idx
        simp only [Bool.and_eq_true] at h2
        obtain ⟨k1, k2, k3⟩ := h2
        have k1 := beqN k1
        subst k1
        rcases p5 with ⟨u, -⟩ | ⟨-, u1, u2, u3⟩ | ⟨u, -⟩
        · cases u
        · exact Or.inr (Or.inl ⟨idx, rfl, beqN k2, u1, u2, u3, lk idx k3⟩)
        · cases u
      · rename_i idx
        simp only [Bool.and_eq_true, decide_eq_true_eq] at h2
        obtain ⟨k1, k2, k4, k3⟩ := h2
        have k1 := beqN k1
        subst k1
        rcases p5 with ⟨u, -⟩ | ⟨u, -⟩ | ⟨-, q, u1, u2, u3, u4, u5⟩
        · cases u
        · cases u
        · subst k4
          exact Or.inr (Or.inr ⟨idx, q, rfl, beqN k2, u1, u2, u3, u4, u5, lk idx k3⟩)
      · cases h2
  · refine Or.inr (Or.inr (Or.inr (Or.inr (Or.inr (Or.inr (Or.inr (Or.inl ⟨rfl, ?_⟩)))))))
    split at h
    · rename_i idx
      simp only [Bool.and_eq_true, Bool.or_eq_true, decide_eq_true_eq] at h
      obtain ⟨h1, h2, h3, h4⟩ := h
      have e4 := beqN h2
      subst e4
      split at h4
      · rename_i a' ha'
        have := beqN h4
        subst this
        refine ⟨idx, h1, hy, ?_⟩
        have hcls : y.cls = RX4 := hy
        rw [hcls]
        rcases tSL _ (find3_mem ha') with ⟨e, w⟩ | ⟨e, w⟩ | ⟨e, w⟩
        · have e : a' = 900 := e
          subst e
          rcases h3 with ⟨-, h3⟩ | ⟨h3 | h3, -⟩
          · exact Or.inl ⟨rfl, beqN h3, w⟩
          · cases h3
          · cases h3
        · have e : a' = 901 := e
          subst e
          rcases h3 with ⟨h3, -⟩ | ⟨-, h3⟩
          · cases h3
          · exact Or.inr (Or.inl ⟨rfl, beqN h3, w⟩)
        · have e : a' = 902 := e
          subst e
          rcases h3 with ⟨h3, -⟩ | ⟨-, h3⟩
          · cases h3
          · exact Or.inr (Or.inr ⟨rfl, beqN h3, w⟩)
      · cases h4
    · cases h
  · refine Or.inr (Or.inr (Or.inr (Or.inr (Or.inr (Or.inr (Or.inr (Or.inr (Or.inl ⟨rfl, ?_⟩))))))))
    split at h
    · rename_i idx
      simp only [Bool.and_eq_true, decide_eq_true_eq] at h
      obtain ⟨h1, h2⟩ := h
      split at h2
      · rename_i a' ha'
        have := beqN h2
        subst this
        refine ⟨idx, h1, tM0, ?_⟩
        rw [hy]
        exact tMX _ (find3_mem ha')
      · cases h2
    · cases h
  · refine Or.inr (Or.inr (Or.inr (Or.inr (Or.inr (Or.inr (Or.inr (Or.inr (Or.inr ⟨by assumption, by assumption, by assumption, by assumption, by assumption, by assumption, by assumption, by assumption, by assumption, ?_⟩))))))))
    simp only [Bool.and_eq_true, decide_eq_true_eq] at h
    obtain ⟨h1, h2, h3⟩ := h
    refine ⟨beqN h1, h2, ?_⟩
    unfold hpok
    split at h3
    · rename_i idx
      cases hg : Nat.beq c 28 <;> rw [hg] at h3
      · refine Or.inr ⟨fun e => ?_, ?_⟩
        · rw [e] at hg; cases hg
        · rw [hy]; exact tKC _ (findK_mem h3)
      · simp only [cond_true, Bool.and_eq_true, Bool.or_eq_true, decide_eq_true_eq] at h3
        refine Or.inl ⟨beqN hg, ?_⟩
        obtain ⟨e1, e2⟩ := h3
        have e1 := beqN e1
        subst e1
        have hcls : y.cls = RX4 := hy
        rw [hcls]
        rcases e2 with ⟨e2, e3⟩ | ⟨e2, e3⟩
        · rw [beqN e2, e3]; exact List.mem_cons_self
        · rw [beqN e2, e3]; exact List.mem_cons_of_mem _ List.mem_cons_self
    · rename_i idx
      have := tKC _ (findK_mem h3)
      rw [hy]; exact this
    · rename_i idx
      have := tKL _ (findK_mem h3)
      rw [hy]; exact this
    · rename_i idx
      split at h3
      · rename_i ci k hf
        simp only [Bool.and_eq_true] at h3
        obtain ⟨e1, e2, e3⟩ := h3
        have e1 := beqN e1
        have e2 := beqN e2
        subst e1
        subst e2
        obtain ⟨q, q1, q2, q3, q4⟩ := tFL _ (find4_mem hf)
        exact ⟨q, q1, q2, q3, beqN e3, by rw [hy]; exact q4⟩
      · cases h3
    · rename_i idx
      split at h3
      · rename_i ci k hf
        simp only [Bool.and_eq_true] at h3
        obtain ⟨e1, e2, e3, e4⟩ := h3
        have e1 := beqN e1
        have e2 := beqN e2
        subst e1
        subst e2
        obtain ⟨q, q1, q2, q3, q4⟩ := tFL _ (find4_mem hf)
        have q1' : vwCl[ci]? = some q := q1
        refine ⟨q, q1, q2, q3, beqN e3, by rw [hy]; exact q4, ?_⟩
        rw [q1'] at e4
        simp only [Bool.or_eq_true, Bool.not_eq_true', Bool.and_eq_true] at e4
        rcases e4 with e4 | ⟨e4, e5⟩
        · exact Or.inl e4
        · cases hfn : (q.2.1 k).2.2.2
          · exact Or.inl rfl
          · have e5 := beqN e5
            subst e5
            exact Or.inr ⟨rfl, by rw [hi]; exact e4, by rw [hy]; exact tDC _ _ _ q1' q2⟩
      · cases h3
    · rename_i idx
      split at h3
      · rename_i ci hf
        simp only [Bool.and_eq_true] at h3
        obtain ⟨e1, e2⟩ := h3
        have e1 := beqN e1
        subst e1
        obtain ⟨q, q1, q2, q3, q4, q5⟩ := tCL _ (find3_mem hf)
        have q1' : vwCl[ci]? = some q := q1
        rw [q1'] at e2
        exact ⟨q, q1, q2, beqN e2, by rw [hy]; exact q3, q4, q5⟩
      · cases h3
    · rename_i at'
      split at h3
      · exact ⟨Or.inl ⟨rfl, beqN h3⟩, tr1⟩
      · exact ⟨Or.inr (Or.inl ⟨rfl, beqN h3⟩), tr2⟩
      · exact ⟨Or.inr (Or.inr (Or.inl ⟨rfl, beqN h3⟩)), tr3⟩
      · exact ⟨Or.inr (Or.inr (Or.inr ⟨rfl, beqN h3⟩)), tr4⟩
      · cases h3
    · rename_i idx
      split at h3
      · rename_i ci hf
        have e1 := beqN h3
        subst e1
        obtain ⟨q, q1, q2, q3, q4, q5⟩ := tCL _ (find3_mem hf)
        have q1' : vwCl[6]? = some q := q1
        have e : q = (RX6, TX6, 9) := Option.some.inj (q1'.symm.trans rfl)
        subst e
        rw [hy, ← tR6]
        exact q3
      · cases h3
    · exact beqN h3
    · split <;> first | exact True.intro | (exfalso; solve_by_elim)
/-- a method's table is checked -/
def mokB (FL : List (Nat × Nat × Nat × Nat)) (ML CF : List (Nat × Nat × Nat)) (KC KL : List (Nat × Nat × Int)) (CL OI AC SL MX : List (Nat × Nat × Nat)) (oc : Nat) (M : aM) : Bool := M.2.2.2.2.all (fun q => eokB FL ML CF KC KL CL OI AC SL MX oc (M.1.name == "<init>") M.2.1 q.1 q.2)
theorem afind_mem : ∀ {l : List (Nat × aE)} {pc : Nat} {e : aE}, afind l pc = some e → (pc, e) ∈ l
  | [], _, _, h => by cases h
  | (q, x) :: r, pc, e, h => by
    unfold afind at h
    cases hg : Nat.beq q pc <;> rw [hg] at h
    · exact List.mem_cons_of_mem _ (afind_mem h)
    · cases h
      rw [beqN hg]
      exact List.mem_cons_self
theorem mokB_ok {P : Nat → Option aM} {FL : List (Nat × Nat × Nat × Nat)} {ML CF : List (Nat × Nat × Nat)} {KC KL : List (Nat × Nat × Int)} {CL OI AC SL MX : List (Nat × Nat × Nat)} (hT : tabs P FL ML CF KC KL CL OI AC SL MX) {oc : Nat} {M : aM} (h1 : plainName M.1.cls = true) (h3 : M.2.2.1 ≤ 41) (hy : M.1.cls = cname oc) (h : mokB FL ML CF KC KL CL OI AC SL MX oc M = true) : mok lw_good P M :=
  ⟨h1, h3, fun pc i len a b c z hf => eokB_ok hT hy rfl (List.all_eq_true.mp h _ (afind_mem hf))⟩
