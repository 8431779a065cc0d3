/-! Orders: all orders of a set, grown set by set. -/
theorem onto_iff {all s st w : Nat} : onto all s st w = true ↔ s.testBit st = false ∧ s ||| 2 ^ st = w ∧ w &&& all = w := by
  unfold onto
  simp only [Bool.and_eq_true, beq_iff_eq]
  constructor
  · intro ⟨⟨a, b⟩, c⟩; exact ⟨a, b, c⟩
  · intro ⟨a, b, c⟩; exact ⟨⟨a, b⟩, c⟩
set_option maxRecDepth 100000 in
theorem or_plus : ∀ s, s < 128 → ∀ st, st < 7 → s.testBit st = false → s ||| 2 ^ st = s + 2 ^ st := by decide
set_option maxRecDepth 100000 in
theorem sub_bit : ∀ w, w < 128 → ∀ st, st < 7 → w.testBit st = true → (w - 2 ^ st).testBit st = false ∧ (w - 2 ^ st) ||| 2 ^ st = w ∧ w - 2 ^ st < w := by decide
theorem or_bit (s st i : Nat) : (s ||| 2 ^ st).testBit i = (s.testBit i || decide (st = i)) := by rw [Nat.testBit_or, Nat.testBit_two_pow]
theorem onto_lt {all s st w : Nat} (hw : w < 128) (h : onto all s st w = true) : st < 7 ∧ s < w ∧ w = s + 2 ^ st := by
  obtain ⟨a, b, c⟩ := onto_iff.mp h
  have hs : s ≤ w := by rw [← b]; exact Nat.left_le_or
  have h2 : 2 ^ st ≤ w := by rw [← b]; exact Nat.right_le_or
  have hst : st < 7 := by
    by_cases q : st < 7
    · exact q
    · have : 2 ^ 7 ≤ 2 ^ st := Nat.pow_le_pow_right (by decide) (by omega)
      omega
  have e := or_plus s (by omega) st hst a
  have : 0 < 2 ^ st := Nat.pow_pos (by decide)
  exact ⟨hst, by omega, by omega⟩
def BG (all : Nat) : Nat → Nat → List (List Nat)
  | 0, w => if w = 0 then [[]] else []
  | s + 1, w => BG all s w ++ ((List.range 7).filter (fun st => onto all s st w)).flatMap (fun st => (BG all s s).map (fun l => l ++ [st]))
theorem BG_z (all w : Nat) : BG all 0 w = if w = 0 then [[]] else [] := rfl
theorem BG_s (all s w : Nat) : BG all (s + 1) w = BG all s w ++ ((List.range 7).filter (fun st => onto all s st w)).flatMap (fun st => (BG all s s).map (fun l => l ++ [st])) := rfl
theorem BG_mem {all : Nat} : ∀ {s w : Nat} {q : List Nat}, q ∈ BG all s w ↔ (w = 0 ∧ q = []) ∨ ∃ t, t < s ∧ ∃ st, st < 7 ∧ onto all t st w = true ∧ ∃ l ∈ BG all t t, q = l ++ [st]
  | 0, w, q => by
    rw [BG_z]
    constructor
    · intro h
      by_cases hw : w = 0
      · rw [if_pos hw] at h
        exact Or.inl ⟨hw, List.mem_singleton.mp h⟩
      · rw [if_neg hw] at h; cases h
    · intro h
      rcases h with ⟨a, b⟩ | ⟨t, ht, _⟩
      · rw [if_pos a, b]; exact List.mem_singleton.mpr rfl
      · omega
  | s + 1, w, q => by
    rw [BG_s, List.mem_append, BG_mem (s := s) (w := w)]
    constructor
    · intro h
      rcases h with (h | ⟨t, ht, r⟩) | h
      · exact Or.inl h
      · exact Or.inr ⟨t, by omega, r⟩
      · obtain ⟨st, h1, h2⟩ := List.mem_flatMap.mp h
        obtain ⟨l, h3, h4⟩ := List.mem_map.mp h2
        obtain ⟨h5, h6⟩ := List.mem_filter.mp h1
        exact Or.inr ⟨s, by omega, st, List.mem_range.mp h5, h6, l, h3, h4.symm⟩
    · intro h
      rcases h with h | ⟨t, ht, st, hst, ho, l, hl, e⟩
      · exact Or.inl (Or.inl h)
      · by_cases hts : t = s
        · subst hts
          exact Or.inr (List.mem_flatMap.mpr ⟨st, List.mem_filter.mpr ⟨List.mem_range.mpr hst, ho⟩, List.mem_map.mpr ⟨l, hl, e.symm⟩⟩)
        · exact Or.inl (Or.inr ⟨t, by omega, st, hst, ho, l, hl, e⟩)
theorem snoc_inj {l l' : List Nat} {s s' : Nat} (h : l ++ [s] = l' ++ [s']) : l = l' ∧ s = s' := by
  have := List.append_inj' h rfl
  exact ⟨this.1, by simpa using this.2⟩
theorem BG_nodup {all : Nat} : ∀ (s w : Nat), w < 128 → (BG all s w).Nodup
  | 0, w, _ => by
    rw [BG_z]
    by_cases h : w = 0
    · rw [if_pos h]; exact List.pairwise_singleton _ _
    · rw [if_neg h]; exact List.Pairwise.nil
  | s + 1, w, hw => by
    rw [BG_s]
    refine List.nodup_append.mpr ⟨BG_nodup s w hw, ?_, ?_⟩
    · refine List.pairwise_flatMap.mpr ⟨fun st hst => ?_, ?_⟩
      · have hs : s < 128 := by
          have := onto_lt hw (List.mem_filter.mp hst).2
          omega
        exact List.pairwise_map.mpr ((BG_nodup s s hs).imp (fun hne e => hne (snoc_inj e).1))
      · have hn : List.Pairwise (fun a b : Nat => a ≠ b) ((List.range 7).filter (fun st => onto all s st w)) := List.Pairwise.filter _ List.nodup_range
        refine hn.imp (fun hne x hx y hy e => ?_)
        obtain ⟨l, _, rfl⟩ := List.mem_map.mp hx
        obtain ⟨l', _, rfl⟩ := List.mem_map.mp hy
        exact hne (snoc_inj e).2
    · intro x hx y hy e
      subst e
      obtain ⟨st, h1, h2⟩ := List.mem_flatMap.mp hy
      obtain ⟨l, h3, h4⟩ := List.mem_map.mp h2
      have ho := onto_lt hw (List.mem_filter.mp h1).2
      rcases BG_mem.mp hx with ⟨_, h0⟩ | ⟨t, ht, st', _, ho', l', _, e'⟩
      · rw [← h4] at h0; exact absurd h0 (by simp)
      · rw [← h4] at e'
        have hst := (snoc_inj e').2
        have := onto_lt hw ho'
        rw [← hst] at this
        omega
theorem BG_all {all : Nat} : ∀ (w : Nat), w < 128 → w &&& all = w → ∀ q, q ∈ BG all w w ↔ List.Perm q (els w) := by
  intro w
  induction w using Nat.strongRecOn with
  | ind w ih =>
    intro hw ha q
    have sub : ∀ t st, onto all t st w = true → t &&& all = t := fun t st ho => by
      obtain ⟨a, b, c⟩ := onto_iff.mp ho
      apply Nat.eq_of_testBit_eq
      intro i
      rw [Nat.testBit_and]
      have h1 : (w &&& all).testBit i = w.testBit i := by rw [c]
      rw [Nat.testBit_and, ← b, or_bit] at h1
      cases ht : t.testBit i
      · rfl
      · rw [ht] at h1
        simpa using h1
    rw [BG_mem, perm_els]
    constructor
    · intro h
      rcases h with ⟨a, b⟩ | ⟨t, ht, st, hst, ho, l, hl, e⟩
      · subst b
        refine ⟨List.Pairwise.nil, fun s => ⟨(fun h => by cases h), fun h => ?_⟩⟩
        rw [a, Nat.zero_testBit] at h
        exact absurd h.2 (by decide)
      · obtain ⟨a, b, c⟩ := onto_iff.mp ho
        obtain ⟨n1, n2⟩ := perm_els.mp ((ih t ht (by omega) (sub t st ho) l).mp hl)
        rw [e]
        refine ⟨List.nodup_append.mpr ⟨n1, List.pairwise_singleton _ _, fun x hx y hy exy => ?_⟩, fun s => ?_⟩
        · rw [List.mem_singleton.mp hy] at exy
          have := ((n2 x).mp hx).2
          rw [exy, a] at this
          cases this
        · rw [List.mem_append, n2, List.mem_singleton, ← b, or_bit]
          constructor
          · intro h
            rcases h with ⟨x1, x2⟩ | x1
            · exact ⟨x1, by rw [x2]; rfl⟩
            · exact ⟨by omega, by rw [x1]; simp⟩
          · intro ⟨x1, x2⟩
            rw [Bool.or_eq_true, decide_eq_true_eq] at x2
            rcases x2 with x2 | x2
            · exact Or.inl ⟨x1, x2⟩
            · exact Or.inr x2.symm
    · intro ⟨n1, n2⟩
      rcases List.eq_nil_or_concat q with rfl | ⟨l, st, rfl⟩
      · left
        refine ⟨?_, rfl⟩
        apply Nat.eq_of_testBit_eq
        intro i
        rw [Nat.zero_testBit]
        by_cases hi : i < 7
        · cases hb : w.testBit i
          · rfl
          · exact absurd ((n2 i).mpr ⟨hi, hb⟩) (by simp)
        · exact Nat.testBit_lt_two_pow (Nat.lt_of_lt_of_le hw (show 2 ^ 7 ≤ 2 ^ i from Nat.pow_le_pow_right (by decide) (by omega)))
      · right
        rw [List.concat_eq_append] at n1 n2 ⊢
        obtain ⟨hst, hb⟩ := (n2 st).mp (List.mem_append_right _ (List.mem_singleton.mpr rfl))
        obtain ⟨s1, s2, s3⟩ := sub_bit w hw st hst hb
        have ho : onto all (w - 2 ^ st) st w = true := onto_iff.mpr ⟨s1, s2, ha⟩
        obtain ⟨m1, m2, m3⟩ := List.nodup_append.mp n1
        refine ⟨w - 2 ^ st, s3, st, hst, ho, l, ?_, rfl⟩
        rw [ih _ s3 (by omega) (sub _ st ho) l, perm_els]
        refine ⟨m1, fun s => ⟨fun h => ?_, fun ⟨h1, h2⟩ => ?_⟩⟩
        · obtain ⟨x1, x2⟩ := (n2 s).mp (List.mem_append_left _ h)
          refine ⟨x1, ?_⟩
          rw [← s2, or_bit, Bool.or_eq_true, decide_eq_true_eq] at x2
          rcases x2 with x2 | x2
          · exact x2
          · exact absurd x2.symm (m3 s h st (List.mem_singleton.mpr rfl))
        · have : s ∈ l ++ [st] := (n2 s).mpr ⟨h1, by rw [← s2, or_bit, h2]; rfl⟩
          rcases List.mem_append.mp this with h | h
          · exact h
          · rw [List.mem_singleton.mp h, s1] at h2; cases h2
