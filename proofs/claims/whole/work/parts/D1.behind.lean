/-! Orders: where a stone stands, who stands behind; new bags, by themselves. -/
def psO (ord : Nat → Nat) : Nat → Nat → Nat
  | 0, _ => 0
  | n + 1, x => if ord n = x then n else psO ord n x
theorem psO_eq {ord : Nat → Nat} : ∀ {n p : Nat}, p < n → (∀ j k, j < n → k < n → ord j = ord k → j = k) → psO ord n (ord p) = p
  | 0, p, h, _ => absurd h (by omega)
  | n + 1, p, h, hi => by
    unfold psO
    by_cases hp : p = n
    · rw [hp, if_pos rfl]
    · rw [if_neg (fun q => hp ((hi n p (by omega) (by omega) q).symm))]
      exact psO_eq (by omega) (fun j k hj hk => hi j k (by omega) (by omega))
theorem psO_no {ord : Nat → Nat} {x : Nat} : ∀ {n : Nat}, (∀ p, p < n → ord p ≠ x) → psO ord n x = 0
  | 0, _ => rfl
  | n + 1, h => by
    unfold psO
    rw [if_neg (h n (by omega))]
    exact psO_no (fun p hp => h p (by omega))
/-- the bits of who stands at p or behind, as far as n -/
def bhO (ord : Nat → Nat) (n : Nat) : Nat → Nat
  | 0 => 0
  | m + 1 => bhO ord n m ||| 2 ^ ord (n - 1 - m)
theorem bhO_bit (ord : Nat → Nat) (n i : Nat) : ∀ m, (bhO ord n m).testBit i = true ↔ ∃ j, j < m ∧ ord (n - 1 - j) = i
  | 0 => by
    unfold bhO
    rw [Nat.zero_testBit]
    exact ⟨fun h => (by cases h), fun ⟨j, hj, _⟩ => absurd hj (by omega)⟩
  | m + 1 => by
    unfold bhO
    rw [Nat.testBit_or, Nat.testBit_two_pow, Bool.or_eq_true, bhO_bit ord n i m, decide_eq_true_iff]
    constructor
    · rintro (⟨j, hj, e⟩ | e)
      · exact ⟨j, by omega, e⟩
      · exact ⟨m, by omega, e⟩
    · rintro ⟨j, hj, e⟩
      by_cases h : j = m
      · rw [h] at e; exact Or.inr e
      · exact Or.inl ⟨j, by omega, e⟩
theorem bhO_lt {ord : Nat → Nat} {n : Nat} (h : n ≤ 7) (ho : ∀ k, k < n → ord k < n) : ∀ m, m ≤ n → bhO ord n m < 128
  | 0, _ => by unfold bhO; omega
  | m + 1, hm => Nat.or_lt_two_pow (n := 7) (bhO_lt h ho m (by omega)) (Nat.pow_lt_pow_right (by decide) (by have := ho (n - 1 - m) (by omega); omega))
def sbO (ord : Nat → Nat) (n st : Nat) : Nat := bhO ord n (n - 1 - psO ord n st)
theorem sbO_bit {ord : Nat → Nat} {n st : Nat} (hi : ∀ j k, j < n → k < n → ord j = ord k → j = k) (ho : ∃ p, p < n ∧ ord p = st) (x : Nat) : decide (psO ord n st < psO ord n x) = (sbO ord n st).testBit x := by
  obtain ⟨p, hp, rfl⟩ := ho
  have e1 := psO_eq hp hi
  unfold sbO
  rw [e1]
  have key : (bhO ord n (n - 1 - p)).testBit x = true ↔ p < psO ord n x := by
    rw [bhO_bit]
    constructor
    · rintro ⟨j, hj, rfl⟩
      rw [psO_eq (by omega) hi]
      omega
    · intro h
      by_cases hx : ∃ q, q < n ∧ ord q = x
      · obtain ⟨q, hq, rfl⟩ := hx
        rw [psO_eq hq hi] at h
        exact ⟨n - 1 - q, by omega, by rw [show n - 1 - (n - 1 - q) = q by omega]⟩
      · rw [psO_no (fun q hq e => hx ⟨q, hq, e⟩)] at h
        exact absurd h (by omega)
  cases hb : (bhO ord n (n - 1 - p)).testBit x with
  | true => exact decide_eq_true (key.mp hb)
  | false => exact decide_eq_false (fun h => by rw [key.mpr h] at hb; cases hb)
theorem sbO_lt {ord : Nat → Nat} {n : Nat} (h : n ≤ 7) (ho : ∀ k, k < n → ord k < n) (st : Nat) : sbO ord n st < 128 := bhO_lt h ho _ (by omega)
set_option maxRecDepth 100000 in
theorem bcn_els : ∀ w, w < 128 → bcn w 10 = (els w).length := by decide
theorem els_and (s b : Nat) : (els s).filter (fun x => b.testBit x) = els (s &&& b) := by
  unfold els
  rw [List.filter_filter]
  congr 1
  funext x
  rw [Nat.testBit_and, Bool.and_comm]
theorem cnt_eq {ps : Nat → Nat} {s b st : Nat} (hs : s < 128) {l : List Nat} (hl : List.Perm l (els s)) (hb : ∀ x, decide (ps st < ps x) = b.testBit x) : (l.filter (fun x => decide (ps st < ps x))).length = bcn (s &&& b) 10 := by
  rw [bcn_els _ (Nat.lt_of_le_of_lt Nat.and_le_left hs), ← els_and, (hl.filter _).length_eq]
  congr 2
  funext x
  exact hb x
/-- what a list of orders gives with one of these stones more, of the set w -/
def nbR (all s w : Nat) (L : List Nat) (C : List (List Nat)) : List (List Nat) := (L.filter (fun st => onto all s st w)).flatMap (fun st => C.map (fun l => l ++ [st]))
theorem nbR_nil (all s w : Nat) (C : List (List Nat)) : nbR all s w [] C = [] := rfl
theorem nbR_t {all s w st : Nat} {L : List Nat} {C : List (List Nat)} (h : onto all s st w = true) : nbR all s w (st :: L) C = C.map (fun l => l ++ [st]) ++ nbR all s w L C := by
  unfold nbR
  rw [List.filter_cons, if_pos h, List.flatMap_cons]
theorem nbR_f {all s w st : Nat} {L : List Nat} {C : List (List Nat)} (h : onto all s st w = false) : nbR all s w (st :: L) C = nbR all s w L C := by
  unfold nbR
  rw [List.filter_cons, if_neg (by rw [h]; exact Bool.noConfusion)]
theorem nbR_z {all s w : Nat} {L : List Nat} (h : ∀ st ∈ L, onto all s st w = false) (C : List (List Nat)) : nbR all s w L C = [] := by
  unfold nbR
  rw [List.filter_eq_nil_iff.mpr (fun st hst => by rw [h st hst]; exact Bool.noConfusion)]
  rfl
theorem onto_self (all s st : Nat) : onto all s st s = false := by
  cases h : onto all s st s with
  | false => rfl
  | true =>
    obtain ⟨h1, h2, _⟩ := onto_iff.mp h
    have := or_bit s st st
    rw [h2, h1] at this
    simp at this
theorem nbR_self (all s : Nat) (L : List Nat) (C : List (List Nat)) : nbR all s s L C = [] := nbR_z (fun st _ => onto_self all s st) C
theorem nbR_perm {all s w : Nat} (L : List Nat) {C C' : List (List Nat)} (h : List.Perm C C') : List.Perm (nbR all s w L C) (nbR all s w L C') := by
  induction L with
  | nil => exact List.Perm.refl _
  | cons st L ih =>
    cases ho : onto all s st w with
    | true => rw [nbR_t ho, nbR_t ho]; exact (h.map _).append ih
    | false => rw [nbR_f ho, nbR_f ho]; exact ih
theorem nbR_app {all s w : Nat} (L : List Nat) (C C' : List (List Nat)) : List.Perm (nbR all s w L (C ++ C')) (nbR all s w L C ++ nbR all s w L C') := by
  induction L with
  | nil => exact List.Perm.refl _
  | cons st L ih =>
    cases ho : onto all s st w with
    | true =>
      rw [nbR_t ho, nbR_t ho, nbR_t ho, List.map_append, List.append_assoc, List.append_assoc]
      refine List.Perm.append_left _ ?_
      exact (List.Perm.append_left _ ih).trans (List.perm_append_comm_assoc ..)
    | false => rw [nbR_f ho, nbR_f ho, nbR_f ho]; exact ih
theorem BG_nb (all s w : Nat) : BG all (s + 1) w = BG all s w ++ nbR all s w (List.range 7) (BG all s s) := rfl
theorem onto_big {all s st w n : Nat} (ha : all < 2 ^ n) (hst : n ≤ st) : onto all s st w = false := by
  cases h : onto all s st w with
  | false => rfl
  | true =>
    obtain ⟨h1, h2, h3⟩ := onto_iff.mp h
    have b1 : w.testBit st = true := by rw [← h2, or_bit]; simp
    have b2 : (w &&& all).testBit st = true := by rw [h3]; exact b1
    rw [Nat.testBit_and, Bool.and_eq_true] at b2
    have := Nat.testBit_lt_two_pow (Nat.lt_of_lt_of_le ha (Nat.pow_le_pow_right (by decide) hst))
    rw [b2.2] at this
    cases this
theorem range'_big {all s w n : Nat} (ha : all < 2 ^ n) (m : Nat) (C : List (List Nat)) : nbR all s w (List.range' n m) C = [] := nbR_z (fun st hst => onto_big ha (by rw [List.mem_range'_1] at hst; omega)) C
