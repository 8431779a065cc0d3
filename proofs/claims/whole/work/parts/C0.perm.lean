/-! Orders: the next permutation, by itself. -/
def cd8 : List Nat → Nat
  | [] => 0
  | a :: t => a * 8 ^ t.length + cd8 t
def dg (l : List Nat) : Prop := ∀ x ∈ l, x < 8
theorem dg_t {a : Nat} {t : List Nat} (h : dg (a :: t)) : dg t := fun x hx => h x (List.mem_cons_of_mem _ hx)
theorem cd8_lt : ∀ {l : List Nat}, dg l → cd8 l < 8 ^ l.length
  | [], _ => by show 0 < 8 ^ 0; decide
  | a :: t, h => by
    have h1 := cd8_lt (dg_t h)
    have h2 := h a List.mem_cons_self
    have h3 : (a + 1) * 8 ^ t.length ≤ 8 * 8 ^ t.length := Nat.mul_le_mul_right _ (by omega)
    rw [Nat.add_mul, Nat.one_mul] at h3
    show a * 8 ^ t.length + cd8 t < 8 ^ (t.length + 1)
    rw [Nat.pow_succ, Nat.mul_comm (8 ^ t.length) 8]
    omega
theorem cd8_snoc (l : List Nat) (s : Nat) : cd8 (l ++ [s]) = cd8 l * 8 + s := by
  induction l with
  | nil => show s * 8 ^ 0 + 0 = 0 * 8 + s; omega
  | cons a t ih =>
    show a * 8 ^ (t ++ [s]).length + cd8 (t ++ [s]) = (a * 8 ^ t.length + cd8 t) * 8 + s
    rw [ih, List.length_append, List.length_singleton, Nat.pow_succ, Nat.add_mul, Nat.mul_assoc]
    omega
theorem cd8_hd {a c : Nat} {t q : List Nat} (hq : dg q) (hl : q.length = t.length) (h : c < a) : cd8 (c :: q) < cd8 (a :: t) := by
  have h1 := cd8_lt hq
  have h3 : (c + 1) * 8 ^ t.length ≤ a * 8 ^ t.length := Nat.mul_le_mul_right _ (by omega)
  rw [Nat.add_mul, Nat.one_mul] at h3
  show c * 8 ^ q.length + cd8 q < a * 8 ^ t.length + cd8 t
  rw [hl] at h1 ⊢
  omega
theorem cd8_tl {a : Nat} {t q : List Nat} (hl : q.length = t.length) : (cd8 (a :: q) < cd8 (a :: t) ↔ cd8 q < cd8 t) ∧ (cd8 (a :: q) ≤ cd8 (a :: t) ↔ cd8 q ≤ cd8 t) := by
  show (a * 8 ^ q.length + cd8 q < a * 8 ^ t.length + cd8 t ↔ _) ∧ (a * 8 ^ q.length + cd8 q ≤ a * 8 ^ t.length + cd8 t ↔ _)
  rw [hl]
  constructor
  · constructor <;> intro h <;> omega
  · constructor <;> intro h <;> omega
theorem dg_perm {l q : List Nat} (h : dg l) (hp : List.Perm q l) : dg q := fun x hx => h x (hp.mem_iff.mp hx)
theorem max8 : ∀ {t q : List Nat}, dg t → List.Pairwise (fun x y => y ≤ x) t → List.Perm q t → cd8 q ≤ cd8 t
  | [], q, _, _, hp => by rw [hp.eq_nil]; exact Nat.le_refl _
  | a :: t, q, hd, hw, hp => by
    cases q with
    | nil => exact absurd hp.length_eq (by simp)
    | cons c q =>
      have hl : q.length = t.length := by have := hp.length_eq; simpa using this
      obtain ⟨w1, w2⟩ := List.pairwise_cons.mp hw
      have hc : c ≤ a := by
        rcases List.mem_cons.mp (hp.mem_iff.mp List.mem_cons_self) with h | h
        · omega
        · exact w1 c h
      by_cases hca : c = a
      · subst hca
        exact (cd8_tl hl).2.mpr (max8 (dg_t hd) w2 (List.perm_cons c |>.mp hp))
      · exact Nat.le_of_lt (cd8_hd (dg_t (dg_perm hd hp)) hl (by omega))
theorem min8 : ∀ {t q : List Nat}, dg t → List.Pairwise (fun x y => x ≤ y) t → List.Perm q t → cd8 t ≤ cd8 q
  | [], q, _, _, hp => by rw [hp.eq_nil]; exact Nat.le_refl _
  | a :: t, q, hd, hw, hp => by
    cases q with
    | nil => exact absurd hp.length_eq (by simp)
    | cons c q =>
      have hl : q.length = t.length := by have := hp.length_eq; simpa using this
      obtain ⟨w1, w2⟩ := List.pairwise_cons.mp hw
      have hc : a ≤ c := by
        rcases List.mem_cons.mp (hp.mem_iff.mp List.mem_cons_self) with h | h
        · omega
        · exact w1 c h
      by_cases hca : c = a
      · subst hca
        exact (cd8_tl hl.symm).2.mpr (min8 (dg_t hd) w2 (List.perm_cons c |>.mp hp))
      · exact Nat.le_of_lt (cd8_hd (dg_t hd) hl.symm (by omega))
/-- the last bigger one changes places with a -/
def rp (a : Nat) : List Nat → Option (Nat × List Nat)
  | [] => none
  | x :: t => match rp a t with
    | some (b, t') => some (b, x :: t')
    | none => if a < x then some (x, a :: t) else none
def np : List Nat → Option (List Nat)
  | [] => none
  | a :: t => match np t with
    | some t' => some (a :: t')
    | none => match rp a t with
      | some (b, t') => some (b :: t'.reverse)
      | none => none
theorem rp_none {a : Nat} : ∀ {t : List Nat}, rp a t = none ↔ ∀ x ∈ t, x ≤ a
  | [] => by constructor <;> intro h; (intro x hx; cases hx); rfl
  | x :: t => by
    unfold rp
    cases hr : rp a t with
    | some p =>
      constructor
      · intro h; cases h
      · intro h
        have := rp_none.mpr (fun y hy => h y (List.mem_cons_of_mem _ hy))
        rw [hr] at this; cases this
    | none =>
      have h0 := rp_none.mp hr
      show (if a < x then some (x, a :: t) else none) = none ↔ _
      by_cases hx : a < x
      · rw [if_pos hx]
        constructor
        · intro h; cases h
        · intro h; have := h x List.mem_cons_self; omega
      · rw [if_neg hx]
        constructor
        · intro _ y hy
          rcases List.mem_cons.mp hy with rfl | hy
          · omega
          · exact h0 y hy
        · intro _; rfl
theorem rp_some {a : Nat} : ∀ {t : List Nat} {b : Nat} {t' : List Nat}, List.Pairwise (fun x y => y ≤ x) t → rp a t = some (b, t') → List.Perm (b :: t') (a :: t) ∧ a < b ∧ List.Pairwise (fun x y => y ≤ x) t' ∧ (∀ x ∈ t, a < x → b ≤ x) ∧ (∀ x ∈ t', x = a ∨ x ∈ t)
  | [], _, _, _, h => by cases h
  | x :: t, b, t', hw, h => by
    obtain ⟨w1, w2⟩ := List.pairwise_cons.mp hw
    unfold rp at h
    cases hr : rp a t with
    | some p =>
      obtain ⟨b0, t0⟩ := p
      rw [hr] at h
      cases h
      obtain ⟨p1, p2, p3, p4, p5⟩ := rp_some w2 hr
      have hbt : b ∈ t := by
        rcases List.mem_cons.mp (p1.mem_iff.mp List.mem_cons_self) with h | h
        · omega
        · exact h
      refine ⟨?_, p2, List.pairwise_cons.mpr ⟨fun y hy => ?_, p3⟩, fun y hy hay => ?_, fun y hy => ?_⟩
      · exact (List.Perm.swap x b t0).trans ((p1.cons x).trans (List.Perm.swap a x t))
      · rcases p5 y hy with rfl | h
        · have := w1 b hbt; omega
        · exact w1 y h
      · rcases List.mem_cons.mp hy with rfl | hy
        · exact w1 b hbt
        · exact p4 y hy hay
      · rcases List.mem_cons.mp hy with rfl | hy
        · exact Or.inr List.mem_cons_self
        · rcases p5 y hy with h | h
          · exact Or.inl h
          · exact Or.inr (List.mem_cons_of_mem _ h)
    | none =>
      rw [hr] at h
      have h0 := rp_none.mp hr
      have h' : (if a < x then some (x, a :: t) else none) = some (b, t') := h
      by_cases hx : a < x
      · rw [if_pos hx] at h'
        cases h'
        refine ⟨List.Perm.swap a x t, hx, List.pairwise_cons.mpr ⟨h0, w2⟩, fun y hy hay => ?_, fun y hy => ?_⟩
        · rcases List.mem_cons.mp hy with rfl | hy
          · exact Nat.le_refl _
          · have := h0 y hy; omega
        · rcases List.mem_cons.mp hy with rfl | hy
          · exact Or.inl rfl
          · exact Or.inr (List.mem_cons_of_mem _ hy)
      · rw [if_neg hx] at h'; cases h'
theorem np_none : ∀ {l : List Nat}, np l = none → List.Pairwise (fun x y => y ≤ x) l
  | [], _ => List.Pairwise.nil
  | a :: t, h => by
    unfold np at h
    cases hn : np t with
    | some t' => rw [hn] at h; cases h
    | none =>
      rw [hn] at h
      cases hr : rp a t with
      | some p => rw [hr] at h; cases h
      | none => exact List.pairwise_cons.mpr ⟨rp_none.mp hr, np_none hn⟩
theorem np_some : ∀ {l l' : List Nat}, dg l → np l = some l' → List.Perm l' l ∧ cd8 l < cd8 l' ∧ ∀ q, List.Perm q l → cd8 l < cd8 q → cd8 l' ≤ cd8 q
  | [], _, _, h => by cases h
  | a :: t, l', hd, h => by
    have hd' := dg_t hd
    unfold np at h
    cases hn : np t with
    | some t' =>
      rw [hn] at h
      cases h
      obtain ⟨p1, p2, p3⟩ := np_some hd' hn
      have hl := p1.length_eq
      refine ⟨p1.cons a, (cd8_tl hl.symm).1.mpr p2, fun q hq hlt => ?_⟩
      cases q with
      | nil => exact absurd hq.length_eq (by simp)
      | cons c q =>
        have hlq : q.length = t.length := by have := hq.length_eq; simpa using this
        by_cases hca : c = a
        · subst hca
          exact (cd8_tl (by omega)).2.mpr (p3 q (List.perm_cons c |>.mp hq) ((cd8_tl hlq.symm).1.mp hlt))
        · by_cases hlt2 : c < a
          · have := cd8_hd (t := t) (dg_t (dg_perm hd hq)) hlq hlt2
            omega
          · exact Nat.le_of_lt (cd8_hd (t := q) (q := t') (dg_perm hd' p1) (by omega) (by omega))
    | none =>
      rw [hn] at h
      have hdesc := np_none hn
      cases hr : rp a t with
      | none => rw [hr] at h; cases h
      | some p =>
        obtain ⟨b, t'⟩ := p
        rw [hr] at h
        cases h
        obtain ⟨p1, p2, p3, p4, p5⟩ := rp_some hdesc hr
        have hlt' : t'.length = t.length := by have := p1.length_eq; simpa using this
        have hpm : List.Perm (b :: t'.reverse) (a :: t) := ((List.reverse_perm t').cons b).trans p1
        refine ⟨hpm, cd8_hd hd' (by rw [List.length_reverse]; omega) p2, fun q hq hlt => ?_⟩
        cases q with
        | nil => exact absurd hq.length_eq (by simp)
        | cons c q =>
          have hlq : q.length = t.length := by have := hq.length_eq; simpa using this
          have hdq := dg_t (dg_perm hd hq)
          by_cases hca : c = a
          · subst hca
            have := max8 hd' hdesc (List.perm_cons c |>.mp hq)
            have := (cd8_tl hlq.symm).1.mp hlt
            omega
          · have hcm : c ∈ t := by
              rcases List.mem_cons.mp (hq.mem_iff.mp List.mem_cons_self) with h | h
              · exact absurd h hca
              · exact h
            by_cases hlt2 : c < a
            · have := cd8_hd (t := t) hdq hlq hlt2
              omega
            · have hbc := p4 c hcm (by omega)
              by_cases hcb : c = b
              · subst hcb
                have hq2 : List.Perm q t'.reverse := List.perm_cons c |>.mp (hq.trans hpm.symm)
                have hd2 : dg t'.reverse := dg_t (dg_perm hd hpm)
                have := min8 hd2 (List.pairwise_reverse.mpr p3) hq2
                exact (cd8_tl (by rw [List.length_reverse]; omega)).2.mpr this
              · exact Nat.le_of_lt (cd8_hd (t := q) (dg_t (dg_perm hd hpm)) (by rw [List.length_reverse]; omega) (by omega))
/-- what comes behind an order -/
def NL : List Nat → List (List Nat) → Prop
  | l, [] => np l = none
  | l, l' :: L => np l = some l' ∧ NL l' L
theorem NL_ex : ∀ (m : Nat) (l : List Nat), dg l → 8 ^ l.length - cd8 l ≤ m → ∃ L, NL l L
  | 0, l, hd, h => by
    have := cd8_lt hd
    omega
  | m + 1, l, hd, h => by
    cases hn : np l with
    | none => exact ⟨[], hn⟩
    | some l' =>
      obtain ⟨p1, p2, p3⟩ := np_some hd hn
      have hl := p1.length_eq
      have := cd8_lt hd
      obtain ⟨L, hL⟩ := NL_ex m l' (dg_perm hd p1) (by rw [hl]; omega)
      exact ⟨l' :: L, hn, hL⟩
theorem NL_spec : ∀ {L : List (List Nat)} {l : List Nat}, dg l → NL l L → List.Pairwise (fun x y => cd8 x < cd8 y) (l :: L) ∧ (∀ q ∈ L, List.Perm q l) ∧ ∀ q, List.Perm q l → cd8 l < cd8 q → q ∈ L ∨ ∃ r ∈ L, cd8 r = cd8 q
  | [], l, hd, h => by
    refine ⟨List.pairwise_singleton _ _, (fun q hq => by cases hq), fun q hq hlt => ?_⟩
    have := max8 hd (np_none h) hq
    omega
  | l' :: L, l, hd, h => by
    obtain ⟨p1, p2, p3⟩ := np_some hd h.1
    obtain ⟨i1, i2, i3⟩ := NL_spec (dg_perm hd p1) h.2
    refine ⟨List.pairwise_cons.mpr ⟨fun y hy => ?_, i1⟩, fun q hq => ?_, fun q hq hlt => ?_⟩
    · rcases List.mem_cons.mp hy with rfl | hy
      · exact p2
      · exact Nat.lt_trans p2 ((List.pairwise_cons.mp i1).1 y hy)
    · rcases List.mem_cons.mp hq with rfl | hq
      · exact p1
      · exact (i2 q hq).trans p1
    · have := p3 q hq hlt
      by_cases he : cd8 l' = cd8 q
      · exact Or.inr ⟨l', List.mem_cons_self, he⟩
      · rcases i3 q (hq.trans p1.symm) (by omega) with h | ⟨r, h, e⟩
        · exact Or.inl (List.mem_cons_of_mem _ h)
        · exact Or.inr ⟨r, List.mem_cons_of_mem _ h, e⟩
theorem cd8_inj : ∀ {l q : List Nat}, dg l → dg q → l.length = q.length → cd8 l = cd8 q → l = q
  | [], [], _, _, _, _ => rfl
  | [], _ :: _, _, _, h, _ => by simp at h
  | _ :: _, [], _, _, h, _ => by simp at h
  | a :: t, c :: q, hd, hq, hl, e => by
    have hl' : t.length = q.length := by simpa using hl
    rcases Nat.lt_trichotomy a c with h | h | h
    · have := cd8_hd (t := q) (dg_t hd) hl' h; omega
    · subst h
      have e' : cd8 t = cd8 q := by
        have : a * 8 ^ t.length + cd8 t = a * 8 ^ q.length + cd8 q := e
        rw [hl'] at this; omega
      rw [cd8_inj (dg_t hd) (dg_t hq) hl' e']
    · have := cd8_hd (t := t) (dg_t hq) hl'.symm h; omega
/-- from the least on: all orders, each once, by their numbers -/
theorem NL_all {L : List (List Nat)} {l : List Nat} (hd : dg l) (hs : List.Pairwise (fun x y => x ≤ y) l) (h : NL l L) : List.Pairwise (fun x y => cd8 x < cd8 y) (l :: L) ∧ ∀ q, q ∈ l :: L ↔ List.Perm q l := by
  obtain ⟨a, b, c⟩ := NL_spec hd h
  refine ⟨a, fun q => ⟨fun hq => ?_, fun hq => ?_⟩⟩
  · rcases List.mem_cons.mp hq with rfl | hq
    · exact List.Perm.refl _
    · exact b q hq
  · have hm := min8 hd hs hq
    by_cases he : cd8 l = cd8 q
    · rw [cd8_inj hd (dg_perm hd hq) hq.length_eq.symm he]
      exact List.mem_cons_self
    · rcases c q hq (by omega) with h | ⟨r, h, e⟩
      · exact List.mem_cons_of_mem _ h
      · rw [← cd8_inj (dg_perm hd (b r h)) (dg_perm hd hq) ((b r h).length_eq.trans hq.length_eq.symm) e]
        exact List.mem_cons_of_mem _ h
