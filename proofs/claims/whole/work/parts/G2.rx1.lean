/-! The reference reads: expressions, by themselves; codes and waits. -/
def seqO : List VF → (Nat → Int) → Option (List Int)
  | [], _ => some []
  | f :: r, V => match f V, seqO r V with
    | some x, some y => some (x :: y)
    | _, _ => none
def obn (r : Option (Option (List Int))) (g : List Int → Option (Option (List Int))) : Option (Option (List Int)) := match r with
  | some (some st) => g st
  | some none => some none
  | none => none
theorem rpn_app {C I V : Nat → Int} : ∀ (m1 m2 p : Nat) (st : List Int), rpn C I V (m1 + m2) p st = obn (rpn C I V m1 p st) (fun st' => rpn C I V m2 (p + m1) st')
  | 0, m2, p, st => by
    rw [Nat.zero_add]
    rfl
  | m1 + 1, m2, p, st => by
    have ih := fun st' => rpn_app (C := C) (I := I) (V := V) m1 m2 (p + 1) st'
    rw [show p + 1 + m1 = p + (m1 + 1) by omega] at ih
    rw [show m1 + 1 + m2 = (m1 + m2) + 1 by omega]
    have e1 : ∀ m, rpn C I V (m + 1) p st = (if C p = 0 then rpn C I V m (p + 1) (I p :: st) else if C p = 1 then rpn C I V m (p + 1) (V (I p).toNat :: st) else match st with
      | y :: x :: r => match bop (opk (C p)) x y with
        | some z => rpn C I V m (p + 1) (z :: r)
        | none => some none
      | _ => none) := fun m => by
      cases st with
      | nil => rfl
      | cons a t => cases t <;> rfl
    rw [e1, e1]
    by_cases h0 : C p = 0
    · rw [if_pos h0, if_pos h0]
      exact ih _
    · rw [if_neg h0, if_neg h0]
      by_cases h1 : C p = 1
      · rw [if_pos h1, if_pos h1]
        exact ih _
      · rw [if_neg h1, if_neg h1]
        cases st with
        | nil => rfl
        | cons y t =>
          cases t with
          | nil => rfl
          | cons x r =>
            cases hb : bop (opk (C p)) x y with
            | none =>
              simp only [hb]
              rfl
            | some z =>
              simp only [hb]
              exact ih _
theorem rpn_congr {C I C' I' V : Nat → Int} : ∀ (m p : Nat) (st : List Int), (∀ i, p ≤ i → i < p + m → C' i = C i ∧ I' i = I i) → rpn C' I' V m p st = rpn C I V m p st
  | 0, _, _, _ => rfl
  | m + 1, p, st, h => by
    unfold rpn
    rw [(h p (Nat.le_refl _) (by omega)).1, (h p (Nat.le_refl _) (by omega)).2]
    have ih := fun st' => rpn_congr (V := V) m (p + 1) st' (fun i a b => h i (by omega) (by omega))
    simp only [ih]
def opc (o : Nat) : Int := if o = 43 then 2 else if o = 45 then 3 else if o = 42 then 4 else 5
def isop (o : Nat) : Prop := o = 42 ∨ o = 43 ∨ o = 45 ∨ o = 47
theorem opk_opc {o : Nat} (h : isop o) : opk (opc o) = o := by
  rcases h with rfl | rfl | rfl | rfl <;> rfl
theorem opc_ne {o : Nat} (h : isop o) : ¬ opc o = 0 ∧ ¬ opc o = 1 ∧ 0 ≤ opc o ∧ opc o ≤ 5 := by
  rcases h with rfl | rfl | rfl | rfl <;> decide
/-- the pile that the code so far makes, and the signs that wait -/
def XI (E : Nat → Nat → Int) (u p0 k : Nat) (W : List Nat) (S : List VF) : Prop := E 256 53 = ((420 * u + k : Nat) : Int) ∧ p0 ≤ k ∧ E 256 59 = (W.length : Int) ∧ (∀ i, i < W.length → E 298 (W.length - 1 - i) = (W.getD i 0 : Int)) ∧ (∀ i, p0 ≤ i → i < k → 0 ≤ E 296 (420 * u + i) ∧ E 296 (420 * u + i) ≤ 5 ∧ (E 296 (420 * u + i) = 1 → 0 ≤ E 297 (420 * u + i) ∧ E 297 (420 * u + i) < 6)) ∧ ∀ V, rpn (E 296) (E 297) V (k - p0) (420 * u + p0) [] = some (seqO S V)
/-- what an expression leaves as it was -/
def RxF (E E' : Nat → Nat → Int) (u k : Nat) : Prop := (∀ q, q ≠ 256 → q ≠ 296 → q ≠ 297 → q ≠ 298 → E' q = E q) ∧ (∀ j, j < 420 * u + k → E' 296 j = E 296 j ∧ E' 297 j = E 297 j) ∧ (∀ j, ¬ (j = 11 ∨ j = 12 ∨ j = 13 ∨ j = 14 ∨ j = 15 ∨ j = 16 ∨ j = 53 ∨ j = 59) → E' 256 j = E 256 j)
theorem RxF.trans {E E1 E2 : Nat → Nat → Int} {u k k1 : Nat} (h1 : RxF E E1 u k) (h2 : RxF E1 E2 u k1) (hk : k ≤ k1) : RxF E E2 u k := ⟨fun q a b c e => (h2.1 q a b c e).trans (h1.1 q a b c e), fun j hj => ⟨((h2.2.1 j (by omega)).1).trans (h1.2.1 j hj).1, ((h2.2.1 j (by omega)).2).trans (h1.2.1 j hj).2⟩, fun j a => (h2.2.2 j a).trans (h1.2.2 j a)⟩
theorem RxF.rfl' {E : Nat → Nat → Int} {u k : Nat} : RxF E E u k := ⟨fun _ _ _ _ _ => rfl, fun _ _ => ⟨rfl, rfl⟩, fun _ _ => rfl⟩
theorem Rq.xf {E E' : Nat → Nat → Int} (h : Rq E E') (u k : Nat) : RxF E E' u k := ⟨fun q a _ _ _ => h.1 q a, fun j _ => ⟨by rw [h.1 296 (by decide)], by rw [h.1 297 (by decide)]⟩, fun j a => h.2 j (by omega)⟩
theorem RxF.fld {E : Nat → Nat → Int} {u k j : Nat} (hj : j = 12 ∨ j = 53 ∨ j = 59) (x : Int) : RxF E (aup E 256 j x) u k := ⟨fun q a _ _ _ => aupN a, fun i _ => ⟨by rw [aupN (by decide)], by rw [aupN (by decide)]⟩, fun i hi => aupJ (by omega)⟩
theorem RxF.u298 {E : Nat → Nat → Int} {u k j : Nat} (x : Int) : RxF E (aup E 298 j x) u k := ⟨fun q _ _ _ e => aupN e, fun i _ => ⟨by rw [aupN (by decide)], by rw [aupN (by decide)]⟩, fun i hi => by rw [aupN (by decide)]⟩
theorem RxF.u296 {E : Nat → Nat → Int} {u k j : Nat} (hj : 420 * u + k ≤ j) (x : Int) : RxF E (aup E 296 j x) u k := ⟨fun q _ b _ _ => aupN b, fun i hi => ⟨aupJ (by omega), by rw [aupN (by decide)]⟩, fun i hi => by rw [aupN (by decide)]⟩
theorem RxF.u297 {E : Nat → Nat → Int} {u k j : Nat} (hj : 420 * u + k ≤ j) (x : Int) : RxF E (aup E 297 j x) u k := ⟨fun q _ _ c _ => aupN c, fun i hi => ⟨by rw [aupN (by decide)], aupJ (by omega)⟩, fun i hi => by rw [aupN (by decide)]⟩
/-- one more code -/
theorem XI.emit {E : Nat → Nat → Int} {u p0 k : Nat} {W : List Nat} {S S' : List VF} {x y : Int} (h : XI E u p0 k W S) (hx : 0 ≤ x ∧ x ≤ 5 ∧ (x = 1 → 0 ≤ y ∧ y < 6)) (hS : ∀ (V : Nat → Int) (C I : Nat → Int), C (420 * u + k) = x → I (420 * u + k) = y → obn (some (seqO S V)) (fun st' => rpn C I V 1 (420 * u + k) st') = some (seqO S' V)) : XI (aup (aup (aup E 296 (420 * u + k) x) 297 (420 * u + k) y) 256 53 ((420 * u + (k + 1) : Nat) : Int)) u p0 (k + 1) W S' := by
  obtain ⟨h1, h2, h3, h4, h5, h6⟩ := h
  have a6 : ∀ j, aup (aup (aup E 296 (420 * u + k) x) 297 (420 * u + k) y) 256 53 ((420 * u + (k + 1) : Nat) : Int) 296 j = (if j = 420 * u + k then x else E 296 j) := fun j => by
    rw [aupN (by decide), aupN (by decide)]
    by_cases e : j = 420 * u + k
    · rw [e, aupE, if_pos rfl]
    · rw [aupJ e, if_neg e]
  have a7 : ∀ j, aup (aup (aup E 296 (420 * u + k) x) 297 (420 * u + k) y) 256 53 ((420 * u + (k + 1) : Nat) : Int) 297 j = (if j = 420 * u + k then y else E 297 j) := fun j => by
    rw [aupN (by decide)]
    by_cases e : j = 420 * u + k
    · rw [e, aupE, if_pos rfl]
    · rw [aupJ e, if_neg e, aupN (by decide)]
  refine ⟨by rw [aupE], by omega, by rw [aupJ (by decide), aupN (by decide), aupN (by decide)]; exact h3, fun i hi => by rw [aupN (by decide), aupN (by decide), aupN (by decide)]; exact h4 i hi, fun i a b => ?_, fun V => ?_⟩
  · rw [a6, a7]
    by_cases e : i = k
    · rw [if_pos (by rw [e]), if_pos (by rw [e])]
      exact hx
    · rw [if_neg (by omega), if_neg (by omega)]
      exact h5 i a (by omega)
  · have e1 : k + 1 - p0 = (k - p0) + 1 := by omega
    rw [e1, rpn_app, rpn_congr (C := E 296) (I := E 297) (k - p0) (420 * u + p0) [] (fun i a b => ⟨by rw [a6, if_neg (by omega)], by rw [a7, if_neg (by omega)]⟩), h6 V, show 420 * u + p0 + (k - p0) = 420 * u + k by omega]
    exact hS V _ _ (by rw [a6, if_pos rfl]) (by rw [a7, if_pos rfl])
theorem XI.wait {E : Nat → Nat → Int} {u p0 k : Nat} {W : List Nat} {S : List VF} (h : XI E u p0 k W S) {o : Nat} {x : Int} (hx : x = (o : Int)) : XI (aup (aup E 298 W.length x) 256 59 ((W.length + 1 : Nat) : Int)) u p0 k (o :: W) S := by
  obtain ⟨h1, h2, h3, h4, h5, h6⟩ := h
  refine ⟨by rw [aupJ (by decide), aupN (by decide)]; exact h1, h2, by rw [aupE]; rfl, fun i hi => ?_, by rw [aupN (by decide), aupN (by decide), aupN (by decide), aupN (by decide)]; exact h5, by rw [aupN (by decide), aupN (by decide), aupN (by decide), aupN (by decide)]; exact h6⟩
  rw [aupN (by decide), List.length_cons]
  rw [List.length_cons] at hi
  cases i with
  | zero =>
    rw [show W.length + 1 - 1 - 0 = W.length by omega, aupE, hx]
    rfl
  | succ i =>
    rw [aupJ (by omega), show W.length + 1 - 1 - (i + 1) = W.length - 1 - i by omega, h4 i (by omega)]
    rfl
theorem XI.unwait {E : Nat → Nat → Int} {u p0 k : Nat} {W : List Nat} {S : List VF} {o : Nat} (h : XI E u p0 k (o :: W) S) : XI (aup E 256 59 (W.length : Int)) u p0 k W S := by
  obtain ⟨h1, h2, h3, h4, h5, h6⟩ := h
  refine ⟨by rw [aupJ (by decide)]; exact h1, h2, by rw [aupE], fun i hi => ?_, by rw [aupN (by decide), aupN (by decide)]; exact h5, by rw [aupN (by decide), aupN (by decide)]; exact h6⟩
  rw [aupN (by decide)]
  have := h4 (i + 1) (by rw [List.length_cons]; omega)
  rw [List.length_cons, show W.length + 1 - 1 - (i + 1) = W.length - 1 - i by omega] at this
  exact this
theorem XI.top {E : Nat → Nat → Int} {u p0 k : Nat} {W : List Nat} {S : List VF} {o : Nat} (h : XI E u p0 k (o :: W) S) : E 256 59 = ((W.length + 1 : Nat) : Int) ∧ E 298 W.length = (o : Int) := by
  refine ⟨h.2.2.1, ?_⟩
  have := h.2.2.2.1 0 (by rw [List.length_cons]; omega)
  rw [List.length_cons, show W.length + 1 - 1 - 0 = W.length by omega] at this
  exact this
theorem XI.same {E E' : Nat → Nat → Int} {u p0 k : Nat} {W : List Nat} {S : List VF} (h : XI E u p0 k W S) (e53 : E' 256 53 = E 256 53) (e59 : E' 256 59 = E 256 59) (hd : ∀ q, 296 ≤ q → q ≤ 298 → E' q = E q) : XI E' u p0 k W S := by
  unfold XI at h ⊢
  rw [e53, e59, hd 296 (by decide) (by decide), hd 297 (by decide) (by decide), hd 298 (by decide) (by decide)]
  exact h
theorem seq_bin {o : Nat} {f g : VF} {S : List VF} {V : Nat → Int} {C I : Nat → Int} {p : Nat} (ho : isop o) (hC : C p = opc o) : obn (some (seqO (g :: f :: S) V)) (fun st' => rpn C I V 1 p st') = some (seqO (bin2 o f g :: S) V) := by
  obtain ⟨n0, n1, _, _⟩ := opc_ne ho
  have e1 : seqO (g :: f :: S) V = (match g V, seqO (f :: S) V with
    | some x, some y => some (x :: y)
    | _, _ => none) := rfl
  have e2 : seqO (f :: S) V = (match f V, seqO S V with
    | some x, some y => some (x :: y)
    | _, _ => none) := rfl
  have e3 : seqO (bin2 o f g :: S) V = (match bin2 o f g V, seqO S V with
    | some x, some y => some (x :: y)
    | _, _ => none) := rfl
  have e4 : bin2 o f g V = (match f V, g V with
    | some x, some y => bop o x y
    | _, _ => none) := rfl
  rw [e1, e2, e3, e4]
  cases hg : g V with
  | none =>
    cases hf : f V <;> cases seqO S V <;> rfl
  | some y =>
    cases hf : f V with
    | none => cases seqO S V <;> rfl
    | some x =>
      cases hS : seqO S V with
      | none =>
        cases hbo : bop o x y with
        | none =>
          simp only [hbo]
          rfl
        | some z =>
          simp only [hbo]
          rfl
      | some st =>
        have e : rpn C I V 1 p (y :: x :: st) = (match bop (opk (C p)) x y with
          | some z => some (some (z :: st))
          | none => some none) := by
          show (if C p = 0 then _ else if C p = 1 then _ else _) = _
          rw [if_neg (by rw [hC]; exact n0), if_neg (by rw [hC]; exact n1)]
          rfl
        show rpn C I V 1 p (y :: x :: st) = some (match bop o x y, (some st : Option (List Int)) with
          | some x, some y => some (x :: y)
          | _, _ => none)
        rw [e, hC, opk_opc ho]
        cases bop o x y <;> rfl
theorem seq_unit {g : VF} {S : List VF} {V : Nat → Int} {C I : Nat → Int} {p : Nat} {z : Int} (hg : g V = some z) (hC : (C p = 0 ∧ I p = z) ∨ (C p = 1 ∧ V (I p).toNat = z)) : obn (some (seqO S V)) (fun st' => rpn C I V 1 p st') = some (seqO (g :: S) V) := by
  have e1 : seqO (g :: S) V = (match g V, seqO S V with
    | some x, some y => some (x :: y)
    | _, _ => none) := rfl
  rw [e1, hg]
  cases hS : seqO S V with
  | none => rfl
  | some st =>
    show rpn C I V 1 p st = some (some (z :: st))
    rcases hC with ⟨h1, h2⟩ | ⟨h1, h2⟩
    · show (if C p = 0 then _ else _) = _
      rw [if_pos h1, h2]
      rfl
    · show (if C p = 0 then _ else if C p = 1 then _ else _) = _
      rw [if_neg (by rw [h1]; decide), if_pos h1, h2]
      rfl
