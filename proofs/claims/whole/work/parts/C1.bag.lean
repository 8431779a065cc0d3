/-! Orders: bags of orders, by itself. ps: where a stone stands; tk: what a stone does. -/
def inv (ps : Nat → Nat) : List Nat → Nat
  | [] => 0
  | a :: t => (t.filter (fun x => decide (ps x < ps a))).length + inv ps t
theorem inv_snoc (ps : Nat → Nat) (s : Nat) : ∀ l : List Nat, inv ps (l ++ [s]) = inv ps l + (l.filter (fun x => decide (ps s < ps x))).length
  | [] => rfl
  | a :: t => by
    show ((t ++ [s]).filter (fun x => decide (ps x < ps a))).length + inv ps (t ++ [s]) = (t.filter (fun x => decide (ps x < ps a))).length + inv ps t + ((a :: t).filter (fun x => decide (ps s < ps x))).length
    rw [inv_snoc ps s t, List.filter_append, List.length_append]
    by_cases h : ps s < ps a
    · simp only [List.filter_cons, List.filter_nil, h, decide_true, if_true, List.length_cons, List.length_nil]
      omega
    · simp only [List.filter_cons, List.filter_nil, h, decide_false, Bool.false_eq_true, if_false, List.length_nil]
      omega
def oP (tk : Nat → List Nat → List Nat) (l : List Nat) (w : List Nat) : List Nat := l.foldl (fun w s => tk s w) w
theorem oP_snoc (tk : Nat → List Nat → List Nat) (l : List Nat) (s : Nat) (w : List Nat) : oP tk (l ++ [s]) w = tk s (oP tk l w) := by
  unfold oP
  rw [List.foldl_append]
  rfl
/-- the words of all pairs -/
def vP (tk : Nat → List Nat → List Nat) (pin : Nat → List Nat) (n : Nat) (l : List Nat) : List (List Nat) := (List.range n).map (fun p => oP tk l (pin p))
theorem vP_snoc (tk : Nat → List Nat → List Nat) (pin : Nat → List Nat) (n : Nat) (l : List Nat) (s : Nat) : vP tk pin n (l ++ [s]) = (vP tk pin n l).map (tk s) := by
  unfold vP
  rw [List.map_map]
  congr 1
  funext p
  exact oP_snoc tk l s (pin p)
theorem vP_get (tk : Nat → List Nat → List Nat) (pin : Nat → List Nat) {n : Nat} (l : List Nat) {p : Nat} (h : p < n) : (vP tk pin n l).getD p [] = oP tk l (pin p) := by
  unfold vP
  rw [List.getD_eq_getElem?_getD, List.getElem?_map, List.getElem?_range h]
  rfl
theorem vP_len (tk : Nat → List Nat → List Nat) (pin : Nat → List Nat) (n : Nat) (l : List Nat) : (vP tk pin n l).length = n := by
  unfold vP
  rw [List.length_map, List.length_range]
/-- x is the least of f over C -/
def isMin (f : List Nat → Nat) (C : List (List Nat)) (x : Nat) : Prop := (∃ l ∈ C, f l = x) ∧ ∀ l ∈ C, x ≤ f l
theorem isMin_uniq {f : List Nat → Nat} {C : List (List Nat)} {x y : Nat} (h1 : isMin f C x) (h2 : isMin f C y) : x = y := by
  obtain ⟨⟨l, a, b⟩, c⟩ := h1
  obtain ⟨⟨l', a', b'⟩, c'⟩ := h2
  have := c l' a'
  have := c' l a
  omega
theorem isMin_perm {f : List Nat → Nat} {C C' : List (List Nat)} {x : Nat} (hp : List.Perm C C') (h : isMin f C x) : isMin f C' x := by
  obtain ⟨⟨l, a, b⟩, c⟩ := h
  exact ⟨⟨l, hp.mem_iff.mp a, b⟩, fun q hq => c q (hp.mem_iff.mpr hq)⟩
theorem isMin_app {f : List Nat → Nat} {C C' : List (List Nat)} {x y : Nat} (h1 : isMin f C x) (h2 : isMin f C' y) : isMin f (C ++ C') (min x y) := by
  obtain ⟨⟨l, a, b⟩, c⟩ := h1
  obtain ⟨⟨l', a', b'⟩, c'⟩ := h2
  refine ⟨?_, fun q hq => ?_⟩
  · by_cases h : x ≤ y
    · exact ⟨l, List.mem_append_left _ a, by omega⟩
    · exact ⟨l', List.mem_append_right _ a', by omega⟩
  · rcases List.mem_append.mp hq with h | h
    · have := c q h; omega
    · have := c' q h; omega
theorem isMin_map {f : List Nat → Nat} {C : List (List Nat)} {x : Nat} {g : List Nat → List Nat} {h : Nat → Nat} (hm : ∀ a b, a ≤ b → h a ≤ h b) (hg : ∀ l ∈ C, f (g l) = h (f l)) (h1 : isMin f C x) : isMin f (C.map g) (h x) := by
  obtain ⟨⟨l, a, b⟩, c⟩ := h1
  refine ⟨⟨g l, List.mem_map.mpr ⟨l, a, rfl⟩, by rw [hg l a, b]⟩, fun q hq => ?_⟩
  obtain ⟨r, hr, rfl⟩ := List.mem_map.mp hq
  rw [hg r hr]
  exact hm _ _ (c r hr)
/-- the elements of a set -/
def els (w : Nat) : List Nat := (List.range 7).filter (fun s => w.testBit s)
theorem els_mem {w s : Nat} : s ∈ els w ↔ s < 7 ∧ w.testBit s = true := by
  unfold els
  rw [List.mem_filter, List.mem_range]
theorem els_nodup (w : Nat) : (els w).Nodup := List.Pairwise.filter _ List.nodup_range
theorem els_dg (w : Nat) : ∀ x ∈ els w, x < 8 := fun x hx => by
  have := (els_mem.mp hx).1
  omega
theorem els_sorted (w : Nat) : List.Pairwise (fun x y => x ≤ y) (els w) := by
  unfold els
  exact ((List.pairwise_lt_range (n := 7)).imp (fun h => Nat.le_of_lt h)).filter _
/-- w is s with one stone more -/
def onto (all s st w : Nat) : Bool := s.testBit st == false && (s ||| 2 ^ st == w) && (w &&& all == w)
theorem perm_els {w : Nat} {q : List Nat} : List.Perm q (els w) ↔ q.Nodup ∧ ∀ s, s ∈ q ↔ s < 7 ∧ w.testBit s = true := by
  constructor
  · intro h
    exact ⟨h.nodup_iff.mpr (els_nodup w), fun s => by rw [h.mem_iff, els_mem]⟩
  · intro ⟨h1, h2⟩
    exact (List.perm_ext_iff_of_nodup h1 (els_nodup w)).mpr (fun s => by rw [h2, els_mem])
