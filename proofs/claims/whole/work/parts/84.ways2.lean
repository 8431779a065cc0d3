/-! Ways: as the class gathers them, as the reference walks them. -/
theorem waG_pr (X : TX) (h r e : Nat) : waG X h r e = (prG X e).map (fun p => (h, r, p.1, p.2)) := by
  unfold waG waF prG
  rw [List.map_cons, List.map_map]
  rfl
theorem waE_pr (X : TX) (h r : Nat) : waE X h r = (prE X).map (fun p => (h, r, p.1, p.2)) := by
  unfold waE prE
  rw [List.map_cons, List.map_flatMap]
  congr 2
  funext e
  exact waG_pr X h r e
/-- the codes, as the class puts them: behind a root; behind a head; all -/
def cdE (X : TX) (b : Nat) (w : List Nat) : List Nat := (enL X w).map (fun p => b + 10 * p.1 + p.2)
def cdO (X : TX) (b : Nat) (w : List Nat) (r : Nat) : List Nat := if pfx w (nmX X 0 r) = true then cdE X (b + 100 * r) (w.drop (nmX X 0 r).length) else []
def cdR (X : TX) (b : Nat) (w : List Nat) : List Nat := (List.range' 1 (xnp X 0)).flatMap (cdO X b w)
def cdH (X : TX) (w : List Nat) (h : Nat) : List Nat := if pfx w (nmX X 2 h) = true then cdR X (1000 * h) (w.drop (nmX X 2 h).length) else []
def cdA (X : TX) (w : List Nat) : List Nat := cdR X 0 w ++ (List.range' 1 (xnp X 2)).flatMap (cdH X w)
theorem filter_none {α : Type} {p : α → Bool} {l : List α} (h : ∀ a ∈ l, ¬ p a = true) : l.filter p = [] := List.filter_eq_nil_iff.mpr h
theorem cdO_eq {X : TX} (hX : TXok X) (w : List Nat) (h r : Nat) (w' : List Nat) (hw : ∀ q, (nmX X 2 h ++ q = w) ↔ q = w') : ((waE X h r).filter (fun y => decide (nmW X y = w))).map cdW = cdO X (1000 * h) w' r := by
  rw [waE_pr, List.filter_map, List.map_map]
  unfold cdO
  have hc : ∀ p : Nat × Nat, (nmW X (h, r, p.1, p.2) = w) ↔ (pfx w' (nmX X 0 r) = true ∧ tlW X p = w'.drop (nmX X 0 r).length) := fun p => by
    show (nmX X 2 h ++ (nmX X 0 r ++ tlW X p) = w) ↔ _
    rw [hw, app_eq]
    exact ⟨fun q => ⟨q.1, q.2.symm⟩, fun q => ⟨q.1, q.2.symm⟩⟩
  by_cases hp : pfx w' (nmX X 0 r) = true
  · rw [if_pos hp]
    unfold cdE
    rw [← enL_eq hX]
    have : (prE X).filter ((fun y => decide (nmW X y = w)) ∘ fun p => (h, r, p.1, p.2)) = (prE X).filter (fun p => decide (tlW X p = w'.drop (nmX X 0 r).length)) := by
      apply List.filter_congr
      intro p _
      exact decide_eq_decide.mpr ((hc p).trans ⟨fun q => q.2, fun q => ⟨hp, q⟩⟩)
    rw [this]
    apply List.map_congr_left
    intro p _
    show 1000 * h + 100 * r + 10 * p.1 + p.2 = _
    rfl
  · rw [if_neg hp, filter_none]
    · rfl
    · intro p _ q
      exact hp ((hc p).mp (of_decide_eq_true q)).1
theorem cdR_eq {X : TX} (hX : TXok X) (w : List Nat) (h : Nat) (w' : List Nat) (hw : ∀ q, (nmX X 2 h ++ q = w) ↔ q = w') : ((waR X h).filter (fun y => decide (nmW X y = w))).map cdW = cdR X (1000 * h) w' := by
  unfold waR cdR
  rw [List.filter_flatMap, List.map_flatMap]
  congr 1
  funext r
  exact cdO_eq hX w h r w' hw
theorem cdH_eq {X : TX} (hX : TXok X) (w : List Nat) (h : Nat) : ((waR X h).filter (fun y => decide (nmW X y = w))).map cdW = cdH X w h := by
  unfold cdH
  by_cases hp : pfx w (nmX X 2 h) = true
  · rw [if_pos hp]
    exact cdR_eq hX w h _ (fun q => by rw [app_eq]; exact ⟨fun z => z.2.symm, fun z => ⟨hp, z.symm⟩⟩)
  · rw [if_neg hp, filter_none]
    · rfl
    · intro y hy q
      have q' := of_decide_eq_true q
      unfold waR at hy
      rw [List.mem_flatMap] at hy
      obtain ⟨r, _, hy⟩ := hy
      rw [waE_pr, List.mem_map] at hy
      obtain ⟨p, _, rfl⟩ := hy
      exact hp ((app_eq _ _ _).mp q').1
theorem cdA_eq {X : TX} (hX : TXok X) (w : List Nat) : ((waysX X).filter (fun y => decide (nmW X y = w))).map cdW = cdA X w := by
  unfold waysX cdA
  rw [List.range'_succ, List.flatMap_cons, List.filter_append, List.map_append, List.filter_flatMap, List.map_flatMap]
  congr 1
  · have := cdR_eq hX w 0 w (fun q => by show ([] ++ q = w) ↔ q = w; rfl)
    exact this
  · congr 1
    funext h
    exact cdH_eq hX w h
theorem enO_len (X : TX) (w : List Nat) (e : Nat) : (enO X w e).length ≤ 1 := by
  unfold enO
  repeat' split
  all_goals simp
theorem flat_len {α : Type} {f : Nat → List α} {c : Nat} (hf : ∀ a, (f a).length ≤ c) : ∀ (l : List Nat), (l.flatMap f).length ≤ c * l.length
  | [] => by simp
  | a :: l => by
    rw [List.flatMap_cons, List.length_append, List.length_cons, Nat.mul_succ]
    have := flat_len hf l
    have := hf a
    omega
theorem cdE_len {X : TX} (hX : TXok X) (b : Nat) (w : List Nat) : (cdE X b w).length ≤ 7 := by
  have h6 := (hX.2.2.1 1 (by decide)).1
  have h6' : xnp X 1 ≤ 6 := h6
  unfold cdE enL
  rw [List.length_map]
  split
  · simp
  · have := flat_len (f := enO X w) (enO_len X w) (List.range' 1 (xnp X 1))
    rw [List.length_range'] at this
    omega
theorem cdO_len {X : TX} (hX : TXok X) (b : Nat) (w : List Nat) (r : Nat) : (cdO X b w r).length ≤ 7 := by
  unfold cdO
  split
  · exact cdE_len hX _ _
  · simp
theorem cdR_len {X : TX} (hX : TXok X) (b : Nat) (w : List Nat) : (cdR X b w).length ≤ 56 := by
  have h8 := xnp_le hX (s := 0) (by decide)
  have := flat_len (f := cdO X b w) (cdO_len hX b w) (List.range' 1 (xnp X 0))
  rw [List.length_range'] at this
  unfold cdR
  omega
theorem cdH_len {X : TX} (hX : TXok X) (w : List Nat) (h : Nat) : (cdH X w h).length ≤ 56 := by
  unfold cdH
  split
  · exact cdR_len hX _ _
  · simp
theorem cdA_len {X : TX} (hX : TXok X) (w : List Nat) : (cdA X w).length ≤ 280 := by
  have h4 : xnp X 2 ≤ 4 := (hX.2.2.1 2 (by decide)).1
  have h1 := cdR_len hX 0 w
  have := flat_len (f := cdH X w) (cdH_len hX w) (List.range' 1 (xnp X 2))
  rw [List.length_range'] at this
  unfold cdA
  rw [List.length_append]
  omega
/-- the reference's four numbers -/
def wyD (D : Nat → Nat → Int) (a b c e : Int) : Nat → Nat → Int := setc D 256 (fun j => if j = 66 then a else if j = 67 then b else if j = 68 then c else if j = 69 then e else D 256 j)
theorem wy_66 (D : Nat → Nat → Int) (a b c e : Int) : wyD D a b c e 256 66 = a := by unfold wyD; rw [setc_self]; rfl
theorem wy_67 (D : Nat → Nat → Int) (a b c e : Int) : wyD D a b c e 256 67 = b := by unfold wyD; rw [setc_self]; rfl
theorem wy_68 (D : Nat → Nat → Int) (a b c e : Int) : wyD D a b c e 256 68 = c := by unfold wyD; rw [setc_self]; rfl
theorem wy_69 (D : Nat → Nat → Int) (a b c e : Int) : wyD D a b c e 256 69 = e := by unfold wyD; rw [setc_self]; rfl
theorem wy_o {D : Nat → Nat → Int} {a b c e : Int} {j : Nat} (h : j < 66 ∨ 69 < j) : wyD D a b c e 256 j = D 256 j := by
  unfold wyD
  rw [setc_self, if_neg (by omega), if_neg (by omega), if_neg (by omega), if_neg (by omega)]
theorem wy_q {D : Nat → Nat → Int} {a b c e : Int} {q : Nat} (h : q ≠ 256) : wyD D a b c e q = D q := setc_ne h
theorem wy_id (D : Nat → Nat → Int) : wyD D (D 256 66) (D 256 67) (D 256 68) (D 256 69) = D := by
  unfold wyD
  rw [show (fun j => if j = 66 then D 256 66 else if j = 67 then D 256 67 else if j = 68 then D 256 68 else if j = 69 then D 256 69 else D 256 j) = D 256 from ?_, setc_id]
  funext j
  repeat' split
  all_goals simp_all
theorem wy_u66 (D : Nat → Nat → Int) (a b c e x : Int) : aup (wyD D a b c e) 256 66 x = wyD D x b c e := by
  unfold wyD
  rw [aup_setc]
  congr 1
  funext j
  repeat' split
  all_goals simp_all
theorem wy_u67 (D : Nat → Nat → Int) (a b c e x : Int) : aup (wyD D a b c e) 256 67 x = wyD D a x c e := by
  unfold wyD
  rw [aup_setc]
  congr 1
  funext j
  repeat' split
  all_goals simp_all
theorem wy_u68 (D : Nat → Nat → Int) (a b c e x : Int) : aup (wyD D a b c e) 256 68 x = wyD D a b x e := by
  unfold wyD
  rw [aup_setc]
  congr 1
  funext j
  repeat' split
  all_goals simp_all
theorem wy_u69 (D : Nat → Nat → Int) (a b c e x : Int) : aup (wyD D a b c e) 256 69 x = wyD D a b c x := by
  unfold wyD
  rw [aup_setc]
  congr 1
  funext j
  repeat' split
  all_goals simp_all
theorem wy_same {D : Nat → Nat → Int} (h0 : D 303 0 = 0) (a b c e : Int) : RSame D (wyD D a b c e) := by
  refine ⟨fun q h1 _ => wy_q h1, fun j hj => wy_o ?_, ?_⟩
  · by_cases h : j < 66 ∨ 69 < j
    · exact h
    · exfalso
      apply hj
      have : j = 66 ∨ j = 67 ∨ j = 68 ∨ j = 69 := by omega
      rcases this with rfl | rfl | rfl | rfl <;> decide
  · rw [wy_q (by decide)]; exact h0
def wyS (D : Nat → Nat → Int) (y : WY) : Nat → Nat → Int := wyD D ((y.1 : Int) - 1) ((y.2.1 : Int) - 1) ((y.2.2.1 : Int) - 1) ((y.2.2.2 : Int) - 1)
theorem w_m1 {a : Nat} (h : a < 2147483648) : w32 ((a : Int) - 1 + 1) = (a : Int) := by rw [w32_id (by omega) (by omega)]; omega
