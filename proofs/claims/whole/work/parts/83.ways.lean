/-! Ways: by themselves. -/
abbrev WY : Type := Nat × Nat × Nat × Nat
def nmX (X : TX) (s k : Nat) : List Nat := if k = 0 then [] else xPN X (8 * s + (k - 1))
theorem nmX_ok {X : TX} (hX : TXok X) {s k : Nat} (hs : s < 3) (hk : k ≤ xnp X s) : wok (nmX X s k) := by
  unfold nmX
  split
  · exact ⟨(fun _ h => by cases h), by simp⟩
  · exact ((hX.2.2.1 s hs).2 (k - 1) (by omega)).1
theorem nmX_ne {X : TX} (hX : TXok X) {s k : Nat} (hs : s < 3) (h1 : 1 ≤ k) (hk : k ≤ xnp X s) : nmX X s k ≠ [] := by
  unfold nmX
  rw [if_neg (by omega)]
  intro e
  have := ((hX.2.2.1 s hs).2 (k - 1) (by omega)).2.1
  rw [e] at this
  simp at this
theorem nmX_inj {X : TX} (hX : TXok X) {s j k : Nat} (hs : s < 3) (hj : 1 ≤ j) (hjk : j < k) (hk : k ≤ xnp X s) : nmX X s j ≠ nmX X s k := by
  unfold nmX
  rw [if_neg (by omega), if_neg (by omega)]
  exact ((hX.2.2.1 s hs).2 (k - 1) (by omega)).2.2.2.2 (j - 1) (by omega)
def nmW (X : TX) (y : WY) : List Nat := nmX X 2 y.1 ++ (nmX X 0 y.2.1 ++ (nmX X 1 y.2.2.1 ++ nmX X 1 y.2.2.2))
def cdW (y : WY) : Nat := 1000 * y.1 + 100 * y.2.1 + 10 * y.2.2.1 + y.2.2.2
def nxt (X : TX) (y : WY) : Option WY := if 1 ≤ y.2.2.1 ∧ y.2.2.2 < xnp X 1 then some (y.1, y.2.1, y.2.2.1, y.2.2.2 + 1) else if y.2.2.1 < xnp X 1 then some (y.1, y.2.1, y.2.2.1 + 1, 0) else if y.2.1 < xnp X 0 then some (y.1, y.2.1 + 1, 0, 0) else if y.1 < xnp X 2 then some (y.1 + 1, 1, 0, 0) else none
def wvd (X : TX) (y : WY) : Prop := y.1 ≤ xnp X 2 ∧ (1 ≤ y.2.1 ∧ y.2.1 ≤ xnp X 0) ∧ y.2.2.1 ≤ xnp X 1 ∧ y.2.2.2 ≤ xnp X 1
theorem nxt_wvd {X : TX} {y y' : WY} (h : wvd X y) (e : nxt X y = some y') : wvd X y' := by
  obtain ⟨h1, h2, h3, h4⟩ := h
  unfold nxt at e
  by_cases c1 : 1 ≤ y.2.2.1 ∧ y.2.2.2 < xnp X 1
  · rw [if_pos c1] at e; cases e; exact ⟨h1, h2, h3, by dsimp only; omega⟩
  · rw [if_neg c1] at e
    by_cases c2 : y.2.2.1 < xnp X 1
    · rw [if_pos c2] at e; cases e; exact ⟨h1, h2, by dsimp only; omega, by simp⟩
    · rw [if_neg c2] at e
      by_cases c3 : y.2.1 < xnp X 0
      · rw [if_pos c3] at e; cases e; exact ⟨h1, ⟨by simp, by dsimp only; omega⟩, by simp, by simp⟩
      · rw [if_neg c3] at e
        by_cases c4 : y.1 < xnp X 2
        · rw [if_pos c4] at e; cases e; exact ⟨by dsimp only; omega, ⟨by simp, by dsimp only; omega⟩, by simp, by simp⟩
        · rw [if_neg c4] at e; cases e
/-- the ways behind a way -/
def WL (X : TX) : WY → List WY → Prop
  | y, [] => nxt X y = none
  | y, a :: L => nxt X y = some a ∧ WL X a L
def chn (X : TX) : WY → List WY → WY → Prop
  | y, [], z => y = z
  | y, a :: L, z => nxt X y = some a ∧ chn X a L z
theorem chn_app {X : TX} : ∀ {L1 L2 : List WY} {y z w : WY}, chn X y L1 z → chn X z L2 w → chn X y (L1 ++ L2) w
  | [], _, _, _, _, h1, h2 => by cases h1; exact h2
  | _ :: L1, _, _, _, _, h1, h2 => ⟨h1.1, chn_app h1.2 h2⟩
theorem chn_WL {X : TX} : ∀ {L : List WY} {y z : WY}, chn X y L z → nxt X z = none → WL X y L
  | [], _, _, h1, h2 => by cases h1; exact h2
  | _ :: L, _, _, h1, h2 => ⟨h1.1, chn_WL h1.2 h2⟩
def waF (X : TX) (h r e : Nat) : List WY := (List.range' 1 (xnp X 1)).map (fun f => (h, r, e, f))
def waG (X : TX) (h r e : Nat) : List WY := (h, r, e, 0) :: waF X h r e
def waE (X : TX) (h r : Nat) : List WY := (h, r, 0, 0) :: (List.range' 1 (xnp X 1)).flatMap (waG X h r)
def waR (X : TX) (h : Nat) : List WY := (List.range' 1 (xnp X 0)).flatMap (waE X h)
def waysX (X : TX) : List WY := (List.range' 0 (xnp X 2 + 1)).flatMap (waR X)
theorem chn_F {X : TX} {h r e : Nat} (he : 1 ≤ e) : ∀ (m f : Nat), f + m = xnp X 1 → chn X (h, r, e, f) ((List.range' (f + 1) m).map (fun f => (h, r, e, f))) (h, r, e, xnp X 1)
  | 0, f, hf => by
    show (h, r, e, f) = (h, r, e, xnp X 1)
    rw [show f = xnp X 1 by omega]
  | m + 1, f, hf => by
    rw [List.range'_succ]
    refine ⟨?_, chn_F he m (f + 1) (by omega)⟩
    unfold nxt
    rw [if_pos ⟨he, by show f < xnp X 1; omega⟩]
theorem chn_E {X : TX} {h r : Nat} : ∀ (m e : Nat) (f : Nat), e + m = xnp X 1 → (1 ≤ e → f = xnp X 1) → (e = 0 → f = 0) → chn X (h, r, e, f) ((List.range' (e + 1) m).flatMap (waG X h r)) (h, r, xnp X 1, xnp X 1)
  | 0, e, f, he, h1, h0 => by
    show (h, r, e, f) = (h, r, xnp X 1, xnp X 1)
    by_cases hz : e = 0
    · rw [h0 hz, show e = xnp X 1 by omega, show xnp X 1 = 0 by omega]
    · rw [h1 (by omega), show e = xnp X 1 by omega]
  | m + 1, e, f, he, h1, h0 => by
    rw [List.range'_succ, List.flatMap_cons]
    refine chn_app (z := (h, r, e + 1, xnp X 1)) ⟨?_, ?_⟩ (chn_E m (e + 1) (xnp X 1) (by omega) (fun _ => rfl) (fun h => by omega))
    · unfold nxt
      rw [if_neg (by
        show ¬ (1 ≤ e ∧ f < xnp X 1)
        intro q
        have := h1 q.1
        omega), if_pos (by show e < xnp X 1; omega)]
    · exact chn_F (by omega) (xnp X 1) 0 (by omega)
theorem chn_E1 {X : TX} {h r : Nat} : chn X (h, r, 0, 0) ((List.range' 1 (xnp X 1)).flatMap (waG X h r)) (h, r, xnp X 1, xnp X 1) := chn_E (xnp X 1) 0 0 (by omega) (fun h => by omega) (fun _ => rfl)
theorem chn_R {X : TX} {h : Nat} : ∀ (m r : Nat), r + m = xnp X 0 → chn X (h, r, xnp X 1, xnp X 1) ((List.range' (r + 1) m).flatMap (waE X h)) (h, xnp X 0, xnp X 1, xnp X 1)
  | 0, r, hr => by
    show (h, r, xnp X 1, xnp X 1) = _
    rw [show r = xnp X 0 by omega]
  | m + 1, r, hr => by
    rw [List.range'_succ, List.flatMap_cons]
    refine chn_app (z := (h, r + 1, xnp X 1, xnp X 1)) ⟨?_, chn_E1⟩ (chn_R m (r + 1) (by omega))
    unfold nxt
    rw [if_neg (by show ¬ (1 ≤ xnp X 1 ∧ xnp X 1 < xnp X 1); omega), if_neg (by show ¬ xnp X 1 < xnp X 1; omega), if_pos (by show r < xnp X 0; omega)]
theorem chn_H {X : TX} (hr : 1 ≤ xnp X 0) : ∀ (m h : Nat), h + m = xnp X 2 → chn X (h, xnp X 0, xnp X 1, xnp X 1) ((List.range' (h + 1) m).flatMap (waR X)) (xnp X 2, xnp X 0, xnp X 1, xnp X 1)
  | 0, h, hh => by
    show (h, xnp X 0, xnp X 1, xnp X 1) = _
    rw [show h = xnp X 2 by omega]
  | m + 1, h, hh => by
    rw [List.range'_succ, List.flatMap_cons]
    obtain ⟨k, hk⟩ : ∃ k, xnp X 0 = k + 1 := ⟨xnp X 0 - 1, by omega⟩
    refine chn_app (z := (h + 1, xnp X 0, xnp X 1, xnp X 1)) ?_ (chn_H hr m (h + 1) (by omega))
    unfold waR
    have hR := chn_R (X := X) (h := h + 1) k 1 (by omega)
    rw [show List.range' 1 (xnp X 0) = 1 :: List.range' (1 + 1) k from by rw [hk, List.range'_succ], List.flatMap_cons]
    refine chn_app (z := (h + 1, 1, xnp X 1, xnp X 1)) ⟨?_, chn_E1⟩ hR
    unfold nxt
    rw [if_neg (by show ¬ (1 ≤ xnp X 1 ∧ xnp X 1 < xnp X 1); omega), if_neg (by show ¬ xnp X 1 < xnp X 1; omega), if_neg (by show ¬ xnp X 0 < xnp X 0; omega), if_pos (by show h < xnp X 2; omega)]
theorem ways_WL {X : TX} (hr : 1 ≤ xnp X 0) : ∃ L, waysX X = (0, 1, 0, 0) :: L ∧ WL X (0, 1, 0, 0) L := by
  obtain ⟨k, hk⟩ : ∃ k, xnp X 0 = k + 1 := ⟨xnp X 0 - 1, by omega⟩
  have hR := chn_R (X := X) (h := 0) k 1 (by omega)
  have hH := chn_H (X := X) hr (xnp X 2) 0 (by omega)
  have e0 : waR X 0 = (0, 1, 0, 0) :: ((List.range' 1 (xnp X 1)).flatMap (waG X 0 1) ++ (List.range' (1 + 1) k).flatMap (waE X 0)) := by
    unfold waR
    rw [hk, List.range'_succ, List.flatMap_cons]
    rfl
  refine ⟨(List.range' 1 (xnp X 1)).flatMap (waG X 0 1) ++ (List.range' (1 + 1) k).flatMap (waE X 0) ++ (List.range' (0 + 1) (xnp X 2)).flatMap (waR X), ?_, ?_⟩
  · unfold waysX
    rw [List.range'_succ, List.flatMap_cons, e0]
    rfl
  · refine chn_WL (chn_app (chn_app chn_E1 hR) hH) ?_
    unfold nxt
    rw [if_neg (by show ¬ (1 ≤ xnp X 1 ∧ xnp X 1 < xnp X 1); omega), if_neg (by show ¬ xnp X 1 < xnp X 1; omega), if_neg (by show ¬ xnp X 0 < xnp X 0; omega), if_neg (by show ¬ xnp X 2 < xnp X 2; omega)]
theorem ways_nil {X : TX} (hr : xnp X 0 = 0) : waysX X = [] := by
  unfold waysX
  rw [List.flatMap_eq_nil_iff]
  intro h _
  unfold waR
  rw [hr]
  rfl
/-- a piece at the begin of a word -/
def pfx (w p : List Nat) : Bool := decide (w.take p.length = p)
theorem app_eq (a b r : List Nat) : (a ++ b = r) ↔ (pfx r a = true ∧ r.drop a.length = b) := by
  unfold pfx
  rw [decide_eq_true_iff]
  constructor
  · rintro rfl
    simp
  · rintro ⟨h1, h2⟩
    rw [← h2]
    conv => lhs; lhs; rw [← h1]
    exact List.take_append_drop a.length r
def fnd (X : TX) (s : Nat) (w : List Nat) : Nat → Nat → Nat
  | 0, _ => 0
  | m + 1, k => if nmX X s (k + 1) = w then k + 1 else fnd X s w m (k + 1)
theorem fnd_le (X : TX) (s : Nat) (w : List Nat) : ∀ m k, fnd X s w m k ≤ k + m
  | 0, _ => Nat.zero_le _
  | m + 1, k => by
    have := fnd_le X s w m (k + 1)
    unfold fnd
    split <;> omega
theorem fnd_filter {X : TX} (hX : TXok X) {s : Nat} (hs : s < 3) (w : List Nat) : ∀ (m k : Nat), k + m = xnp X s → (List.range' (k + 1) m).filter (fun f => decide (nmX X s f = w)) = (if fnd X s w m k = 0 then [] else [fnd X s w m k])
  | 0, k, _ => by
    show [] = if 0 = 0 then [] else _
    rfl
  | m + 1, k, h => by
    rw [List.range'_succ, List.filter_cons]
    unfold fnd
    by_cases hw : nmX X s (k + 1) = w
    · rw [if_pos (by simpa using hw), if_pos hw, if_neg (by omega)]
      congr 1
      rw [List.filter_eq_nil_iff]
      intro a ha
      rw [List.mem_range'_1] at ha
      simp only [decide_eq_true_eq]
      intro e
      exact nmX_inj hX hs (show 1 ≤ k + 1 by omega) (show k + 1 < a by omega) (by omega) (hw.trans e.symm)
    · rw [if_neg (by simpa using hw), if_neg hw]
      exact fnd_filter hX hs w m (k + 1) (by omega)
/-- one first ending -/
def enO (X : TX) (w : List Nat) (e : Nat) : List (Nat × Nat) := if pfx w (nmX X 1 e) = true then (if w.drop (nmX X 1 e).length = [] then [(e, 0)] else if fnd X 1 (w.drop (nmX X 1 e).length) (xnp X 1) 0 = 0 then [] else [(e, fnd X 1 (w.drop (nmX X 1 e).length) (xnp X 1) 0)]) else []
def enL (X : TX) (w : List Nat) : List (Nat × Nat) := if w = [] then [(0, 0)] else (List.range' 1 (xnp X 1)).flatMap (enO X w)
def tlW (X : TX) (p : Nat × Nat) : List Nat := nmX X 1 p.1 ++ nmX X 1 p.2
def prG (X : TX) (e : Nat) : List (Nat × Nat) := (e, 0) :: (List.range' 1 (xnp X 1)).map (fun f => (e, f))
theorem enO_eq {X : TX} (hX : TXok X) (w : List Nat) (e : Nat) : (prG X e).filter (fun p => decide (tlW X p = w)) = enO X w e := by
  have n0 : nmX X 1 0 = [] := rfl
  unfold prG enO
  rw [List.filter_cons]
  have hf : ((List.range' 1 (xnp X 1)).map (fun f => (e, f))).filter (fun p => decide (tlW X p = w)) = ((List.range' 1 (xnp X 1)).filter (fun f => decide (tlW X (e, f) = w))).map (fun f => (e, f)) := by
    rw [List.filter_map]
    rfl
  rw [hf]
  have ht : ∀ f, (tlW X (e, f) = w) ↔ (pfx w (nmX X 1 e) = true ∧ nmX X 1 f = w.drop (nmX X 1 e).length) := fun f => by
    unfold tlW
    rw [app_eq]
    exact ⟨fun q => ⟨q.1, q.2.symm⟩, fun q => ⟨q.1, q.2.symm⟩⟩
  have fl := fnd_filter hX (s := 1) (by decide) (w.drop (nmX X 1 e).length) (xnp X 1) 0 (by omega)
  rw [Nat.zero_add] at fl
  by_cases hp : pfx w (nmX X 1 e) = true
  · rw [if_pos hp]
    have hfe : (List.range' 1 (xnp X 1)).filter (fun f => decide (tlW X (e, f) = w)) = (List.range' 1 (xnp X 1)).filter (fun f => decide (nmX X 1 f = w.drop (nmX X 1 e).length)) := by
      apply List.filter_congr
      intro f _
      exact decide_eq_decide.mpr ((ht f).trans ⟨fun q => q.2, fun q => ⟨hp, q⟩⟩)
    rw [hfe, fl]
    by_cases hd : w.drop (nmX X 1 e).length = []
    · rw [if_pos hd, if_pos (by simpa using (ht 0).mpr ⟨hp, by rw [hd]; exact n0⟩)]
      have hz : fnd X 1 (w.drop (nmX X 1 e).length) (xnp X 1) 0 = 0 := by
        by_cases hc : fnd X 1 (w.drop (nmX X 1 e).length) (xnp X 1) 0 = 0
        · exact hc
        · exfalso
          rw [if_neg hc] at fl
          have hm : fnd X 1 (w.drop (nmX X 1 e).length) (xnp X 1) 0 ∈ (List.range' 1 (xnp X 1)).filter (fun f => decide (nmX X 1 f = w.drop (nmX X 1 e).length)) := by rw [fl]; simp
          rw [List.mem_filter, List.mem_range'_1] at hm
          have h2 := of_decide_eq_true hm.2
          exact nmX_ne hX (s := 1) (by decide) (by omega) (by omega) (h2.trans hd)
      rw [if_pos hz]
      rfl
    · rw [if_neg hd, if_neg (by
        intro q
        have q' := of_decide_eq_true q
        exact hd (((ht 0).mp q').2.symm.trans n0))]
      split <;> rfl
  · rw [if_neg hp, if_neg (by
      intro q
      have q' := of_decide_eq_true q
      exact hp ((ht 0).mp q').1)]
    have : (List.range' 1 (xnp X 1)).filter (fun f => decide (tlW X (e, f) = w)) = [] := by
      rw [List.filter_eq_nil_iff]
      intro f _ q
      have q' := of_decide_eq_true q
      exact hp ((ht f).mp q').1
    rw [this]
    rfl
def prE (X : TX) : List (Nat × Nat) := (0, 0) :: (List.range' 1 (xnp X 1)).flatMap (prG X)
theorem enL_eq {X : TX} (hX : TXok X) (w : List Nat) : (prE X).filter (fun p => decide (tlW X p = w)) = enL X w := by
  unfold prE enL
  rw [List.filter_cons, List.filter_flatMap]
  have n0 : tlW X (0, 0) = [] := rfl
  by_cases hw : w = []
  · subst hw
    rw [if_pos (by simp [n0]), if_pos rfl]
    congr 1
    rw [List.flatMap_eq_nil_iff]
    intro e he
    rw [List.mem_range'_1] at he
    rw [enO_eq hX]
    unfold enO
    rw [if_neg]
    unfold pfx
    rw [decide_eq_true_iff, List.take_nil]
    intro q
    exact nmX_ne hX (s := 1) (by decide) (by omega) (by omega) q.symm
  · rw [if_neg (by simp [n0]; exact fun q => hw q), if_neg hw]
    congr 1
    funext e
    exact enO_eq hX w e
