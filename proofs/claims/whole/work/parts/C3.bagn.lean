/-! Orders: how many there are; the two lists agree. -/
theorem BG_ref {all : Nat} (h : all < 128) {L : List (List Nat)} (hL : NL (els all) L) : List.Perm (BG all all all) (els all :: L) := by
  obtain ⟨a, b⟩ := NL_all (els_dg all) (els_sorted all) hL
  refine (List.perm_ext_iff_of_nodup (BG_nodup all all h) (a.imp (fun h1 e => ?_))).mpr (fun q => ?_)
  · rw [e] at h1; omega
  · rw [b, BG_all all h (Nat.and_self all)]
def pc7 (w : Nat) : Nat := ((List.range 7).filter (fun s => w.testBit s)).length
def fct : Nat → Nat
  | 0 => 1
  | n + 1 => (n + 1) * fct n
def fb (w : Nat) : Nat := fct (pc7 w)
def gsL (w s : Nat) (L : List Nat) : Nat := (L.map (fun st => if w.testBit st = true ∧ w - 2 ^ st < s then fb (w - 2 ^ st) else 0)).sum
def gs (s w : Nat) : Nat := gsL w s (List.range 7) + (if w = 0 then 1 else 0)
set_option maxRecDepth 100000 in
theorem gs_fb : ∀ w, w < 128 → gs 128 w = fb w := by decide
theorem gsL_mono {w s s' : Nat} (h : s ≤ s') : ∀ L : List Nat, gsL w s L ≤ gsL w s' L
  | [] => Nat.le_refl _
  | st :: L => by
    have ih := gsL_mono (w := w) h L
    unfold gsL at ih ⊢
    rw [List.map_cons, List.map_cons, List.sum_cons, List.sum_cons]
    have : (if w.testBit st = true ∧ w - 2 ^ st < s then fb (w - 2 ^ st) else 0) ≤ (if w.testBit st = true ∧ w - 2 ^ st < s' then fb (w - 2 ^ st) else 0) := by
      by_cases q : w.testBit st = true ∧ w - 2 ^ st < s
      · rw [if_pos q, if_pos ⟨q.1, by omega⟩]; exact Nat.le_refl _
      · rw [if_neg q]; omega
    omega
theorem gs_le {s w : Nat} (hs : s ≤ 128) (hw : w < 128) : gs s w ≤ fb w := by
  rw [← gs_fb w hw]
  unfold gs
  have := gsL_mono (w := w) hs (List.range 7)
  omega
theorem new_len {all s w : Nat} (hw : w < 128) {B : List (List Nat)} (hB : B.length ≤ fb s) : ∀ L : List Nat, ((L.filter (fun st => onto all s st w)).flatMap (fun st => B.map (fun l => l ++ [st]))).length + gsL w s L ≤ gsL w (s + 1) L
  | [] => Nat.le_refl _
  | st :: L => by
    have ih := new_len (all := all) hw hB L
    unfold gsL at ih ⊢
    rw [List.map_cons, List.map_cons, List.sum_cons, List.sum_cons]
    by_cases ho : onto all s st w = true
    · have hl := onto_lt hw ho
      obtain ⟨a, b, c⟩ := onto_iff.mp ho
      have hbit : w.testBit st = true := by rw [← b, or_bit]; simp
      rw [List.filter_cons_of_pos (p := fun st => onto all s st w) ho, List.flatMap_cons, List.length_append, List.length_map, if_neg (show ¬ (w.testBit st = true ∧ w - 2 ^ st < s) by omega), if_pos (show w.testBit st = true ∧ w - 2 ^ st < s + 1 from ⟨hbit, by omega⟩), show w - 2 ^ st = s by omega]
      omega
    · rw [List.filter_cons_of_neg (p := fun st => onto all s st w) ho]
      have : (if w.testBit st = true ∧ w - 2 ^ st < s then fb (w - 2 ^ st) else 0) ≤ (if w.testBit st = true ∧ w - 2 ^ st < s + 1 then fb (w - 2 ^ st) else 0) := by
        by_cases q : w.testBit st = true ∧ w - 2 ^ st < s
        · rw [if_pos q, if_pos ⟨q.1, by omega⟩]; exact Nat.le_refl _
        · rw [if_neg q]; omega
      omega
theorem BG_len {all : Nat} : ∀ (s : Nat), s ≤ 128 → ∀ w, w < 128 → (BG all s w).length ≤ gs s w
  | 0, _, w, _ => by
    rw [BG_z]
    unfold gs
    by_cases h : w = 0
    · rw [if_pos h, if_pos h]; show 1 ≤ _; omega
    · rw [if_neg h]; show 0 ≤ _; omega
  | s + 1, hs, w, hw => by
    have ih := BG_len (all := all) s (by omega)
    have i1 := ih w hw
    have i2 := Nat.le_trans (ih s (by omega)) (gs_le (s := s) (w := s) (by omega) (by omega))
    have nl := new_len (all := all) (s := s) hw i2 (List.range 7)
    rw [BG_s, List.length_append]
    unfold gs at i1 ⊢
    omega
theorem BG_fb {all s w : Nat} (hs : s ≤ 128) (hw : w < 128) : (BG all s w).length ≤ fb w := Nat.le_trans (BG_len s hs w hw) (gs_le hs hw)
def sumN (f : Nat → Nat) : Nat → Nat
  | 0 => 0
  | n + 1 => sumN f n + f n
theorem sumN_le {f g : Nat → Nat} : ∀ n, (∀ i, i < n → f i ≤ g i) → sumN f n ≤ sumN g n
  | 0, _ => Nat.le_refl _
  | n + 1, h => by
    have := sumN_le n (fun i hi => h i (by omega))
    have := h n (by omega)
    unfold sumN
    omega
theorem sumN_up {f : Nat → Nat} {k x : Nat} : ∀ n, k < n → sumN (fun i => if i = k then f i + x else f i) n = sumN f n + x
  | 0, h => by omega
  | n + 1, h => by
    unfold sumN
    by_cases hk : k = n
    · subst hk
      have : ∀ m, m ≤ k → sumN (fun i => if i = k then f i + x else f i) m = sumN f m := by
        intro m
        induction m with
        | zero => intro _; rfl
        | succ m ih =>
          intro hm
          unfold sumN
          rw [ih (by omega)]
          show _ + (if m = k then f m + x else f m) = _
          rw [if_neg (by omega)]
      rw [this k (Nat.le_refl _)]
      show _ + (if k = k then f k + x else f k) = _
      rw [if_pos rfl]
      omega
    · rw [sumN_up n (by omega)]
      show _ + (if n = k then f n + x else f n) = _
      rw [if_neg (fun h => hk h.symm)]
      omega
set_option maxRecDepth 100000 in
theorem fb_sum : sumN fb 128 = 13700 := by decide
