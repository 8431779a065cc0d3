/-! Orders: entries that stand for bags, by itself. -/
abbrev VV : Type := List (List Nat)
def prv (ow : Nat → Nat) (s : Nat) : Nat → Int
  | 0 => -1
  | m + 1 => if ow m = s then (m : Int) else prv ow s m
def bq (V : List Nat → VV) (B : List (List Nat)) (v : VV) : List (List Nat) := B.filter (fun l => decide (V l = v))
def enOk (V : List Nat → VV) (ps : Nat → Nat) (B : List (List Nat)) (v : VV) (a o w : Nat) : Prop := 1 ≤ a ∧ a = (bq V B v).length ∧ isMin cd8 (bq V B v) o ∧ isMin (inv ps) (bq V B v) w
def RepE (V : List Nat → VV) (ps : Nat → Nat) (B : Nat → List (List Nat)) (m : Nat) (ow : Nat → Nat) (vv : Nat → VV) (wy fi sp : Nat → Nat) : Prop :=
  (∀ i, i < m → ow i < 128 ∧ enOk V ps (B (ow i)) (vv i) (wy i) (fi i) (sp i)) ∧
  (∀ i j, i < m → j < m → ow i = ow j → vv i = vv j → i = j) ∧
  (∀ s, s < 128 → ∀ l ∈ B s, ∃ i, i < m ∧ ow i = s ∧ vv i = V l) ∧ m ≤ sumN (fun s => (B s).length) 128
/-- a sub-bag: all with the same words -/
def subB (V : List Nat → VV) (ps : Nat → Nat) (C : List (List Nat)) (v : VV) (a o w : Nat) : Prop := (∀ l ∈ C, V l = v) ∧ 1 ≤ a ∧ a = C.length ∧ isMin cd8 C o ∧ isMin (inv ps) C w
def addB (B : Nat → List (List Nat)) (s : Nat) (C : List (List Nat)) : Nat → List (List Nat) := fun s' => if s' = s then B s' ++ C else B s'
theorem bq_same {V : List Nat → VV} {C : List (List Nat)} {v : VV} (h : ∀ l ∈ C, V l = v) : bq V C v = C := List.filter_eq_self.mpr (fun l hl => decide_eq_true (h l hl))
theorem bq_ne {V : List Nat → VV} {C : List (List Nat)} {v v' : VV} (h : ∀ l ∈ C, V l = v) (hn : v ≠ v') : bq V C v' = [] := List.filter_eq_nil_iff.mpr (fun l hl q => hn ((h l hl).symm.trans (of_decide_eq_true q)))
theorem bq_app (V : List Nat → VV) (B C : List (List Nat)) (v : VV) : bq V (B ++ C) v = bq V B v ++ bq V C v := List.filter_append ..
theorem addB_sum {B : Nat → List (List Nat)} {s : Nat} (hs : s < 128) (C : List (List Nat)) : sumN (fun s' => (addB B s C s').length) 128 = sumN (fun s' => (B s').length) 128 + C.length := by
  rw [← sumN_up (f := fun s' => (B s').length) (k := s) (x := C.length) 128 hs]
  congr 1
  funext i
  show (if i = s then B i ++ C else B i).length = if i = s then (B i).length + C.length else (B i).length
  by_cases h : i = s
  · rw [if_pos h, if_pos h, List.length_append]
  · rw [if_neg h, if_neg h]
def upN (f : Nat → Nat) (k x : Nat) : Nat → Nat := fun i => if i = k then x else f i
def upV (f : Nat → VV) (k : Nat) (x : VV) : Nat → VV := fun i => if i = k then x else f i
theorem upN_e (f : Nat → Nat) (k x : Nat) : upN f k x k = x := if_pos rfl
theorem upN_n {f : Nat → Nat} {k x i : Nat} (h : i ≠ k) : upN f k x i = f i := if_neg h
theorem upV_e (f : Nat → VV) (k : Nat) (x : VV) : upV f k x k = x := if_pos rfl
theorem upV_n {f : Nat → VV} {k i : Nat} {x : VV} (h : i ≠ k) : upV f k x i = f i := if_neg h
theorem rep_old {V : List Nat → VV} {ps : Nat → Nat} {B : Nat → List (List Nat)} {m : Nat} {ow : Nat → Nat} {vv : Nat → VV} {wy fi sp : Nat → Nat} (h : RepE V ps B m ow vv wy fi sp) {i : Nat} (hi : i < m) {C : List (List Nat)} {a o w : Nat} (hC : subB V ps C (vv i) a o w) : RepE V ps (addB B (ow i) C) m ow vv (upN wy i (wy i + a)) (upN fi i (min (fi i) o)) (upN sp i (min (sp i) w)) := by
  obtain ⟨h1, h2, h3, h4⟩ := h
  obtain ⟨c1, c2, c3, c4, c5⟩ := hC
  have hs := (h1 i hi).1
  refine ⟨fun j hj => ⟨(h1 j hj).1, ?_⟩, h2, fun s hs l hl => ?_, ?_⟩
  · obtain ⟨_, e1, e2, e3, e4⟩ := h1 j hj
    by_cases hji : j = i
    · subst hji
      rw [upN_e, upN_e, upN_e]
      show enOk V ps (if ow j = ow j then B (ow j) ++ C else B (ow j)) (vv j) _ _ _
      rw [if_pos rfl]
      unfold enOk
      rw [bq_app, bq_same c1]
      exact ⟨by omega, by rw [List.length_append]; omega, isMin_app e3 c4, isMin_app e4 c5⟩
    · rw [upN_n hji, upN_n hji, upN_n hji]
      show enOk V ps (if ow j = ow i then B (ow j) ++ C else B (ow j)) (vv j) _ _ _
      by_cases ho : ow j = ow i
      · rw [if_pos ho]
        have hv : vv i ≠ vv j := fun q => hji (h2 j i hj hi ho q.symm)
        unfold enOk
        rw [bq_app, bq_ne c1 hv, List.append_nil]
        exact ⟨e1, e2, e3, e4⟩
      · rw [if_neg ho]
        exact ⟨e1, e2, e3, e4⟩
  · have hl' : l ∈ (if s = ow i then B s ++ C else B s) := hl
    by_cases ho : s = ow i
    · rw [if_pos ho] at hl'
      rcases List.mem_append.mp hl' with q | q
      · exact h3 s hs l q
      · exact ⟨i, hi, ho.symm, (c1 l q).symm⟩
    · rw [if_neg ho] at hl'
      exact h3 s hs l hl'
  · rw [addB_sum hs]
    omega
theorem rep_new {V : List Nat → VV} {ps : Nat → Nat} {B : Nat → List (List Nat)} {m : Nat} {ow : Nat → Nat} {vv : Nat → VV} {wy fi sp : Nat → Nat} (h : RepE V ps B m ow vv wy fi sp) {s : Nat} (hs : s < 128) {v : VV} (hn : ∀ i, i < m → ow i = s → vv i ≠ v) {C : List (List Nat)} {a o w : Nat} (hC : subB V ps C v a o w) : RepE V ps (addB B s C) (m + 1) (upN ow m s) (upV vv m v) (upN wy m a) (upN fi m o) (upN sp m w) := by
  obtain ⟨h1, h2, h3, h4⟩ := h
  obtain ⟨c1, c2, c3, c4, c5⟩ := hC
  refine ⟨fun j hj => ?_, fun i j hi hj e1 e2 => ?_, fun s' hs' l hl => ?_, ?_⟩
  · by_cases hjm : j = m
    · subst hjm
      rw [upN_e, upV_e, upN_e, upN_e, upN_e]
      refine ⟨hs, ?_⟩
      show enOk V ps (if s = s then B s ++ C else B s) v _ _ _
      rw [if_pos rfl]
      have hb : bq V (B s) v = [] := List.filter_eq_nil_iff.mpr (fun l hl q => by
        obtain ⟨i, x1, x2, x3⟩ := h3 s hs l hl
        exact hn i x1 x2 (x3.trans (of_decide_eq_true q)))
      unfold enOk
      rw [bq_app, bq_same c1, hb, List.nil_append]
      exact ⟨c2, c3, c4, c5⟩
    · rw [upN_n hjm, upV_n hjm, upN_n hjm, upN_n hjm, upN_n hjm]
      obtain ⟨e0, e1, e2, e3, e4⟩ := h1 j (by omega)
      refine ⟨e0, ?_⟩
      show enOk V ps (if ow j = s then B (ow j) ++ C else B (ow j)) (vv j) _ _ _
      by_cases ho : ow j = s
      · rw [if_pos ho]
        have hv : v ≠ vv j := fun q => hn j (by omega) ho q.symm
        unfold enOk
        rw [bq_app, bq_ne c1 hv, List.append_nil]
        exact ⟨e1, e2, e3, e4⟩
      · rw [if_neg ho]
        exact ⟨e1, e2, e3, e4⟩
  · by_cases him : i = m
    · by_cases hjm : j = m
      · omega
      · rw [him, upN_e, upN_n hjm] at e1
        rw [him, upV_e, upV_n hjm] at e2
        exact absurd e2.symm (hn j (by omega) e1.symm)
    · by_cases hjm : j = m
      · rw [hjm, upN_e, upN_n him] at e1
        rw [hjm, upV_e, upV_n him] at e2
        exact absurd e2 (hn i (by omega) e1)
      · rw [upN_n him, upN_n hjm] at e1
        rw [upV_n him, upV_n hjm] at e2
        exact h2 i j (by omega) (by omega) e1 e2
  · have hl' : l ∈ (if s' = s then B s' ++ C else B s') := hl
    have old : l ∈ B s' → ∃ i, i < m + 1 ∧ upN ow m s i = s' ∧ upV vv m v i = V l := fun q => by
      obtain ⟨i, x1, x2, x3⟩ := h3 s' hs' l q
      exact ⟨i, by omega, by rw [upN_n (by omega)]; exact x2, by rw [upV_n (by omega)]; exact x3⟩
    by_cases ho : s' = s
    · rw [if_pos ho] at hl'
      rcases List.mem_append.mp hl' with q | q
      · exact old q
      · exact ⟨m, by omega, by rw [upN_e]; exact ho.symm, by rw [upV_e]; exact (c1 l q).symm⟩
    · rw [if_neg ho] at hl'
      exact old hl'
  · rw [addB_sum hs]
    omega
theorem rep_perm {V : List Nat → VV} {ps : Nat → Nat} {B B' : Nat → List (List Nat)} {m : Nat} {ow : Nat → Nat} {vv : Nat → VV} {wy fi sp : Nat → Nat} (h : RepE V ps B m ow vv wy fi sp) (hp : ∀ s, s < 128 → List.Perm (B s) (B' s)) : RepE V ps B' m ow vv wy fi sp := by
  obtain ⟨h1, h2, h3, h4⟩ := h
  refine ⟨fun j hj => ?_, h2, fun s hs l hl => h3 s hs l ((hp s hs).mem_iff.mpr hl), ?_⟩
  · obtain ⟨e0, e1, e2, e3, e4⟩ := h1 j hj
    have q : List.Perm (bq V (B (ow j)) (vv j)) (bq V (B' (ow j)) (vv j)) := (hp _ e0).filter _
    exact ⟨e0, e1, by rw [← q.length_eq]; exact e2, isMin_perm q e3, isMin_perm q e4⟩
  · refine Nat.le_trans h4 (sumN_le 128 (fun i hi => ?_))
    rw [(hp i hi).length_eq]
    exact Nat.le_refl _
