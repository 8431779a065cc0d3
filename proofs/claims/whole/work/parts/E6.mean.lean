/-! What tells say, by itself. -/
abbrev PY : Type := TX × (Nat → List Nat) × (Nat → List Nat)
def upf {α : Type} (f : Nat → α) (k : Nat) (v : α) : Nat → α := fun j => if j = k then v else f j
theorem upf_s {α : Type} (f : Nat → α) (k : Nat) (v : α) : upf f k v k = v := if_pos rfl
theorem upf_n {α : Type} {f : Nat → α} {k j : Nat} {v : α} (h : j ≠ k) : upf f k v j = f j := if_neg h
def wrg (w : SS) (k p : Nat) : SS := if w.1 = 0 then (k, p) else w
def fndN (N : Nat → List Nat) (l : List Nat) : Nat → Nat → Option Nat
  | 0, _ => none
  | m + 1, k => if N k = l then some k else fndN N l m (k + 1)
def ycl (Y : PY) (l : List Nat) : Option Nat := fndN Y.2.1 l (xnc Y.1) 0
def pfd (X : TX) (s : Nat) (l : List Nat) : Option Nat := fndN (fun k => xPN X (8 * s + k)) l (xnp X s) 0
def pAll (X : TX) (l : List Nat) : Option Nat := match pfd X 0 l with
  | some k => some k
  | none => match pfd X 1 l with
    | some k => some (8 + k)
    | none => match pfd X 2 l with
      | some k => some (16 + k)
      | none => none
def mkC (Y : PY) (l r : List Nat) : PY := ((Y.1.1, Y.1.2.1, Y.1.2.2.1, Y.1.2.2.2.1, Y.1.2.2.2.2.1, Y.1.2.2.2.2.2.1, Y.1.2.2.2.2.2.2.1, xnc Y.1 + 1), upf Y.2.1 (xnc Y.1) l, upf Y.2.2 (xnc Y.1) r)
def mkS (Y : PY) (f t : Nat) (A B : Nat → Bool) : PY := (((xns Y.1 + 1, upf (xF Y.1) (xns Y.1) f, upf (xT Y.1) (xns Y.1) t, upf (xA Y.1) (xns Y.1) A, upf (xB Y.1) (xns Y.1) B), Y.1.2), Y.2)
def mkP (Y : PY) (s : Nat) (l : List Nat) (v : Nat) : PY := ((Y.1.1, Y.1.2.1, (upf (xnp Y.1) s (xnp Y.1 s + 1), upf (xPN Y.1) (8 * s + xnp Y.1 s) l, upf (xPT Y.1) (8 * s + xnp Y.1 s) v), Y.1.2.2.2), Y.2)
def mkW (Y : PY) (l : List Nat) : PY := ((Y.1.1, (xnw Y.1 + 1, upf (xWd Y.1) (xnw Y.1) l), Y.1.2.2), Y.2)
def mkR (Y : PY) (i o x : List Nat) : PY := ((Y.1.1, Y.1.2.1, Y.1.2.2.1, (xpr Y.1 + 1, upf (xPI Y.1) (xpr Y.1) i, upf (xPO Y.1) (xpr Y.1) o, upf (xPX Y.1) (xpr Y.1) x), Y.1.2.2.2.2), Y.2)
def mkL' (Y : PY) (p : Nat) (wf : Nat → Nat) : PY := ((Y.1.1, Y.1.2.1, Y.1.2.2.1, Y.1.2.2.2.1, (xnl Y.1 + 1, upf (xpay Y.1) (xnl Y.1) p, upf (xwant Y.1) (xnl Y.1) wf), Y.1.2.2.2.2.2), Y.2)
def mkB (Y : PY) (L : (Nat → Int) → Int) : PY := ((Y.1.1, Y.1.2.1, Y.1.2.2.1, Y.1.2.2.2.1, Y.1.2.2.2.2.1, L, Y.1.2.2.2.2.2.2), Y.2)
def mkD (Y : PY) (v : Nat) : PY := ((Y.1.1, Y.1.2.1, Y.1.2.2.1, Y.1.2.2.2.1, Y.1.2.2.2.2.1, Y.1.2.2.2.2.2.1, v, Y.1.2.2.2.2.2.2.2), Y.2)
def w1C (T : Nat → TK) (a : Nat) (Y : PY) (w : SS) : SS := if (tkN (T (a + 1))).length < 2 then wrg w 5 (tkP (T (a + 1))) else if (ycl Y (tkN (T (a + 1)))).isSome = true then wrg w 3 (tkP (T (a + 1))) else w
def w1L (T : Nat → TK) (b : Nat) (w : SS) : SS := if 1 < (tkN (T b)).length then wrg w 5 (tkP (T b)) else w
def w1N (T : Nat → TK) (b lo hi : Nat) (w : SS) : SS := if tkV (T b) < lo ∨ hi < tkV (T b) then wrg w 5 (tkP (T b)) else w
def nbM (T : Nat → TK) (Y : PY) (b k : Nat) (w : SS) : (Nat → Bool) × Nat × SS :=
  if tkK (T b) = k then (if tkK (T (b + 1)) = 142 then (fun x => decide (x = 0), b + 2, w)
    else if (tkN (T (b + 1))).length = 1 then (fun x => decide (x = (tkN (T (b + 1))).headD 0), b + 2, w)
    else match ycl Y (tkN (T (b + 1))) with
      | some c => (fun x => decide (x ∈ Y.2.2 c), b + 2, w)
      | none => (fun _ => false, b + 2, wrg w 4 (tkP (T (b + 1)))))
  else (fun _ => true, b, w)
def mtS (T : Nat → TK) (a : Nat) (Y : PY) (w : SS) : PY × SS :=
  let w1 := w1L T (a + 1) w
  let w2 := if tkK (T (a + 3)) = 131 then w1 else w1L T (a + 3) w1
  let to := if tkK (T (a + 3)) = 131 then 0 else (tkN (T (a + 3))).headD 0
  let n1 := nbM T Y (a + 4) 132 w2
  let n2 := nbM T Y n1.2.1 133 n1.2.2
  (mkS Y ((tkN (T (a + 1))).headD 0) to n1.1 n2.1, n2.2.2)
def mtP (T : Nat → TK) (s a : Nat) (Y : PY) (w : SS) : PY × SS := (mkP Y s (tkN (T (a + 1))) (tkV (T (a + 2))), w1N T (a + 2) 1 9 (if (pfd Y.1 s (tkN (T (a + 1)))).isSome = true then wrg w 3 (tkP (T (a + 1))) else w))
def w1W (T : Nat → TK) (X : TX) (b : Nat) (wf : Nat → Nat) (w : SS) : SS := match pAll X (tkN (T b)) with
  | none => wrg w 4 (tkP (T b))
  | some q => if wf q = 0 then w else wrg w 3 (tkP (T b))
def wfU (T : Nat → TK) (X : TX) (b : Nat) (wf : Nat → Nat) : Nat → Nat := match pAll X (tkN (T b)) with
  | none => wf
  | some q => upf wf q (tkV (T (b + 1)))
def wnM (T : Nat → TK) (X : TX) : Nat → Nat → (Nat → Nat) → SS → (Nat → Nat) × SS
  | 0, _, wf, w => (wf, w)
  | r + 1, b, wf, w => if tkK (T b) = 2 then wnM T X r (b + 2) (wfU T X b wf) (w1N T (b + 1) 1 99 (w1W T X b wf w)) else (wf, w)
def lwV (T : Nat → TK) : Nat → Nat → VF
  | 0, b => (smE T b).2.2
  | r + 1, b => if tkK (T b) = 143 then (fun V => match (smE T (b + 1)).2.2 V, (smE T ((smE T (b + 1)).1 + 1)).2.2 V with
      | some x, some y => if x < y then (smE T ((smE T ((smE T (b + 1)).1 + 1)).1 + 1)).2.2 V else lwV T r ((smE T ((smE T ((smE T (b + 1)).1 + 1)).1 + 1)).1 + 1) V
      | _, _ => none) else (smE T b).2.2
def lwF (T : Nat → TK) (b : Nat) (V : Nat → Int) : Int := (lwV T 4 b V).getD 0
def mtG (T : Nat → TK) (a : Nat) (Y : PY) (w : SS) : PY × SS :=
  if tkK (T a) = 128 then (mkC Y (tkN (T (a + 1))) (tkN (T (a + 2))), w1C T a Y w)
  else if tkK (T a) = 129 then mtS T a Y w
  else if tkK (T a) = 134 then mtP T 0 a Y w
  else if tkK (T a) = 135 then mtP T 1 a Y w
  else if tkK (T a) = 136 then mtP T 2 a Y w
  else if tkK (T a) = 137 then (mkW Y (tkN (T (a + 1))), w)
  else if tkK (T a) = 138 then (mkR Y (tkN (T (a + 1))) (tkN (T (a + 2))) (if tkK (T (a + 3)) = 2 then tkN (T (a + 3)) else []), w)
  else if tkK (T a) = 139 then (mkL' Y (tkV (T (a + 1))) (wnM T Y.1 4 (a + 2) (fun _ => 0) (w1N T (a + 1) 0 999 w)).1, (wnM T Y.1 4 (a + 2) (fun _ => 0) (w1N T (a + 1) 0 999 w)).2)
  else if tkK (T a) = 140 then (mkB Y (lwF T (a + 2)), w)
  else (mkD Y (tkV (T (a + 1))), w)
def mlG (T : Nat → TK) : Nat → (Nat → Nat) → Nat → PY → SS → PY × SS
  | 0, _, _, Y, w => (Y, w)
  | m + 1, c, a, Y, w => if tkK (T a) = 0 then (Y, w) else mlG T m (cnU c (tkK (T a))) (rtG T c a).1 (mtG T a Y w).1 (mtG T a Y w).2
def X0 : TX := ((0, fun _ => 0, fun _ => 0, fun _ _ => true, fun _ _ => true), (0, fun _ => []), (fun _ => 0, fun _ => [], fun _ => 0), (0, fun _ => [], fun _ => [], fun _ => []), (0, fun _ => 0, fun _ _ => 0), (fun V => V 2), 0, 0)
def Y0 : PY := (X0, fun _ => [], fun _ => [])
def menG (T : Nat → TK) : PY × SS := mlG T 401 (fun _ => 0) 0 Y0 (0, 0)
/-- what a read answers, and where its fault is -/
def rdF (T : Nat → TK) : Nat := if (recG T).2 = 0 then (menG T).2.1 else (recG T).2
def rdP (T : Nat → TK) : Int := if (recG T).2 = 0 then (if (menG T).2.1 = 0 then -1 else ((menG T).2.2 : Int)) else (tkP (T (recG T).1) : Int)
def rdX (T : Nat → TK) : TX := (menG T).1.1
/-! words written stay -/
theorem wrg_k {w : SS} {k p : Nat} (h : ¬ w.1 = 0) : wrg w k p = w := if_neg h
theorem wrg_z {w : SS} {k p : Nat} (hk : ¬ k = 0) (h : (wrg w k p).1 = 0) : False := by
  unfold wrg at h
  split at h
  · exact hk h
  · rename_i h2
    exact h2 h
theorem w1N_k {T : Nat → TK} {b lo hi : Nat} {w : SS} (h : ¬ w.1 = 0) : w1N T b lo hi w = w := by
  unfold w1N
  split
  · exact wrg_k h
  · rfl
theorem w1L_k {T : Nat → TK} {b : Nat} {w : SS} (h : ¬ w.1 = 0) : w1L T b w = w := by
  unfold w1L
  split
  · exact wrg_k h
  · rfl
theorem w1C_k {T : Nat → TK} {a : Nat} {Y : PY} {w : SS} (h : ¬ w.1 = 0) : w1C T a Y w = w := by
  unfold w1C
  split
  · exact wrg_k h
  · split
    · exact wrg_k h
    · rfl
theorem w1W_k {T : Nat → TK} {X : TX} {b : Nat} {wf : Nat → Nat} {w : SS} (h : ¬ w.1 = 0) : w1W T X b wf w = w := by
  unfold w1W
  split
  · exact wrg_k h
  · split
    · rfl
    · exact wrg_k h
theorem wnM_k {T : Nat → TK} {X : TX} : ∀ (r b : Nat) (wf : Nat → Nat) (w : SS), ¬ w.1 = 0 → (wnM T X r b wf w).2 = w
  | 0, _, _, _, _ => rfl
  | r + 1, b, wf, w, h => by
    unfold wnM
    split
    · rw [w1W_k h, w1N_k h]
      exact wnM_k r _ _ w h
    · rfl
theorem nbM_k {T : Nat → TK} {Y : PY} {b k : Nat} {w : SS} (h : ¬ w.1 = 0) : (nbM T Y b k w).2.2 = w := by
  unfold nbM
  split
  · split
    · rfl
    · split
      · rfl
      · split
        · rfl
        · exact wrg_k h
  · rfl
theorem mtS_k {T : Nat → TK} {a : Nat} {Y : PY} {w : SS} (h : ¬ w.1 = 0) : (mtS T a Y w).2 = w := by
  unfold mtS
  dsimp only
  have e1 := w1L_k (T := T) (b := a + 1) h
  have e2 := w1L_k (T := T) (b := a + 3) h
  rw [e1]
  split
  · rw [nbM_k (by rw [nbM_k h]; exact h), nbM_k h]
  · rw [e2, nbM_k (by rw [nbM_k h]; exact h), nbM_k h]
theorem mtG_k {T : Nat → TK} {a : Nat} {Y : PY} {w : SS} (h : ¬ w.1 = 0) : (mtG T a Y w).2 = w := by
  have hP : ∀ s, (mtP T s a Y w).2 = w := fun s => by
    unfold mtP
    dsimp only
    split
    · rw [wrg_k h, w1N_k h]
    · exact w1N_k h
  unfold mtG
  by_cases h1 : tkK (T a) = 128
  · rw [if_pos h1]; exact w1C_k h
  rw [if_neg h1]
  by_cases h2 : tkK (T a) = 129
  · rw [if_pos h2]; exact mtS_k h
  rw [if_neg h2]
  by_cases h3 : tkK (T a) = 134
  · rw [if_pos h3]; exact hP 0
  rw [if_neg h3]
  by_cases h4 : tkK (T a) = 135
  · rw [if_pos h4]; exact hP 1
  rw [if_neg h4]
  by_cases h5 : tkK (T a) = 136
  · rw [if_pos h5]; exact hP 2
  rw [if_neg h5]
  by_cases h6 : tkK (T a) = 137
  · rw [if_pos h6]
  rw [if_neg h6]
  by_cases h7 : tkK (T a) = 138
  · rw [if_pos h7]
  rw [if_neg h7]
  by_cases h8 : tkK (T a) = 139
  · rw [if_pos h8]
    show (wnM T Y.1 4 (a + 2) (fun _ => 0) (w1N T (a + 1) 0 999 w)).2 = w
    rw [w1N_k h]
    exact wnM_k _ _ _ _ h
  rw [if_neg h8]
  by_cases h9 : tkK (T a) = 140
  · rw [if_pos h9]
  rw [if_neg h9]
theorem mlG_k {T : Nat → TK} : ∀ (m : Nat) (c : Nat → Nat) (a : Nat) (Y : PY) (w : SS), ¬ w.1 = 0 → (mlG T m c a Y w).2 = w
  | 0, _, _, _, _, _ => rfl
  | m + 1, c, a, Y, w, h => by
    unfold mlG
    split
    · rfl
    · rw [mtG_k h]
      exact mlG_k m _ _ _ w h
/-! the shapes of tells -/
theorem ifk_0 {T : Nat → TK} {k a : Nat} {p q : SS} : ifk T k (a, 0) p q = (if tkK (T a) = k then p else q) := if_pos rfl
theorem fst_ok {T : Nat → TK} {k has most a : Nat} (h : (fstG T k has most (a, 0)).2 = 0) : has < most ∧ tkK (T a) = k ∧ a < 400 ∧ fstG T k has most (a, 0) = (a + 1, 0) := by
  have ef : fstG T k has most (a, 0) = (if most ≤ has then (a, 2) else mu T k (a, 0)) := if_pos rfl
  rw [ef] at h ⊢
  by_cases hm : most ≤ has
  · rw [if_pos hm] at h
    exact absurd h (show ¬ 2 = 0 by decide)
  · rw [if_neg hm] at h ⊢
    obtain ⟨h1, h2, h3, h4⟩ := mu_ok h
    exact ⟨by omega, h2, h3, h4⟩
theorem sh128 {T : Nat → TK} {c : Nat → Nat} {a : Nat} (hk : tkK (T a) = 128) (h : (rtG T c a).2 = 0) : c 0 < 6 ∧ tkK (T (a + 1)) = 2 ∧ tkK (T (a + 2)) = 2 ∧ tkK (T (a + 3)) = 59 ∧ a + 3 < 400 ∧ rtG T c a = (a + 4, 0) := by
  have e : rtG T c a = mu T 59 (mu T 2 (mu T 2 (fstG T 128 (c 0) 6 (a, 0)))) := if_pos hk
  rw [e] at h ⊢
  obtain ⟨a1, a2, a3, a4⟩ := mu_ok h
  obtain ⟨b1, b2, b3, b4⟩ := mu_ok a1
  obtain ⟨c1, c2, c3, c4⟩ := mu_ok b1
  obtain ⟨d1, d2, d3, d4⟩ := fst_ok c1
  rw [d4] at c2 c3 c4
  rw [d4, c4] at b2 b3 b4
  rw [d4, c4, b4] at a2 a3 a4
  rw [d4, c4, b4, a4]
  exact ⟨d1, c2, b2, a2, a3, rfl⟩
def nbE (T : Nat → TK) (b k : Nat) : Nat := if tkK (T b) = k then b + 2 else b
theorem optA_ok {T : Nat → TK} {k : Nat} {s : SS} (h : (optA T k s).2 = 0) : s.2 = 0 ∧ optA T k s = (nbE T s.1 k, 0) ∧ (tkK (T s.1) = k → s.1 + 1 < 400 ∧ (tkK (T (s.1 + 1)) = 142 ∨ tkK (T (s.1 + 1)) = 2)) := by
  by_cases h0 : s.2 = 0
  · refine ⟨h0, ?_⟩
    have e : optA T k s = (if tkK (T s.1) = k then nbr T (mu T k s) else s) := if_pos h0
    rw [e] at h ⊢
    unfold nbE
    by_cases hk : tkK (T s.1) = k
    · rw [if_pos hk] at h ⊢
      rw [if_pos hk]
      by_cases hm : (mu T k s).2 = 0
      · obtain ⟨m1, m2, m3, m4⟩ := mu_ok hm
        rw [m4] at h ⊢
        have e2 : nbr T (s.1 + 1, 0) = (if tkK (T (s.1 + 1)) = 142 then mu T 142 (s.1 + 1, 0) else mu T 2 (s.1 + 1, 0)) := ifk_0
        rw [e2] at h ⊢
        by_cases h142 : tkK (T (s.1 + 1)) = 142
        · rw [if_pos h142] at h ⊢
          obtain ⟨n1, n2, n3, n4⟩ := mu_ok h
          exact ⟨n4, fun _ => ⟨n3, Or.inl h142⟩⟩
        · rw [if_neg h142] at h ⊢
          obtain ⟨n1, n2, n3, n4⟩ := mu_ok h
          exact ⟨n4, fun _ => ⟨n3, Or.inr n2⟩⟩
      · rw [nbr_f hm] at h
        exact absurd h hm
    · rw [if_neg hk]
      rw [if_neg hk]
      exact ⟨by rw [← h0], fun e => absurd e hk⟩
  · rw [optA_f h0] at h
    exact absurd h h0
theorem sh129 {T : Nat → TK} {c : Nat → Nat} {a : Nat} (hk : tkK (T a) = 129) (h : (rtG T c a).2 = 0) : c 1 < 7 ∧ tkK (T (a + 1)) = 2 ∧ tkK (T (a + 2)) = 130 ∧ (tkK (T (a + 3)) = 131 ∨ tkK (T (a + 3)) = 2) ∧ (tkK (T (a + 4)) = 132 → tkK (T (a + 5)) = 142 ∨ tkK (T (a + 5)) = 2) ∧ (tkK (T (nbE T (a + 4) 132)) = 133 → tkK (T (nbE T (a + 4) 132 + 1)) = 142 ∨ tkK (T (nbE T (a + 4) 132 + 1)) = 2) ∧ tkK (T (nbE T (nbE T (a + 4) 132) 133)) = 59 ∧ nbE T (nbE T (a + 4) 132) 133 < 400 ∧ rtG T c a = (nbE T (nbE T (a + 4) 132) 133 + 1, 0) := by
  have e : rtG T c a = mu T 59 (stnG T (fstG T 129 (c 1) 7 (a, 0))) := (if_neg (by omega)).trans (if_pos hk)
  rw [e] at h ⊢
  unfold stnG at h ⊢
  obtain ⟨a1, a2, a3, a4⟩ := mu_ok h
  obtain ⟨o1, o2, o3⟩ := optA_ok a1
  obtain ⟨p1, p2, p3⟩ := optA_ok o1
  have hn : (mu T 130 (mu T 2 (fstG T 129 (c 1) 7 (a, 0)))).2 = 0 := by
    by_cases q : (mu T 130 (mu T 2 (fstG T 129 (c 1) 7 (a, 0)))).2 = 0
    · exact q
    · rw [non_f q] at p1
      exact absurd p1 q
  obtain ⟨b1, b2, b3, b4⟩ := mu_ok hn
  obtain ⟨c1, c2, c3, c4⟩ := mu_ok b1
  obtain ⟨d1, d2, d3, d4⟩ := fst_ok c1
  rw [d4] at c2 c3 c4
  rw [d4, c4] at b2 b3 b4
  have en : non T (mu T 130 (mu T 2 (fstG T 129 (c 1) 7 (a, 0)))) = (a + 4, 0) ∧ (tkK (T (a + 3)) = 131 ∨ tkK (T (a + 3)) = 2) := by
    rw [d4, c4, b4] at p1 ⊢
    have e2 : non T (a + 1 + 1 + 1, 0) = (if tkK (T (a + 3)) = 131 then mu T 131 (a + 3, 0) else mu T 2 (a + 3, 0)) := ifk_0
    change (non T (a + 1 + 1 + 1, 0)).2 = 0 at p1
    show non T (a + 1 + 1 + 1, 0) = _ ∧ _
    rw [e2] at p1 ⊢
    by_cases h131 : tkK (T (a + 3)) = 131
    · rw [if_pos h131] at p1 ⊢
      exact ⟨(mu_ok p1).2.2.2, Or.inl h131⟩
    · rw [if_neg h131] at p1 ⊢
      exact ⟨(mu_ok p1).2.2.2, Or.inr (mu_ok p1).2.1⟩
  rw [en.1] at p2 p3
  rw [en.1, p2] at o2 o3
  rw [en.1, p2, o2] at a2 a3 a4
  rw [en.1, p2, o2, a4]
  exact ⟨d1, c2, b2, en.2, fun q => (p3 q).2, fun q => (o3 q).2, a2, a3, rfl⟩
theorem shPc {T : Nat → TK} {c : Nat → Nat} {a : Nat} {k j most : Nat} (e : rtG T c a = mu T 59 (mu T 3 (mu T 2 (fstG T k (c j) most (a, 0))))) (h : (rtG T c a).2 = 0) : c j < most ∧ tkK (T (a + 1)) = 2 ∧ tkK (T (a + 2)) = 3 ∧ tkK (T (a + 3)) = 59 ∧ a + 3 < 400 ∧ rtG T c a = (a + 4, 0) := by
  rw [e] at h ⊢
  obtain ⟨a1, a2, a3, a4⟩ := mu_ok h
  obtain ⟨b1, b2, b3, b4⟩ := mu_ok a1
  obtain ⟨c1, c2, c3, c4⟩ := mu_ok b1
  obtain ⟨d1, d2, d3, d4⟩ := fst_ok c1
  rw [d4] at c2 c3 c4
  rw [d4, c4] at b2 b3 b4
  rw [d4, c4, b4] at a2 a3 a4
  rw [d4, c4, b4, a4]
  exact ⟨d1, c2, b2, a2, a3, rfl⟩
theorem rt134 {T : Nat → TK} {c : Nat → Nat} {a : Nat} (hk : tkK (T a) = 134) : rtG T c a = mu T 59 (mu T 3 (mu T 2 (fstG T 134 (c 6) 8 (a, 0)))) := (if_neg (by omega)).trans ((if_neg (by omega)).trans (if_pos hk))
theorem rt135 {T : Nat → TK} {c : Nat → Nat} {a : Nat} (hk : tkK (T a) = 135) : rtG T c a = mu T 59 (mu T 3 (mu T 2 (fstG T 135 (c 7) 6 (a, 0)))) := (if_neg (by omega)).trans ((if_neg (by omega)).trans ((if_neg (by omega)).trans (if_pos hk)))
theorem rt136 {T : Nat → TK} {c : Nat → Nat} {a : Nat} (hk : tkK (T a) = 136) : rtG T c a = mu T 59 (mu T 3 (mu T 2 (fstG T 136 (c 8) 4 (a, 0)))) := (if_neg (by omega)).trans ((if_neg (by omega)).trans ((if_neg (by omega)).trans ((if_neg (by omega)).trans (if_pos hk))))
theorem sh137 {T : Nat → TK} {c : Nat → Nat} {a : Nat} (hk : tkK (T a) = 137) (h : (rtG T c a).2 = 0) : c 9 < 10 ∧ tkK (T (a + 1)) = 2 ∧ tkK (T (a + 2)) = 59 ∧ a + 2 < 400 ∧ rtG T c a = (a + 3, 0) := by
  have e : rtG T c a = mu T 59 (mu T 2 (fstG T 137 (c 9) 10 (a, 0))) := by
    unfold rtG
    rw [if_neg (by omega), if_neg (by omega), if_neg (by omega), if_neg (by omega), if_neg (by omega), if_pos hk]
  rw [e] at h ⊢
  obtain ⟨a1, a2, a3, a4⟩ := mu_ok h
  obtain ⟨c1, c2, c3, c4⟩ := mu_ok a1
  obtain ⟨d1, d2, d3, d4⟩ := fst_ok c1
  rw [d4] at c2 c3 c4
  rw [d4, c4] at a2 a3 a4
  rw [d4, c4, a4]
  exact ⟨d1, c2, a2, a3, rfl⟩
theorem sh138 {T : Nat → TK} {c : Nat → Nat} {a : Nat} (hk : tkK (T a) = 138) (h : (rtG T c a).2 = 0) : c 10 < 8 ∧ tkK (T (a + 1)) = 2 ∧ tkK (T (a + 2)) = 2 ∧ (if tkK (T (a + 3)) = 2 then tkK (T (a + 4)) = 59 ∧ a + 4 < 400 ∧ rtG T c a = (a + 5, 0) else tkK (T (a + 3)) = 59 ∧ a + 3 < 400 ∧ rtG T c a = (a + 4, 0)) := by
  have e : rtG T c a = mu T 59 (opt2 T (mu T 2 (mu T 2 (fstG T 138 (c 10) 8 (a, 0))))) := by
    unfold rtG
    rw [if_neg (by omega), if_neg (by omega), if_neg (by omega), if_neg (by omega), if_neg (by omega), if_neg (by omega), if_pos hk]
  rw [e] at h ⊢
  obtain ⟨a1, a2, a3, a4⟩ := mu_ok h
  have hb : (mu T 2 (mu T 2 (fstG T 138 (c 10) 8 (a, 0)))).2 = 0 := by
    by_cases q : (mu T 2 (mu T 2 (fstG T 138 (c 10) 8 (a, 0)))).2 = 0
    · exact q
    · rw [opt2_f q] at a1
      exact absurd a1 q
  obtain ⟨b1, b2, b3, b4⟩ := mu_ok hb
  obtain ⟨c1, c2, c3, c4⟩ := mu_ok b1
  obtain ⟨d1, d2, d3, d4⟩ := fst_ok c1
  rw [d4] at c2 c3 c4
  rw [d4, c4] at b2 b3 b4
  rw [d4, c4, b4] at a1 a2 a3 a4 ⊢
  have e2 : opt2 T (a + 1 + 1 + 1, 0) = (if tkK (T (a + 3)) = 2 then mu T 2 (a + 3, 0) else (a + 3, 0)) := ifk_0
  refine ⟨d1, c2, b2, ?_⟩
  change (opt2 T (a + 1 + 1 + 1, 0)).2 = 0 at a1
  change tkK (T (opt2 T (a + 1 + 1 + 1, 0)).1) = 59 at a2
  change (opt2 T (a + 1 + 1 + 1, 0)).1 < 400 at a3
  change mu T 59 (opt2 T (a + 1 + 1 + 1, 0)) = ((opt2 T (a + 1 + 1 + 1, 0)).1 + 1, 0) at a4
  show if tkK (T (a + 3)) = 2 then tkK (T (a + 4)) = 59 ∧ a + 4 < 400 ∧ mu T 59 (opt2 T (a + 1 + 1 + 1, 0)) = (a + 5, 0) else tkK (T (a + 3)) = 59 ∧ a + 3 < 400 ∧ mu T 59 (opt2 T (a + 1 + 1 + 1, 0)) = (a + 4, 0)
  rw [a4]
  rw [e2] at a1 a2 a3 ⊢
  by_cases h3 : tkK (T (a + 3)) = 2
  · rw [if_pos h3] at a1 a2 a3 ⊢
    rw [(mu_ok a1).2.2.2] at a2 a3 ⊢
    rw [if_pos h3]
    exact ⟨a2, a3, rfl⟩
  · rw [if_neg h3] at a1 a2 a3 ⊢
    rw [if_neg h3]
    exact ⟨a2, a3, rfl⟩
theorem wnt_ok {T : Nat → TK} : ∀ (r b : Nat), (wntG T r (b, 0)).2 = 0 → ∃ n, n ≤ r ∧ wntG T r (b, 0) = (b + 2 * n, 0) ∧ (∀ i, i < n → tkK (T (b + 2 * i)) = 2 ∧ tkK (T (b + 2 * i + 1)) = 3) ∧ ¬ tkK (T (b + 2 * n)) = 2
  | 0, b, h => by
    have e : wntG T 0 (b, 0) = (if tkK (T b) = 2 then fl 2 (b, 0) else (b, 0)) := ifk_0
    rw [e] at h ⊢
    by_cases hk : tkK (T b) = 2
    · rw [if_pos hk] at h
      exact absurd h (show ¬ 2 = 0 by decide)
    · rw [if_neg hk]
      exact ⟨0, Nat.le_refl _, rfl, fun i hi => absurd hi (Nat.not_lt_zero i), hk⟩
  | r + 1, b, h => by
    have e : wntG T (r + 1) (b, 0) = (if tkK (T b) = 2 then wntG T r (mu T 3 (mu T 2 (b, 0))) else (b, 0)) := ifk_0
    rw [e] at h ⊢
    by_cases hk : tkK (T b) = 2
    · rw [if_pos hk] at h ⊢
      have hm : (mu T 3 (mu T 2 (b, 0))).2 = 0 := by
        by_cases q : (mu T 3 (mu T 2 (b, 0))).2 = 0
        · exact q
        · rw [wntG_f q] at h
          exact absurd h q
      obtain ⟨a1, a2, a3, a4⟩ := mu_ok hm
      obtain ⟨b1, b2, b3, b4⟩ := mu_ok a1
      rw [b4] at a2 a3 a4
      rw [b4, a4] at h ⊢
      obtain ⟨n, n1, n2, n3, n4⟩ := wnt_ok r (b + 1 + 1) h
      refine ⟨n + 1, by omega, ?_, fun i hi => ?_, ?_⟩
      · show wntG T r (b + 1 + 1, 0) = _
        rw [n2, show b + 1 + 1 + 2 * n = b + 2 * (n + 1) by omega]
      · by_cases hi0 : i = 0
        · subst hi0
          exact ⟨b2, a2⟩
        · have := n3 (i - 1) (by omega)
          rw [show b + 1 + 1 + 2 * (i - 1) = b + 2 * i by omega] at this
          exact this
      · rw [show b + 2 * (n + 1) = b + 1 + 1 + 2 * n by omega]
        exact n4
    · rw [if_neg hk]
      exact ⟨0, by omega, rfl, fun i hi => absurd hi (Nat.not_lt_zero i), hk⟩
theorem sh139 {T : Nat → TK} {c : Nat → Nat} {a : Nat} (hk : tkK (T a) = 139) (h : (rtG T c a).2 = 0) : c 11 < 5 ∧ tkK (T (a + 1)) = 3 ∧ ∃ n, n ≤ 4 ∧ (∀ i, i < n → tkK (T (a + 2 + 2 * i)) = 2 ∧ tkK (T (a + 2 + 2 * i + 1)) = 3) ∧ tkK (T (a + 2 + 2 * n)) = 59 ∧ a + 2 + 2 * n < 400 ∧ rtG T c a = (a + 2 + 2 * n + 1, 0) := by
  have e : rtG T c a = mu T 59 (wntG T 4 (mu T 3 (fstG T 139 (c 11) 5 (a, 0)))) := by
    unfold rtG
    rw [if_neg (by omega), if_neg (by omega), if_neg (by omega), if_neg (by omega), if_neg (by omega), if_neg (by omega), if_neg (by omega), if_pos hk]
  rw [e] at h ⊢
  obtain ⟨a1, a2, a3, a4⟩ := mu_ok h
  have hb : (mu T 3 (fstG T 139 (c 11) 5 (a, 0))).2 = 0 := by
    by_cases q : (mu T 3 (fstG T 139 (c 11) 5 (a, 0))).2 = 0
    · exact q
    · rw [wntG_f q] at a1
      exact absurd a1 q
  obtain ⟨c1, c2, c3, c4⟩ := mu_ok hb
  obtain ⟨d1, d2, d3, d4⟩ := fst_ok c1
  rw [d4] at c2 c3 c4
  rw [d4, c4] at a1 a2 a3 a4 ⊢
  obtain ⟨n, n1, n2, n3, n4⟩ := wnt_ok 4 (a + 1 + 1) a1
  refine ⟨d1, c2, n, n1, n3, ?_, ?_, ?_⟩
  · have : (wntG T 4 (a + 1 + 1, 0)).1 = a + 2 + 2 * n := by rw [n2]
    rw [← this]; exact a2
  · have : (wntG T 4 (a + 1 + 1, 0)).1 = a + 2 + 2 * n := by rw [n2]
    rw [← this]; exact a3
  · show mu T 59 (wntG T 4 (a + 1 + 1, 0)) = _
    have := a4
    change mu T 59 (wntG T 4 (a + 1 + 1, 0)) = ((wntG T 4 (a + 1 + 1, 0)).1 + 1, 0) at this
    rw [this, n2]
theorem sh140 {T : Nat → TK} {c : Nat → Nat} {a : Nat} (hk : tkK (T a) = 140) (h : (rtG T c a).2 = 0) : tkK (T (a + 1)) = 61 ∧ a + 1 < 400 ∧ ∃ e, lawL T 4 (a + 2, 0) = (e, 0) ∧ tkK (T e) = 59 ∧ e < 400 ∧ rtG T c a = (e + 1, 0) := by
  have e : rtG T c a = mu T 59 (lawG T (mu T 140 (a, 0))) := by
    unfold rtG
    rw [if_neg (by omega), if_neg (by omega), if_neg (by omega), if_neg (by omega), if_neg (by omega), if_neg (by omega), if_neg (by omega), if_neg (by omega), if_pos hk]
  rw [e] at h ⊢
  unfold lawG at h ⊢
  obtain ⟨a1, a2, a3, a4⟩ := mu_ok h
  have hb : (mu T 61 (mu T 140 (a, 0))).2 = 0 := by
    by_cases q : (mu T 61 (mu T 140 (a, 0))).2 = 0
    · exact q
    · rw [lawL_f q] at a1
      exact absurd a1 q
  obtain ⟨b1, b2, b3, b4⟩ := mu_ok hb
  obtain ⟨c1, c2, c3, c4⟩ := mu_ok b1
  rw [c4] at b2 b3 b4
  rw [c4, b4] at a1 a2 a3 a4 ⊢
  refine ⟨b2, b3, (lawL T 4 (a + 2, 0)).1, ?_, a2, a3, a4⟩
  exact Prod.ext rfl a1
theorem sh141 {T : Nat → TK} {c : Nat → Nat} {a : Nat} (hk : tkK (T a) = 141) (h : (rtG T c a).2 = 0) : tkK (T (a + 1)) = 3 ∧ tkK (T (a + 2)) = 59 ∧ a + 2 < 400 ∧ rtG T c a = (a + 3, 0) := by
  have e : rtG T c a = mu T 59 (mu T 3 (mu T 141 (a, 0))) := by
    unfold rtG
    rw [if_neg (by omega), if_neg (by omega), if_neg (by omega), if_neg (by omega), if_neg (by omega), if_neg (by omega), if_neg (by omega), if_neg (by omega), if_neg (by omega), if_pos hk]
  rw [e] at h ⊢
  obtain ⟨a1, a2, a3, a4⟩ := mu_ok h
  obtain ⟨b1, b2, b3, b4⟩ := mu_ok a1
  obtain ⟨c1, c2, c3, c4⟩ := mu_ok b1
  rw [c4] at b2 b3 b4
  rw [c4, b4] at a2 a3 a4
  rw [c4, b4, a4]
  exact ⟨b2, a2, a3, rfl⟩
theorem shK {T : Nat → TK} {c : Nat → Nat} {a : Nat} (h : (rtG T c a).2 = 0) : tkK (T a) = 128 ∨ tkK (T a) = 129 ∨ tkK (T a) = 134 ∨ tkK (T a) = 135 ∨ tkK (T a) = 136 ∨ tkK (T a) = 137 ∨ tkK (T a) = 138 ∨ tkK (T a) = 139 ∨ tkK (T a) = 140 ∨ tkK (T a) = 141 := by
  by_cases q : tkK (T a) = 128 ∨ tkK (T a) = 129 ∨ tkK (T a) = 134 ∨ tkK (T a) = 135 ∨ tkK (T a) = 136 ∨ tkK (T a) = 137 ∨ tkK (T a) = 138 ∨ tkK (T a) = 139 ∨ tkK (T a) = 140 ∨ tkK (T a) = 141
  · exact q
  · exfalso
    unfold rtG at h
    rw [if_neg (by omega), if_neg (by omega), if_neg (by omega), if_neg (by omega), if_neg (by omega), if_neg (by omega), if_neg (by omega), if_neg (by omega), if_neg (by omega), if_neg (by omega)] at h
    exact absurd h (show ¬ 1 = 0 by decide)
