/-! Tokens of a tape, by themselves. -/
abbrev TK : Type := Nat × Nat × List Nat × Nat
def isBl (x : Int) : Bool := decide (x = 9) || (decide (x = 10) || (decide (x = 13) || decide (x = 32)))
def isLt (x : Int) : Bool := decide (97 ≤ x) && decide (x ≤ 122)
def isDg (x : Int) : Bool := decide (48 ≤ x) && decide (x ≤ 57)
def sgL : List Nat := [59, 61, 43, 45, 42, 47, 60, 40, 41]
def rlen (p : Int → Bool) (f : Nat → Int) : Nat → Nat → Nat
  | 0, _ => 0
  | m + 1, i => if p (f i) = true then rlen p f m (i + 1) + 1 else 0
def ltn (f : Nat → Int) (i : Nat) : Nat → List Nat
  | 0 => []
  | k + 1 => ltn f i k ++ [(f (i + k) - 96).toNat]
def nmb (f : Nat → Int) (i : Nat) : Nat → Nat
  | 0 => 0
  | k + 1 => nmb f i k * 10 + (f (i + k) - 48).toNat
def qwL : List (List Nat) := [[3, 12, 1, 19, 19], [19, 20, 15, 14, 5], [20, 15], [14, 15, 14, 5], [1, 6, 20, 5, 18], [2, 5, 6, 15, 18, 5], [18, 15, 15, 20], [5, 14, 4, 9, 14, 7], [8, 5, 1, 4], [23, 15, 18, 4], [16, 1, 9, 18], [12, 1, 14, 4], [2, 18, 9, 14, 7, 19], [19, 5, 5, 4], [5, 4, 7, 5], [9, 6], [20, 8, 5, 14], [5, 12, 19, 5], [5, 14, 4, 19], [8, 5, 1, 4, 19], [20, 15, 14, 19], [4, 21, 19, 20], [20, 21, 18, 14], [12, 5, 6, 20]]
def krL : List (List Nat) := [[3, 12, 1, 19, 19], [19, 20, 15, 14, 5], [20, 15], [14, 15, 14, 5], [1, 6, 20, 5, 18], [2, 5, 6, 15, 18, 5], [5, 4, 7, 5], [18, 15, 15, 20], [5, 14, 4, 9, 14, 7], [8, 5, 1, 4], [23, 15, 18, 4], [16, 1, 9, 18], [12, 1, 14, 4], [2, 18, 9, 14, 7, 19], [19, 5, 5, 4], [9, 6], [20, 8, 5, 14], [5, 12, 19, 5], [5, 14, 4, 19], [8, 5, 1, 4, 19], [20, 15, 14, 19], [4, 21, 19, 20], [20, 21, 18, 14], [12, 5, 6, 20]]
def kqi (l : List Nat) : List (List Nat) → Nat → Nat
  | [], _ => 2
  | w :: r, q => if w = l then 128 + q else kqi l r (q + 1)
def kri (l : List Nat) : List (List Nat) → Nat → Nat → Nat
  | [], _, v => v
  | w :: r, k, v => kri l r (k + 1) (if w = l then 20 + k else v)
def kvL : List Nat := [0, 1, 2, 3, 59, 61, 43, 45, 42, 47, 60, 40, 41] ++ (List.range 24).map (fun q => 128 + q)
def rho (k : Nat) : Nat := if k = 0 then 0 else if k = 1 then 3 else if k = 2 then 1 else if k = 3 then 2 else if k = 59 then 4 else if k = 61 then 5 else if k = 40 then 6 else if k = 41 then 7 else if k = 43 then 8 else if k = 45 then 9 else if k = 42 then 10 else if k = 60 then 13 else if k = 47 then 15 else if k ≤ 133 then k - 108 else if k = 142 then 26 else if k ≤ 141 then k - 107 else k - 108
set_option maxRecDepth 100000 in
theorem rho_inj : ∀ a ∈ kvL, ∀ b ∈ kvL, rho a = rho b → a = b := by decide +kernel
set_option maxRecDepth 100000 in
theorem rho_lt : ∀ a ∈ kvL, rho a < 44 ∧ a < 152 := by decide +kernel
theorem rho_iff {a b : Nat} (ha : a ∈ kvL) (hb : b ∈ kvL) : ((rho a : Int) = (rho b : Int)) ↔ a = b := ⟨fun h => rho_inj a ha b hb (by omega), fun h => by rw [h]⟩
set_option maxRecDepth 100000 in
theorem kri_mem : ∀ l ∈ qwL, kri l krL 0 1 = rho (kqi l qwL 0) := by decide +kernel
theorem kri_ne {l : List Nat} : ∀ (r : List (List Nat)) (k v : Nat), l ∉ r → kri l r k v = v
  | [], _, _, _ => rfl
  | w :: r, k, v, h => by
    unfold kri
    rw [if_neg (show ¬ w = l from fun e => h (by rw [e]; exact List.mem_cons_self)), kri_ne r (k + 1) v (fun e => h (List.mem_cons_of_mem _ e))]
theorem kqi_ne {l : List Nat} : ∀ (r : List (List Nat)) (k : Nat), l ∉ r → kqi l r k = 2
  | [], _, _ => rfl
  | w :: r, k, h => by
    unfold kqi
    rw [if_neg (show ¬ w = l from fun e => h (by rw [e]; exact List.mem_cons_self)), kqi_ne r (k + 1) (fun e => h (List.mem_cons_of_mem _ e))]
set_option maxRecDepth 100000 in
theorem kr_sub : ∀ l ∈ krL, l ∈ qwL := by decide +kernel
set_option maxRecDepth 100000 in
theorem qw_prop : ∀ l ∈ qwL, l.length ≤ 7 ∧ wv l := by
  unfold wv
  decide +kernel
theorem kri_eq (l : List Nat) : kri l krL 0 1 = rho (kqi l qwL 0) := by
  by_cases h : l ∈ qwL
  · exact kri_mem l h
  · rw [kri_ne _ _ _ (fun e => h (kr_sub l e)), kqi_ne _ _ h]
    rfl
theorem kqi_rng (l : List Nat) : ∀ (r : List (List Nat)) (q : Nat), q + r.length ≤ 24 → kqi l r q = 2 ∨ ∃ j, j < 24 ∧ kqi l r q = 128 + j
  | [], _, _ => Or.inl rfl
  | w :: r, q, h => by
    rw [List.length_cons] at h
    unfold kqi
    split
    · exact Or.inr ⟨q, by omega, rfl⟩
    · exact kqi_rng l r (q + 1) (by omega)
theorem kv_q {j : Nat} (h : j < 24) : 128 + j ∈ kvL := List.mem_append_right _ (List.mem_map.mpr ⟨j, List.mem_range.mpr h, rfl⟩)
theorem kqi_kv (l : List Nat) : kqi l qwL 0 ∈ kvL ∧ ¬ kqi l qwL 0 = 0 ∧ ¬ kqi l qwL 0 = 3 := by
  rcases kqi_rng l qwL 0 (by decide) with h | ⟨j, hj, h⟩
  · rw [h]; decide
  · rw [h]; exact ⟨kv_q hj, by omega, by omega⟩
def tkK (t : TK) : Nat := t.1
def tkP (t : TK) : Nat := t.2.1
def tkN (t : TK) : List Nat := t.2.2.1
def tkV (t : TK) : Nat := t.2.2.2
def skp (f : Nat → Int) (n i : Nat) : Nat := i + rlen isBl f (n - i) i
def tkAt (f : Nat → Int) (n i : Nat) : TK × Nat :=
  if isLt (f i) = true then ((if 8 < rlen isLt f (n - i) i then 1 else kqi (ltn f i (min (rlen isLt f (n - i) i) 8)) qwL 0, i, ltn f i (min (rlen isLt f (n - i) i) 8), 0), rlen isLt f (n - i) i)
  else if isDg (f i) = true then ((if 4 < rlen isDg f (n - i) i then 1 else 3, i, [], nmb f i (min (rlen isDg f (n - i) i) 4)), rlen isDg f (n - i) i)
  else ((if 0 ≤ f i ∧ (f i).toNat ∈ sgL then (f i).toNat else 1, i, [], 0), 1)
def psE (f : Nat → Int) (n : Nat) : Nat → Nat
  | 0 => 0
  | j + 1 => skp f n (psE f n j) + (tkAt f n (skp f n (psE f n j))).2
def tkT (f : Nat → Int) (n : Nat) (j : Nat) : TK := if skp f n (psE f n j) < n then (tkAt f n (skp f n (psE f n j))).1 else (0, n, [], 0)
/-- up to a token none is the end -/
def live (T : Nat → TK) (j : Nat) : Prop := ∀ i, i < j → ¬ tkK (T i) = 0
def TKok (T : Nat → TK) : Prop := (∀ j, tkK (T j) ∈ kvL) ∧ (∀ j, ¬ tkK (T j) = 0 → tkP (T j) < tkP (T (j + 1))) ∧ (∀ j, tkK (T j) = 2 → wok (tkN (T j)) ∧ 1 ≤ (tkN (T j)).length) ∧ (∀ j, tkK (T j) = 3 → tkV (T j) ≤ 9999) ∧ (∀ j, tkP (T j) ≤ 2000) ∧ (∀ j, tkK (T j) = 0 → tkK (T (j + 1)) = 0)
theorem rlen_p {p : Int → Bool} {f : Nat → Int} : ∀ (m i k : Nat), k < rlen p f m i → p (f (i + k)) = true
  | 0, _, _, h => absurd h (by unfold rlen; omega)
  | m + 1, i, k, h => by
    unfold rlen at h
    by_cases hp : p (f i) = true
    · rw [if_pos hp] at h
      cases k with
      | zero => exact hp
      | succ k =>
        have := rlen_p (p := p) (f := f) m (i + 1) k (by omega)
        rw [show i + 1 + k = i + (k + 1) by omega] at this
        exact this
    · rw [if_neg hp] at h
      omega
theorem rlen_le {p : Int → Bool} {f : Nat → Int} : ∀ (m i : Nat), rlen p f m i ≤ m
  | 0, _ => Nat.le_refl _
  | m + 1, i => by
    have := rlen_le (p := p) (f := f) m (i + 1)
    unfold rlen
    split <;> omega
theorem rlen_stop {p : Int → Bool} {f : Nat → Int} : ∀ (m i : Nat), rlen p f m i < m → ¬ p (f (i + rlen p f m i)) = true
  | 0, _, h => absurd h (Nat.not_lt_zero _)
  | m + 1, i, h => by
    unfold rlen at h ⊢
    by_cases hp : p (f i) = true
    · rw [if_pos hp] at h ⊢
      have := rlen_stop (p := p) (f := f) m (i + 1) (by omega)
      rw [show i + 1 + rlen p f m (i + 1) = i + (rlen p f m (i + 1) + 1) by omega] at this
      exact this
    · rw [if_neg hp]
      exact hp
theorem rlen_pos {p : Int → Bool} {f : Nat → Int} {m i : Nat} (hm : 0 < m) (h : p (f i) = true) : 1 ≤ rlen p f m i := by
  cases m with
  | zero => omega
  | succ m =>
    unfold rlen
    rw [if_pos h]
    omega
theorem ltn_len (f : Nat → Int) (i : Nat) : ∀ k, (ltn f i k).length = k
  | 0 => rfl
  | k + 1 => by
    unfold ltn
    rw [List.length_append, ltn_len f i k]
    rfl
theorem isLt_iff {x : Int} : isLt x = true ↔ 97 ≤ x ∧ x ≤ 122 := by
  unfold isLt
  rw [Bool.and_eq_true, decide_eq_true_iff, decide_eq_true_iff]
theorem isDg_iff {x : Int} : isDg x = true ↔ 48 ≤ x ∧ x ≤ 57 := by
  unfold isDg
  rw [Bool.and_eq_true, decide_eq_true_iff, decide_eq_true_iff]
theorem isBl_iff {x : Int} : isBl x = true ↔ x = 9 ∨ x = 10 ∨ x = 13 ∨ x = 32 := by
  unfold isBl
  rw [Bool.or_eq_true, Bool.or_eq_true, Bool.or_eq_true, decide_eq_true_iff, decide_eq_true_iff, decide_eq_true_iff, decide_eq_true_iff]
theorem ltn_wv {f : Nat → Int} {i : Nat} : ∀ (k : Nat), (∀ j, j < k → isLt (f (i + j)) = true) → wv (ltn f i k)
  | 0, _ => fun _ h => absurd h (by unfold ltn; exact List.not_mem_nil)
  | k + 1, h => by
    intro b hb
    unfold ltn at hb
    rcases List.mem_append.mp hb with hb | hb
    · exact ltn_wv k (fun j hj => h j (by omega)) b hb
    · rw [List.mem_singleton.mp hb]
      have := isLt_iff.mp (h k (by omega))
      omega
theorem nmb_lt {f : Nat → Int} {i : Nat} : ∀ (k : Nat), (∀ j, j < k → isDg (f (i + j)) = true) → nmb f i k < 10 ^ k
  | 0, _ => Nat.one_pos
  | k + 1, h => by
    have ih := nmb_lt k (fun j hj => h j (by omega))
    have := isDg_iff.mp (h k (by omega))
    unfold nmb
    rw [Nat.pow_succ]
    omega
theorem tkAt_len {f : Nat → Int} {n i : Nat} (h : i < n) : 1 ≤ (tkAt f n i).2 := by
  unfold tkAt
  split
  · rename_i h1
    exact rlen_pos (by omega) h1
  · split
    · rename_i h1
      exact rlen_pos (by omega) h1
    · exact Nat.le_refl _
theorem tkAt_p (f : Nat → Int) (n i : Nat) : tkP (tkAt f n i).1 = i := by
  unfold tkAt tkP
  split
  · rfl
  · split <;> rfl
theorem sg_kv : ∀ a ∈ sgL, a ∈ kvL ∧ ¬ a = 0 ∧ ¬ a = 2 ∧ ¬ a = 3 := by decide
theorem tkAt_k (f : Nat → Int) (n i : Nat) : tkK (tkAt f n i).1 ∈ kvL ∧ ¬ tkK (tkAt f n i).1 = 0 := by
  unfold tkAt tkK
  split
  · show (if 8 < _ then 1 else _) ∈ kvL ∧ ¬ (if 8 < _ then 1 else _) = 0
    split
    · decide
    · exact ⟨(kqi_kv _).1, (kqi_kv _).2.1⟩
  · split
    · show (if 4 < _ then 1 else 3) ∈ kvL ∧ ¬ (if 4 < _ then 1 else 3) = 0
      split <;> decide
    · show (if _ then _ else 1) ∈ kvL ∧ ¬ (if _ then _ else 1) = 0
      split
      · rename_i h
        exact ⟨(sg_kv _ h.2).1, (sg_kv _ h.2).2.1⟩
      · decide
theorem tkAt_n {f : Nat → Int} {n i : Nat} (hi : i < n) (h : tkK (tkAt f n i).1 = 2) : wok (tkN (tkAt f n i).1) ∧ 1 ≤ (tkN (tkAt f n i).1).length := by
  unfold tkAt tkK at h
  unfold tkAt tkN
  split at h
  · rename_i h1
    rw [if_pos h1]
    have hp := rlen_pos (p := isLt) (f := f) (m := n - i) (i := i) (by omega) h1
    refine ⟨⟨ltn_wv _ (fun j hj => rlen_p (n - i) i j (by omega)), ?_⟩, ?_⟩
    · show (ltn f i _).length ≤ 8
      rw [ltn_len]; omega
    · show 1 ≤ (ltn f i _).length
      rw [ltn_len]; omega
  · split at h
    · change (if 4 < _ then 1 else 3) = 2 at h
      split at h <;> omega
    · change (if _ then _ else 1) = 2 at h
      split at h
      · rename_i h3
        exact absurd h (sg_kv _ h3.2).2.2.1
      · omega
theorem tkAt_v {f : Nat → Int} {n i : Nat} (h : tkK (tkAt f n i).1 = 3) : tkV (tkAt f n i).1 ≤ 9999 := by
  unfold tkAt tkK at h
  unfold tkAt tkV
  split at h
  · change (if 8 < _ then 1 else _) = 3 at h
    split at h
    · omega
    · exact absurd h (kqi_kv _).2.2
  · rename_i h1
    rw [if_neg h1]
    split at h
    · rename_i h2
      rw [if_pos h2]
      show nmb f i (min (rlen isDg f (n - i) i) 4) ≤ 9999
      have := nmb_lt (f := f) (i := i) (min (rlen isDg f (n - i) i) 4) (fun j hj => rlen_p (n - i) i j (by omega))
      have h4 : 10 ^ min (rlen isDg f (n - i) i) 4 ≤ 10 ^ 4 := Nat.pow_le_pow_right (by decide) (by omega)
      omega
    · change (if _ then _ else 1) = 3 at h
      split at h
      · rename_i h3
        exact absurd h (sg_kv _ h3.2).2.2.2
      · omega
theorem skp_ge (f : Nat → Int) (n i : Nat) : i ≤ skp f n i := Nat.le_add_right _ _
theorem skp_le {f : Nat → Int} {n i : Nat} (h : i ≤ n) : skp f n i ≤ n := by
  have := rlen_le (p := isBl) (f := f) (n - i) i
  unfold skp
  omega
theorem tkT_ok {f : Nat → Int} {n : Nat} (hn : n ≤ 2000) : TKok (tkT f n) := by
  have ge : ∀ j, ¬ skp f n (psE f n j) < n → ¬ skp f n (psE f n (j + 1)) < n := fun j h => by
    have := skp_ge f n (psE f n (j + 1))
    have e : psE f n (j + 1) = skp f n (psE f n j) + (tkAt f n (skp f n (psE f n j))).2 := rfl
    omega
  refine ⟨fun j => ?_, fun j => ?_, fun j => ?_, fun j => ?_, fun j => ?_, fun j => ?_⟩
  · unfold tkT
    split
    · exact (tkAt_k _ _ _).1
    · show 0 ∈ kvL
      decide
  · intro h
    unfold tkT at h ⊢
    by_cases h1 : skp f n (psE f n j) < n
    · rw [if_pos h1] at h ⊢
      rw [tkAt_p]
      split
      · rw [tkAt_p]
        have := skp_ge f n (psE f n (j + 1))
        have e : psE f n (j + 1) = skp f n (psE f n j) + (tkAt f n (skp f n (psE f n j))).2 := rfl
        have := tkAt_len (f := f) h1
        omega
      · exact h1
    · rw [if_neg h1] at h
      exact absurd rfl h
  · intro h
    unfold tkT at h ⊢
    split at h
    · rename_i h1
      rw [if_pos h1]
      exact tkAt_n h1 h
    · exact absurd h (by show ¬ 0 = 2; decide)
  · intro h
    unfold tkT at h ⊢
    split at h
    · rename_i h1
      rw [if_pos h1]
      exact tkAt_v h
    · exact absurd h (by show ¬ 0 = 3; decide)
  · unfold tkT
    split
    · rw [tkAt_p]; omega
    · exact hn
  · intro h
    unfold tkT at h ⊢
    split at h
    · exact absurd h (tkAt_k _ _ _).2
    · rename_i h1
      rw [if_neg (ge j h1)]
      rfl
theorem live_0 (T : Nat → TK) : live T 0 := fun i hi => absurd hi (Nat.not_lt_zero i)
theorem live_s {T : Nat → TK} {j : Nat} (h : live T j) (hk : ¬ tkK (T j) = 0) : live T (j + 1) := fun i hi => by
  by_cases e : i = j
  · rw [e]; exact hk
  · exact h i (by omega)
/-- the class's tokens -/
def TkC (D : Nat → Nat → Int) (T : Nat → TK) : Prop := ∃ sz : Nat, sz ≤ 402 ∧ D 2 0 = (sz : Int) ∧ ∀ j, j ≤ 400 → (j < sz → D 3 j = (tkK (T j) : Int) ∧ D 4 j = (tkP (T j) : Int) ∧ (tkK (T j) = 2 → D 5 j = (p32 (tkN (T j)) : Int)) ∧ (tkK (T j) = 3 → D 5 j = (tkV (T j) : Int))) ∧ (sz ≤ j → tkK (T j) = 0) ∧ (live T j → j < sz)
/-- the reference's tokens -/
def TkR (D : Nat → Nat → Int) (T : Nat → TK) : Prop := ∀ j, j ≤ 400 → live T j → D 259 j = (rho (tkK (T j)) : Int) ∧ D 260 j = (tkP (T j) : Int) ∧ (tkK (T j) = 3 → D 261 j = (tkV (T j) : Int)) ∧ (tkK (T j) = 2 → D 262 j = (p27 (tkN (T j)) : Int))
