/-! Made: the same by itself, as the reference counts it. -/
theorem waE_made (X : TX) (n h r : Nat) : ((waE X h r).filter (fun y => decide ((nmW X y).length = n))).map (fun y => ((nmW X y, cdW y) : ENT)) = mRo X n h r := by
  unfold mRo ms
  rw [waE_pr, List.filter_map, List.map_map]
  have e1 : ∀ p : Nat × Nat, nmW X (h, r, p.1, p.2) = (nmX X 2 h ++ nmX X 0 r) ++ tlW X p := fun p => by
    unfold nmW tlW
    rw [List.append_assoc]
  congr 1
  · funext p
    show (nmW X (h, r, p.1, p.2), cdW (h, r, p.1, p.2)) = entP X _ _ p
    rw [e1]
    rfl
  · congr 1
    funext p
    show decide ((nmW X (h, r, p.1, p.2)).length = n) = okE X n _ p
    rw [e1, List.length_append]
    rfl
def mML (X : TX) (n : Nat) (L : List WY) : List ENT := (L.filter (fun y => decide ((nmW X y).length = n))).map (fun y => ((nmW X y, cdW y) : ENT))
theorem mML_all (X : TX) (n : Nat) : mML X n (waysX X) = mAll X n := by
  unfold mML waysX mAll
  rw [List.filter_flatMap, List.map_flatMap]
  congr 1
  funext h
  unfold waR mHe
  rw [List.filter_flatMap, List.map_flatMap]
  congr 1
  funext r
  exact waE_made X n h r
theorem mML_pos {X : TX} {n : Nat} {y : WY} {L : List WY} (h : (nmW X y).length = n) : mML X n (y :: L) = (nmW X y, cdW y) :: mML X n L := by
  unfold mML
  rw [List.filter_cons_of_pos (by simpa using h), List.map_cons]
theorem mML_neg {X : TX} {n : Nat} {y : WY} {L : List WY} (h : ¬ (nmW X y).length = n) : mML X n (y :: L) = mML X n L := by
  unfold mML
  rw [List.filter_cons_of_neg (by simpa using h)]
theorem mML_len (X : TX) (n : Nat) (L : List WY) : (mML X n L).length ≤ L.length := by
  unfold mML
  rw [List.length_map]
  exact List.length_filter_le _ _
theorem nxt_cd {X : TX} (hX : TXok X) {y y' : WY} (h : wvd X y) (e : nxt X y = some y') : cdW y < cdW y' := by
  have n0 := xnp_le hX (s := 0) (by decide)
  have n1 := xnp_le hX (s := 1) (by decide)
  have n2 := xnp_le hX (s := 2) (by decide)
  obtain ⟨a, b, c, f⟩ := y
  obtain ⟨h1, ⟨h2, h3⟩, h4, h5⟩ := h
  simp only at h1 h2 h3 h4 h5
  unfold nxt at e
  simp only at e
  split at e
  · cases e; unfold cdW; simp only; omega
  · split at e
    · cases e; unfold cdW; simp only; omega
    · split at e
      · cases e; unfold cdW; simp only; omega
      · split at e
        · cases e; unfold cdW; simp only; omega
        · cases e
theorem WL_pw {X : TX} (hX : TXok X) : ∀ (L : List WY) (y : WY), wvd X y → WL X y L → List.Pairwise (fun a b => cdW a < cdW b) (y :: L)
  | [], y, _, _ => List.pairwise_singleton _ _
  | z :: L, y, hy, h => by
    have e : nxt X y = some z := h.1
    have ih := WL_pw hX L z (nxt_wvd hy e) h.2
    have hl := nxt_cd hX hy e
    refine List.pairwise_cons.mpr ⟨fun b hb => ?_, ih⟩
    rcases List.mem_cons.mp hb with rfl | hb
    · exact hl
    · exact Nat.lt_trans hl ((List.pairwise_cons.mp ih).1 b hb)
theorem ways_pw {X : TX} (hX : TXok X) : List.Pairwise (fun a b => cdW a < cdW b) (waysX X) := by
  by_cases hr : 1 ≤ xnp X 0
  · obtain ⟨L, h1, h2, h3⟩ := ways_go (X := X) hr
    rw [h1]
    exact WL_pw hX L _ h3 h2
  · rw [ways_nil (by omega)]
    exact List.Pairwise.nil
theorem mAll_pw {X : TX} (hX : TXok X) (n : Nat) : List.Pairwise (fun a b : ENT => a.2 < b.2) (mAll X n) := by
  rw [← mML_all]
  unfold mML
  rw [List.pairwise_map]
  exact (ways_pw hX).filter _
def lst (e : Nat → ENT) : Nat → List ENT
  | 0 => []
  | k + 1 => e k :: lst e k
def eA (A : List ENT) (j : Nat) : ENT := A.getD j ([], 0)
theorem lst_take (A : List ENT) : ∀ k, k ≤ A.length → lst (eA A) k = (A.take k).reverse
  | 0, _ => by rw [List.take_zero]; rfl
  | k + 1, h => by
    show eA A k :: lst (eA A) k = _
    rw [lst_take A k (by omega), List.take_succ_eq_append_getElem (by omega), List.reverse_append]
    show _ = A[k] :: _
    unfold eA
    rw [List.getD_eq_getElem?_getD, List.getElem?_eq_getElem (by omega)]
    rfl
theorem lst_all (A : List ENT) : lst (eA A) A.length = A.reverse := by rw [lst_take A _ (Nat.le_refl _), List.take_length]
theorem occ_s (w : List Nat) (e : Nat → ENT) (k : Nat) : occ w (lst e (k + 1)) = occ w (lst e k) + (if (e k).1 = w then 1 else 0) := rfl
theorem occ_mono {w : List Nat} {e : Nat → ENT} {k : Nat} : ∀ m, occ w (lst e k) ≤ occ w (lst e (k + m))
  | 0 => Nat.le_refl _
  | m + 1 => by
    have := occ_mono (w := w) (e := e) (k := k) m
    rw [← Nat.add_assoc, occ_s]
    omega
theorem occ_le {w : List Nat} {e : Nat → ENT} {j k : Nat} (h : j ≤ k) : occ w (lst e j) ≤ occ w (lst e k) := by
  have := occ_mono (w := w) (e := e) (k := j) (k - j)
  rw [show j + (k - j) = k by omega] at this
  exact this
theorem occ_at {e : Nat → ENT} {i k : Nat} (h : i < k) : occ (e i).1 (lst e i) + 1 ≤ occ (e i).1 (lst e k) := by
  have := occ_le (w := (e i).1) (e := e) (show i + 1 ≤ k from h)
  rw [occ_s, if_pos rfl] at this
  exact this
theorem occ_fst {w : List Nat} {e : Nat → ENT} : ∀ N, occ w (lst e N) ≠ 0 → ∃ i, i < N ∧ (e i).1 = w ∧ occ w (lst e i) = 0 ∧ (e i).2 = fco w (lst e N)
  | 0, h => absurd rfl h
  | N + 1, h => by
    show ∃ i, i < N + 1 ∧ (e i).1 = w ∧ occ w (lst e i) = 0 ∧ (e i).2 = (if occ w (lst e N) = 0 then (if (e N).1 = w then (e N).2 else 0) else fco w (lst e N))
    by_cases h0 : occ w (lst e N) = 0
    · rw [occ_s, h0] at h
      by_cases hw : (e N).1 = w
      · exact ⟨N, by omega, hw, h0, by rw [if_pos h0, if_pos hw]⟩
      · rw [if_neg hw] at h; exact absurd rfl h
    · obtain ⟨i, a, b, c, f⟩ := occ_fst N h0
      exact ⟨i, by omega, b, c, by rw [if_neg h0]; exact f⟩
/-- the first of its name, which comes again before N -/
abbrev pF (e : Nat → ENT) (N i : Nat) : Prop := occ (e i).1 (lst e i) = 0 ∧ 2 ≤ occ (e i).1 (lst e N)
def cU (e : Nat → ENT) : Nat → Nat
  | 0 => 0
  | i + 1 => cU e i + (if occ (e i).1 (lst e i) = 0 then 1 else 0)
theorem mdU_lst (e : Nat → ENT) : ∀ N, mdU (lst e N) = cU e N
  | 0 => rfl
  | N + 1 => by
    show mdU (lst e N) + _ = cU e N + _
    rw [mdU_lst e N]
def cP (p : Nat → Prop) [DecidablePred p] : Nat → Nat
  | 0 => 0
  | i + 1 => cP p i + (if p i then 1 else 0)
theorem cP_add {p q r : Nat → Prop} [DecidablePred p] [DecidablePred q] [DecidablePred r] : ∀ N, (∀ i, i < N → (r i ↔ p i ∨ q i)) → (∀ i, i < N → ¬ (p i ∧ q i)) → cP r N = cP p N + cP q N
  | 0, _, _ => rfl
  | N + 1, h1, h2 => by
    have ih := cP_add N (fun i hi => h1 i (by omega)) (fun i hi => h2 i (by omega))
    have a := h1 N (by omega)
    have b := h2 N (by omega)
    unfold cP
    rw [ih]
    by_cases hp : p N
    · have hq : ¬ q N := fun hq => b ⟨hp, hq⟩
      rw [if_pos hp, if_neg hq, if_pos (a.mpr (Or.inl hp))]
      omega
    · by_cases hq : q N
      · rw [if_neg hp, if_pos hq, if_pos (a.mpr (Or.inr hq))]
        omega
      · rw [if_neg hp, if_neg hq, if_neg (fun h => (a.mp h).elim hp hq)]
        omega
theorem cP_no {p : Nat → Prop} [DecidablePred p] : ∀ N, (∀ i, i < N → ¬ p i) → cP p N = 0
  | 0, _ => rfl
  | N + 1, h => by
    unfold cP
    rw [cP_no N (fun i hi => h i (by omega)), if_neg (h N (by omega))]
theorem cP_one {p : Nat → Prop} [DecidablePred p] {i : Nat} : ∀ N, i < N → p i → (∀ j, j < N → p j → j = i) → cP p N = 1
  | 0, h, _, _ => absurd h (by omega)
  | N + 1, h, hp, hu => by
    unfold cP
    by_cases hi : i = N
    · subst hi
      rw [cP_no i (fun j hj hq => by have := hu j (by omega) hq; omega), if_pos hp]
    · rw [cP_one N (by omega) hp (fun j hj => hu j (by omega)), if_neg (fun hq => hi (hu N (by omega) hq).symm)]
theorem occ_uniq {e : Nat → ENT} {i j : Nat} (h1 : occ (e i).1 (lst e i) = 0) (h2 : occ (e j).1 (lst e j) = 0) (h : (e i).1 = (e j).1) : i = j := by
  rcases Nat.lt_trichotomy i j with q | q | q
  · have := occ_at (e := e) q
    rw [h] at this; omega
  · exact q
  · have := occ_at (e := e) q
    rw [← h] at this; omega
theorem pF_s {e : Nat → ENT} {N i : Nat} : pF e (N + 1) i ↔ pF e N i ∨ (occ (e i).1 (lst e i) = 0 ∧ (e N).1 = (e i).1 ∧ 1 ≤ occ (e i).1 (lst e N)) := by
  unfold pF
  rw [occ_s]
  by_cases h : (e N).1 = (e i).1
  · rw [if_pos h]
    constructor
    · intro ⟨a, b⟩; exact Or.inr ⟨a, h, by omega⟩
    · intro q; rcases q with ⟨a, b⟩ | ⟨a, _, b⟩
      · exact ⟨a, by omega⟩
      · exact ⟨a, by omega⟩
  · rw [if_neg h, Nat.add_zero]
    constructor
    · intro q; exact Or.inl q
    · intro q; rcases q with q | ⟨_, b, _⟩
      · exact q
      · exact absurd b h
theorem pF_last {e : Nat → ENT} {N : Nat} : ¬ pF e (N + 1) N := by
  unfold pF
  rw [occ_s, if_pos rfl]
  omega
theorem mdT_lst (e : Nat → ENT) : ∀ N, mdT (lst e N) = cP (pF e N) N
  | 0 => rfl
  | N + 1 => by
    show mdT (lst e N) + (if occ (e N).1 (lst e N) = 1 then 1 else 0) = cP (pF e (N + 1)) N + (if pF e (N + 1) N then 1 else 0)
    rw [mdT_lst e N, if_neg pF_last, Nat.add_zero]
    by_cases h1 : occ (e N).1 (lst e N) = 1
    · obtain ⟨i, a, b, c, f⟩ := occ_fst (e := e) (w := (e N).1) N (by omega)
      rw [cP_add (r := pF e (N + 1)) (p := pF e N) (q := fun j => j = i) N (fun j hj => ?_) (fun j hj => ?_), cP_one (p := fun j => j = i) (i := i) N a rfl (fun j _ h => h), if_pos h1]
      · rw [pF_s]
        constructor
        · intro q; rcases q with q | ⟨q1, q2, q3⟩
          · exact Or.inl q
          · exact Or.inr (occ_uniq q1 (by rw [b]; exact c) (by rw [b]; exact q2.symm))
        · intro q; rcases q with q | q
          · exact Or.inl q
          · refine Or.inr ?_
            rw [q, b]; exact ⟨c, rfl, by omega⟩
      · intro ⟨⟨q1, q2⟩, q3⟩
        rw [q3, b] at q2
        omega
    · rw [if_neg h1, Nat.add_zero]
      have : cP (pF e (N + 1)) N = cP (pF e N) N + cP (fun _ => False) N := cP_add N (fun j hj => by
        rw [pF_s]
        constructor
        · intro q; rcases q with q | ⟨q1, q2, q3⟩
          · exact Or.inl q
          · refine Or.inl ⟨q1, ?_⟩
            rw [q2] at h1; omega
        · intro q; rcases q with q | q
          · exact Or.inl q
          · exact q.elim) (fun j hj q => q.2)
      rw [this, cP_no N (fun _ _ q => q), Nat.add_zero]
def isF (e : Nat → ENT) (N i : Nat) (x : Int) : Prop := (x = -2 ∧ ∀ j, j < i → ¬ pF e N j) ∨ ∃ j, j < i ∧ pF e N j ∧ (∀ k, k < j → ¬ pF e N k) ∧ x = ((e j).2 : Int)
theorem isF_uniq {e : Nat → ENT} {N i : Nat} {x y : Int} (h1 : isF e N i x) (h2 : isF e N i y) : x = y := by
  rcases h1 with ⟨a, b⟩ | ⟨j, a, b, c, f⟩
  · rcases h2 with ⟨a', b'⟩ | ⟨j', a', b', c', f'⟩
    · rw [a, a']
    · exact absurd b' (b j' a')
  · rcases h2 with ⟨a', b'⟩ | ⟨j', a', b', c', f'⟩
    · exact absurd b (b' j a)
    · have : j = j' := by
        rcases Nat.lt_trichotomy j j' with q | q | q
        · exact absurd b (c' j q)
        · exact q
        · exact absurd b' (c j' q)
      rw [f, f', this]
theorem mdF_lst {e : Nat → ENT} {M : Nat} (hm : ∀ i j, i < j → j < M → (e i).2 < (e j).2) : ∀ N, N ≤ M → isF e N N (mdF (lst e N))
  | 0, _ => Or.inl ⟨rfl, fun j hj => absurd hj (by omega)⟩
  | N + 1, hN => by
    have ih := mdF_lst hm N (by omega)
    show isF e (N + 1) (N + 1) (if occ (e N).1 (lst e N) = 1 then (if mdF (lst e N) = -2 ∨ (fco (e N).1 (lst e N) : Int) < mdF (lst e N) then (fco (e N).1 (lst e N) : Int) else mdF (lst e N)) else mdF (lst e N))
    by_cases h1 : occ (e N).1 (lst e N) = 1
    · rw [if_pos h1]
      obtain ⟨i, a, b, c, f⟩ := occ_fst (e := e) (w := (e N).1) N (by omega)
      rw [← f]
      have key : ∀ j, j < N → (pF e (N + 1) j ↔ pF e N j ∨ j = i) := fun j hj => by
        rw [pF_s]
        constructor
        · intro q; rcases q with q | ⟨q1, q2, q3⟩
          · exact Or.inl q
          · exact Or.inr (occ_uniq q1 (by rw [b]; exact c) (by rw [b]; exact q2.symm))
        · intro q; rcases q with q | q
          · exact Or.inl q
          · refine Or.inr ?_
            rw [q, b]; exact ⟨c, rfl, by omega⟩
      rcases ih with ⟨x1, x2⟩ | ⟨j, y1, y2, y3, y4⟩
      · rw [if_pos (Or.inl x1)]
        refine Or.inr ⟨i, by omega, (key i a).mpr (Or.inr rfl), fun k hk q => ?_, rfl⟩
        rcases (key k (by omega)).mp q with q | q
        · exact x2 k (by omega) q
        · omega
      · have hji : j ≠ i := fun q => by
          have := y2.2
          rw [q, b] at this; omega
        rw [y4]
        by_cases hlt : i < j
        · have := hm i j hlt (by omega)
          rw [if_pos (Or.inr (by omega))]
          refine Or.inr ⟨i, by omega, (key i a).mpr (Or.inr rfl), fun k hk q => ?_, rfl⟩
          rcases (key k (by omega)).mp q with q | q
          · exact y3 k (by omega) q
          · omega
        · have := hm j i (by omega) (by omega)
          rw [if_neg (by omega)]
          refine Or.inr ⟨j, by omega, (key j y1).mpr (Or.inl y2), fun k hk q => ?_, rfl⟩
          rcases (key k (by omega)).mp q with q | q
          · exact y3 k hk q
          · omega
    · rw [if_neg h1]
      have key : ∀ j, j < N → (pF e (N + 1) j ↔ pF e N j) := fun j hj => by
        rw [pF_s]
        constructor
        · intro q; rcases q with q | ⟨q1, q2, q3⟩
          · exact q
          · refine ⟨q1, ?_⟩
            rw [q2] at h1; omega
        · intro q; exact Or.inl q
      rcases ih with ⟨x1, x2⟩ | ⟨j, y1, y2, y3, y4⟩
      · refine Or.inl ⟨x1, fun j hj q => ?_⟩
        by_cases hj2 : j = N
        · rw [hj2] at q; exact pF_last q
        · exact x2 j (by omega) ((key j (by omega)).mp q)
      · exact Or.inr ⟨j, by omega, (key j y1).mpr y2, fun k hk q => y3 k hk ((key k (by omega)).mp q), y4⟩
