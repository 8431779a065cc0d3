/-! What can be made: by itself. Entries are (name, code), the latest first. -/
abbrev ENT : Type := List Nat × Nat
def occ (w : List Nat) : List ENT → Nat
  | [] => 0
  | e :: R => occ w R + (if e.1 = w then 1 else 0)
def fco (w : List Nat) : List ENT → Nat
  | [] => 0
  | e :: R => if occ w R = 0 then (if e.1 = w then e.2 else 0) else fco w R
def mdU : List ENT → Nat
  | [] => 0
  | e :: R => mdU R + (if occ e.1 R = 0 then 1 else 0)
def mdT : List ENT → Nat
  | [] => 0
  | e :: R => mdT R + (if occ e.1 R = 1 then 1 else 0)
def mdF : List ENT → Int
  | [] => -2
  | e :: R => if occ e.1 R = 1 then (if mdF R = -2 ∨ (fco e.1 R : Int) < mdF R then (fco e.1 R : Int) else mdF R) else mdF R
theorem mdU_le : ∀ R : List ENT, mdU R ≤ R.length
  | [] => Nat.le_refl _
  | e :: R => by
    have := mdU_le R
    unfold mdU
    rw [List.length_cons]
    split <;> omega
theorem mdT_le : ∀ R : List ENT, mdT R ≤ R.length
  | [] => Nat.le_refl _
  | e :: R => by
    have := mdT_le R
    unfold mdT
    rw [List.length_cons]
    split <;> omega
theorem occ_mem {w : List Nat} : ∀ {R : List ENT}, occ w R ≠ 0 → ∃ e ∈ R, e.1 = w
  | [], h => absurd rfl h
  | e :: R, h => by
    unfold occ at h
    by_cases he : e.1 = w
    · exact ⟨e, List.mem_cons_self, he⟩
    · rw [if_neg he, Nat.add_zero] at h
      obtain ⟨e', h1, h2⟩ := occ_mem h
      exact ⟨e', List.mem_cons_of_mem _ h1, h2⟩
theorem occ_pos {w : List Nat} : ∀ {R : List ENT} {e : ENT}, e ∈ R → e.1 = w → occ w R ≠ 0
  | [], _, h, _ => by cases h
  | a :: R, e, h, hw => by
    unfold occ
    rcases List.mem_cons.mp h with rfl | h
    · rw [if_pos hw]; omega
    · have := occ_pos h hw; omega
theorem fco_mem {w : List Nat} : ∀ {R : List ENT}, occ w R ≠ 0 → ∃ e ∈ R, e.1 = w ∧ e.2 = fco w R
  | [], h => absurd rfl h
  | e :: R, h => by
    unfold fco
    by_cases h0 : occ w R = 0
    · rw [if_pos h0]
      unfold occ at h
      rw [h0, Nat.zero_add] at h
      by_cases he : e.1 = w
      · rw [if_pos he]; exact ⟨e, List.mem_cons_self, he, rfl⟩
      · rw [if_neg he] at h; exact absurd rfl h
    · rw [if_neg h0]
      obtain ⟨e', a, b, c⟩ := fco_mem h0
      exact ⟨e', List.mem_cons_of_mem _ a, b, c⟩
/-! The hash table: T what stands in a slot ([]: nothing), G the way of its first, negative by the second. -/
def pos (h k : Nat) : Nat := (h + k) % 4096
def gvl (w : List Nat) (R : List ENT) : Int := if occ w R = 1 then (fco w R : Int) else -(fco w R : Int)
def TbI (hs : List Nat → Nat) (R : List ENT) (T : Nat → List Nat) (G : Nat → Int) : Prop :=
  (∀ a, a < 4096 → T a ≠ [] → occ (T a) R ≠ 0 ∧ G a = gvl (T a) R) ∧
  (∀ w, occ w R ≠ 0 → ∃ k, k < 4096 ∧ T (pos (hs w) k) = w ∧ ∀ j, j < k → T (pos (hs w) j) ≠ []) ∧
  (∀ a b, a < 4096 → b < 4096 → T a ≠ [] → T a = T b → a = b)
theorem tb_room {hs : List Nat → Nat} {R : List ENT} {T : Nat → List Nat} {G : Nat → Int} (h : TbI hs R T G) (hl : R.length < 4095) : ∃ a, a < 4096 ∧ T a = [] := by
  by_cases he : ∃ a, a < 4096 ∧ T a = []
  · exact he
  · exfalso
    have hn : ∀ a, a < 4096 → T a ≠ [] := fun a ha e => he ⟨a, ha, e⟩
    obtain ⟨j, k, h1, h2, h3⟩ := card_lt (f := fun a => (R.map Prod.fst).idxOf (T a)) 4095 (fun a ha => by
      have hm := (h.1 a (by omega) (hn a (by omega))).1
      obtain ⟨e, he, ee⟩ := occ_mem hm
      have : (R.map Prod.fst).idxOf (T a) < (R.map Prod.fst).length := List.idxOf_lt_length_of_mem (List.mem_map.mpr ⟨e, he, ee⟩)
      rw [List.length_map] at this
      show (R.map Prod.fst).idxOf (T a) < 4095
      omega)
    have mj := (h.1 j (by omega) (hn j (by omega))).1
    have mk := (h.1 k (by omega) (hn k (by omega))).1
    obtain ⟨ej, hej, eej⟩ := occ_mem mj
    obtain ⟨ek, hek, eek⟩ := occ_mem mk
    have lj : (R.map Prod.fst).idxOf (T j) < (R.map Prod.fst).length := List.idxOf_lt_length_of_mem (List.mem_map.mpr ⟨ej, hej, eej⟩)
    have lk : (R.map Prod.fst).idxOf (T k) < (R.map Prod.fst).length := List.idxOf_lt_length_of_mem (List.mem_map.mpr ⟨ek, hek, eek⟩)
    have gj := List.getElem_idxOf lj
    have gk := List.getElem_idxOf lk
    have h3' : (R.map Prod.fst).idxOf (T j) = (R.map Prod.fst).idxOf (T k) := h3
    have : T j = T k := by
      rw [← gj, ← gk]
      congr 1
    have := h.2.2 j k (by omega) (by omega) (hn j (by omega)) this
    omega
theorem tb_probe {hs : List Nat → Nat} {R : List ENT} {T : Nat → List Nat} {G : Nat → Int} (h : TbI hs R T G) (hl : R.length < 4095) (w : List Nat) (hh : hs w < 4096) : ∃ K, K < 4096 ∧ (T (pos (hs w) K) = [] ∨ T (pos (hs w) K) = w) ∧ ∀ j, j < K → T (pos (hs w) j) ≠ [] ∧ T (pos (hs w) j) ≠ w := by
  obtain ⟨a, ha, e⟩ := tb_room h hl
  -- the least
  have key : ∀ n, n ≤ 4096 → (∃ K, K < n ∧ (T (pos (hs w) K) = [] ∨ T (pos (hs w) K) = w) ∧ ∀ j, j < K → T (pos (hs w) j) ≠ [] ∧ T (pos (hs w) j) ≠ w) ∨ (∀ j, j < n → T (pos (hs w) j) ≠ [] ∧ T (pos (hs w) j) ≠ w) := by
    intro n
    induction n with
    | zero => intro _; right; intro j hj; omega
    | succ n ih =>
      intro hn
      rcases ih (by omega) with ⟨K, a, b, c⟩ | hall
      · left; exact ⟨K, by omega, b, c⟩
      · by_cases h1 : T (pos (hs w) n) = []
        · left; exact ⟨n, by omega, Or.inl h1, hall⟩
        · by_cases h2 : T (pos (hs w) n) = w
          · left; exact ⟨n, by omega, Or.inr h2, hall⟩
          · right
            intro j hj
            by_cases hjn : j = n
            · rw [hjn]; exact ⟨h1, h2⟩
            · exact hall j (by omega)
  rcases key 4096 (Nat.le_refl _) with ⟨K, a, b, c⟩ | hall
  · exact ⟨K, a, b, c⟩
  · exfalso
    have hp : pos (hs w) ((a + 4096 - hs w) % 4096) = a := by
      unfold pos
      omega
    have := (hall ((a + 4096 - hs w) % 4096) (Nat.mod_lt _ (by decide))).1
    rw [hp] at this
    exact this e
theorem pos_lt (h k : Nat) : pos h k < 4096 := Nat.mod_lt _ (by decide)
/-- a word that is there already -/
theorem tb_old {hs : List Nat → Nat} {R : List ENT} {T : Nat → List Nat} {G : Nat → Int} (h : TbI hs R T G) {w : List Nat} (hw : w ≠ []) {K : Nat} (hT : T (pos (hs w) K) = w) {c : Nat} (hc : 1 ≤ c) (hpos : ∀ e ∈ R, 1 ≤ e.2) : TbI hs ((w, c) :: R) T (fun a => if a = pos (hs w) K then (if occ w R = 1 then -(G a) else G a) else G a) := by
  have hne : T (pos (hs w) K) ≠ [] := by rw [hT]; exact hw
  have hoc := (h.1 _ (pos_lt _ _) hne).1
  rw [hT] at hoc
  have ho : ∀ u, occ u ((w, c) :: R) = occ u R + (if w = u then 1 else 0) := fun u => rfl
  have hf : ∀ u, occ u R ≠ 0 → fco u ((w, c) :: R) = fco u R := fun u hu => by
    show (if occ u R = 0 then _ else fco u R) = _
    rw [if_neg hu]
  refine ⟨fun a ha hTa => ?_, fun u hu => ?_, h.2.2⟩
  · obtain ⟨g1, g2⟩ := h.1 a ha hTa
    refine ⟨by rw [ho]; omega, ?_⟩
    show (if a = pos (hs w) K then (if occ w R = 1 then -(G a) else G a) else G a) = _
    unfold gvl at g2 ⊢
    rw [hf _ g1, ho]
    by_cases haw : a = pos (hs w) K
    · subst haw
      rw [if_pos rfl, hT, if_pos rfl]
      rw [hT] at g2
      by_cases h1 : occ w R = 1
      · rw [if_pos h1] at g2 ⊢
        rw [if_neg (by omega), g2]
      · rw [if_neg h1] at g2 ⊢
        rw [if_neg (by omega), g2]
    · rw [if_neg haw]
      have : ¬ w = T a := fun e => haw (h.2.2 a (pos (hs w) K) ha (pos_lt _ _) hTa (by rw [hT]; exact e.symm))
      rw [if_neg this, Nat.add_zero]
      exact g2
  · rw [ho] at hu
    by_cases hwu : w = u
    · rw [← hwu]; exact h.2.1 w hoc
    · rw [if_neg hwu, Nat.add_zero] at hu
      exact h.2.1 u hu
/-- a new word -/
theorem tb_new {hs : List Nat → Nat} {R : List ENT} {T : Nat → List Nat} {G : Nat → Int} (h : TbI hs R T G) {w : List Nat} (hw : w ≠ []) (ho0 : occ w R = 0) {K : Nat} (hK : K < 4096) (hT : T (pos (hs w) K) = []) (hj : ∀ j, j < K → T (pos (hs w) j) ≠ []) (hne0 : ∀ e ∈ R, e.1 ≠ []) {c : Nat} : TbI hs ((w, c) :: R) (fun a => if a = pos (hs w) K then w else T a) (fun a => if a = pos (hs w) K then (c : Int) else G a) := by
  have ho : ∀ u, occ u ((w, c) :: R) = occ u R + (if w = u then 1 else 0) := fun u => rfl
  have hf : ∀ u, occ u R ≠ 0 → fco u ((w, c) :: R) = fco u R := fun u hu => by
    show (if occ u R = 0 then _ else fco u R) = _
    rw [if_neg hu]
  have hfw : fco w ((w, c) :: R) = c := by
    show (if occ w R = 0 then (if w = w then c else 0) else _) = c
    rw [if_pos ho0, if_pos rfl]
  have old : ∀ a, a < 4096 → T a ≠ [] → a ≠ pos (hs w) K ∧ T a ≠ w := fun a ha hTa => ⟨fun e => hTa (by rw [e]; exact hT), fun e => (h.1 a ha hTa).1 (by rw [e]; exact ho0)⟩
  refine ⟨fun a ha hTa => ?_, fun u hu => ?_, fun a b ha hb hTa he => ?_⟩
  · by_cases haw : a = pos (hs w) K
    · have hq : (if a = pos (hs w) K then w else T a) = w := if_pos haw
      have hg : (if a = pos (hs w) K then (c : Int) else G a) = (c : Int) := if_pos haw
      dsimp only
      rw [hg, hq]
      have h1 : occ w ((w, c) :: R) = 1 := by rw [ho, if_pos rfl, ho0]
      unfold gvl
      rw [h1, hfw, if_pos rfl]
      exact ⟨by omega, rfl⟩
    · have hq : (if a = pos (hs w) K then w else T a) = T a := if_neg haw
      have hg : (if a = pos (hs w) K then (c : Int) else G a) = G a := if_neg haw
      dsimp only at hTa ⊢
      rw [hq] at hTa
      rw [hg, hq]
      obtain ⟨g1, g2⟩ := h.1 a ha hTa
      have hne := (old a ha hTa).2
      have h1 : occ (T a) ((w, c) :: R) = occ (T a) R := by rw [ho, if_neg (Ne.symm hne), Nat.add_zero]
      unfold gvl at g2 ⊢
      rw [h1, hf _ g1]
      exact ⟨g1, g2⟩
  · rw [ho] at hu
    by_cases hwu : w = u
    · subst hwu
      refine ⟨K, hK, if_pos rfl, fun j hjK => ?_⟩
      show (if pos (hs w) j = pos (hs w) K then w else T (pos (hs w) j)) ≠ []
      split
      · exact hw
      · exact hj j hjK
    · rw [if_neg hwu, Nat.add_zero] at hu
      obtain ⟨k, hk, e, hjk⟩ := h.2.1 u hu
      have hu0 : u ≠ [] := by
        obtain ⟨e', m', ee⟩ := occ_mem hu
        rw [← ee]
        exact hne0 e' m'
      have hune : T (pos (hs u) k) ≠ [] := by rw [e]; exact hu0
      refine ⟨k, hk, ?_, fun j hjj => ?_⟩
      · show (if pos (hs u) k = pos (hs w) K then w else T (pos (hs u) k)) = u
        rw [if_neg (old _ (pos_lt _ _) hune).1]; exact e
      · show (if pos (hs u) j = pos (hs w) K then w else T (pos (hs u) j)) ≠ []
        split
        · exact hw
        · exact hjk j hjj
  · dsimp only at hTa he
    by_cases haw : a = pos (hs w) K
    · rw [if_pos haw] at he
      by_cases hbw : b = pos (hs w) K
      · omega
      · rw [if_neg hbw] at he
        have hTb : T b ≠ [] := by rw [← he]; exact hw
        exact absurd he.symm (old b hb hTb).2
    · rw [if_neg haw] at hTa he
      by_cases hbw : b = pos (hs w) K
      · rw [if_pos hbw] at he
        exact absurd he (old a ha hTa).2
      · rw [if_neg hbw] at he
        exact h.2.2 a b ha hb hTa he
