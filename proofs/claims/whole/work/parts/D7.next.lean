/-! Orders: nextOrder of the reference (283). -/
theorem np_pre {t t' : List Nat} (h : np t = some t') : ∀ p : List Nat, np (p ++ t) = some (p ++ t')
  | [] => h
  | a :: p => by
    show (match np (p ++ t) with
      | some t'' => some (a :: t'')
      | none => match rp a (p ++ t) with
        | some (b, t'') => some (b :: t''.reverse)
        | none => none) = some (a :: (p ++ t'))
    rw [np_pre h p]
theorem rp_at {a x : Nat} (hx : a < x) {t2 : List Nat} (h2 : ∀ y ∈ t2, y ≤ a) : ∀ t1 : List Nat, rp a (t1 ++ x :: t2) = some (x, t1 ++ a :: t2)
  | [] => by
    show (match rp a t2 with
      | some (b, t') => some (b, x :: t')
      | none => if a < x then some (x, a :: t2) else none) = some (x, a :: t2)
    rw [rp_none.mpr h2]
    exact if_pos hx
  | y :: t1 => by
    show (match rp a (t1 ++ x :: t2) with
      | some (b, t') => some (b, y :: t')
      | none => if a < y then some (y, a :: (t1 ++ x :: t2)) else none) = some (x, y :: (t1 ++ a :: t2))
    rw [rp_at hx h2 t1]
theorem np_at {a x : Nat} (hx : a < x) {t1 t2 : List Nat} (h2 : ∀ y ∈ t2, y ≤ a) (hn : np (t1 ++ x :: t2) = none) (p : List Nat) : np (p ++ a :: (t1 ++ x :: t2)) = some (p ++ x :: (t1 ++ a :: t2).reverse) := by
  apply np_pre
  show (match np (t1 ++ x :: t2) with
      | some t'' => some (a :: t'')
      | none => match rp a (t1 ++ x :: t2) with
        | some (b, t'') => some (b :: t''.reverse)
        | none => none) = _
  rw [hn, rp_at hx h2 t1]
theorem np_go {a y : Nat} {t : List Nat} (hn : np (y :: t) = none) (hy : y ≤ a) : np (a :: y :: t) = none := by
  have hp := np_none hn
  have hr : rp a (y :: t) = none := rp_none.mpr (fun z hz => by
    rcases List.mem_cons.mp hz with rfl | hz
    · exact hy
    · exact Nat.le_trans ((List.pairwise_cons.mp hp).1 z hz) hy)
  show (match np (y :: t) with
      | some t'' => some (a :: t'')
      | none => match rp a (y :: t) with
        | some (b, t'') => some (b :: t''.reverse)
        | none => none) = none
  rw [hn, hr]
def PmA (f : Nat → Int) (i : Nat) : List Nat → Prop
  | [] => True
  | a :: r => f i = (a : Int) ∧ PmA f (i + 1) r
theorem PmA_app {f : Nat → Int} : ∀ {l r : List Nat} {i : Nat}, PmA f i (l ++ r) ↔ PmA f i l ∧ PmA f (i + l.length) r
  | [], r, i => by
    show PmA f i r ↔ True ∧ PmA f (i + 0) r
    rw [Nat.add_zero]
    exact ⟨fun h => ⟨True.intro, h⟩, fun h => h.2⟩
  | a :: l, r, i => by
    show f i = (a : Int) ∧ PmA f (i + 1) (l ++ r) ↔ (f i = (a : Int) ∧ PmA f (i + 1) l) ∧ PmA f (i + (l.length + 1)) r
    rw [PmA_app, show i + (l.length + 1) = i + 1 + l.length by omega]
    exact ⟨fun h => ⟨⟨h.1, h.2.1⟩, h.2.2⟩, fun h => ⟨h.1.1, h.1.2, h.2⟩⟩
theorem PmA_congr {f g : Nat → Int} : ∀ {l : List Nat} {i : Nat}, (∀ k, i ≤ k → k < i + l.length → g k = f k) → PmA f i l → PmA g i l
  | [], _, _, _ => True.intro
  | a :: l, i, h, hp => ⟨(h i (Nat.le_refl _) (by rw [List.length_cons]; omega)).trans hp.1, PmA_congr (fun k h1 h2 => h k (by omega) (by rw [List.length_cons]; omega)) hp.2⟩
theorem PmA_get {f : Nat → Int} : ∀ {l : List Nat} {i k : Nat}, PmA f i l → k < l.length → f (i + k) = ((l.getD k 0 : Nat) : Int)
  | [], _, _, _, h => absurd h (by simp)
  | a :: l, i, 0, hp, _ => by
    show f i = (a : Int)
    exact hp.1
  | a :: l, i, k + 1, hp, h => by
    have := PmA_get (k := k) hp.2 (by rw [List.length_cons] at h; omega)
    rw [show i + (k + 1) = i + 1 + k by omega, this]
    rfl
theorem PmA_of {f : Nat → Int} : ∀ {l : List Nat} {i : Nat}, (∀ k, k < l.length → f (i + k) = ((l.getD k 0 : Nat) : Int)) → PmA f i l
  | [], _, _ => True.intro
  | a :: l, i, h => ⟨h 0 (by simp), PmA_of (fun k hk => by
      have := h (k + 1) (by rw [List.length_cons]; omega)
      rw [show i + 1 + k = i + (k + 1) by omega, this]
      rfl)⟩
theorem PmA_rev {f F : Nat → Int} {l : List Nat} {i : Nat} (hp : PmA f i l) (h : ∀ k, k < l.length → F (i + k) = f (i + (l.length - 1 - k))) : PmA F i l.reverse := by
  refine PmA_of (fun k hk => ?_)
  rw [List.length_reverse] at hk
  rw [h k hk, PmA_get hp (by omega), List.getD_eq_getElem?_getD, List.getD_eq_getElem?_getD, List.getElem?_reverse hk]
theorem spl {l : List Nat} {i : Nat} (h : i < l.length) : l = l.take i ++ l.getD i 0 :: l.drop (i + 1) := by
  have h1 : l.drop i = l.getD i 0 :: l.drop (i + 1) := by
    rw [List.drop_eq_getElem_cons h, List.getD_eq_getElem?_getD, List.getElem?_eq_getElem h]
    rfl
  rw [← h1, List.take_append_drop]
theorem drp {l : List Nat} {i : Nat} (h : i < l.length) : l.drop i = l.getD i 0 :: l.drop (i + 1) := by
  rw [List.drop_eq_getElem_cons h, List.getD_eq_getElem?_getD, List.getElem?_eq_getElem h]
  rfl
theorem nd_lt {l : List Nat} (hn : l.Nodup) {i j : Nat} (h : i < j) (hj : j < l.length) (hle : l.getD i 0 ≤ l.getD j 0) : l.getD i 0 < l.getD j 0 := by
  have e1 : l.getD i 0 = l[i] := by rw [List.getD_eq_getElem?_getD, List.getElem?_eq_getElem (show i < l.length by omega)]; rfl
  have e2 : l.getD j 0 = l[j] := by rw [List.getD_eq_getElem?_getD, List.getElem?_eq_getElem hj]; rfl
  have := List.pairwise_iff_getElem.mp hn i j (by omega) hj h
  rw [e1, e2] at hle ⊢
  omega
/-- the place where the order may still grow -/
theorem nx_i (xs : List Int) (d : Nat) {κ : aK} {D : Nat → Nat → Int} (hκ : Shp κ) (hp : PtrR D) {l : List Nat} (hl7 : l.length ≤ 7) (hnd : l.Nodup) (h74 : D 256 74 = (l.length : Int)) {f : Nat → Int} (hf : PmA f 0 l) : ∀ (k : Nat), k < l.length → np (l.drop k) = none → (np l = none ∧ ev xs d mm_283 7 [some (.inr (.inr 256)), some (.inl ((k : Int) - 1)), none, none, none, none] [] (κ, setc D 307 f) = some (some (.inl 0), (κ, setc D 307 f))) ∨ ∃ i : Nat, i + 1 < l.length ∧ l.getD i 0 < l.getD (i + 1) 0 ∧ np (l.drop (i + 1)) = none ∧ ev xs d mm_283 7 [some (.inr (.inr 256)), some (.inl ((k : Int) - 1)), none, none, none, none] [] (κ, setc D 307 f) = ev xs d mm_283 47 [some (.inr (.inr 256)), some (.inl (i : Int)), some (.inl ((l.length - 1 : Nat) : Int)), none, none, none] [] (κ, setc D 307 f) := by
  have k256 := k_256 hκ
  intro k
  induction k with
  | zero =>
    intro hk hn
    refine Or.inl ⟨hn, ?_⟩
    rw [q_283_7]
    simp (disch := omega) only [cond_true, cond_false, Bool.and_true, Bool.true_and, Bool.and_false, Bool.false_and, Int.toNat_natCast, Int.reduceToNat, bI_s, bJ_s, bV_s, bR_s, decide_true, decide_false, not_true_eq_false, not_false_eq_true, dT, dF, w_al, w_la, w_ab, w_sl, w_sb, w_dec, w_ml, w_lm, ol2i_n, aup_ne, aupE, aupJ, setc_self, setc_ne]
  | succ k ih =>
    intro hk hn
    have e0 : (((k + 1 : Nat) : Int) - 1) = (k : Int) := by omega
    rw [e0]
    have a1 := PmA_get hf (k := k) (by omega)
    have a2 := PmA_get hf (k := k + 1) (by omega)
    rw [Nat.zero_add] at a1 a2
    have p75 := pr_75 hp
    have s74 : setc D 307 f 256 74 = (l.length : Int) := by rw [setc_ne (by decide)]; exact h74
    have ew : w32 ((l.length : Int) - 1) = ((l.length - 1 : Nat) : Int) := by rw [w32_id (by omega) (by omega)]; omega
    by_cases hle : l.getD k 0 ≤ l.getD (k + 1) 0
    · refine Or.inr ⟨k, by omega, nd_lt hnd (by omega) (by omega) hle, hn, ?_⟩
      rw [q_283_7]
      simp (disch := omega) only [cond_true, cond_false, Bool.and_true, Bool.true_and, Bool.and_false, Bool.false_and, Int.toNat_natCast, Int.reduceToNat, bI_s, bJ_s, bV_s, bR_s, decide_true, decide_false, not_true_eq_false, not_false_eq_true, dT, dF, w_al, w_la, w_ab, w_sl, w_sb, w_dec, w_ml, w_lm, ol2i_n, aup_ne, aupE, aupJ, setc_self, setc_ne, k256, p75, h74, n_307 hκ, a1, a2, ew]
    · have hn2 : np (l.drop k) = none := by
        rw [drp (show k < l.length by omega)]
        rw [drp (show k + 1 < l.length by omega)] at hn ⊢
        exact np_go hn (by omega)
      have ed : w32 ((k : Int) + (-1)) = (k : Int) - 1 := by rw [w32_id (by omega) (by omega)]; omega
      have st : ev xs d mm_283 7 [some (.inr (.inr 256)), some (.inl (k : Int)), none, none, none, none] [] (κ, setc D 307 f) = ev xs d mm_283 7 [some (.inr (.inr 256)), some (.inl ((k : Int) - 1)), none, none, none, none] [] (κ, setc D 307 f) := by
        rw [q_283_7]
        simp (disch := omega) only [cond_true, cond_false, Bool.and_true, Int.toNat_natCast, Int.reduceToNat, dT, dF, w_al, setc_self, setc_ne, k256, p75, n_307 hκ, a1, a2, ed]
      rw [st]
      exact ih (by omega) hn2
def sw2 (f : Nat → Int) (i j : Nat) : Nat → Int := fun k => if k = j then f i else if k = i then f j else f k
theorem nx_j (xs : List Int) (d : Nat) {κ : aK} {D : Nat → Nat → Int} (hκ : Shp κ) (hp : PtrR D) {l : List Nat} (hl7 : l.length ≤ 7) (hnd : l.Nodup) (h74 : D 256 74 = (l.length : Int)) {f : Nat → Int} (hf : PmA f 0 l) {i : Nat} (hi : i + 1 < l.length) (hlt : l.getD i 0 < l.getD (i + 1) 0) : ∀ (m : Nat), i + 1 + m < l.length → (∀ y ∈ l.drop (i + 1 + m + 1), y ≤ l.getD i 0) → ∃ j, i < j ∧ j < l.length ∧ l.getD i 0 < l.getD j 0 ∧ (∀ y ∈ l.drop (j + 1), y ≤ l.getD i 0) ∧ ev xs d mm_283 47 [some (.inr (.inr 256)), some (.inl (i : Int)), some (.inl ((i + 1 + m : Nat) : Int)), none, none, none] [] (κ, setc D 307 f) = ev xs d mm_283 107 [some (.inr (.inr 256)), some (.inl (i : Int)), some (.inl (j : Int)), some (.inl ((l.getD i 0 : Nat) : Int)), some (.inl ((i + 1 : Nat) : Int)), some (.inl ((l.length - 1 : Nat) : Int))] [] (κ, setc D 307 (sw2 f i j)) := by
  have k256 := k_256 hκ
  have p75 := pr_75 hp
  have a1 := PmA_get hf (k := i) (by omega)
  rw [Nat.zero_add] at a1
  have ew : w32 ((l.length : Int) - 1) = ((l.length - 1 : Nat) : Int) := by rw [w32_id (by omega) (by omega)]; omega
  have stop : ∀ j, i < j → j < l.length → l.getD i 0 ≤ l.getD j 0 → ev xs d mm_283 47 [some (.inr (.inr 256)), some (.inl (i : Int)), some (.inl (j : Int)), none, none, none] [] (κ, setc D 307 f) = ev xs d mm_283 107 [some (.inr (.inr 256)), some (.inl (i : Int)), some (.inl (j : Int)), some (.inl ((l.getD i 0 : Nat) : Int)), some (.inl ((i + 1 : Nat) : Int)), some (.inl ((l.length - 1 : Nat) : Int))] [] (κ, setc D 307 (sw2 f i j)) := by
    intro j h1 h2 h3
    have a2 := PmA_get hf (k := j) (by omega)
    rw [Nat.zero_add] at a2
    have es : (fun k => if k = j then ((l.getD i 0 : Nat) : Int) else if k = i then ((l.getD j 0 : Nat) : Int) else f k) = sw2 f i j := by
      funext k
      unfold sw2
      rw [a1, a2]
    rw [q_283_47, ← es]
    simp (disch := omega) only [cond_true, cond_false, Bool.and_true, Int.toNat_natCast, Int.reduceToNat, dT, dF, w_al, setc_self, setc_ne, aup_setc, k256, p75, h74, n_307 hκ, a1, a2, ew]
  intro m
  induction m with
  | zero =>
    intro hm hy
    refine ⟨i + 1, by omega, hm, hlt, hy, ?_⟩
    exact stop (i + 1) (by omega) hm (by omega)
  | succ m ih =>
    intro hm hy
    by_cases hle : l.getD i 0 ≤ l.getD (i + 1 + (m + 1)) 0
    · exact ⟨i + 1 + (m + 1), by omega, hm, nd_lt hnd (by omega) hm hle, hy, stop _ (by omega) hm hle⟩
    · have a2 := PmA_get hf (k := i + 1 + (m + 1)) hm
      rw [Nat.zero_add] at a2
      obtain ⟨j, r1, r2, r3, r4, r5⟩ := ih (by omega) (fun y hy2 => by
        rw [drp (show i + 1 + m + 1 < l.length by omega)] at hy2
        rcases List.mem_cons.mp hy2 with rfl | h
        · rw [show i + 1 + m + 1 = i + 1 + (m + 1) by omega]; omega
        · exact hy y h)
      refine ⟨j, r1, r2, r3, r4, ?_⟩
      have ed : w32 (((i + 1 + (m + 1) : Nat) : Int) + (-1)) = ((i + 1 + m : Nat) : Int) := by rw [w32_id (by omega) (by omega)]; omega
      rw [← r5, q_283_47]
      simp (disch := omega) only [cond_true, cond_false, Bool.and_true, Int.toNat_natCast, Int.reduceToNat, dT, dF, setc_self, setc_ne, k256, p75, n_307 hκ, a1, a2, ed]
/-- a piece turned round -/
def rvF (f : Nat → Int) (n i a b : Nat) : Nat → Int := fun x => if (i < x ∧ x < a) ∨ (b < x ∧ x < n) then f (i + n - x) else f x
theorem nx_r (xs : List Int) (d : Nat) {κ : aK} {D : Nat → Nat → Int} (hκ : Shp κ) (hp : PtrR D) {n : Nat} (hn : n ≤ 7) {f : Nat → Int} {i : Nat} (hi : i + 1 < n) (v2 : Int) : ∀ (m a b : Nat) (v3 : Int), b ≤ a + m → i < a → a + b = i + n → a ≤ b + 1 → ∃ f', (∀ x, i < x → x < n → f' x = f (i + n - x)) ∧ (∀ x, x ≤ i → f' x = f x) ∧ ev xs d mm_283 107 [some (.inr (.inr 256)), some (.inl (i : Int)), some (.inl v2), some (.inl v3), some (.inl (a : Int)), some (.inl (b : Int))] [] (κ, setc D 307 (rvF f n i a b)) = some (some (.inl 1), (κ, setc D 307 f')) := by
  have k256 := k_256 hκ
  have p75 := pr_75 hp
  intro m
  induction m with
  | zero =>
    intro a b v3 h1 h2 h3 h4
    refine ⟨rvF f n i a b, fun x y1 y2 => ?_, fun x y => ?_, ?_⟩
    · unfold rvF
      by_cases h : (i < x ∧ x < a) ∨ (b < x ∧ x < n)
      · rw [if_pos h]
      · rw [if_neg h, show i + n - x = x by omega]
    · unfold rvF
      rw [if_neg (by omega)]
    · rw [q_283_107]
      simp (disch := omega) only [cond_true, cond_false, Bool.and_true, Bool.true_and, Bool.and_false, Bool.false_and, Int.toNat_natCast, Int.reduceToNat, bI_s, bJ_s, bV_s, bR_s, decide_true, decide_false, not_true_eq_false, not_false_eq_true, dT, dF, w_al, w_la, w_ab, w_sl, w_sb, w_dec, w_ml, w_lm, ol2i_n, aup_ne, aupE, aupJ, setc_self, setc_ne]
  | succ m ih =>
    intro a b v3 h1 h2 h3 h4
    by_cases hab : b ≤ a
    · refine ⟨rvF f n i a b, fun x y1 y2 => ?_, fun x y => ?_, ?_⟩
      · unfold rvF
        by_cases h : (i < x ∧ x < a) ∨ (b < x ∧ x < n)
        · rw [if_pos h]
        · rw [if_neg h, show i + n - x = x by omega]
      · unfold rvF
        rw [if_neg (by omega)]
      · rw [q_283_107]
        simp (disch := omega) only [cond_true, cond_false, Bool.and_true, Bool.true_and, Bool.and_false, Bool.false_and, Int.toNat_natCast, Int.reduceToNat, bI_s, bJ_s, bV_s, bR_s, decide_true, decide_false, not_true_eq_false, not_false_eq_true, dT, dF, w_al, w_la, w_ab, w_sl, w_sb, w_dec, w_ml, w_lm, ol2i_n, aup_ne, aupE, aupJ, setc_self, setc_ne]
    · have ea : rvF f n i a b a = f a := if_neg (by omega)
      have eb : rvF f n i a b b = f b := if_neg (by omega)
      have es : (fun k => if k = b then f a else if k = a then f b else rvF f n i a b k) = rvF f n i (a + 1) (b - 1) := by
        funext k
        unfold rvF
        by_cases k1 : k = b
        · rw [if_pos k1, if_pos (Or.inr ⟨by omega, by omega⟩), k1, show i + n - b = a by omega]
        · rw [if_neg k1]
          by_cases k2 : k = a
          · rw [if_pos k2, if_pos (Or.inl ⟨by omega, by omega⟩), k2, show i + n - a = b by omega]
          · rw [if_neg k2]
            by_cases h : (i < k ∧ k < a) ∨ (b < k ∧ k < n)
            · rw [if_pos h, if_pos (by omega)]
            · rw [if_neg h, if_neg (by omega)]
      obtain ⟨f', r1, r2, r3⟩ := ih (a + 1) (b - 1) (f a) (by omega) (by omega) (by omega) (by omega)
      refine ⟨f', r1, r2, ?_⟩
      have ed : w32 ((b : Int) + (-1)) = ((b - 1 : Nat) : Int) := by rw [w32_id (by omega) (by omega)]; omega
      rw [← r3, ← es, q_283_107]
      simp (disch := omega) only [cond_true, cond_false, Bool.and_true, Int.toNat_natCast, Int.reduceToNat, dT, dF, w_al, setc_self, setc_ne, aup_setc, k256, p75, n_307 hκ, ea, eb, ed]
theorem next_eq (xs : List Int) (d : Nat) {κ : aK} {D : Nat → Nat → Int} (hκ : Shp κ) (hp : PtrR D) {l : List Nat} (hl7 : l.length ≤ 7) (hnd : l.Nodup) (h74 : D 256 74 = (l.length : Int)) {f : Nat → Int} (hf : PmA f 0 l) : (np l = none ∧ cl xs (d + 1) 283 [.inr (.inr 256)] (κ, setc D 307 f) = some (some (.inl 0), (κ, setc D 307 f))) ∨ ∃ l' f', np l = some l' ∧ PmA f' 0 l' ∧ l'.length = l.length ∧ cl xs (d + 1) 283 [.inr (.inr 256)] (κ, setc D 307 f) = some (some (.inl 1), (κ, setc D 307 f')) := by
  have k256 := k_256 hκ
  have s74 : setc D 307 f 256 74 = (l.length : Int) := by rw [setc_ne (by decide)]; exact h74
  have start : cl xs (d + 1) 283 [.inr (.inr 256)] (κ, setc D 307 f) = ev xs d mm_283 7 [some (.inr (.inr 256)), some (.inl ((l.length : Int) - 2)), none, none, none, none] [] (κ, setc D 307 f) := by
    have ew : w32 ((l.length : Int) - 2) = (l.length : Int) - 2 := w32_id (by omega) (by omega)
    rw [c_283]
    simp (disch := omega) only [cond_true, Int.reduceToNat, k256, s74, ew]
  rw [start]
  by_cases h0 : l.length = 0
  · have : l = [] := List.length_eq_zero_iff.mp h0
    subst this
    refine Or.inl ⟨rfl, ?_⟩
    rw [q_283_7]
    rfl
  · have hsing : np (l.drop (l.length - 1)) = none := by
      rw [drp (show l.length - 1 < l.length by omega), show l.length - 1 + 1 = l.length by omega, List.drop_length]
      rfl
    have e2 : (l.length : Int) - 2 = ((l.length - 1 : Nat) : Int) - 1 := by omega
    rw [e2]
    rcases nx_i xs d hκ hp hl7 hnd h74 hf (l.length - 1) (by omega) hsing with ⟨q1, q2⟩ | ⟨i, q1, q2, q3, q4⟩
    · exact Or.inl ⟨q1, q2⟩
    · right
      obtain ⟨j, r1, r2, r3, r4, r5⟩ := nx_j xs d hκ hp hl7 hnd h74 hf q1 q2 (l.length - 1 - (i + 1)) (by omega) (fun y hy => by
        rw [show i + 1 + (l.length - 1 - (i + 1)) + 1 = l.length by omega, List.drop_length] at hy
        cases hy)
      rw [show i + 1 + (l.length - 1 - (i + 1)) = l.length - 1 by omega] at r5
      obtain ⟨f', s1, s2, s3⟩ := nx_r xs d hκ hp hl7 (f := sw2 f i j) q1 (j : Int) 7 (i + 1) (l.length - 1) ((l.getD i 0 : Nat) : Int) (by omega) (by omega) (by omega) (by omega)
      have e0 : rvF (sw2 f i j) l.length i (i + 1) (l.length - 1) = sw2 f i j := by
        funext x
        exact if_neg (by omega)
      rw [e0] at s3
      -- the pieces of l
      have sp1 := spl (l := l) (i := i) (by omega)
      have hdl : (l.drop (i + 1)).length = l.length - (i + 1) := List.length_drop
      have sp2 := spl (l := l.drop (i + 1)) (i := j - (i + 1)) (by omega)
      have gj : (l.drop (i + 1)).getD (j - (i + 1)) 0 = l.getD j 0 := by
        rw [List.getD_eq_getElem?_getD, List.getD_eq_getElem?_getD, List.getElem?_drop, show i + 1 + (j - (i + 1)) = j by omega]
      have gd : (l.drop (i + 1)).drop (j - (i + 1) + 1) = l.drop (j + 1) := by
        rw [List.drop_drop, show i + 1 + (j - (i + 1) + 1) = j + 1 by omega]
      rw [gj, gd] at sp2
      have lp : (l.take i).length = i := by rw [List.length_take]; omega
      have lt1 : ((l.drop (i + 1)).take (j - (i + 1))).length = j - (i + 1) := by rw [List.length_take]; omega
      have lt2 : (l.drop (j + 1)).length = l.length - (j + 1) := List.length_drop
      generalize hP : l.take i = P at sp1 lp
      generalize hA : l.getD i 0 = A at *
      generalize hXx : l.getD j 0 = Xx at *
      generalize hT1 : (l.drop (i + 1)).take (j - (i + 1)) = T1 at sp2 lt1
      generalize hT2 : l.drop (j + 1) = T2 at *
      have hfull : l = P ++ A :: (T1 ++ Xx :: T2) := by rw [← sp2]; exact sp1
      have hfp : PmA f 0 (P ++ A :: (T1 ++ Xx :: T2)) := by rw [← hfull]; exact hf
      obtain ⟨f1, f2⟩ := PmA_app.mp hfp
      rw [lp, Nat.zero_add] at f2
      obtain ⟨f3, f4⟩ := f2
      obtain ⟨f5, f6⟩ := PmA_app.mp f4
      rw [lt1, show i + 1 + (j - (i + 1)) = j by omega] at f6
      obtain ⟨f7, f8⟩ := f6
      have hmid : PmA (sw2 f i j) (i + 1) (T1 ++ A :: T2) := by
        rw [PmA_app, lt1, show i + 1 + (j - (i + 1)) = j by omega]
        refine ⟨PmA_congr (fun k y1 y2 => ?_) f5, ?_, PmA_congr (fun k y1 y2 => ?_) f8⟩
        · unfold sw2
          rw [if_neg (by omega), if_neg (by omega)]
        · unfold sw2
          rw [if_pos rfl]; exact f3
        · unfold sw2
          rw [if_neg (by omega), if_neg (by omega)]
      have lmid : (T1 ++ A :: T2).length = l.length - 1 - i := by rw [List.length_append, List.length_cons, lt1, lt2]; omega
      refine ⟨P ++ Xx :: (T1 ++ A :: T2).reverse, f', ?_, ?_, ?_, ?_⟩
      · rw [hfull]
        exact np_at r3 r4 (by rw [← sp2]; exact q3) P
      · rw [PmA_app, lp, Nat.zero_add]
        refine ⟨PmA_congr (fun k _ y2 => ?_) f1, ?_, PmA_rev hmid (fun k hk => ?_)⟩
        · rw [s2 k (by omega)]
          unfold sw2
          rw [if_neg (by omega), if_neg (by omega)]
        · rw [s2 i (Nat.le_refl _)]
          unfold sw2
          rw [if_neg (by omega), if_pos rfl]
          exact f7
        · rw [lmid] at hk ⊢
          rw [s1 (i + 1 + k) (by omega) (by omega), show i + l.length - (i + 1 + k) = i + 1 + (l.length - 1 - i - 1 - k) by omega]
      · rw [List.length_append, List.length_cons, List.length_reverse, lmid, lp]
        omega
      · rw [q4, r5, s3]
