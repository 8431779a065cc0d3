/-! One cell's numbers changed as a whole. -/
def setc (D : Nat → Nat → Int) (r : Nat) (f : Nat → Int) : Nat → Nat → Int := fun q => if q = r then f else D q
theorem setc_self (D : Nat → Nat → Int) (r : Nat) (f : Nat → Int) : setc D r f r = f := by simp [setc]
theorem setc_ne {D : Nat → Nat → Int} {r : Nat} {f : Nat → Int} {q : Nat} (h : q ≠ r) : setc D r f q = D q := by simp [setc, h]
theorem aup_as (D : Nat → Nat → Int) (r k : Nat) (v : Int) : aup D r k v = setc D r (fun j => if j = k then v else D r j) := by
  funext q j
  unfold aup setc
  by_cases h : q = r
  · subst h; simp
  · simp [h]
theorem setc_setc (D : Nat → Nat → Int) (r : Nat) (f g : Nat → Int) : setc (setc D r f) r g = setc D r g := by
  funext q
  unfold setc
  by_cases h : q = r <;> simp [h]
theorem aup_setc (D : Nat → Nat → Int) (r k : Nat) (f : Nat → Int) (v : Int) : aup (setc D r f) r k v = setc D r (fun j => if j = k then v else f j) := by
  rw [aup_as, setc_setc, setc_self]
theorem setc_id (D : Nat → Nat → Int) (r : Nat) : setc D r (D r) = D := by
  funext q
  unfold setc
  by_cases h : q = r
  · subst h; simp
  · simp [h]
theorem PtrR.setc {D : Nat → Nat → Int} (hp : PtrR D) {r : Nat} (hr : r ≠ 256) (f : Nat → Int) : PtrR (setc D r f) := by
  unfold PtrR
  rw [setc_ne (Ne.symm hr)]
  exact hp
theorem isbR_setc {D : Nat → Nat → Int} {r : Nat} {f : Nat → Int} (h1 : r ≠ 256) (h2 : r ≠ 266) (sort of a : Int) : isbR (setc D r f) sort of a = isbR D sort of a := by
  unfold isbR
  rw [setc_ne (Ne.symm h1), setc_ne (Ne.symm h2)]
/-- what is asked of a stone's rows, side by side: place k -/
def stOK (D : Nat → Nat → Int) (k f t : Nat) : Prop := k < 14 ∧ D 268 k = (f : Int) ∧ D 269 k = (t : Int) ∧ t ≤ 26 ∧ (¬ D 270 k = 0 → ¬ D 270 k = 3 → ¬ D 270 k = 1 → 0 ≤ D 271 k ∧ D 271 k < 6) ∧ (¬ D 272 k = 0 → ¬ D 272 k = 3 → ¬ D 272 k = 1 → 0 ≤ D 273 k ∧ D 273 k < 6)
abbrev rA (D : Nat → Nat → Int) (k : Nat) : Nat → Bool := fun a => isbR D (D 270 k) (D 271 k) (a : Int)
abbrev rB (D : Nat → Nat → Int) (k : Nat) : Nat → Bool := fun a => isbR D (D 272 k) (D 273 k) (a : Int)
/-- the letters from place m on -/
def ltk (l : List Nat) (g0 : Nat → Int) (m : Nat) : Nat → Int := fun j => if m < j ∧ j ≤ l.length then ((l.getD (j - 1) 0 : Nat) : Int) else g0 j
set_option maxHeartbeats 4000000 in
theorem taken_down (xs : List Int) (d : Nat) {κ : aK} {D : Nat → Nat → Int} (hκ : Shp κ) (hp : PtrR D) (hl : D 256 18 = 0 ∨ D 256 18 = 1) {l : List Nat} (hlen : l.length ≤ 8) (hwv : wv l) (g0 : Nat → Int) (h0 : g0 0 = 0) {k f t : Nat} (hs : stOK D k f t) (v1 v2 : Int) :
    ∀ (n : Nat) (l1 l2 : List Nat) (u3 u7 u9 u10 u11 : Option aV), l1.length = n → l = l1 ++ l2 →
    ev xs (d + 1) mm_239 24 [some (.inr (.inr 256)), some (.inl v1), some (.inr (.inl v2)), u3, some (.inl (k : Int)), some (.inl (l.length : Int)), some (.inr (.inl (p27 l1 : Int))), u7, some (.inl (n : Int)), u9, u10, u11] [] (κ, setc D 303 (ltk l g0 n)) = some (some (.inr (.inl (p27 (stk f t (rA D k) (rB D k) 0 l) : Int))), (κ, setc D 303 (fun j => if j = l.length + 1 then 0 else ltk l g0 0 j)))
  | 0, l1, l2, u3, u7, u9, u10, u11, hn, he => by
    have hl1 : l1 = [] := List.length_eq_zero_iff.mp hn
    subst hl1
    rw [List.nil_append] at he
    subst he
    obtain ⟨hk, hf, ht, ht2, hA, hB⟩ := hs
    have hp' := hp.setc (r := 303) (by decide) (ltk l g0 0)
    have e1 : w32 ((l.length : Int) + 1) = ((l.length + 1 : Nat) : Int) := by rw [w32_id (by omega) (by omega)]; omega
    have n1 : ain κ 303 100 ((l.length + 1 : Nat) : Int) = true := n_303 hκ (by omega) (by omega)
    rw [q_239_24]
    simp only [show decide (((0 : Nat) : Int) ≤ 0) = true from rfl, cond_true, k_256 hκ, show ((256 : Int)).toNat = 256 from rfl, pr_65 hp', e1, n1, show ((303 : Int)).toNat = 303 from rfl, Int.toNat_natCast, aup_setc]
    generalize hg : (fun j => if j = l.length + 1 then (0 : Int) else ltk l g0 0 j) = g
    have hp2 := hp.setc (r := 303) (by decide) g
    have hl2 : setc D 303 g 256 18 = 0 ∨ setc D 303 g 256 18 = 1 := by rw [setc_ne (by decide)]; exact hl
    have key := taken_loop xs d hκ hp2 hl2 hlen hwv (k := k) (f := f) (t := t) (by rw [setc_self, ← hg]; simp [ltk, h0]) (fun j hj => by rw [setc_self, ← hg]; simp only [ltk]; rw [if_neg (by omega), if_pos (by omega)]; rfl) (by rw [setc_self, ← hg]; simp) hk (by rw [setc_ne (by decide)]; exact hf) (by rw [setc_ne (by decide)]; exact ht) ht2 (by rw [setc_ne (by decide), setc_ne (by decide)]; exact hA) (by rw [setc_ne (by decide), setc_ne (by decide)]; exact hB) v1 v2 ((p27 ([] : List Nat) : Nat) : Int) l [] [] u3 (acl u7) none u11 rfl (fun _ h => by cases h) (Nat.le_refl _)
    simp only [isbR_setc (r := 303) (by decide) (by decide)] at key
    rw [setc_ne (q := 270) (by decide), setc_ne (q := 271) (by decide), setc_ne (q := 272) (by decide), setc_ne (q := 273) (by decide)] at key
    exact key
  | n + 1, l1, l2, u3, u7, u9, u10, u11, hn, he => by
    obtain ⟨r, a, rfl⟩ := list_snoc (l := l1) (fun e => by rw [e] at hn; cases hn)
    have hr : r.length = n := by simpa using hn
    have ha := hwv a (by rw [he]; simp)
    have hwr : wv r := fun x hx => hwv x (by rw [he]; simp [hx])
    have hlt := p27_lt r hwr
    have hln : n + 1 ≤ l.length := by rw [he]; simp; omega
    have h12 := pow27_12 (n := r.length) (by omega)
    have hp' := hp.setc (r := 303) (by decide) (ltk l g0 (n + 1))
    have n1 : ain κ 303 100 ((n + 1 : Nat) : Int) = true := n_303 hκ (by omega) (by omega)
    have e1 : decide (((n + 1 : Nat) : Int) ≤ 0) = false := decide_eq_false (by omega)
    have e2 : w32 (((n + 1 : Nat) : Int) + (-1)) = ((n : Nat) : Int) := by rw [w32_id (by omega) (by omega)]; omega
    have e3 : oldiv ((27 * p27 r + a : Nat) : Int) 27 = (p27 r : Int) := by rw [oldiv_i (by omega) (by omega) (by omega) (by omega)]; omega
    have e4 : ol2i (olrem ((27 * p27 r + a : Nat) : Int) 27) = (a : Int) := by
      rw [olrem_i (by omega) (by omega) (by omega) (by omega), show ((27 * p27 r + a : Nat) : Int) % 27 = (a : Int) by omega]
      exact ol2i_id (by omega) (by omega)
    rw [q_239_24, p27_snoc, e1]
    simp only [cond_false, cond_true, k_256 hκ, show ((256 : Int)).toNat = 256 from rfl, pr_65 hp', n1, show ((303 : Int)).toNat = 303 from rfl, Int.toNat_natCast, aup_setc, e2, e3, e4]
    have eg : (fun j => if j = n + 1 then (a : Int) else ltk l g0 (n + 1) j) = ltk l g0 n := by
      funext j
      unfold ltk
      by_cases hj : j = n + 1
      · subst hj
        rw [if_pos rfl, if_pos ⟨by omega, hln⟩, he]
        simp [hr]
      · rw [if_neg hj]
        by_cases h2 : n + 1 < j ∧ j ≤ l.length
        · rw [if_pos h2, if_pos ⟨by omega, h2.2⟩]
        · rw [if_neg h2, if_neg (by omega)]
    rw [eg]
    exact taken_down xs d hκ hp hl hlen hwv g0 h0 hs v1 v2 n r ([a] ++ l2) u3 none u9 u10 u11 hr (by rw [he]; simp)
/-- WordMillModel.takenBy -/
theorem takenBy_eq (xs : List Int) (d : Nat) {κ : aK} {D : Nat → Nat → Int} (hκ : Shp κ) (hp : PtrR D) {v : Nat} (hv : D 256 18 = (v : Int)) (hv2 : v < 2) {l : List Nat} (hlen : l.length ≤ 8) (hwv : wv l) (h0 : D 303 0 = 0) {s f t : Nat} (hs7 : s < 7) (hs : stOK D (7 * v + s) f t) :
    ∃ g : Nat → Int, g 0 = 0 ∧ cl xs (d + 2) 239 [.inr (.inr 256), .inl (s : Int), .inr (.inl (p27 l : Int))] (κ, D) = some (some (.inr (.inl (p27 (stk f t (rA D (7 * v + s)) (rB D (7 * v + s)) 0 l) : Int))), (κ, setc D 303 g)) := by
  refine ⟨fun j => if j = l.length + 1 then 0 else ltk l (D 303) 0 j, by simp [ltk, h0], ?_⟩
  have hl : D 256 18 = 0 ∨ D 256 18 = 1 := by rw [hv]; omega
  have e1 : w32 (w32 (7 * (v : Int)) + (s : Int)) = ((7 * v + s : Nat) : Int) := by
    rw [w32_add_l, w32_id (by omega) (by omega)]; omega
  rw [c_239]
  simp only [k_256 hκ, cond_true, longOf_eq xs d (κ, D) hwv (by omega), bI, show ((256 : Int)).toNat = 256 from rfl, hv, e1]
  have key := taken_down xs d hκ hp hl hlen hwv (D 303) h0 hs (s : Int) (p27 l : Int) l.length l [] none none none none none rfl (by simp)
  have eD : setc D 303 (ltk l (D 303) l.length) = D := by
    rw [show ltk l (D 303) l.length = D 303 from ?_, setc_id]
    funext j
    unfold ltk
    rw [if_neg (by omega)]
  rw [eD] at key
  exact key
