/-! The reference: rows, ranges, bits, runs. -/
theorem obit {a s : Nat} (ha : a < 2147483648) (hs : s < 32) : oand (oshr (a : Int) (s : Int)) 1 = ((a / 2 ^ s % 2 : Nat) : Int) := by
  rw [oshr_nat hs ha]
  have h1 : a / 2 ^ s ≤ a := Nat.div_le_self _ _
  have := oand_nat (a := a / 2 ^ s) (b := 1) (by omega) (by decide)
  rw [Nat.and_one_is_mod] at this
  exact this
def cpn (n : Nat) (f g : Nat → Int) : Nat → Int := fun k => if k < n then f k else g k
theorem cpn_step (n : Nat) (f g : Nat → Int) : (fun j => if j = n then f n else cpn n f g j) = cpn (n + 1) f g := by
  funext j
  unfold cpn
  by_cases h : j = n
  · subst h; simp
  · rw [if_neg h]
    by_cases h2 : j < n
    · rw [if_pos h2, if_pos (by omega)]
    · rw [if_neg h2, if_neg (by omega)]
theorem cpn_zero (f g : Nat → Int) : cpn 0 f g = g := by funext j; simp [cpn]
theorem copies_loop (xs : List Int) (d : Nat) {κ : aK} {D : Nat → Nat → Int} (hκ : Shp κ) (hp : PtrR D) : ∀ (m i : Nat), i + m = 60 → ev xs d mm_229 2 [some (.inr (.inr 256)), some (.inl (i : Int))] [] (κ, setc D 302 (cpn i (D 301) (D 302))) = some (none, (κ, setc D 302 (cpn 60 (D 301) (D 302))))
  | 0, i, hi => by
    rw [q_229_2, show decide ((60 : Int) ≤ (i : Int)) = true from decide_eq_true (by omega)]
    rw [show i = 60 by omega]
    rfl
  | m + 1, i, hi => by
    have hp' := hp.setc (r := 302) (by decide) (cpn i (D 301) (D 302))
    have n1 : ain κ 301 101 (i : Int) = true := n_301 hκ (by omega) (by omega)
    have n2 : ain κ 302 101 (i : Int) = true := n_302 hκ (by omega) (by omega)
    rw [q_229_2, show decide ((60 : Int) ≤ (i : Int)) = false from decide_eq_false (by omega)]
    simp only [cond_false, cond_true, k_256 hκ, show ((256 : Int)).toNat = 256 from rfl, pr_63 hp', pr_64 hp', n1, n2, show ((302 : Int)).toNat = 302 from rfl, show ((301 : Int)).toNat = 301 from rfl, Int.toNat_natCast, aup_setc, setc_ne (D := D) (r := 302) (q := 301) (by decide), cpn_step, show w32 ((i : Int) + 1) = ((i + 1 : Nat) : Int) from by rw [w32_id (by omega) (by omega)]; omega]
    exact copies_loop xs d hκ hp m (i + 1) (by omega)
/-- copies -/
theorem copies_eq (xs : List Int) (d : Nat) {κ : aK} {D : Nat → Nat → Int} (hκ : Shp κ) (hp : PtrR D) : cl xs (d + 1) 229 [.inr (.inr 256)] (κ, D) = some (none, (κ, setc D 302 (cpn 60 (D 301) (D 302)))) := by
  rw [c_229]
  have := copies_loop xs d hκ hp 60 0 rfl
  rw [cpn_zero, setc_id] at this
  exact this
theorem keepsRow_loop (xs : List Int) (d : Nat) {κ : aK} {D : Nat → Nat → Int} (hκ : Shp κ) (hp : PtrR D) : ∀ (m i : Nat), i + m = 60 → ev xs d mm_228 2 [some (.inr (.inr 256)), some (.inl (i : Int))] [] (κ, setc D 301 (cpn i (D 302) (D 301))) = some (none, (κ, setc D 301 (cpn 60 (D 302) (D 301))))
  | 0, i, hi => by
    rw [q_228_2, show decide ((60 : Int) ≤ (i : Int)) = true from decide_eq_true (by omega)]
    rw [show i = 60 by omega]
    rfl
  | m + 1, i, hi => by
    have hp' := hp.setc (r := 301) (by decide) (cpn i (D 302) (D 301))
    have n1 : ain κ 301 101 (i : Int) = true := n_301 hκ (by omega) (by omega)
    have n2 : ain κ 302 101 (i : Int) = true := n_302 hκ (by omega) (by omega)
    rw [q_228_2, show decide ((60 : Int) ≤ (i : Int)) = false from decide_eq_false (by omega)]
    simp only [cond_false, cond_true, k_256 hκ, show ((256 : Int)).toNat = 256 from rfl, pr_63 hp', pr_64 hp', n1, n2, show ((302 : Int)).toNat = 302 from rfl, show ((301 : Int)).toNat = 301 from rfl, Int.toNat_natCast, aup_setc, setc_ne (D := D) (r := 301) (q := 302) (by decide), cpn_step, show w32 ((i : Int) + 1) = ((i + 1 : Nat) : Int) from by rw [w32_id (by omega) (by omega)]; omega]
    exact keepsRow_loop xs d hκ hp m (i + 1) (by omega)
/-- keepsRow -/
theorem keepsRow_eq (xs : List Int) (d : Nat) {κ : aK} {D : Nat → Nat → Int} (hκ : Shp κ) (hp : PtrR D) : cl xs (d + 1) 228 [.inr (.inr 256)] (κ, D) = some (none, (κ, setc D 301 (cpn 60 (D 302) (D 301)))) := by
  rw [c_228]
  have := keepsRow_loop xs d hκ hp 60 0 rfl
  rw [cpn_zero, setc_id] at this
  exact this
/-- in -/
theorem in_eq (xs : List Int) (d : Nat) (h : aH) (v a b : Int) : cl xs (d + 1) 226 [.inl v, .inl a, .inl b] h = some (some (.inl (if a ≤ v ∧ v ≤ b then 1 else 0)), h) := by
  rw [c_226]
  by_cases h1 : v < a
  · rw [show decide (v < a) = true from decide_eq_true h1, if_neg (by omega)]
    rfl
  · rw [show decide (v < a) = false from decide_eq_false h1]
    by_cases h2 : b < v
    · rw [show decide (b < v) = true from decide_eq_true h2, if_neg (by omega)]
      rfl
    · rw [show decide (b < v) = false from decide_eq_false h2, if_pos (by omega)]
      rfl
theorem b01 (p : Prop) [Decidable p] : (decide ((if p then (1 : Int) else 0) = 0) || decide ((if p then (1 : Int) else 0) = 1)) = true := by
  by_cases h : p <;> simp [h]
/-- isWord -/
theorem isWord_eq (xs : List Int) (d : Nat) {κ : aK} {D : Nat → Nat → Int} (hκ : Shp κ) (hp : PtrR D) {v n : Nat} (hv : D 256 18 = (v : Int)) (hv2 : v < 2) (hn : D 277 v = (n : Int)) (hn2 : n ≤ 10) (w : Int) : cl xs (d + 2) 230 [.inr (.inr 256), .inl w] (κ, D) = some (some (.inl (if 0 ≤ w ∧ w ≤ (n : Int) - 1 then 1 else 0)), (κ, D)) := by
  rw [c_230]
  have n1 : ain κ 277 100 (v : Int) = true := n_277 hκ (by omega) (by omega)
  simp only [cond_true, k_256 hκ, show ((256 : Int)).toNat = 256 from rfl, pr_33 hp, hv, n1, show ((277 : Int)).toNat = 277 from rfl, Int.toNat_natCast, hn, show w32 ((n : Int) - 1) = (n : Int) - 1 from w32_id (by omega) (by omega), in_eq, bI, b01]
/-- isStone -/
theorem isStone_eq (xs : List Int) (d : Nat) {κ : aK} {D : Nat → Nat → Int} (hκ : Shp κ) (hp : PtrR D) {v n : Nat} (hv : D 256 18 = (v : Int)) (hv2 : v < 2) (hn : D 267 v = (n : Int)) (hn2 : n ≤ 7) (w : Int) : cl xs (d + 2) 231 [.inr (.inr 256), .inl w] (κ, D) = some (some (.inl (if 0 ≤ w ∧ w ≤ (n : Int) - 1 then 1 else 0)), (κ, D)) := by
  rw [c_231]
  have n1 : ain κ 267 100 (v : Int) = true := n_267 hκ (by omega) (by omega)
  simp only [cond_true, k_256 hκ, show ((256 : Int)).toNat = 256 from rfl, pr_23 hp, hv, n1, show ((267 : Int)).toNat = 267 from rfl, Int.toNat_natCast, hn, show w32 ((n : Int) - 1) = (n : Int) - 1 from w32_id (by omega) (by omega), in_eq, bI, b01]
/-- how many of the first k bits -/
def bcn (n : Nat) : Nat → Nat
  | 0 => 0
  | k + 1 => bcn n k + n / 2 ^ k % 2
theorem bcn_le (n : Nat) : ∀ k, bcn n k ≤ k
  | 0 => Nat.le_refl _
  | k + 1 => by
    have := bcn_le n k
    show bcn n k + n / 2 ^ k % 2 ≤ k + 1
    omega
theorem bits_loop (xs : List Int) (d : Nat) (h : aH) {n : Nat} (hn : n < 2147483648) : ∀ (m k : Nat), k + m = 10 → ev xs d mm_235 4 [some (.inl (n : Int)), some (.inl (bcn n k : Int)), some (.inl (k : Int))] [] h = some (some (.inl (bcn n 10 : Int)), h)
  | 0, k, hk => by
    rw [q_235_4, show decide ((10 : Int) ≤ (k : Int)) = true from decide_eq_true (by omega), show k = 10 by omega]
    rfl
  | m + 1, k, hk => by
    have hb := bcn_le n k
    rw [q_235_4, show decide ((10 : Int) ≤ (k : Int)) = false from decide_eq_false (by omega), obit hn (by omega), show w32 ((bcn n k : Int) + ((n / 2 ^ k % 2 : Nat) : Int)) = (bcn n (k + 1) : Int) from by rw [w32_id (by omega) (by omega)]; show _ = ((bcn n k + n / 2 ^ k % 2 : Nat) : Int); omega, show w32 ((k : Int) + 1) = ((k + 1 : Nat) : Int) from by rw [w32_id (by omega) (by omega)]; omega]
    exact bits_loop xs d h hn m (k + 1) (by omega)
/-- bits -/
theorem bits_eq (xs : List Int) (d : Nat) (h : aH) {n : Nat} (hn : n < 2147483648) : cl xs (d + 1) 235 [.inl (n : Int)] h = some (some (.inl (bcn n 10 : Int)), h) := by
  rw [c_235]
  exact bits_loop xs d h hn 10 0 rfl
theorem letterOf_end (xs : List Int) (d : Nat) (h : aH) {l : List Nat} (hw : wv l) (hl : l.length ≤ 12) {k : Nat} (hk : k ≤ 12) {q : List Nat} (hq : wv q) (hql : q.length ≤ 12) {i : Int} (hi : i ≤ 0) (u1 u4 : Option aV) : ev xs (d + 1) mm_237 12 [some (.inr (.inl (p27 l : Int))), u1, some (.inl (k : Int)), some (.inr (.inl (p27 q : Int))), u4, some (.inl i)] [] h = some (some (.inl (if l.length ≤ k then 0 else ((p27 q % 27 : Nat) : Int))), h) := by
  have hlt := p27_lt _ hq
  have h12 := pow27_12 hql
  rw [q_237_12, show decide (i ≤ 0) = true from decide_eq_true hi]
  simp only [cond_true, longOf_eq xs d h hw hl, bI]
  by_cases hle : l.length ≤ k
  · rw [show decide ((l.length : Int) ≤ (k : Int)) = true from decide_eq_true (by omega), if_pos hle]
    rfl
  · rw [show decide ((l.length : Int) ≤ (k : Int)) = false from decide_eq_false (by omega), if_neg hle, olrem_i (by omega) (by omega) (by omega) (by omega)]
    rw [show ((p27 q : Nat) : Int) % 27 = ((p27 q % 27 : Nat) : Int) by omega, ol2i_id (by omega) (by omega)]
    rfl
theorem letterOf_loop (xs : List Int) (d : Nat) (h : aH) {l : List Nat} (hw : wv l) (hl : l.length ≤ 12) {k : Nat} (hk : k ≤ 12) : ∀ (n : Nat) (q post : List Nat) (u1 u4 : Option aV), post.length = n → wv (q ++ post) → (q ++ post).length ≤ 12 → ev xs (d + 1) mm_237 12 [some (.inr (.inl (p27 l : Int))), u1, some (.inl (k : Int)), some (.inr (.inl (p27 (q ++ post) : Int))), u4, some (.inl (n : Int))] [] h = some (some (.inl (if l.length ≤ k then 0 else ((p27 q % 27 : Nat) : Int))), h)
  | 0, q, post, u1, u4, hn, hwp, hlp => by
    have : post = [] := List.length_eq_zero_iff.mp hn
    subst this
    rw [List.append_nil] at hwp hlp ⊢
    exact letterOf_end xs d h hw hl hk hwp hlp (Int.le_refl _) u1 u4
  | n + 1, q, post, u1, u4, hn, hwp, hlp => by
    obtain ⟨r, a, rfl⟩ := list_snoc (l := post) (fun e => by rw [e] at hn; cases hn)
    have hr : r.length = n := by simpa using hn
    have ha := hwp a (by simp)
    have hwr : wv (q ++ r) := fun x hx => hwp x (by rcases List.mem_append.mp hx with h | h <;> simp [h])
    have hlr : (q ++ r).length ≤ 12 := by simp at hlp ⊢; omega
    have hlt := p27_lt _ hwr
    have h12 := pow27_12 hlr
    have hn12 : n + 1 ≤ 12 := by simp at hlp; omega
    rw [← List.append_assoc, q_237_12, p27_snoc, show decide (((n + 1 : Nat) : Int) ≤ 0) = false from decide_eq_false (by omega), oldiv_i (by omega) (by omega) (by omega) (by omega), show ((27 * p27 (q ++ r) + a : Nat) : Int) / 27 = (p27 (q ++ r) : Int) by omega, show w32 (((n + 1 : Nat) : Int) + (-1)) = (n : Int) from by rw [w32_id (by omega) (by omega)]; omega]
    exact letterOf_loop xs d h hw hl hk n q r u1 none hr hwr hlr
/-- letterOf -/
theorem letterOf_eq (xs : List Int) (d : Nat) (h : aH) {l : List Nat} (hw : wv l) (hl : l.length ≤ 12) {k : Nat} (hk : k ≤ 12) : cl xs (d + 2) 237 [.inr (.inl (p27 l : Int)), .inl (k : Int)] h = some (some (.inl ((l.getD k 0 : Nat) : Int)), h) := by
  rw [c_237]
  simp only [longOf_eq xs d h hw hl, bI]
  have e1 : w32 (w32 ((l.length : Int) - 1) - (k : Int)) = (l.length : Int) - 1 - k := by rw [w32_sub_l, w32_id (by omega) (by omega)]
  rw [e1]
  by_cases hle : l.length ≤ k
  · rw [letterOf_end xs d h hw hl hk hw hl (by omega) none none, if_pos hle]
    simp [hle]
  · have hlt : k < l.length := by omega
    have e2 : (l.length : Int) - 1 - k = (((l.drop (k + 1)).length : Nat) : Int) := by simp; omega
    have e3 : l = l.take (k + 1) ++ l.drop (k + 1) := (List.take_append_drop _ _).symm
    have key := letterOf_loop xs d h hw hl hk (l.drop (k + 1)).length (l.take (k + 1)) (l.drop (k + 1)) none none rfl (by rw [← e3]; exact hw) (by rw [← e3]; exact hl)
    rw [← e3] at key
    rw [e2, key, if_neg hle]
    have e4 : l.take (k + 1) = l.take k ++ [l.getD k 0] := by
      rw [List.take_succ, List.getElem?_eq_getElem hlt]
      simp [hlt]
    have ha := hw (l.getD k 0) (by simp [hlt])
    rw [e4, p27_snoc]
    congr 4
    omega
/-- shows -/
theorem shows_eq (xs : List Int) (d : Nat) (h : aH) {l : List Nat} (hw : wv l) (hl : l.length ≤ 8) {k : Nat} (hk : k ≤ 8) : cl xs (d + 3) 242 [.inr (.inl (p27 l : Int)), .inl (k : Int)] h = some (some (.inl ((if k = 8 then l.length else l.getD k 0 : Nat) : Int)), h) := by
  rw [c_242]
  by_cases h8 : k = 8
  · subst h8
    rw [show decide (¬ ((8 : Nat) : Int) = 8) = false from rfl]
    simp only [cond_false, longOf_eq xs (d + 1) h hw (by omega), bI, if_true]
  · rw [show decide (¬ (k : Int) = 8) = true from decide_eq_true (by omega)]
    simp only [cond_true, letterOf_eq xs d h hw (by omega) (show k ≤ 12 by omega), bI, if_neg h8]
/-! Runs: over the stones in their order, those that are in the set, so many at most. -/
def rby (tk : Nat → List Nat → List Nat) (ord : Nat → Nat) (set : Nat) : Nat → Nat → Nat → List Nat → List Nat
  | 0, _, _, w => w
  | _ + 1, _, 0, w => w
  | m + 1, k, c + 1, w => if set / 2 ^ ord k % 2 = 0 then rby tk ord set m (k + 1) (c + 1) w else rby tk ord set m (k + 1) c (tk (ord k) w)
/-- the stones of a side: how many, and each as its rows tell -/
def stAll (D : Nat → Nat → Int) (v n : Nat) (F T : Nat → Nat) : Prop := D 267 v = (n : Int) ∧ n ≤ 7 ∧ ∀ s, s < n → stOK D (7 * v + s) (F s) (T s)
def tkR (D : Nat → Nat → Int) (v : Nat) (F T : Nat → Nat) (s : Nat) (l : List Nat) : List Nat := stk (F s) (T s) (rA D (7 * v + s)) (rB D (7 * v + s)) 0 l
theorem stOK.setc {D : Nat → Nat → Int} {k f t r : Nat} {g : Nat → Int} (h : stOK D k f t) (hr : r < 268 ∨ 273 < r) : stOK (setc D r g) k f t := by
  unfold stOK
  rw [setc_ne (q := 268) (by omega), setc_ne (q := 269) (by omega), setc_ne (q := 270) (by omega), setc_ne (q := 271) (by omega), setc_ne (q := 272) (by omega), setc_ne (q := 273) (by omega)]
  exact h
theorem stAll.setc {D : Nat → Nat → Int} {v n r : Nat} {F T : Nat → Nat} {g : Nat → Int} (h : stAll D v n F T) (hr : r < 267 ∨ 273 < r) : stAll (setc D r g) v n F T := by
  refine ⟨?_, h.2.1, fun s hs => (h.2.2 s hs).setc (by omega)⟩
  rw [setc_ne (q := 267) (by omega)]
  exact h.1
theorem tkR_setc {D : Nat → Nat → Int} {v r : Nat} {F T : Nat → Nat} {g : Nat → Int} (hr : 273 < r) : tkR (setc D r g) v F T = tkR D v F T := by
  funext s l
  unfold tkR rA rB
  rw [setc_ne (q := 270) (by omega), setc_ne (q := 271) (by omega), setc_ne (q := 272) (by omega), setc_ne (q := 273) (by omega)]
  simp only [isbR_setc (D := D) (r := r) (f := g) (by omega) (by omega)]
theorem tkR_wv {D : Nat → Nat → Int} {v n : Nat} {F T : Nat → Nat} (h : stAll D v n F T) {s : Nat} (hs : s < n) {l : List Nat} (hw : wv l) : wv (tkR D v F T s l) ∧ (tkR D v F T s l).length ≤ l.length := stk_wv (h.2.2 s hs).2.2.2.1 0 l hw
