/-! The reference's law, by what it does. -/
def PL (g : Nat → Int) : List Int → Prop
  | [] => True
  | x :: r => g r.length = x ∧ PL g r
theorem PL.up {g : Nat → Int} {k : Nat} {z : Int} : ∀ {r : List Int}, PL g r → r.length ≤ k → PL (fun j => if j = k then z else g j) r
  | [], _, _ => trivial
  | x :: r, h, hk => by
    have hk' : r.length + 1 ≤ k := hk
    exact ⟨(if_neg (by omega)).trans h.1, PL.up h.2 (by omega)⟩
def sg1 : Option Int → Option (List Int)
  | some x => some [x]
  | none => none
def bk (D : Nat → Nat → Int) : Option Int → Nat → Nat → Int
  | some _ => D
  | none => aup D 256 62 1
theorem bk_q {D : Nat → Nat → Int} {r : Option Int} {q : Nat} (h : q ≠ 256) : bk D r q = D q := by
  cases r with
  | none => exact aupN h
  | some x => rfl
theorem bk_f {D : Nat → Nat → Int} {r : Option Int} {j : Nat} (h : j ≠ 62) : bk D r 256 j = D 256 j := by
  cases r with
  | none => exact aupJ h
  | some x => rfl
theorem bk_p {D : Nat → Nat → Int} {r : Option Int} (hp : PtrR D) : PtrR (bk D r) := hp.of (fun j hj => bk_f (prL_ne hj (by decide)))
theorem aup_swap (D : Nat → Nat → Int) (g : Nat → Int) : aup (setc D 300 g) 256 62 1 = setc (aup D 256 62 1) 300 g := by
  funext q j
  unfold aup setc
  by_cases h : q = 300
  · subst h; simp
  · simp [h]
theorem rpn_0 {C I V : Nat → Int} {m c : Nat} {st : List Int} (e0 : C c = 0) : rpn C I V (m + 1) c st = rpn C I V m (c + 1) (I c :: st) := if_pos e0
theorem rpn_1 {C I V : Nat → Int} {m c : Nat} {st : List Int} (e0 : ¬ C c = 0) (e1 : C c = 1) : rpn C I V (m + 1) c st = rpn C I V m (c + 1) (V (I c).toNat :: st) := (if_neg e0).trans (if_pos e1)
theorem rpn_s {C I V : Nat → Int} {m c : Nat} {s : List Int} {x y z : Int} (e0 : ¬ C c = 0) (e1 : ¬ C c = 1) (h : bop (opk (C c)) x y = some z) : rpn C I V (m + 1) c (y :: x :: s) = rpn C I V m (c + 1) (z :: s) := by
  refine (if_neg e0).trans ((if_neg e1).trans ?_)
  simp only [h]
theorem rpn_n {C I V : Nat → Int} {m c : Nat} {s : List Int} {x y : Int} (e0 : ¬ C c = 0) (e1 : ¬ C c = 1) (h : bop (opk (C c)) x y = none) : rpn C I V (m + 1) c (y :: x :: s) = some none := by
  unfold rpn
  rw [if_neg e0, if_neg e1]
  simp only [h]
theorem rpn_l {C I V : Nat → Int} {m c : Nat} {st : List Int} (e0 : ¬ C c = 0) (e1 : ¬ C c = 1) (h : st.length < 2) : rpn C I V (m + 1) c st = none := by
  unfold rpn
  rw [if_neg e0, if_neg e1]
  rcases st with _ | ⟨a, _ | ⟨b, r⟩⟩
  · rfl
  · rfl
  · have h : r.length + 1 + 1 < 2 := h
    omega
theorem opk_2 {c : Int} (h : c = 2) : opk c = 43 := if_pos h
theorem opk_3 {c : Int} (h : c = 3) : opk c = 45 := (if_neg (by omega)).trans (if_pos h)
theorem opk_4 {c : Int} (h : c = 4) : opk c = 42 := (if_neg (by omega)).trans ((if_neg (by omega)).trans (if_pos h))
theorem opk_5 {c : Int} (h : c = 5) : opk c = 47 := (if_neg (by omega)).trans ((if_neg (by omega)).trans (if_neg (by omega)))
theorem bop_43 (x y : Int) : bop 43 x y = some (w32 (x + y)) := if_pos rfl
theorem bop_45 (x y : Int) : bop 45 x y = some (w32 (x - y)) := (if_neg (by decide)).trans (if_pos rfl)
theorem bop_42 (x y : Int) : bop 42 x y = some (w32 (x * y)) := (if_neg (by decide)).trans ((if_neg (by decide)).trans (if_pos rfl))
theorem bop_47 {x y : Int} (h : ¬ y = 0) : bop 47 x y = some (odiv x y) := (if_neg (by decide)).trans ((if_neg (by decide)).trans ((if_neg (by decide)).trans (if_neg h)))
theorem bop_470 {x y : Int} (h : y = 0) : bop 47 x y = none := (if_neg (by decide)).trans ((if_neg (by decide)).trans ((if_neg (by decide)).trans (if_pos h)))
theorem tm_end (xs : List Int) (d : Nat) {κ : aK} {D : Nat → Nat → Int} (hκ : Shp κ) (hp : PtrR D) (v1 : Int) {q k : Nat} {g : Nat → Int} (u5 u6 u7 : Option aV) : ev xs d mm_225 5 [some (.inr (.inr 256)), some (.inl v1), some (.inl (q : Int)), some (.inl (k : Int)), some (.inl (q : Int)), u5, u6, u7] [] (κ, setc D 300 g) = some (some (.inl (g 0)), (κ, setc D 300 g)) := by
  have k256 := k_256 hκ
  have hp' := hp.setc (r := 300) (by decide) g
  rw [q_225_5]
  simp (disch := omega) only [cond_true, cond_false, Bool.and_true, Bool.true_and, Bool.and_false, Bool.false_and, Int.toNat_natCast, Int.reduceToNat, bI_s, bJ_s, bV_s, bR_s, decide_true, decide_false, not_true_eq_false, not_false_eq_true, dT, dF, w_al, w_la, w_ab, w_sl, w_sb, w_dec, w_ml, w_lm, ol2i_n, aup_ne, aupE, aupJ, setc_self, setc_ne, k256, pr_61 hp', n_300 hκ]
theorem tm_0 (xs : List Int) (d : Nat) {κ : aK} {D : Nat → Nat → Int} (hκ : Shp κ) (hp : PtrR D) (v1 : Int) {q k c : Nat} (hq : q ≤ 840) (hc : c < q) (hk : k < 400) {g : Nat → Int} (e0 : D 296 c = 0) (u5 u6 u7 : Option aV) : ev xs d mm_225 5 [some (.inr (.inr 256)), some (.inl v1), some (.inl (q : Int)), some (.inl (k : Int)), some (.inl (c : Int)), u5, u6, u7] [] (κ, setc D 300 g) = ev xs d mm_225 5 [some (.inr (.inr 256)), some (.inl v1), some (.inl (q : Int)), some (.inl ((k + 1 : Nat) : Int)), some (.inl ((c + 1 : Nat) : Int)), some (.inl 0), u6, u7] [] (κ, setc D 300 (fun j => if j = k then D 297 c else g j)) := by
  have k256 := k_256 hκ
  have hp' := hp.setc (r := 300) (by decide) g
  rw [q_225_5]
  simp (disch := omega) only [cond_true, cond_false, Bool.and_true, Bool.true_and, Bool.and_false, Bool.false_and, Int.toNat_natCast, Int.reduceToNat, bI_s, bJ_s, bV_s, bR_s, decide_true, decide_false, not_true_eq_false, not_false_eq_true, dT, dF, w_al, w_la, w_ab, w_sl, w_sb, w_dec, w_ml, w_lm, ol2i_n, aup_ne, aupE, aupJ, setc_self, setc_ne, k256, pr_61 hp', pr_54 hp', pr_55 hp', n_296 hκ, n_297 hκ, n_300 hκ, e0, aup_setc]
theorem tm_1 (xs : List Int) (d : Nat) {κ : aK} {D : Nat → Nat → Int} (hκ : Shp κ) (hp : PtrR D) (v1 : Int) {q k c : Nat} (hq : q ≤ 840) (hc : c < q) (hk : k < 400) {g : Nat → Int} (e1 : D 296 c = 1) (b1 : 0 ≤ D 297 c) (b2 : D 297 c < 6) (u5 u6 u7 : Option aV) : ev xs d mm_225 5 [some (.inr (.inr 256)), some (.inl v1), some (.inl (q : Int)), some (.inl (k : Int)), some (.inl (c : Int)), u5, u6, u7] [] (κ, setc D 300 g) = ev xs d mm_225 5 [some (.inr (.inr 256)), some (.inl v1), some (.inl (q : Int)), some (.inl ((k + 1 : Nat) : Int)), some (.inl ((c + 1 : Nat) : Int)), some (.inl 1), u6, u7] [] (κ, setc D 300 (fun j => if j = k then D 299 (D 297 c).toNat else g j)) := by
  have k256 := k_256 hκ
  have hp' := hp.setc (r := 300) (by decide) g
  rw [q_225_5]
  simp (disch := omega) only [cond_true, cond_false, Bool.and_true, Bool.true_and, Bool.and_false, Bool.false_and, Int.toNat_natCast, Int.reduceToNat, bI_s, bJ_s, bV_s, bR_s, decide_true, decide_false, not_true_eq_false, not_false_eq_true, dT, dF, w_al, w_la, w_ab, w_sl, w_sb, w_dec, w_ml, w_lm, ol2i_n, aup_ne, aupE, aupJ, setc_self, setc_ne, k256, pr_61 hp', pr_54 hp', pr_55 hp', pr_60 hp', n_296 hκ, n_297 hκ, n_299 hκ, n_300 hκ, e1, aup_setc]
theorem tm_b (xs : List Int) (d : Nat) {κ : aK} {D : Nat → Nat → Int} (hκ : Shp κ) (hp : PtrR D) (v1 : Int) {q k c : Nat} (hq : q ≤ 840) (hc : c < q) (hk : k ≤ 400) (hk2 : 2 ≤ k) {g : Nat → Int} (e5 : D 296 c = 5) (y0 : g (k - 1) = 0) (u5 u6 u7 : Option aV) : ev xs d mm_225 5 [some (.inr (.inr 256)), some (.inl v1), some (.inl (q : Int)), some (.inl (k : Int)), some (.inl (c : Int)), u5, u6, u7] [] (κ, setc D 300 g) = some (some (.inl 0), (κ, setc (aup D 256 62 1) 300 g)) := by
  have k256 := k_256 hκ
  have hp' := hp.setc (r := 300) (by decide) g
  rw [q_225_5]
  simp (disch := omega) only [cond_true, cond_false, Bool.and_true, Bool.true_and, Bool.and_false, Bool.false_and, Int.toNat_natCast, Int.reduceToNat, bI_s, bJ_s, bV_s, bR_s, decide_true, decide_false, not_true_eq_false, not_false_eq_true, dT, dF, w_al, w_la, w_ab, w_sl, w_sb, w_dec, w_ml, w_lm, ol2i_n, aup_ne, aupE, aupJ, setc_self, setc_ne, k256, pr_61 hp', pr_54 hp', n_296 hκ, n_300 hκ, e5, y0, aup_swap]
theorem tm_s (xs : List Int) (d : Nat) {κ : aK} {D : Nat → Nat → Int} (hκ : Shp κ) (hp : PtrR D) (v1 : Int) {q k c : Nat} (hq : q ≤ 840) (hc : c < q) (hk : k ≤ 400) (hk2 : 2 ≤ k) {g : Nat → Int} (h2 : 2 ≤ D 296 c) (hz : ¬ (D 296 c = 5 ∧ g (k - 1) = 0)) (u5 u6 u7 : Option aV) : ev xs d mm_225 5 [some (.inr (.inr 256)), some (.inl v1), some (.inl (q : Int)), some (.inl (k : Int)), some (.inl (c : Int)), u5, u6, u7] [] (κ, setc D 300 g) = ev xs d mm_225 104 [some (.inr (.inr 256)), some (.inl v1), some (.inl (q : Int)), some (.inl ((k - 1 : Nat) : Int)), some (.inl (c : Int)), some (.inl (D 296 c)), some (.inl (g (k - 1 - 1))), some (.inl (g (k - 1)))] [] (κ, setc D 300 g) := by
  have k256 := k_256 hκ
  have hp' := hp.setc (r := 300) (by decide) g
  rw [q_225_5]
  by_cases e5 : D 296 c = 5
  · have y0 : ¬ g (k - 1) = 0 := fun h => hz ⟨e5, h⟩
    simp (disch := omega) only [cond_true, cond_false, Bool.and_true, Bool.true_and, Bool.and_false, Bool.false_and, Int.toNat_natCast, Int.reduceToNat, bI_s, bJ_s, bV_s, bR_s, decide_true, decide_false, not_true_eq_false, not_false_eq_true, dT, dF, w_al, w_la, w_ab, w_sl, w_sb, w_dec, w_ml, w_lm, ol2i_n, aup_ne, aupE, aupJ, setc_self, setc_ne, k256, pr_61 hp', pr_54 hp', n_296 hκ, n_300 hκ, e5]
  · simp (disch := omega) only [cond_true, cond_false, Bool.and_true, Bool.true_and, Bool.and_false, Bool.false_and, Int.toNat_natCast, Int.reduceToNat, bI_s, bJ_s, bV_s, bR_s, decide_true, decide_false, not_true_eq_false, not_false_eq_true, dT, dF, w_al, w_la, w_ab, w_sl, w_sb, w_dec, w_ml, w_lm, ol2i_n, aup_ne, aupE, aupJ, setc_self, setc_ne, k256, pr_61 hp', pr_54 hp', n_296 hκ, n_300 hκ]
theorem tm_o2 (xs : List Int) (d : Nat) {κ : aK} {D : Nat → Nat → Int} (hκ : Shp κ) (hp : PtrR D) (v1 : Int) {q k c : Nat} (hq : q ≤ 840) (hc : c < q) (hk : k ≤ 400) (hk2 : 1 ≤ k) {g : Nat → Int} {x y : Int} : ev xs d mm_225 104 [some (.inr (.inr 256)), some (.inl v1), some (.inl (q : Int)), some (.inl (k : Int)), some (.inl (c : Int)), some (.inl 2), some (.inl x), some (.inl y)] [] (κ, setc D 300 g) = ev xs d mm_225 5 [some (.inr (.inr 256)), some (.inl v1), some (.inl (q : Int)), some (.inl (k : Int)), some (.inl ((c + 1 : Nat) : Int)), some (.inl 2), some (.inl x), some (.inl y)] [] (κ, setc D 300 (fun j => if j = k - 1 then w32 (x + y) else g j)) := by
  have k256 := k_256 hκ
  have hp' := hp.setc (r := 300) (by decide) g
  rw [q_225_104]
  rw [show decide (¬ (2 : Int) = 2) = false from rfl, cond_false]
  simp (disch := omega) only [cond_true, cond_false, Bool.and_true, Bool.true_and, Bool.and_false, Bool.false_and, Int.toNat_natCast, Int.reduceToNat, bI_s, bJ_s, bV_s, bR_s, decide_true, decide_false, not_true_eq_false, not_false_eq_true, dT, dF, w_al, w_la, w_ab, w_sl, w_sb, w_dec, w_ml, w_lm, ol2i_n, aup_ne, aupE, aupJ, setc_self, setc_ne, k256, pr_61 hp', n_300 hκ, aup_setc]
theorem tm_o3 (xs : List Int) (d : Nat) {κ : aK} {D : Nat → Nat → Int} (hκ : Shp κ) (hp : PtrR D) (v1 : Int) {q k c : Nat} (hq : q ≤ 840) (hc : c < q) (hk : k ≤ 400) (hk2 : 1 ≤ k) {g : Nat → Int} {x y : Int} : ev xs d mm_225 104 [some (.inr (.inr 256)), some (.inl v1), some (.inl (q : Int)), some (.inl (k : Int)), some (.inl (c : Int)), some (.inl 3), some (.inl x), some (.inl y)] [] (κ, setc D 300 g) = ev xs d mm_225 5 [some (.inr (.inr 256)), some (.inl v1), some (.inl (q : Int)), some (.inl (k : Int)), some (.inl ((c + 1 : Nat) : Int)), some (.inl 3), some (.inl x), some (.inl y)] [] (κ, setc D 300 (fun j => if j = k - 1 then w32 (x - y) else g j)) := by
  have k256 := k_256 hκ
  have hp' := hp.setc (r := 300) (by decide) g
  rw [q_225_104]
  rw [show decide (¬ (3 : Int) = 2) = true from rfl, cond_true, show decide (¬ (3 : Int) = 3) = false from rfl, cond_false]
  simp (disch := omega) only [cond_true, cond_false, Bool.and_true, Bool.true_and, Bool.and_false, Bool.false_and, Int.toNat_natCast, Int.reduceToNat, bI_s, bJ_s, bV_s, bR_s, decide_true, decide_false, not_true_eq_false, not_false_eq_true, dT, dF, w_al, w_la, w_ab, w_sl, w_sb, w_dec, w_ml, w_lm, ol2i_n, aup_ne, aupE, aupJ, setc_self, setc_ne, k256, pr_61 hp', n_300 hκ, aup_setc]
theorem tm_o4 (xs : List Int) (d : Nat) {κ : aK} {D : Nat → Nat → Int} (hκ : Shp κ) (hp : PtrR D) (v1 : Int) {q k c : Nat} (hq : q ≤ 840) (hc : c < q) (hk : k ≤ 400) (hk2 : 1 ≤ k) {g : Nat → Int} {x y : Int} : ev xs d mm_225 104 [some (.inr (.inr 256)), some (.inl v1), some (.inl (q : Int)), some (.inl (k : Int)), some (.inl (c : Int)), some (.inl 4), some (.inl x), some (.inl y)] [] (κ, setc D 300 g) = ev xs d mm_225 5 [some (.inr (.inr 256)), some (.inl v1), some (.inl (q : Int)), some (.inl (k : Int)), some (.inl ((c + 1 : Nat) : Int)), some (.inl 4), some (.inl x), some (.inl y)] [] (κ, setc D 300 (fun j => if j = k - 1 then w32 (x * y) else g j)) := by
  have k256 := k_256 hκ
  have hp' := hp.setc (r := 300) (by decide) g
  rw [q_225_104]
  simp (disch := omega) only [cond_true, cond_false, Bool.and_true, Bool.true_and, Bool.and_false, Bool.false_and, Int.toNat_natCast, Int.reduceToNat, bI_s, bJ_s, bV_s, bR_s, decide_true, decide_false, not_true_eq_false, not_false_eq_true, dT, dF, w_al, w_la, w_ab, w_sl, w_sb, w_dec, w_ml, w_lm, ol2i_n, aup_ne, aupE, aupJ, setc_self, setc_ne, k256, pr_61 hp', n_300 hκ, aup_setc]
theorem tm_o5 (xs : List Int) (d : Nat) {κ : aK} {D : Nat → Nat → Int} (hκ : Shp κ) (hp : PtrR D) (v1 : Int) {q k c : Nat} (hq : q ≤ 840) (hc : c < q) (hk : k ≤ 400) (hk2 : 1 ≤ k) {g : Nat → Int} {x y : Int} (y0 : ¬ y = 0) : ev xs d mm_225 104 [some (.inr (.inr 256)), some (.inl v1), some (.inl (q : Int)), some (.inl (k : Int)), some (.inl (c : Int)), some (.inl 5), some (.inl x), some (.inl y)] [] (κ, setc D 300 g) = ev xs d mm_225 5 [some (.inr (.inr 256)), some (.inl v1), some (.inl (q : Int)), some (.inl (k : Int)), some (.inl ((c + 1 : Nat) : Int)), some (.inl 5), some (.inl x), some (.inl y)] [] (κ, setc D 300 (fun j => if j = k - 1 then odiv x y else g j)) := by
  have k256 := k_256 hκ
  have hp' := hp.setc (r := 300) (by decide) g
  rw [q_225_104]
  simp (disch := omega) only [cond_true, cond_false, Bool.and_true, Bool.true_and, Bool.and_false, Bool.false_and, Int.toNat_natCast, Int.reduceToNat, bI_s, bJ_s, bV_s, bR_s, decide_true, decide_false, not_true_eq_false, not_false_eq_true, dT, dF, w_al, w_la, w_ab, w_sl, w_sb, w_dec, w_ml, w_lm, ol2i_n, aup_ne, aupE, aupJ, setc_self, setc_ne, k256, pr_61 hp', n_300 hκ, aup_setc]
theorem tm_o (xs : List Int) (d : Nat) {κ : aK} {D : Nat → Nat → Int} (hκ : Shp κ) (hp : PtrR D) (v1 : Int) {q k c : Nat} (hq : q ≤ 840) (hc : c < q) (hk : k ≤ 400) (hk2 : 1 ≤ k) {g : Nat → Int} {e x y z : Int} (h2 : 2 ≤ e) (h5 : e ≤ 5) (hb : bop (opk e) x y = some z) : ev xs d mm_225 104 [some (.inr (.inr 256)), some (.inl v1), some (.inl (q : Int)), some (.inl (k : Int)), some (.inl (c : Int)), some (.inl e), some (.inl x), some (.inl y)] [] (κ, setc D 300 g) = ev xs d mm_225 5 [some (.inr (.inr 256)), some (.inl v1), some (.inl (q : Int)), some (.inl (k : Int)), some (.inl ((c + 1 : Nat) : Int)), some (.inl e), some (.inl x), some (.inl y)] [] (κ, setc D 300 (fun j => if j = k - 1 then z else g j)) := by
  rcases (show e = 2 ∨ e = 3 ∨ e = 4 ∨ e = 5 by omega) with h | h | h | h
  · rw [opk_2 h, bop_43] at hb
    injection hb with ez
    rw [h, ← ez]
    exact tm_o2 xs d hκ hp v1 hq hc hk hk2
  · rw [opk_3 h, bop_45] at hb
    injection hb with ez
    rw [h, ← ez]
    exact tm_o3 xs d hκ hp v1 hq hc hk hk2
  · rw [opk_4 h, bop_42] at hb
    injection hb with ez
    rw [h, ← ez]
    exact tm_o4 xs d hκ hp v1 hq hc hk hk2
  · by_cases y0 : y = 0
    · rw [opk_5 h, bop_470 y0] at hb
      cases hb
    · rw [opk_5 h, bop_47 y0] at hb
      injection hb with ez
      rw [h, ← ez]
      exact tm_o5 xs d hκ hp v1 hq hc hk hk2 y0
theorem term_loop (xs : List Int) (d : Nat) {κ : aK} {D : Nat → Nat → Int} (hκ : Shp κ) (hp : PtrR D) {V : Nat → Int} (hV : ∀ i, i < 6 → D 299 i = V i) (v1 : Int) {q : Nat} (hq : q ≤ 840) : ∀ (m c k : Nat) (st : List Int) (g : Nat → Int) (u5 u6 u7 : Option aV) (r : Option Int), c + m = q → st.length = k → k + m ≤ 400 → (∀ i, c ≤ i → i < q → 0 ≤ D 296 i ∧ D 296 i ≤ 5 ∧ (D 296 i = 1 → 0 ≤ D 297 i ∧ D 297 i < 6)) → PL g st → rpn (D 296) (D 297) V m c st = some (sg1 r) → ∃ g' : Nat → Int, ev xs d mm_225 5 [some (.inr (.inr 256)), some (.inl v1), some (.inl (q : Int)), some (.inl (k : Int)), some (.inl (c : Int)), u5, u6, u7] [] (κ, setc D 300 g) = some (some (.inl (r.getD 0)), (κ, setc (bk D r) 300 g')) := by
  intro m
  induction m with
  | zero =>
    intro c k st g u5 u6 u7 r hc hk hm hr hg he
    have hcq : c = q := by omega
    subst hcq
    have he : some (some st) = some (sg1 r) := he
    cases r with
    | none => cases he
    | some x =>
      have he : st = [x] := by injection he with e; injection e
      subst he
      have h0 : g 0 = x := hg.1
      have e := tm_end xs d hκ hp v1 (q := c) (k := k) (g := g) u5 u6 u7
      rw [h0] at e
      exact ⟨g, e⟩
  | succ m ih =>
    intro c k st g u5 u6 u7 r hc hk hm hr hg he
    obtain ⟨c1, c2, c3⟩ := hr c (Nat.le_refl _) (by omega)
    have hr' : ∀ i, c + 1 ≤ i → i < q → 0 ≤ D 296 i ∧ D 296 i ≤ 5 ∧ (D 296 i = 1 → 0 ≤ D 297 i ∧ D 297 i < 6) := fun i i1 i2 => hr i (by omega) i2
    by_cases e0 : D 296 c = 0
    · rw [rpn_0 e0] at he
      obtain ⟨g', i1⟩ := ih (c + 1) (k + 1) (D 297 c :: st) (fun j => if j = k then D 297 c else g j) (some (.inl 0)) u6 u7 r (by omega) (by show st.length + 1 = k + 1; omega) (by omega) hr' ⟨if_pos hk, hg.up (by omega)⟩ he
      exact ⟨g', (tm_0 xs d hκ hp v1 hq (by omega) (by omega) e0 u5 u6 u7).trans i1⟩
    · by_cases e1 : D 296 c = 1
      · rw [rpn_1 e0 e1] at he
        obtain ⟨b1, b2⟩ := c3 e1
        obtain ⟨g', i1⟩ := ih (c + 1) (k + 1) (V (D 297 c).toNat :: st) (fun j => if j = k then V (D 297 c).toNat else g j) (some (.inl 1)) u6 u7 r (by omega) (by show st.length + 1 = k + 1; omega) (by omega) hr' ⟨if_pos hk, hg.up (by omega)⟩ he
        have s := tm_1 xs d hκ hp v1 hq (k := k) (g := g) (c := c) (by omega) (by omega) e1 b1 b2 u5 u6 u7
        rw [hV _ (by omega)] at s
        exact ⟨g', s.trans i1⟩
      · by_cases hl : st.length < 2
        · rw [rpn_l e0 e1 hl] at he
          cases he
        · obtain ⟨y, x, s, rfl⟩ : ∃ y x s, st = y :: x :: s := by
            rcases st with _ | ⟨a, _ | ⟨b, r⟩⟩
            · exact absurd (show ([] : List Int).length < 2 by decide) hl
            · exact absurd (show [a].length < 2 from Nat.lt_succ_self 1) hl
            · exact ⟨a, b, r, rfl⟩
          have hk : s.length + 1 + 1 = k := hk
          obtain ⟨gy, gx, gs⟩ := hg
          have gy : g (s.length + 1) = y := gy
          rw [show s.length + 1 = k - 1 by omega] at gy
          rw [show s.length = k - 1 - 1 by omega] at gx
          cases hb : bop (opk (D 296 c)) x y with
          | none =>
            rw [rpn_n e0 e1 hb] at he
            cases r with
            | some x => cases he
            | none =>
              have e5 : D 296 c = 5 ∧ y = 0 := by
                rcases (show D 296 c = 2 ∨ D 296 c = 3 ∨ D 296 c = 4 ∨ D 296 c = 5 by omega) with h | h | h | h
                · rw [opk_2 h, bop_43] at hb; cases hb
                · rw [opk_3 h, bop_45] at hb; cases hb
                · rw [opk_4 h, bop_42] at hb; cases hb
                · refine ⟨h, Decidable.byContradiction fun y0 => ?_⟩
                  rw [opk_5 h, bop_47 y0] at hb; cases hb
              exact ⟨g, tm_b xs d hκ hp v1 hq (by omega) (by omega) (by omega) e5.1 (gy.trans e5.2) u5 u6 u7⟩
          | some z =>
            rw [rpn_s e0 e1 hb] at he
            obtain ⟨g', i1⟩ := ih (c + 1) (k - 1) (z :: s) (fun j => if j = k - 1 - 1 then z else g j) (some (.inl (D 296 c))) (some (.inl x)) (some (.inl y)) r (by omega) (by show s.length + 1 = k - 1; omega) (by omega) hr' ⟨if_pos (by omega), gs.up (by omega)⟩ he
            have s1 := tm_s xs d hκ hp v1 hq (k := k) (g := g) (c := c) (by omega) (by omega) (by omega) (by omega) (fun h => by
              rw [gy] at h
              rw [opk_5 h.1, bop_470 h.2] at hb
              cases hb) u5 u6 u7
            rw [gx, gy] at s1
            have s2 := tm_o xs d hκ hp v1 hq (k := k - 1) (g := g) (c := c) (by omega) (by omega) (by omega) (by omega) c2 hb
            exact ⟨g', s1.trans (s2.trans i1)⟩
theorem term_eq (xs : List Int) (d : Nat) {κ : aK} {D : Nat → Nat → Int} (hκ : Shp κ) (hp : PtrR D) {V : Nat → Int} (hV : ∀ i, i < 6 → D 299 i = V i) {p q : Nat} (hq : q ≤ 840) {f : VF} (hs : seg D p q f) (g : Nat → Int) {x y : Int} (ex : x = (p : Int)) (ey : y = (q : Int)) : ∃ g' : Nat → Int, cl xs (d + 1) 225 [.inr (.inr 256), .inl x, .inl y] (κ, setc D 300 g) = some (some (.inl ((f V).getD 0)), (κ, setc (bk D (f V)) 300 g')) := by
  obtain ⟨h1, h2, h3, h4⟩ := hs
  subst ex ey
  have e : rpn (D 296) (D 297) V (q - p) p [] = some (sg1 (f V)) := by rw [h4 V]; cases f V <;> rfl
  obtain ⟨g', i1⟩ := term_loop xs d hκ hp hV (p : Int) hq (q - p) p 0 [] g none none none (f V) (by omega) rfl (by omega) h3 trivial e
  exact ⟨g', by rw [c_225]; exact i1⟩
