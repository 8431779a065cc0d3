/-! A text and a state, by themselves. -/
abbrev TX : Type := (Nat × (Nat → Nat) × (Nat → Nat) × (Nat → Nat → Bool) × (Nat → Nat → Bool)) × (Nat × (Nat → List Nat)) × ((Nat → Nat) × (Nat → List Nat) × (Nat → Nat)) × (Nat × (Nat → List Nat) × (Nat → List Nat) × (Nat → List Nat)) × (Nat × (Nat → Nat) × (Nat → Nat → Nat)) × ((Nat → Int) → Int) × Nat × Nat
def xns (X : TX) : Nat := X.1.1
def xF (X : TX) : Nat → Nat := X.1.2.1
def xT (X : TX) : Nat → Nat := X.1.2.2.1
def xA (X : TX) : Nat → Nat → Bool := X.1.2.2.2.1
def xB (X : TX) : Nat → Nat → Bool := X.1.2.2.2.2
def xnw (X : TX) : Nat := X.2.1.1
def xWd (X : TX) : Nat → List Nat := X.2.1.2
def xnp (X : TX) : Nat → Nat := X.2.2.1.1
def xPN (X : TX) : Nat → List Nat := X.2.2.1.2.1
def xPT (X : TX) : Nat → Nat := X.2.2.1.2.2
def xpr (X : TX) : Nat := X.2.2.2.1.1
def xPI (X : TX) : Nat → List Nat := X.2.2.2.1.2.1
def xPO (X : TX) : Nat → List Nat := X.2.2.2.1.2.2.1
def xPX (X : TX) : Nat → List Nat := X.2.2.2.1.2.2.2
def xnl (X : TX) : Nat := X.2.2.2.2.1.1
def xpay (X : TX) : Nat → Nat := X.2.2.2.2.1.2.1
def xwant (X : TX) : Nat → Nat → Nat := X.2.2.2.2.1.2.2
def xlaw (X : TX) : (Nat → Int) → Int := X.2.2.2.2.2.1
def xseed (X : TX) : Nat := X.2.2.2.2.2.2.1
def xnc (X : TX) : Nat := X.2.2.2.2.2.2.2
abbrev ST : Type := Nat × (Nat → Nat) × (Nat → List Nat) × (Nat → Nat) × (Nat → Nat) × Nat × Int × Int × Int
def son (S : ST) : Nat := S.1
def sord (S : ST) : Nat → Nat := S.2.1
def sW (S : ST) : Nat → List Nat := S.2.2.1
def sFt (S : ST) : Nat → Nat := S.2.2.2.1
def sStk (S : ST) : Nat → Nat := S.2.2.2.2.1
def sSold (S : ST) : Nat := S.2.2.2.2.2.1
def sCent (S : ST) : Int := S.2.2.2.2.2.2.1
def sCoin (S : ST) : Int := S.2.2.2.2.2.2.2.1
def sDust (S : ST) : Int := S.2.2.2.2.2.2.2.2
def wok (l : List Nat) : Prop := wv l ∧ l.length ≤ 8
def mostO (sort : Nat) : Nat := if sort = 0 then 8 else if sort = 1 then 6 else 4
def TXok (X : TX) : Prop :=
  (xns X ≤ 7 ∧ ∀ s, s < xns X → 1 ≤ xF X s ∧ xF X s ≤ 26 ∧ xT X s ≤ 26) ∧
  (xnw X ≤ 10 ∧ ∀ w, w < xnw X → wok (xWd X w)) ∧
  (∀ s, s < 3 → xnp X s ≤ mostO s ∧ ∀ k, k < xnp X s → wok (xPN X (8 * s + k)) ∧ 1 ≤ (xPN X (8 * s + k)).length ∧ 1 ≤ xPT X (8 * s + k) ∧ xPT X (8 * s + k) ≤ 9 ∧ ∀ j, j < k → xPN X (8 * s + j) ≠ xPN X (8 * s + k)) ∧
  (xpr X ≤ 8 ∧ ∀ p, p < xpr X → wok (xPI X p) ∧ wok (xPO X p) ∧ wok (xPX X p)) ∧
  (xnl X ≤ 5 ∧ ∀ l, l < xnl X → xpay X l ≤ 999 ∧ ∀ i, i < 24 → xwant X l i ≤ 99) ∧
  xseed X ≤ 9999 ∧ xnc X ≤ 6
/-- how many of the first n words have this fate -/
def cntF (Ft : Nat → Nat) (f : Nat) : Nat → Nat
  | 0 => 0
  | n + 1 => cntF Ft f n + (if Ft n = f then 1 else 0)
theorem cntF_le (Ft : Nat → Nat) (f : Nat) : ∀ n, cntF Ft f n ≤ n
  | 0 => Nat.le_refl _
  | n + 1 => by
    have := cntF_le Ft f n
    unfold cntF
    split <;> omega
def STok (X : TX) (S : ST) : Prop :=
  son S < 2 ^ xns X ∧
  (∀ k, k < xns X → sord S k < xns X) ∧ (∀ j k, j < xns X → k < xns X → sord S j = sord S k → j = k) ∧
  (∀ w, w < xnw X → wok (sW S w) ∧ sFt S w ≤ 2) ∧
  (∀ i, i < 24 → sStk S i ≤ 2 * cntF (sFt S) 1 (xnw X)) ∧
  sSold S < 2 ^ xnl X ∧ w32 (sCent S) = sCent S ∧ w32 (sCoin S) = sCoin S ∧ w32 (sDust S) = sDust S ∧ (∀ s, s < 3 → ∀ k, k < 8 → xnp X s ≤ k → sStk S (8 * s + k) = 0)
/-- the class's State -/
def StC (D : Nat → Nat → Int) (c : Nat) (X : TX) (S : ST) : Prop :=
  D c 0 = (son S : Int) ∧ (∀ k, k < xns X → D (c + 1) k = (sord S k : Int)) ∧ (∀ w, w < xnw X → D (c + 2) w = (p32 (sW S w) : Int)) ∧ (∀ w, w < xnw X → D (c + 3) w = (sFt S w : Int)) ∧ (∀ i, i < 24 → D (c + 4) i = (sStk S i : Int)) ∧
  D c 5 = sCoin S ∧ D c 6 = sDust S ∧ D c 7 = sCent S ∧ D c 8 = (sSold S : Int)
/-- the reference's row -/
def RowR (f : Nat → Int) (X : TX) (S : ST) : Prop :=
  (∀ w, w < xnw X → f w = (p27 (sW S w) : Int)) ∧ (∀ w, w < xnw X → f (10 + w) = (sFt S w : Int)) ∧ (∀ i, i < 24 → f (20 + i) = (sStk S i : Int)) ∧ f 44 = (sSold S : Int) ∧ (∀ k, k < xns X → f (45 + k) = (sord S k : Int)) ∧ f 52 = (son S : Int) ∧
  w32 (f 53) = sCent S ∧ w32 (f 54) = sCoin S ∧ w32 (f 55) = sDust S ∧ f 56 = (cntF (sFt S) 1 (xnw X) : Int)
def tkX (X : TX) (s : Nat) (l : List Nat) : List Nat := stk (xF X s) (xT X s) (xA X s) (xB X s) 0 l
/-- the class's Text, but for its law -/
def TxC (D : Nat → Nat → Int) (t : Nat) (X : TX) : Prop :=
  (D (t + 3) 0 = (xns X : Int) ∧ ∀ s, s < xns X → D (t + 4) s = (xF X s : Int) ∧ D (t + 5) s = (xT X s : Int) ∧ (∀ a, a ≤ 26 → mbit (D (t + 6) s) a = xA X s a) ∧ (∀ a, a ≤ 26 → mbit (D (t + 7) s) a = xB X s a)) ∧
  (D t 5 = (xnw X : Int) ∧ ∀ w, w < xnw X → D (t + 12) w = (p32 (xWd X w) : Int)) ∧
  (∀ s, s < 3 → D (t + 9) s = (xnp X s : Int) ∧ ∀ k, k < xnp X s → D (t + 10) (8 * s + k) = (p32 (xPN X (8 * s + k)) : Int) ∧ D (t + 11) (8 * s + k) = (xPT X (8 * s + k) : Int)) ∧
  (D t 7 = (xpr X : Int) ∧ ∀ p, p < xpr X → D (t + 13) p = (p32 (xPI X p) : Int) ∧ D (t + 14) p = (p32 (xPO X p) : Int) ∧ D (t + 15) p = (p32 (xPX X p) : Int)) ∧
  (D t 11 = (xnl X : Int) ∧ ∀ l, l < xnl X → D (t + 16) l = (xpay X l : Int) ∧ ∀ i, i < 24 → D (t + 17) (24 * l + i) = (xwant X l i : Int)) ∧
  D t 15 = (xseed X : Int) ∧ D t 0 = (xnc X : Int)
theorem TxC.congr {D D' : Nat → Nat → Int} {t : Nat} {X : TX} (h : TxC D t X) (hd : ∀ q, t ≤ q → q < t + 18 → D' q = D q) : TxC D' t X := by
  unfold TxC at h ⊢
  rw [hd t (by omega) (by omega), hd (t + 3) (by omega) (by omega), hd (t + 4) (by omega) (by omega), hd (t + 5) (by omega) (by omega), hd (t + 6) (by omega) (by omega), hd (t + 7) (by omega) (by omega), hd (t + 9) (by omega) (by omega), hd (t + 10) (by omega) (by omega), hd (t + 11) (by omega) (by omega), hd (t + 12) (by omega) (by omega), hd (t + 13) (by omega) (by omega), hd (t + 14) (by omega) (by omega), hd (t + 15) (by omega) (by omega), hd (t + 16) (by omega) (by omega), hd (t + 17) (by omega) (by omega)]
  exact h
theorem StC.congr {D D' : Nat → Nat → Int} {c : Nat} {X : TX} {S : ST} (h : StC D c X S) (hd : ∀ q, c ≤ q → q < c + 5 → D' q = D q) : StC D' c X S := by
  unfold StC at h ⊢
  rw [hd c (by omega) (by omega), hd (c + 1) (by omega) (by omega), hd (c + 2) (by omega) (by omega), hd (c + 3) (by omega) (by omega), hd (c + 4) (by omega) (by omega)]
  exact h
theorem stk_congr {f t : Nat} {A B A' B' : Nat → Bool} (hA : ∀ a, a ≤ 26 → A a = A' a) (hB : ∀ a, a ≤ 26 → B a = B' a) : ∀ (p : Nat) (l : List Nat), p ≤ 26 → wv l → stk f t A B p l = stk f t A' B' p l
  | _, [], _, _ => rfl
  | p, c :: r, hp, hw => by
    have hc := hw c List.mem_cons_self
    have hr : r.headD 0 ≤ 26 := by
      cases r with
      | nil => exact Nat.zero_le _
      | cons b r' => exact (hw b (by simp)).2
    have e : chs f t A B p c (r.headD 0) = chs f t A' B' p c (r.headD 0) := by unfold chs; rw [hA p hp, hB _ hr]
    unfold stk
    rw [e, stk_congr hA hB c r hc.2 (fun x hx => hw x (List.mem_cons_of_mem _ hx))]
theorem tkX_wok {X : TX} (hX : TXok X) {s : Nat} (hs : s < xns X) {l : List Nat} (h : wok l) : wok (tkX X s l) := by
  have := stk_wv (f := xF X s) (A := xA X s) (B := xB X s) (hX.1.2 s hs).2.2 0 l h.1
  exact ⟨this.1, Nat.le_trans this.2 h.2⟩
theorem tkX_wv {X : TX} (hX : TXok X) : ∀ s, s < xns X → ∀ l, wv l → wv (tkX X s l) ∧ (tkX X s l).length ≤ l.length := fun s hs l h => stk_wv (hX.1.2 s hs).2.2 0 l h
abbrev rbX (X : TX) (ord : Nat → Nat) (set most : Nat) (w : List Nat) : List Nat := rby (tkX X) ord set (xns X) 0 most w
theorem rbX_wok {X : TX} (hX : TXok X) {ord : Nat → Nat} (ho : ∀ k, k < xns X → ord k < xns X) (set most : Nat) {w : List Nat} (hw : wok w) : wok (rbX X ord set most w) := by
  have := rby_wv (set := set) (tkX_wv hX) ho (xns X) 0 most w (by omega) hw.1
  exact ⟨this.1, Nat.le_trans this.2 hw.2⟩
theorem obitu {a s : Nat} (ha : a < 2147483648) (hs : s < 32) : oand (oushr (a : Int) (s : Int)) 1 = ((a / 2 ^ s % 2 : Nat) : Int) := by
  have h1 : a / 2 ^ s < 2147483648 := Nat.lt_of_le_of_lt (Nat.div_le_self _ _) ha
  rw [oushr_nat hs ha, show (1 : Int) = ((1 : Nat) : Int) from rfl, oand_nat h1 (by decide), Nat.and_one_is_mod]
theorem p27_inj : ∀ {l r : List Nat}, wv l → wv r → p27 l = p27 r → l = r := by
  intro l
  induction h : l.length generalizing l with
  | zero =>
    intro r hl hr e
    have : l = [] := List.length_eq_zero_iff.mp h
    subst this
    exact (p27_zero hr e.symm).symm
  | succ n ih =>
    intro r hl hr e
    obtain ⟨l', a, rfl⟩ := list_snoc (l := l) (fun q => by rw [q] at h; cases h)
    have hre : r ≠ [] := fun q => by
      subst q
      have := p27_zero hl e
      simp at this
    obtain ⟨r', b, rfl⟩ := list_snoc hre
    rw [p27_snoc, p27_snoc] at e
    have ha := hl a (by simp)
    have hb := hr b (by simp)
    have e1 : a = b := by omega
    subst e1
    rw [ih (l := l') (r := r') (by simpa using h) (fun x hx => hl x (by simp [hx])) (fun x hx => hr x (by simp [hx])) (by omega)]
theorem p32_inj : ∀ {l r : List Nat}, wv l → wv r → p32 l = p32 r → l = r
  | [], r, _, hr, e => (p32_zero hr e.symm).symm
  | a :: l, [], hl, _, e => p32_zero hl e
  | a :: l, b :: r, hl, hr, e => by
    have ha := hl a List.mem_cons_self
    have hb := hr b List.mem_cons_self
    have e' : a + 32 * p32 l = b + 32 * p32 r := e
    have e1 : a = b := by omega
    subst e1
    rw [p32_inj (fun x hx => hl x (List.mem_cons_of_mem _ hx)) (fun x hx => hr x (List.mem_cons_of_mem _ hx)) (show p32 l = p32 r by omega)]
