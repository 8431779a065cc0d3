/-! The reference: the text of the live side, by X. -/
def wsm (P M : Nat → Nat) (i : Nat) : Nat → Nat
  | 0 => 0
  | n + 1 => wsm P M i n + (if P n = i then M n else 0)
def TxV (D : Nat → Nat → Int) (v : Nat) (X : TX) : Prop :=
  (stAll D v (xns X) (xF X) (xT X) ∧ ∀ s, s < xns X → (∀ a, a ≤ 26 → rA D (7 * v + s) a = xA X s a) ∧ (∀ a, a ≤ 26 → rB D (7 * v + s) a = xB X s a)) ∧
  (D 277 v = (xnw X : Int) ∧ ∀ w, w < xnw X → D 278 (10 * v + w) = (p27 (xWd X w) : Int)) ∧
  (∀ s, s < 3 → D 274 (3 * v + s) = (xnp X s : Int) ∧ ∀ k, k < xnp X s → D 275 (24 * v + 8 * s + k) = (p27 (xPN X (8 * s + k)) : Int) ∧ D 276 (24 * v + 8 * s + k) = (xPT X (8 * s + k) : Int)) ∧
  (D 279 v = (xpr X : Int) ∧ ∀ p, p < xpr X → D 280 (8 * v + p) = (p27 (xPI X p) : Int) ∧ D 281 (8 * v + p) = (p27 (xPO X p) : Int) ∧ D 282 (8 * v + p) = (p27 (xPX X p) : Int)) ∧
  (D 283 v = (xnl X : Int) ∧ ∀ l, l < xnl X → D 284 (5 * v + l) = (xpay X l : Int) ∧ ∃ (n : Nat) (P M : Nat → Nat), n ≤ 4 ∧ D 285 (5 * v + l) = (n : Int) ∧ (∀ i, i < n → D 286 (4 * (5 * v + l) + i) = (P i : Int) ∧ P i < 24 ∧ D 287 (4 * (5 * v + l) + i) = (M i : Int) ∧ M i ≤ 99) ∧ ∀ i, i < 24 → xwant X l i = wsm P M i n) ∧
  D 288 v = (xseed X : Int) ∧ D 264 v = (xnc X : Int)
def RI (D : Nat → Nat → Int) (v : Nat) (X : TX) : Prop := PtrR D ∧ D 256 18 = (v : Int) ∧ v < 2 ∧ D 303 0 = 0 ∧ TxV D v X
theorem isbR_congr {D D' : Nat → Nat → Int} (h1 : D' 256 18 = D 256 18) (h2 : D' 266 = D 266) (sort of a : Int) : isbR D' sort of a = isbR D sort of a := by
  unfold isbR
  rw [h1, h2]
theorem TxV.congr {D D' : Nat → Nat → Int} {v : Nat} {X : TX} (h : TxV D v X) (hd : ∀ q, 264 ≤ q → q ≤ 288 → D' q = D q) (h1 : D' 256 18 = D 256 18) : TxV D' v X := by
  have hi := isbR_congr h1 (hd 266 (by omega) (by omega))
  unfold TxV stAll stOK rA rB at h ⊢
  simp only [hi, hd 264 (by omega) (by omega), hd 267 (by omega) (by omega), hd 268 (by omega) (by omega), hd 269 (by omega) (by omega), hd 270 (by omega) (by omega), hd 271 (by omega) (by omega), hd 272 (by omega) (by omega), hd 273 (by omega) (by omega), hd 274 (by omega) (by omega), hd 275 (by omega) (by omega), hd 276 (by omega) (by omega), hd 277 (by omega) (by omega), hd 278 (by omega) (by omega), hd 279 (by omega) (by omega), hd 280 (by omega) (by omega), hd 281 (by omega) (by omega), hd 282 (by omega) (by omega), hd 283 (by omega) (by omega), hd 284 (by omega) (by omega), hd 285 (by omega) (by omega), hd 286 (by omega) (by omega), hd 287 (by omega) (by omega), hd 288 (by omega) (by omega)]
  exact h
theorem scr_mid {q : Nat} (h1 : 264 ≤ q) (h2 : q ≤ 288) : q ∉ scr := by
  intro h
  unfold scr at h
  simp only [List.mem_cons, List.not_mem_nil, or_false] at h
  omega
theorem RI.same {D D' : Nat → Nat → Int} {v : Nat} {X : TX} (h : RI D v X) (hs : RSame D D') : RI D' v X := by
  obtain ⟨hp, hv, hv2, h0, hT⟩ := h
  have e := hs.2.1 18 (by decide)
  exact ⟨hs.ptr hp, e.trans hv, hv2, hs.2.2, hT.congr (fun q a b => hs.1 q (by omega) (scr_mid a b)) e⟩
theorem RSame.cell {D : Nat → Nat → Int} (h0 : D 303 0 = 0) {r : Nat} (hr : r ∈ scr) (h3 : r ≠ 303) (f : Nat → Int) : RSame D (setc D r f) := by
  refine ⟨fun q h1 h2 => setc_ne (fun e => h2 (e ▸ hr)), fun j _ => ?_, ?_⟩
  · rw [setc_ne]
    intro e
    rw [← e] at hr
    revert hr
    decide
  · rw [setc_ne (Ne.symm h3)]
    exact h0
theorem RSame.s303 (D : Nat → Nat → Int) {g : Nat → Int} (hg : g 0 = 0) : RSame D (setc D 303 g) := by
  refine ⟨fun q h1 h2 => setc_ne (fun e => h2 (by rw [e]; decide)), fun j _ => by rw [setc_ne (by decide)], by rw [setc_self]; exact hg⟩
theorem RSame.upf {D : Nat → Nat → Int} (h0 : D 303 0 = 0) {j : Nat} (hj : j ∈ scf) (x : Int) : RSame D (aup D 256 j x) := by
  refine ⟨fun q h1 h2 => aupN h1, fun i hi => ?_, ?_⟩
  · exact aupJ (fun e => hi (e ▸ hj))
  · rw [aupN (by decide)]; exact h0
theorem RI.s303 {D : Nat → Nat → Int} {v : Nat} {X : TX} (h : RI D v X) {g : Nat → Int} (hg : g 0 = 0) : RI (setc D 303 g) v X := h.same (RSame.s303 D hg)
theorem RI.s302 {D : Nat → Nat → Int} {v : Nat} {X : TX} (h : RI D v X) (g : Nat → Int) : RI (setc D 302 g) v X := h.same (RSame.cell h.2.2.2.1 (by decide) (by decide) g)
theorem rby_congr {tk tk' : Nat → List Nat → List Nat} {ord : Nat → Nat} {set ns : Nat} (htk : ∀ s, s < ns → ∀ l, wv l → wv (tk s l) ∧ (tk s l).length ≤ l.length) (he : ∀ s, s < ns → ∀ l, wv l → tk s l = tk' s l) (ho : ∀ k, k < ns → ord k < ns) : ∀ (m k c : Nat) (w : List Nat), k + m = ns → wv w → rby tk ord set m k c w = rby tk' ord set m k c w
  | 0, _, _, w, _, hw => rfl
  | m + 1, k, 0, w, _, hw => rfl
  | m + 1, k, c + 1, w, hk, hw => by
    unfold rby
    split
    · exact rby_congr htk he ho m (k + 1) (c + 1) w (by omega) hw
    · rw [← he (ord k) (ho k (by omega)) w hw]
      exact rby_congr htk he ho m (k + 1) c _ (by omega) (htk (ord k) (ho k (by omega)) w hw).1
theorem tkR_X {D : Nat → Nat → Int} {v : Nat} {X : TX} (hT : TxV D v X) {s : Nat} (hs : s < xns X) {l : List Nat} (hl : wv l) : tkR D v (xF X) (xT X) s l = tkX X s l := by
  obtain ⟨hA, hB⟩ := hT.1.2 s hs
  exact stk_congr hA hB 0 l (by omega) hl
theorem takenX (xs : List Int) (d : Nat) {κ : aK} {D : Nat → Nat → Int} (hκ : Shp κ) {v : Nat} {X : TX} (hX : TXok X) (hR : RI D v X) {g : Nat → Int} (hg : g 0 = 0) {s : Nat} (hs : s < xns X) {l : List Nat} (hl : wok l) : ∃ g' : Nat → Int, g' 0 = 0 ∧ cl xs (d + 2) 239 [.inr (.inr 256), .inl (s : Int), .inr (.inl (p27 l : Int))] (κ, setc D 303 g) = some (some (.inr (.inl (p27 (tkX X s l) : Int))), (κ, setc D 303 g')) := by
  have hn := hX.1.1
  obtain ⟨hp, hv, hv2, h0, hT⟩ := hR.s303 hg
  obtain ⟨g', hg', e⟩ := takenBy_eq xs d hκ hp hv hv2 hl.2 hl.1 h0 (s := s) (by omega) (hT.1.1.2.2 s hs)
  refine ⟨g', hg', ?_⟩
  rw [e, setc_setc, ← tkR_X hT hs hl.1]
  rfl
def ordX (D : Nat → Nat → Int) (X : TX) (ord : Nat → Nat) : Prop := ∀ k, k < xns X → D 302 (45 + k) = (ord k : Int) ∧ ord k < xns X
theorem runByX (xs : List Int) (d : Nat) {κ : aK} {D : Nat → Nat → Int} (hκ : Shp κ) {v : Nat} {X : TX} (hX : TXok X) (hR : RI D v X) {ord : Nat → Nat} (ho : ordX D X ord) {g : Nat → Int} (hg : g 0 = 0) {set most : Nat} (hset : set < 2147483648) (hm : most ≤ 100) {l : List Nat} (hl : wok l) : ∃ g' : Nat → Int, g' 0 = 0 ∧ cl xs (d + 3) 240 [.inr (.inr 256), .inr (.inl (p27 l : Int)), .inl (set : Int), .inl (most : Int)] (κ, setc D 303 g) = some (some (.inr (.inl (p27 (rbX X ord set most l) : Int))), (κ, setc D 303 g')) := by
  obtain ⟨hp, hv, hv2, h0, hT⟩ := hR.s303 hg
  obtain ⟨g', hg', e⟩ := runBy_eq xs d hκ hp hv hv2 hT.1.1 (ord := ord) (fun k hk => by rw [setc_ne (by decide)]; exact ho k hk) hset hm hl.1 hl.2 h0
  refine ⟨g', hg', ?_⟩
  rw [e, setc_setc, rby_congr (tkR_all hT.1.1) (fun s hs l hw => tkR_X hT hs hw) (fun k hk => (ho k hk).2) (xns X) 0 most l (by omega) hl.1]
theorem RowR.cpn {f g : Nat → Int} {X : TX} {S : ST} (hX : TXok X) (h : RowR f X S) : RowR (cpn 60 f g) X S := by
  have h1 := hX.2.1.1
  have h2 := hX.1.1
  obtain ⟨a1, a2, a3, a4, a5, a6, a7, a8, a9, a10⟩ := h
  refine ⟨fun w hw => ?_, fun w hw => ?_, fun i hi => ?_, ?_, fun k hk => ?_, ?_, ?_, ?_, ?_, ?_⟩
  all_goals rw [cpn_at (by omega)]
  · exact a1 w hw
  · exact a2 w hw
  · exact a3 i hi
  · exact a4
  · exact a5 k hk
  · exact a6
  · exact a7
  · exact a8
  · exact a9
  · exact a10
theorem RowR.ord {D : Nat → Nat → Int} {X : TX} {S : ST} (h : RowR (D 302) X S) (hS : STok X S) : ordX D X (sord S) := fun k hk => ⟨h.2.2.2.2.1 k hk, hS.2.1 k hk⟩
theorem RowR.s303 {D : Nat → Nat → Int} {X : TX} {S : ST} (h : RowR (D 302) X S) (g : Nat → Int) : RowR (setc D 303 g 302) X S := by rw [setc_ne (by decide)]; exact h
/-- the row is made ready -/
abbrev cpD (D : Nat → Nat → Int) : Nat → Nat → Int := setc D 302 (cpn 60 (D 301) (D 302))
theorem copiesX (xs : List Int) (d : Nat) {κ : aK} {D : Nat → Nat → Int} (hκ : Shp κ) {v : Nat} {X : TX} (hR : RI D v X) : cl xs (d + 1) 229 [.inr (.inr 256)] (κ, D) = some (none, (κ, setc (cpD D) 303 (D 303))) := by
  rw [copies_eq xs d hκ hR.1, show setc (cpD D) 303 (D 303) = cpD D from ?_]
  rw [show D 303 = cpD D 303 from (setc_ne (by decide)).symm, setc_id]
theorem RSame.q {D : Nat → Nat → Int} {g : Nat → Int} (hg : g 0 = 0) : RSame D (setc (cpD D) 303 g) := RSame.row hg
theorem isWordX (xs : List Int) (d : Nat) {κ : aK} {D : Nat → Nat → Int} (hκ : Shp κ) {v : Nat} {X : TX} (hX : TXok X) (hR : RI D v X) {g : Nat → Int} (w : Int) : cl xs (d + 2) 230 [.inr (.inr 256), .inl w] (κ, setc D 303 g) = some (some (.inl (if 0 ≤ w ∧ w < (xnw X : Int) then 1 else 0)), (κ, setc D 303 g)) := by
  rw [isWord_eq xs d hκ (hR.1.setc (by decide) g) (v := v) (n := xnw X) (by rw [setc_ne (by decide)]; exact hR.2.1) hR.2.2.1 (by rw [setc_ne (by decide)]; exact hR.2.2.2.2.2.1.1) hX.2.1.1]
  by_cases h : 0 ≤ w ∧ w < (xnw X : Int)
  · rw [if_pos h, if_pos (by omega)]
  · rw [if_neg h, if_neg (by omega)]
theorem isStoneX (xs : List Int) (d : Nat) {κ : aK} {D : Nat → Nat → Int} (hκ : Shp κ) {v : Nat} {X : TX} (hX : TXok X) (hR : RI D v X) {g : Nat → Int} (w : Int) : cl xs (d + 2) 231 [.inr (.inr 256), .inl w] (κ, setc D 303 g) = some (some (.inl (if 0 ≤ w ∧ w < (xns X : Int) then 1 else 0)), (κ, setc D 303 g)) := by
  rw [isStone_eq xs d hκ (hR.1.setc (by decide) g) (v := v) (n := xns X) (by rw [setc_ne (by decide)]; exact hR.2.1) hR.2.2.1 (by rw [setc_ne (by decide)]; exact hR.2.2.2.2.1.1.1) hX.1.1]
  by_cases h : 0 ≤ w ∧ w < (xns X : Int)
  · rw [if_pos h, if_pos (by omega)]
  · rw [if_neg h, if_neg (by omega)]
