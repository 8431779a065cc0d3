/-! The reference reads: what the live side keeps; a state at its beginning. -/
def SdE (D E : Nat → Nat → Int) (v : Nat) : Prop := ∀ q, 264 ≤ q → q ≤ 297 → ∀ j, j / strd q = v → E q j = D q j
theorem isbR_sd {D E : Nat → Nat → Int} {v : Nat} (h : SdE D E v) (e18 : E 256 18 = D 256 18) (hv : D 256 18 = (v : Int)) {sort cl : Int} (hb : ¬ sort = 0 → ¬ sort = 3 → ¬ sort = 1 → 0 ≤ cl ∧ cl < 6) (a : Int) : isbR E sort cl a = isbR D sort cl a := by
  unfold isbR
  rw [e18, hv]
  by_cases h0 : sort = 0
  · rw [if_pos h0, if_pos h0]
  · rw [if_neg h0, if_neg h0]
    by_cases h3 : sort = 3
    · rw [if_pos h3, if_pos h3]
    · rw [if_neg h3, if_neg h3]
      by_cases h1 : sort = 1
      · rw [if_pos h1, if_pos h1]
      · obtain ⟨b1, b2⟩ := hb h0 h3 h1
        rw [if_neg h1, if_neg h1, h 266 (by decide) (by decide) _ (show (6 * (v : Int) + cl).toNat / 6 = v by omega)]
theorem TxV.sd {D E : Nat → Nat → Int} {v : Nat} {X : TX} (hX : TXok X) (h : TxV D v X) (hs : SdE D E v) (e18 : E 256 18 = D 256 18) (hv : D 256 18 = (v : Int)) : TxV E v X := by
  obtain ⟨⟨⟨a1, a2, a3⟩, a4⟩, ⟨b1, b2⟩, c1, ⟨d1, d2⟩, ⟨f1, f2⟩, g1, g2⟩ := h
  have x1 := hX.2.1.1
  have x3 := fun s hs => (hX.2.2.1 s hs).1
  have x4 := hX.2.2.2.1.1
  have x5 := hX.2.2.2.2.1.1
  have e7 : ∀ q, 268 ≤ q → q ≤ 273 → ∀ s, s < 7 → E q (7 * v + s) = D q (7 * v + s) := fun q q1 q2 s hs7 => hs q (by omega) (by omega) _ (by
    have : strd q = 7 := by
      rcases (show q = 268 ∨ q = 269 ∨ q = 270 ∨ q = 271 ∨ q = 272 ∨ q = 273 by omega) with e | e | e | e | e | e <;> (rw [e]; rfl)
    rw [this]; omega)
  refine ⟨⟨⟨?_, a2, fun s hs' => ?_⟩, fun s hs' => ⟨fun a ha => ?_, fun a ha => ?_⟩⟩, ⟨?_, fun w hw => ?_⟩, fun s hs' => ⟨?_, fun k hk => ⟨?_, ?_⟩⟩, ⟨?_, fun p hp => ⟨?_, ?_, ?_⟩⟩, ⟨?_, fun l hl => ?_⟩, ?_, ?_⟩
  · rw [hs 267 (by decide) (by decide) _ (show v / 1 = v by omega)]; exact a1
  · have := a3 s hs'
    unfold stOK at this ⊢
    rw [e7 268 (by decide) (by decide) s (by omega), e7 269 (by decide) (by decide) s (by omega), e7 270 (by decide) (by decide) s (by omega), e7 271 (by decide) (by decide) s (by omega), e7 272 (by decide) (by decide) s (by omega), e7 273 (by decide) (by decide) s (by omega)]
    exact this
  · have := (a3 s hs').2.2.2.2.1
    rw [← (a4 s hs').1 a ha]
    show isbR E (E 270 (7 * v + s)) (E 271 (7 * v + s)) (a : Int) = isbR D (D 270 (7 * v + s)) (D 271 (7 * v + s)) (a : Int)
    rw [e7 270 (by decide) (by decide) s (by omega), e7 271 (by decide) (by decide) s (by omega)]
    exact isbR_sd hs e18 hv this _
  · have := (a3 s hs').2.2.2.2.2
    rw [← (a4 s hs').2 a ha]
    show isbR E (E 272 (7 * v + s)) (E 273 (7 * v + s)) (a : Int) = isbR D (D 272 (7 * v + s)) (D 273 (7 * v + s)) (a : Int)
    rw [e7 272 (by decide) (by decide) s (by omega), e7 273 (by decide) (by decide) s (by omega)]
    exact isbR_sd hs e18 hv this _
  · rw [hs 277 (by decide) (by decide) _ (show v / 1 = v by omega)]; exact b1
  · rw [hs 278 (by decide) (by decide) _ (show (10 * v + w) / 10 = v by omega)]; exact b2 w hw
  · rw [hs 274 (by decide) (by decide) _ (show (3 * v + s) / 3 = v by omega)]; exact (c1 s hs').1
  · have hm := x3 s hs'
    have h8 : mostO s ≤ 8 := by unfold mostO; split <;> (try split) <;> omega
    rw [hs 275 (by decide) (by decide) _ (show (24 * v + 8 * s + k) / 24 = v by omega)]; exact ((c1 s hs').2 k hk).1
  · have hm := x3 s hs'
    have h8 : mostO s ≤ 8 := by unfold mostO; split <;> (try split) <;> omega
    rw [hs 276 (by decide) (by decide) _ (show (24 * v + 8 * s + k) / 24 = v by omega)]; exact ((c1 s hs').2 k hk).2
  · rw [hs 279 (by decide) (by decide) _ (show v / 1 = v by omega)]; exact d1
  · rw [hs 280 (by decide) (by decide) _ (show (8 * v + p) / 8 = v by omega)]; exact (d2 p hp).1
  · rw [hs 281 (by decide) (by decide) _ (show (8 * v + p) / 8 = v by omega)]; exact (d2 p hp).2.1
  · rw [hs 282 (by decide) (by decide) _ (show (8 * v + p) / 8 = v by omega)]; exact (d2 p hp).2.2
  · rw [hs 283 (by decide) (by decide) _ (show v / 1 = v by omega)]; exact f1
  · obtain ⟨r1, n, P, M, r2, r3, r4, r5⟩ := f2 l hl
    rw [hs 284 (by decide) (by decide) _ (show (5 * v + l) / 5 = v by omega), hs 285 (by decide) (by decide) _ (show (5 * v + l) / 5 = v by omega)]
    refine ⟨r1, n, P, M, r2, r3, fun i hi => ?_, r5⟩
    rw [hs 286 (by decide) (by decide) _ (show (4 * (5 * v + l) + i) / 20 = v by omega), hs 287 (by decide) (by decide) _ (show (4 * (5 * v + l) + i) / 20 = v by omega)]
    exact r4 i hi
  · rw [hs 288 (by decide) (by decide) _ (show v / 1 = v by omega)]; exact g1
  · rw [hs 264 (by decide) (by decide) _ (show v / 1 = v by omega)]; exact g2
theorem seg_sd {E E' : Nat → Nat → Int} {p q : Nat} {g : VF} (h : seg E p q g) (hd : ∀ j, p ≤ j → j < q → E' 296 j = E 296 j ∧ E' 297 j = E 297 j) : seg E' p q g := by
  obtain ⟨h1, h2, h3, h4⟩ := h
  refine ⟨h1, h2, fun i a b => ?_, fun V => ?_⟩
  · rw [(hd i a b).1, (hd i a b).2]; exact h3 i a b
  · rw [rpn_congr (C := E 296) (I := E 297) (q - p) p [] (fun i a b => hd i a (by omega))]
    exact h4 V
theorem lwB_sd {E E' : Nat → Nat → Int} {v : Nat} (hs : SdE E E' v) : ∀ (n b : Nat) (F : VF), 130 * v ≤ b → b + n ≤ 130 * v + 130 → lwB E n b F → lwB E' n b F := by
  intro n
  induction n with
  | zero => intro b F _ _ h; exact h
  | succ n ih =>
    intro b F h1 h2 h
    unfold lwB at h ⊢
    have hb : b / 130 = v := by omega
    rw [hb] at h ⊢
    obtain ⟨p0, p1, p2, p3, ⟨a0, a1, a2⟩, a3, a4, a5, a6, a7, a8⟩ := h
    have g3 : ∀ j, p0 ≤ j → j < p3 → E' 296 j = E 296 j ∧ E' 297 j = E 297 j := fun j j1 j2 => ⟨hs 296 (by decide) (by decide) j (show j / 420 = v by omega), hs 297 (by decide) (by decide) j (show j / 420 = v by omega)⟩
    rw [hs 291 (by decide) (by decide) b hb, hs 292 (by decide) (by decide) b hb, hs 293 (by decide) (by decide) b hb, hs 294 (by decide) (by decide) b hb, hs 295 (by decide) (by decide) b hb]
    refine ⟨p0, p1, p2, p3, ⟨a0, a1, a2⟩, a3, a4, a5, a6, a7, ?_⟩
    rcases a8 with ⟨b1, b2, b3⟩ | ⟨b1, b2, b3, b4, f1, f2, f3, F', c1, c2, c3, c4, c5⟩
    · exact Or.inl ⟨b1, b2, seg_sd b3 (fun j j1 j2 => g3 j (by omega) (by omega))⟩
    · exact Or.inr ⟨b1, b2, b3, b4, f1, f2, f3, F', seg_sd c1 (fun j j1 j2 => g3 j (by omega) (by omega)), seg_sd c2 (fun j j1 j2 => g3 j (by omega) (by omega)), seg_sd c3 (fun j j1 j2 => g3 j (by omega) (by omega)), ih _ _ (by omega) (by omega) c4, c5⟩
theorem LwR.sd {E E' : Nat → Nat → Int} {v : Nat} {X : TX} (h : LwR E v X) (hs : SdE E E' v) : LwR E' v X := by
  unfold LwR at h ⊢
  rw [hs 289 (by decide) (by decide) v (show v / 1 = v by omega), hs 290 (by decide) (by decide) v (show v / 1 = v by omega)]
  rcases h with h | ⟨f, n, F, a1, a2, a3, a4, a5, a6, a7⟩
  · exact Or.inl h
  · exact Or.inr ⟨f, n, F, a1, a2, a3, a4, a5, lwB_sd hs _ _ _ (by omega) (by omega) a6, a7⟩
theorem ml_ok {T : Nat → TK} (hT : TKok T) : ∀ (m : Nat) (c : Nat → Nat) (a : Nat) (Y : PY) (w : SS), YOk Y → YCn c Y → (rcG T m c a).2 = 0 → (mlG T m c a Y w).2.1 = 0 → YOk (mlG T m c a Y w).1
  | 0, _, _, Y, w, hY, _, _, _ => hY
  | m + 1, c, a, Y, w, hY, hc, hr, hz => by
    by_cases hk : tkK (T a) = 0
    · have em : mlG T (m + 1) c a Y w = (Y, w) := if_pos hk
      rw [em]; exact hY
    · have em : mlG T (m + 1) c a Y w = mlG T m (cnU c (tkK (T a))) (rtG T c a).1 (mtG T a Y w).1 (mtG T a Y w).2 := if_neg hk
      obtain ⟨r1, r2⟩ := rcG_ok hk hr
      rw [em] at hz ⊢
      by_cases hw : (mtG T a Y w).2.1 = 0
      · exact ml_ok hT m _ _ _ _ (yok_mt hT hY hc r1 hw) (ycn_mt hc r1) r2 hz
      · rw [mlG_k _ _ _ _ _ hw] at hz
        exact absurd hz hw
/-- the beginning of a text -/
def S0 (X : TX) : ST := (2 ^ xns X - 1, fun k => k, xWd X, fun _ => 0, fun _ => 0, 0, 0, 0, 0)
theorem cnt0 : ∀ n, cntF (fun _ => 0) 1 n = 0
  | 0 => rfl
  | n + 1 => by unfold cntF; rw [cnt0 n]; rfl
theorem S0_ok {X : TX} (hX : TXok X) : STok X (S0 X) := by
  have hp : 0 < 2 ^ xns X := Nat.pow_pos (by decide)
  refine ⟨show 2 ^ xns X - 1 < 2 ^ xns X by omega, fun k hk => hk, fun j k _ _ e => e, fun w hw => ⟨hX.2.1.2 w hw, Nat.zero_le _⟩, fun i _ => Nat.zero_le _, Nat.pow_pos (by decide), by show w32 0 = 0; decide, by show w32 0 = 0; decide, by show w32 0 = 0; decide, fun s _ k _ _ => rfl⟩
theorem S0_a {X : TX} (hX : TXok X) : AOk X (S0 X) 0 (fun _ => S0 X) (fun _ => none) := ⟨hX, S0_ok hX, fun i hi => absurd hi (Nat.not_lt_zero i), fun i _ S h => by cases h⟩
