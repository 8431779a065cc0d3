/-! What is told stays in order; the class tells all. -/
theorem mt128 {T : Nat → TK} {a : Nat} {Y : PY} {w : SS} (h : tkK (T a) = 128) : mtG T a Y w = (mkC Y (tkN (T (a + 1))) (tkN (T (a + 2))), w1C T a Y w) := if_pos h
theorem mt129 {T : Nat → TK} {a : Nat} {Y : PY} {w : SS} (h : tkK (T a) = 129) : mtG T a Y w = mtS T a Y w := by
  unfold mtG; rw [if_neg (by omega), if_pos h]
theorem mt134 {T : Nat → TK} {a : Nat} {Y : PY} {w : SS} (h : tkK (T a) = 134) : mtG T a Y w = mtP T 0 a Y w := by
  unfold mtG; rw [if_neg (by omega), if_neg (by omega), if_pos h]
theorem mt135 {T : Nat → TK} {a : Nat} {Y : PY} {w : SS} (h : tkK (T a) = 135) : mtG T a Y w = mtP T 1 a Y w := by
  unfold mtG; rw [if_neg (by omega), if_neg (by omega), if_neg (by omega), if_pos h]
theorem mt136 {T : Nat → TK} {a : Nat} {Y : PY} {w : SS} (h : tkK (T a) = 136) : mtG T a Y w = mtP T 2 a Y w := by
  unfold mtG; rw [if_neg (by omega), if_neg (by omega), if_neg (by omega), if_neg (by omega), if_pos h]
theorem mt137 {T : Nat → TK} {a : Nat} {Y : PY} {w : SS} (h : tkK (T a) = 137) : mtG T a Y w = (mkW Y (tkN (T (a + 1))), w) := by
  unfold mtG; rw [if_neg (by omega), if_neg (by omega), if_neg (by omega), if_neg (by omega), if_neg (by omega), if_pos h]
theorem mt138 {T : Nat → TK} {a : Nat} {Y : PY} {w : SS} (h : tkK (T a) = 138) : mtG T a Y w = (mkR Y (tkN (T (a + 1))) (tkN (T (a + 2))) (if tkK (T (a + 3)) = 2 then tkN (T (a + 3)) else []), w) := by
  unfold mtG; rw [if_neg (by omega), if_neg (by omega), if_neg (by omega), if_neg (by omega), if_neg (by omega), if_neg (by omega), if_pos h]
theorem mt139 {T : Nat → TK} {a : Nat} {Y : PY} {w : SS} (h : tkK (T a) = 139) : mtG T a Y w = (mkL' Y (tkV (T (a + 1))) (wnM T Y.1 4 (a + 2) (fun _ => 0) (w1N T (a + 1) 0 999 w)).1, (wnM T Y.1 4 (a + 2) (fun _ => 0) (w1N T (a + 1) 0 999 w)).2) := by
  unfold mtG; rw [if_neg (by omega), if_neg (by omega), if_neg (by omega), if_neg (by omega), if_neg (by omega), if_neg (by omega), if_neg (by omega), if_pos h]
theorem mt140 {T : Nat → TK} {a : Nat} {Y : PY} {w : SS} (h : tkK (T a) = 140) : mtG T a Y w = (mkB Y (lwF T (a + 2)), w) := by
  unfold mtG; rw [if_neg (by omega), if_neg (by omega), if_neg (by omega), if_neg (by omega), if_neg (by omega), if_neg (by omega), if_neg (by omega), if_neg (by omega), if_pos h]
theorem mt141 {T : Nat → TK} {a : Nat} {Y : PY} {w : SS} (h : tkK (T a) = 141) : mtG T a Y w = (mkD Y (tkV (T (a + 1))), w) := by
  unfold mtG; rw [if_neg (by omega), if_neg (by omega), if_neg (by omega), if_neg (by omega), if_neg (by omega), if_neg (by omega), if_neg (by omega), if_neg (by omega), if_neg (by omega)]
theorem cnU_s (c : Nat → Nat) {k j : Nat} (h : j + 128 = k) : cnU c k j = c j + 1 := if_pos h
theorem cnU_n (c : Nat → Nat) {k j : Nat} (h : ¬ j + 128 = k) : cnU c k j = c j := if_neg h
theorem ycn_mt {T : Nat → TK} {c : Nat → Nat} {a : Nat} {Y : PY} {w : SS} (hc : YCn c Y) (h : (rtG T c a).2 = 0) : YCn (cnU c (tkK (T a))) (mtG T a Y w).1 := by
  obtain ⟨c0, c1, c6, c7, c8, c9, c10, c11⟩ := hc
  rcases shK h with q | q | q | q | q | q | q | q | q | q
  · rw [mt128 q, q]
    exact ⟨by rw [cnU_s c rfl, c0]; rfl, by rw [cnU_n c (by decide)]; exact c1, by rw [cnU_n c (by decide)]; exact c6, by rw [cnU_n c (by decide)]; exact c7, by rw [cnU_n c (by decide)]; exact c8, by rw [cnU_n c (by decide)]; exact c9, by rw [cnU_n c (by decide)]; exact c10, by rw [cnU_n c (by decide)]; exact c11⟩
  · rw [mt129 q, q]
    exact ⟨by rw [cnU_n c (by decide)]; exact c0, by rw [cnU_s c rfl, c1]; rfl, by rw [cnU_n c (by decide)]; exact c6, by rw [cnU_n c (by decide)]; exact c7, by rw [cnU_n c (by decide)]; exact c8, by rw [cnU_n c (by decide)]; exact c9, by rw [cnU_n c (by decide)]; exact c10, by rw [cnU_n c (by decide)]; exact c11⟩
  · rw [mt134 q, q]
    exact ⟨by rw [cnU_n c (by decide)]; exact c0, by rw [cnU_n c (by decide)]; exact c1, by rw [cnU_s c rfl, c6]; rfl, by rw [cnU_n c (by decide)]; exact c7, by rw [cnU_n c (by decide)]; exact c8, by rw [cnU_n c (by decide)]; exact c9, by rw [cnU_n c (by decide)]; exact c10, by rw [cnU_n c (by decide)]; exact c11⟩
  · rw [mt135 q, q]
    exact ⟨by rw [cnU_n c (by decide)]; exact c0, by rw [cnU_n c (by decide)]; exact c1, by rw [cnU_n c (by decide)]; exact c6, by rw [cnU_s c rfl, c7]; rfl, by rw [cnU_n c (by decide)]; exact c8, by rw [cnU_n c (by decide)]; exact c9, by rw [cnU_n c (by decide)]; exact c10, by rw [cnU_n c (by decide)]; exact c11⟩
  · rw [mt136 q, q]
    exact ⟨by rw [cnU_n c (by decide)]; exact c0, by rw [cnU_n c (by decide)]; exact c1, by rw [cnU_n c (by decide)]; exact c6, by rw [cnU_n c (by decide)]; exact c7, by rw [cnU_s c rfl, c8]; rfl, by rw [cnU_n c (by decide)]; exact c9, by rw [cnU_n c (by decide)]; exact c10, by rw [cnU_n c (by decide)]; exact c11⟩
  · rw [mt137 q, q]
    exact ⟨by rw [cnU_n c (by decide)]; exact c0, by rw [cnU_n c (by decide)]; exact c1, by rw [cnU_n c (by decide)]; exact c6, by rw [cnU_n c (by decide)]; exact c7, by rw [cnU_n c (by decide)]; exact c8, by rw [cnU_s c rfl, c9]; rfl, by rw [cnU_n c (by decide)]; exact c10, by rw [cnU_n c (by decide)]; exact c11⟩
  · rw [mt138 q, q]
    exact ⟨by rw [cnU_n c (by decide)]; exact c0, by rw [cnU_n c (by decide)]; exact c1, by rw [cnU_n c (by decide)]; exact c6, by rw [cnU_n c (by decide)]; exact c7, by rw [cnU_n c (by decide)]; exact c8, by rw [cnU_n c (by decide)]; exact c9, by rw [cnU_s c rfl, c10]; rfl, by rw [cnU_n c (by decide)]; exact c11⟩
  · rw [mt139 q, q]
    exact ⟨by rw [cnU_n c (by decide)]; exact c0, by rw [cnU_n c (by decide)]; exact c1, by rw [cnU_n c (by decide)]; exact c6, by rw [cnU_n c (by decide)]; exact c7, by rw [cnU_n c (by decide)]; exact c8, by rw [cnU_n c (by decide)]; exact c9, by rw [cnU_n c (by decide)]; exact c10, by rw [cnU_s c rfl, c11]; rfl⟩
  · rw [mt140 q, q]
    exact ⟨by rw [cnU_n c (by decide)]; exact c0, by rw [cnU_n c (by decide)]; exact c1, by rw [cnU_n c (by decide)]; exact c6, by rw [cnU_n c (by decide)]; exact c7, by rw [cnU_n c (by decide)]; exact c8, by rw [cnU_n c (by decide)]; exact c9, by rw [cnU_n c (by decide)]; exact c10, by rw [cnU_n c (by decide)]; exact c11⟩
  · rw [mt141 q, q]
    exact ⟨by rw [cnU_n c (by decide)]; exact c0, by rw [cnU_n c (by decide)]; exact c1, by rw [cnU_n c (by decide)]; exact c6, by rw [cnU_n c (by decide)]; exact c7, by rw [cnU_n c (by decide)]; exact c8, by rw [cnU_n c (by decide)]; exact c9, by rw [cnU_n c (by decide)]; exact c10, by rw [cnU_n c (by decide)]; exact c11⟩
theorem w1N_z {T : Nat → TK} {b lo hi : Nat} {w : SS} (h : (w1N T b lo hi w).1 = 0) : w.1 = 0 ∧ lo ≤ tkV (T b) ∧ tkV (T b) ≤ hi ∧ w1N T b lo hi w = w := by
  unfold w1N at h ⊢
  by_cases q : tkV (T b) < lo ∨ hi < tkV (T b)
  · rw [if_pos q] at h
    exact (wrg_z (by decide) h).elim
  · rw [if_neg q] at h ⊢
    exact ⟨h, by omega, by omega, rfl⟩
theorem w1W_z {T : Nat → TK} {X : TX} {b : Nat} {wf : Nat → Nat} {w : SS} (h : (w1W T X b wf w).1 = 0) : w.1 = 0 ∧ w1W T X b wf w = w ∧ ∃ q, pAll X (tkN (T b)) = some q ∧ wf q = 0 := by
  unfold w1W at h ⊢
  cases hp : pAll X (tkN (T b)) with
  | none =>
    rw [hp] at h
    exact (wrg_z (by decide) h).elim
  | some q =>
    rw [hp] at h
    have h : (if wf q = 0 then w else wrg w 3 (tkP (T b))).1 = 0 := h
    by_cases z : wf q = 0
    · rw [if_pos z] at h
      exact ⟨h, if_pos z, q, rfl, z⟩
    · rw [if_neg z] at h
      exact (wrg_z (by decide) h).elim
theorem wnM_ok {T : Nat → TK} {X : TX} : ∀ (r b : Nat) (wf : Nat → Nat) (w : SS), (∀ i, wf i ≤ 99) → (wnM T X r b wf w).2.1 = 0 → w.1 = 0 ∧ ∀ i, (wnM T X r b wf w).1 i ≤ 99
  | 0, b, wf, w, hf, h => ⟨h, hf⟩
  | r + 1, b, wf, w, hf, h => by
    unfold wnM at h ⊢
    by_cases q : tkK (T b) = 2
    · rw [if_pos q] at h ⊢
      have hz : (w1N T (b + 1) 1 99 (w1W T X b wf w)).1 = 0 := by
        by_cases z : (w1N T (b + 1) 1 99 (w1W T X b wf w)).1 = 0
        · exact z
        · rw [wnM_k _ _ _ _ z] at h
          exact absurd h z
      obtain ⟨n1, n2, n3, n4⟩ := w1N_z hz
      obtain ⟨m1, m2, p, m3, m4⟩ := w1W_z n1
      have hf' : ∀ i, wfU T X b wf i ≤ 99 := fun i => by
        unfold wfU
        rw [m3]
        show upf wf p _ i ≤ 99
        by_cases e : i = p
        · rw [e, upf_s]; exact n3
        · rw [upf_n e]; exact hf i
      exact ⟨m1, (wnM_ok r _ _ _ hf' h).2⟩
    · rw [if_neg q] at h ⊢
      exact ⟨h, hf⟩
theorem yok_mt {T : Nat → TK} (hT : TKok T) {c : Nat → Nat} {a : Nat} {Y : PY} {w : SS} (hY : YOk Y) (hc : YCn c Y) (h : (rtG T c a).2 = 0) (hz : (mtG T a Y w).2.1 = 0) : YOk (mtG T a Y w).1 := by
  obtain ⟨c0, c1, c6, c7, c8, c9, c10, c11⟩ := hc
  obtain ⟨⟨x1, x2, x3, x4, x5, x6, x7⟩, yc⟩ := hY
  have pc : ∀ s, s < 3 → xnp Y.1 s < mostO s → tkK (T (a + 1)) = 2 → (mtP T s a Y w).2.1 = 0 → YOk (mtP T s a Y w).1 := fun s hs hn h1 hz => by
    unfold mtP at hz ⊢
    dsimp only at hz ⊢
    obtain ⟨n1, n2, n3, n4⟩ := w1N_z hz
    have hno : pfd Y.1 s (tkN (T (a + 1))) = none := by
      cases q : pfd Y.1 s (tkN (T (a + 1))) with
      | none => rfl
      | some k =>
        rw [q, if_pos (show (some k).isSome = true from rfl)] at n1
        exact (wrg_z (by decide) n1).elim
    have hN := hT.2.2.1 _ h1
    refine ⟨⟨x1, x2, fun s' hs' => ?_, x4, x5, x6, x7⟩, yc⟩
    show upf (xnp Y.1) s (xnp Y.1 s + 1) s' ≤ mostO s' ∧ ∀ k, k < upf (xnp Y.1) s (xnp Y.1 s + 1) s' → wok (upf (xPN Y.1) (8 * s + xnp Y.1 s) (tkN (T (a + 1))) (8 * s' + k)) ∧ 1 ≤ (upf (xPN Y.1) (8 * s + xnp Y.1 s) (tkN (T (a + 1))) (8 * s' + k)).length ∧ 1 ≤ upf (xPT Y.1) (8 * s + xnp Y.1 s) (tkV (T (a + 2))) (8 * s' + k) ∧ upf (xPT Y.1) (8 * s + xnp Y.1 s) (tkV (T (a + 2))) (8 * s' + k) ≤ 9 ∧ ∀ j, j < k → upf (xPN Y.1) (8 * s + xnp Y.1 s) (tkN (T (a + 1))) (8 * s' + j) ≠ upf (xPN Y.1) (8 * s + xnp Y.1 s) (tkN (T (a + 1))) (8 * s' + k)
    have m8 : ∀ s, mostO s ≤ 8 := fun s => by unfold mostO; split; omega; split <;> omega
    have hx := x3 s' hs'
    have hm := m8 s'
    have hm2 := m8 s
    by_cases e : s' = s
    · subst e
      rw [upf_s]
      refine ⟨by omega, fun k hk => ?_⟩
      by_cases ek : k = xnp Y.1 s'
      · subst ek
        rw [upf_s, upf_s]
        refine ⟨hN.1, hN.2, n2, n3, fun j hj => ?_⟩
        rw [upf_n (by omega)]
        exact fndN_no _ _ hno j (by omega) (by omega)
      · rw [upf_n (by omega), upf_n (by omega)]
        obtain ⟨k1, k2, k3, k4, k5⟩ := hx.2 k (by omega)
        refine ⟨k1, k2, k3, k4, fun j hj => ?_⟩
        rw [upf_n (by omega)]
        exact k5 j hj
    · rw [upf_n e]
      refine ⟨hx.1, fun k hk => ?_⟩
      rw [upf_n (by omega), upf_n (by omega)]
      obtain ⟨k1, k2, k3, k4, k5⟩ := hx.2 k hk
      refine ⟨k1, k2, k3, k4, fun j hj => ?_⟩
      rw [upf_n (by omega)]
      exact k5 j hj
  rcases shK h with q | q | q | q | q | q | q | q | q | q
  · obtain ⟨hc0, h1, h2, _, _, _⟩ := sh128 q h
    rw [mt128 q] at hz ⊢
    have hN1 := hT.2.2.1 _ h1
    have hN2 := hT.2.2.1 _ h2
    have hz : (w1C T a Y w).1 = 0 := hz
    have hlen : ¬ (tkN (T (a + 1))).length < 2 := fun z => by
      unfold w1C at hz
      rw [if_pos z] at hz
      exact (wrg_z (by decide) hz).elim
    refine ⟨⟨x1, x2, x3, x4, x5, x6, by show xnc Y.1 + 1 ≤ 6; omega⟩, fun k hk => ?_⟩
    have hk : k < xnc Y.1 + 1 := hk
    show wok (upf Y.2.1 (xnc Y.1) _ k) ∧ 2 ≤ (upf Y.2.1 (xnc Y.1) _ k).length ∧ wok (upf Y.2.2 (xnc Y.1) _ k)
    by_cases e : k = xnc Y.1
    · rw [e, upf_s, upf_s]
      exact ⟨hN1.1, by omega, hN2.1⟩
    · rw [upf_n e, upf_n e]
      exact yc k (by omega)
  · obtain ⟨hc1, h1, _, h3, _⟩ := sh129 q h
    rw [mt129 q]
    have hN1 := hT.2.2.1 _ h1
    have hh := headD_ok hN1.1 hN1.2
    have hto : (if tkK (T (a + 3)) = 131 then 0 else (tkN (T (a + 3))).headD 0) ≤ 26 := by
      split
      · omega
      · rename_i z
        have h2 : tkK (T (a + 3)) = 2 := by rcases h3 with y | y; exact absurd y z; exact y
        have hN := hT.2.2.1 _ h2
        exact (headD_ok hN.1 hN.2).2
    refine ⟨⟨⟨by show xns Y.1 + 1 ≤ 7; omega, fun s hs => ?_⟩, x2, x3, x4, x5, x6, x7⟩, yc⟩
    have hs : s < xns Y.1 + 1 := hs
    show 1 ≤ upf (xF Y.1) (xns Y.1) ((tkN (T (a + 1))).headD 0) s ∧ upf (xF Y.1) (xns Y.1) ((tkN (T (a + 1))).headD 0) s ≤ 26 ∧ upf (xT Y.1) (xns Y.1) (if tkK (T (a + 3)) = 131 then 0 else (tkN (T (a + 3))).headD 0) s ≤ 26
    by_cases e : s = xns Y.1
    · rw [e, upf_s, upf_s]
      exact ⟨hh.1, hh.2, hto⟩
    · rw [upf_n e, upf_n e]
      exact x1.2 s (by omega)
  · obtain ⟨hc1, h1, _⟩ := shPc (rt134 q) h
    rw [mt134 q] at hz ⊢
    exact pc 0 (by decide) (by show xnp Y.1 0 < 8; omega) h1 hz
  · obtain ⟨hc1, h1, _⟩ := shPc (rt135 q) h
    rw [mt135 q] at hz ⊢
    exact pc 1 (by decide) (by show xnp Y.1 1 < 6; omega) h1 hz
  · obtain ⟨hc1, h1, _⟩ := shPc (rt136 q) h
    rw [mt136 q] at hz ⊢
    exact pc 2 (by decide) (by show xnp Y.1 2 < 4; omega) h1 hz
  · obtain ⟨hc1, h1, _⟩ := sh137 q h
    rw [mt137 q]
    have hN := hT.2.2.1 _ h1
    refine ⟨⟨x1, ⟨by show xnw Y.1 + 1 ≤ 10; omega, fun s hs => ?_⟩, x3, x4, x5, x6, x7⟩, yc⟩
    have hs : s < xnw Y.1 + 1 := hs
    show wok (upf (xWd Y.1) (xnw Y.1) _ s)
    by_cases e : s = xnw Y.1
    · rw [e, upf_s]; exact hN.1
    · rw [upf_n e]; exact x2.2 s (by omega)
  · obtain ⟨hc1, h1, h2, h3⟩ := sh138 q h
    rw [mt138 q]
    have hN1 := hT.2.2.1 _ h1
    have hN2 := hT.2.2.1 _ h2
    have hN3 : wok (if tkK (T (a + 3)) = 2 then tkN (T (a + 3)) else []) := by
      split
      · rename_i z
        exact (hT.2.2.1 _ z).1
      · exact ⟨fun _ z => absurd z List.not_mem_nil, Nat.zero_le _⟩
    refine ⟨⟨x1, x2, x3, ⟨by show xpr Y.1 + 1 ≤ 8; omega, fun s hs => ?_⟩, x5, x6, x7⟩, yc⟩
    have hs : s < xpr Y.1 + 1 := hs
    show wok (upf (xPI Y.1) (xpr Y.1) _ s) ∧ wok (upf (xPO Y.1) (xpr Y.1) _ s) ∧ wok (upf (xPX Y.1) (xpr Y.1) _ s)
    by_cases e : s = xpr Y.1
    · rw [e, upf_s, upf_s, upf_s]; exact ⟨hN1.1, hN2.1, hN3⟩
    · rw [upf_n e, upf_n e, upf_n e]; exact x4.2 s (by omega)
  · obtain ⟨hc1, h1, _⟩ := sh139 q h
    rw [mt139 q] at hz ⊢
    obtain ⟨wz, wo⟩ := wnM_ok 4 (a + 2) (fun _ => 0) (w1N T (a + 1) 0 999 w) (fun _ => Nat.zero_le _) hz
    obtain ⟨_, _, n3, _⟩ := w1N_z wz
    refine ⟨⟨x1, x2, x3, x4, ⟨by show xnl Y.1 + 1 ≤ 5; omega, fun s hs => ?_⟩, x6, x7⟩, yc⟩
    have hs : s < xnl Y.1 + 1 := hs
    show upf (xpay Y.1) (xnl Y.1) _ s ≤ 999 ∧ ∀ i, i < 24 → upf (xwant Y.1) (xnl Y.1) _ s i ≤ 99
    by_cases e : s = xnl Y.1
    · rw [e, upf_s, upf_s]; exact ⟨n3, fun i _ => wo i⟩
    · rw [upf_n e, upf_n e]; exact x5.2 s (by omega)
  · rw [mt140 q]
    exact ⟨⟨x1, x2, x3, x4, x5, x6, x7⟩, yc⟩
  · obtain ⟨h1, _⟩ := sh141 q h
    rw [mt141 q]
    exact ⟨⟨x1, x2, x3, x4, x5, hT.2.2.2.1 _ h1, x7⟩, yc⟩
/-- one tell of the class -/
theorem tOne (xs : List Int) (d : Nat) {κ : aK} {D E : Nat → Nat → Int} (hκ : Shp κ) {t : Nat} (ht : isT t) {T : Nat → TK} (hT : TKok T) (hk : TkC D T) {a : Nat} {w : SS} (h : TlS D E t a w) {Y : PY} {c : Nat → Nat} (hY : YOk Y) (hcn : YCn c Y) (hx : TcY E t Y) (hw : w.1 = 0) (hla : live T a) (hr : (rtG T c a).2 = 0) : ∃ E', cl xs (d + 8) 96 [.inr (.inr ((8 : Nat) : Int)), .inr (.inr (t : Int))] (κ, E) = some (none, (κ, E')) ∧ TlS D E' t ((rtG T c a).1 - 1) (mtG T a Y w).2 ∧ ((mtG T a Y w).2.1 = 0 → TcY E' t (mtG T a Y w).1) := by
  have k8 := kc_8 hκ
  have hl := rt_live hla hr
  have ha : a ≤ 400 := by
    have := rtG_gt hr
    rcases shK hr with q | q | q | q | q | q | q | q | q | q
    · have := (sh128 q hr).2.2.2.2.1; omega
    · have z := (sh129 q hr).2.2.2.2.2.2.2.1
      have g1 : a + 4 ≤ nbE T (a + 4) 132 := by unfold nbE; split <;> omega
      have g2 : nbE T (a + 4) 132 ≤ nbE T (nbE T (a + 4) 132) 133 := by
        generalize nbE T (a + 4) 132 = z
        unfold nbE; split <;> omega
      omega
    · have := (shPc (rt134 q) hr).2.2.2.2.1; omega
    · have := (shPc (rt135 q) hr).2.2.2.2.1; omega
    · have := (shPc (rt136 q) hr).2.2.2.2.1; omega
    · have := (sh137 q hr).2.2.2.1; omega
    · have := (sh138 q hr).2.2.2
      split at this <;> omega
    · obtain ⟨_, _, n, _, _, _, z, _⟩ := sh139 q hr; omega
    · have := (sh140 q hr).2.1; omega
    · have := (sh141 q hr).2.2.1; omega
  have th := t_here xs (d + 5) hκ ht hT hk h ha
  obtain ⟨c0, c1, c6, c7, c8, c9, c10, c11⟩ := hcn
  -- the last step
  have fin : ∀ (E1 : Nat → Nat → Int) (j : Nat) (w' : SS) (Y' : PY), j ≤ 400 → TlS D E1 t j w' → (w'.1 = 0 → TcY E1 t Y') → TlS D (aup E1 8 3 (w32 (E1 8 3 + 1))) t (j + 1) w' ∧ (w'.1 = 0 → TcY (aup E1 8 3 (w32 (E1 8 3 + 1))) t Y') := fun E1 j w' Y' hj s1 z1 => by
    have e : w32 (E1 8 3 + 1) = ((j + 1 : Nat) : Int) := by rw [s1.2.2.1, w32_id (by omega) (by omega)]; omega
    exact ⟨s1.at_ e, fun q => (z1 q).c8 ht (fun z hz => aupN hz)⟩
  have sw : ∀ pc : Nat, asw 4 143 128 140 #[68, 76, 143, 143, 143, 143, 84, 93, 102, 111, 119, 127, 135] ((tkK (T a) : Nat) : Int) = pc → cl xs (d + 8) 96 [.inr (.inr ((8 : Nat) : Int)), .inr (.inr (t : Int))] (κ, E) = ev xs (d + 7) mm_96 pc [some (.inr (.inr ((8 : Nat) : Int))), some (.inr (.inr (t : Int)))] [] (κ, E) := fun pc e => by
    rw [c_96]
    simp (disch := omega) only [cond_true, cond_false, Bool.and_true, Bool.true_and, Bool.and_false, Bool.false_and, Int.toNat_natCast, Int.reduceToNat, bI_s, bJ_s, bV_s, bR_s, decide_true, decide_false, not_true_eq_false, not_false_eq_true, dT, dF, w_al, w_la, w_ab, w_sl, w_sb, w_dec, w_ml, w_lm, ol2i_n, aup_ne, aupE, aupJ, setc_self, setc_ne, k8, th, e]
  rcases shK hr with q | q | q | q | q | q | q | q | q | q
  · obtain ⟨s0, s1, s2, s3, s4, s5⟩ := sh128 q hr
    rw [s5] at hl ⊢
    rw [sw 72 (by rw [q]; rfl), mt128 q, q_96_72]
    obtain ⟨E1, e1, e2, e3⟩ := tClass xs (d + 2) hκ ht hT hk h hY hx hw (by omega) (live_le hl (by show a + 3 ≤ a + 4; omega)) s1 s2 (by omega)
    obtain ⟨f1, f2⟩ := fin E1 _ _ _ (by omega) e2 e3
    refine ⟨_, ?_, f1, f2⟩
    simp (disch := omega) only [cond_true, cond_false, Bool.and_true, Bool.true_and, Bool.and_false, Bool.false_and, Int.toNat_natCast, Int.reduceToNat, bI_s, bJ_s, bV_s, bR_s, decide_true, decide_false, not_true_eq_false, not_false_eq_true, dT, dF, w_al, w_la, w_ab, w_sl, w_sb, w_dec, w_ml, w_lm, ol2i_n, aup_ne, aupE, aupJ, setc_self, setc_ne, k8, e1]
  · obtain ⟨s0, s1, s2, s3, s4, s5, s6, s7, s8⟩ := sh129 q hr
    rw [s8] at hl ⊢
    have g1 : a + 4 ≤ nbE T (a + 4) 132 := by unfold nbE; split <;> omega
    have g2 : nbE T (a + 4) 132 ≤ nbE T (nbE T (a + 4) 132) 133 := by
      generalize nbE T (a + 4) 132 = z
      unfold nbE; split <;> omega
    rw [sw 80 (by rw [q]; rfl), mt129 q, q_96_80]
    obtain ⟨E1, e1, e2, e3⟩ := tStone xs (d + 1) hκ ht hT hk h hY hx (by omega) s7 (live_le hl (Nat.le_succ _)) s1 s3 s4 s5
    obtain ⟨f1, f2⟩ := fin E1 _ _ _ (by omega) e2 e3
    refine ⟨_, ?_, by
      rw [show nbE T (nbE T (a + 4) 132) 133 - 1 + 1 = nbE T (nbE T (a + 4) 132) 133 + 1 - 1 by omega] at f1
      exact f1, f2⟩
    simp (disch := omega) only [cond_true, cond_false, Bool.and_true, Bool.true_and, Bool.and_false, Bool.false_and, Int.toNat_natCast, Int.reduceToNat, bI_s, bJ_s, bV_s, bR_s, decide_true, decide_false, not_true_eq_false, not_false_eq_true, dT, dF, w_al, w_la, w_ab, w_sl, w_sb, w_dec, w_ml, w_lm, ol2i_n, aup_ne, aupE, aupJ, setc_self, setc_ne, k8, e1]
  · obtain ⟨s0, s1, s2, s3, s4, s5⟩ := shPc (rt134 q) hr
    rw [s5] at hl ⊢
    rw [sw 88 (by rw [q]; rfl), mt134 q, q_96_88]
    obtain ⟨E1, e1, e2, e3⟩ := tPiece xs (d + 2) hκ ht hT hk h hY hx (s := 0) (by decide) (ss := 0) rfl (by show xnp Y.1 0 < 8; omega) (by omega) (live_le hl (by show a + 3 ≤ a + 4; omega)) s1 s2
    obtain ⟨f1, f2⟩ := fin E1 _ _ _ (by omega) e2 e3
    refine ⟨_, ?_, f1, f2⟩
    simp (disch := omega) only [cond_true, cond_false, Bool.and_true, Bool.true_and, Bool.and_false, Bool.false_and, Int.toNat_natCast, Int.reduceToNat, bI_s, bJ_s, bV_s, bR_s, decide_true, decide_false, not_true_eq_false, not_false_eq_true, dT, dF, w_al, w_la, w_ab, w_sl, w_sb, w_dec, w_ml, w_lm, ol2i_n, aup_ne, aupE, aupJ, setc_self, setc_ne, k8, e1]
  · obtain ⟨s0, s1, s2, s3, s4, s5⟩ := shPc (rt135 q) hr
    rw [s5] at hl ⊢
    rw [sw 97 (by rw [q]; rfl), mt135 q, q_96_97]
    obtain ⟨E1, e1, e2, e3⟩ := tPiece xs (d + 2) hκ ht hT hk h hY hx (s := 1) (by decide) (ss := 1) rfl (by show xnp Y.1 1 < 6; omega) (by omega) (live_le hl (by show a + 3 ≤ a + 4; omega)) s1 s2
    obtain ⟨f1, f2⟩ := fin E1 _ _ _ (by omega) e2 e3
    refine ⟨_, ?_, f1, f2⟩
    simp (disch := omega) only [cond_true, cond_false, Bool.and_true, Bool.true_and, Bool.and_false, Bool.false_and, Int.toNat_natCast, Int.reduceToNat, bI_s, bJ_s, bV_s, bR_s, decide_true, decide_false, not_true_eq_false, not_false_eq_true, dT, dF, w_al, w_la, w_ab, w_sl, w_sb, w_dec, w_ml, w_lm, ol2i_n, aup_ne, aupE, aupJ, setc_self, setc_ne, k8, e1]
  · obtain ⟨s0, s1, s2, s3, s4, s5⟩ := shPc (rt136 q) hr
    rw [s5] at hl ⊢
    rw [sw 106 (by rw [q]; rfl), mt136 q, q_96_106]
    obtain ⟨E1, e1, e2, e3⟩ := tPiece xs (d + 2) hκ ht hT hk h hY hx (s := 2) (by decide) (ss := 2) rfl (by show xnp Y.1 2 < 4; omega) (by omega) (live_le hl (by show a + 3 ≤ a + 4; omega)) s1 s2
    obtain ⟨f1, f2⟩ := fin E1 _ _ _ (by omega) e2 e3
    refine ⟨_, ?_, f1, f2⟩
    simp (disch := omega) only [cond_true, cond_false, Bool.and_true, Bool.true_and, Bool.and_false, Bool.false_and, Int.toNat_natCast, Int.reduceToNat, bI_s, bJ_s, bV_s, bR_s, decide_true, decide_false, not_true_eq_false, not_false_eq_true, dT, dF, w_al, w_la, w_ab, w_sl, w_sb, w_dec, w_ml, w_lm, ol2i_n, aup_ne, aupE, aupJ, setc_self, setc_ne, k8, e1]
  · obtain ⟨s0, s1, s2, s3, s4⟩ := sh137 q hr
    rw [s4] at hl ⊢
    rw [sw 115 (by rw [q]; rfl), mt137 q, q_96_115]
    obtain ⟨E1, e1, e2, e3⟩ := tWord xs (d + 3) hκ ht hT hk h hx (by omega) (by omega) s1
    obtain ⟨f1, f2⟩ := fin E1 _ _ _ (by omega) e2 (fun _ => e3)
    refine ⟨_, ?_, f1, f2⟩
    simp (disch := omega) only [cond_true, cond_false, Bool.and_true, Bool.true_and, Bool.and_false, Bool.false_and, Int.toNat_natCast, Int.reduceToNat, bI_s, bJ_s, bV_s, bR_s, decide_true, decide_false, not_true_eq_false, not_false_eq_true, dT, dF, w_al, w_la, w_ab, w_sl, w_sb, w_dec, w_ml, w_lm, ol2i_n, aup_ne, aupE, aupJ, setc_self, setc_ne, k8, e1]
  · obtain ⟨s0, s1, s2, s3⟩ := sh138 q hr
    have s4 : rtG T c a = ((if tkK (T (a + 3)) = 2 then a + 3 else a + 2) + 2, 0) ∧ a + 4 ≤ 400 := by
      by_cases z : tkK (T (a + 3)) = 2
      · rw [if_pos z] at s3 ⊢
        exact ⟨s3.2.2, by omega⟩
      · rw [if_neg z] at s3 ⊢
        exact ⟨s3.2.2, by omega⟩
    rw [s4.1] at hl ⊢
    rw [sw 123 (by rw [q]; rfl), mt138 q, q_96_123]
    obtain ⟨E1, e1, e2, e3⟩ := tPair xs (d + 3) hκ ht hT hk h hx (by omega) s4.2 s1 s2
    obtain ⟨f1, f2⟩ := fin E1 _ _ _ (by have := s4.2; split <;> omega) e2 (fun _ => e3)
    refine ⟨_, ?_, f1, f2⟩
    simp (disch := omega) only [cond_true, cond_false, Bool.and_true, Bool.true_and, Bool.and_false, Bool.false_and, Int.toNat_natCast, Int.reduceToNat, bI_s, bJ_s, bV_s, bR_s, decide_true, decide_false, not_true_eq_false, not_false_eq_true, dT, dF, w_al, w_la, w_ab, w_sl, w_sb, w_dec, w_ml, w_lm, ol2i_n, aup_ne, aupE, aupJ, setc_self, setc_ne, k8, e1]
  · obtain ⟨s0, s1, n, s2, s3, s4, s5, s6⟩ := sh139 q hr
    rw [s6] at hl ⊢
    rw [sw 131 (by rw [q]; rfl), mt139 q, q_96_131]
    obtain ⟨E1, e1, e2, e3⟩ := tLand xs (d + 1) hκ ht hT hk h hY hx (by omega) s1 s2 s3 s4 s5 (live_le hl (Nat.le_succ _))
    obtain ⟨f1, f2⟩ := fin E1 _ _ _ (by omega) e2 e3
    refine ⟨_, ?_, by
      rw [show a + 1 + 2 * n + 1 = a + 2 + 2 * n + 1 - 1 by omega] at f1
      exact f1, f2⟩
    simp (disch := omega) only [cond_true, cond_false, Bool.and_true, Bool.true_and, Bool.and_false, Bool.false_and, Int.toNat_natCast, Int.reduceToNat, bI_s, bJ_s, bV_s, bR_s, decide_true, decide_false, not_true_eq_false, not_false_eq_true, dT, dF, w_al, w_la, w_ab, w_sl, w_sb, w_dec, w_ml, w_lm, ol2i_n, aup_ne, aupE, aupJ, setc_self, setc_ne, k8, e1]
  · obtain ⟨s0, s1, e, s2, s3, s4, s5⟩ := sh140 q hr
    have tok := lawL_tok (T := T) 4 (a + 2) (by rw [s2])
    rw [s2] at tok
    have g1 : a + 2 < e := tok.2
    rw [s5] at hl ⊢
    rw [sw 139 (by rw [q]; rfl), mt140 q, q_96_139]
    obtain ⟨E1, e1, e2, e3⟩ := tLaw xs (d + 2) hκ ht hT hk h hx s2 s3 s4
    obtain ⟨f1, f2⟩ := fin E1 _ _ _ (by omega) e2 (fun _ => e3)
    refine ⟨_, ?_, by
      rw [show e - 1 + 1 = e + 1 - 1 by omega] at f1
      exact f1, f2⟩
    simp (disch := omega) only [cond_true, cond_false, Bool.and_true, Bool.true_and, Bool.and_false, Bool.false_and, Int.toNat_natCast, Int.reduceToNat, bI_s, bJ_s, bV_s, bR_s, decide_true, decide_false, not_true_eq_false, not_false_eq_true, dT, dF, w_al, w_la, w_ab, w_sl, w_sb, w_dec, w_ml, w_lm, ol2i_n, aup_ne, aupE, aupJ, setc_self, setc_ne, k8, e1]
  · obtain ⟨s0, s1, s2, s3⟩ := sh141 q hr
    rw [s3] at hl ⊢
    rw [sw 147 (by rw [q, asw_hi (by decide) (by decide)]; rfl), mt141 q]
    obtain ⟨E1, e1, e2, e3⟩ := tSeed xs (d + 4) hκ ht hT hk h hx (by omega) (live_le hl (by show a + 1 ≤ a + 3; omega)) s0
    exact ⟨E1, e1, e2, fun _ => e3⟩
