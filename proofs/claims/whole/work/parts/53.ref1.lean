/-! The reference: what stands beside, a stone's work. -/
def isbR (D : Nat → Nat → Int) (sort of a : Int) : Bool := if sort = 0 then true else if sort = 3 then decide (a = 0) else if a ≤ 0 then false else if sort = 1 then decide (a = of) else decide (oand (oshr (D 266 (6 * D 256 18 + of).toNat) a) 1 = 1)
theorem isBeside_eq (xs : List Int) (d : Nat) {κ : aK} {D : Nat → Nat → Int} (hκ : Shp κ) (hp : PtrR D) (hl : D 256 18 = 0 ∨ D 256 18 = 1) {sort of a : Int} (hof : ¬ sort = 0 → ¬ sort = 3 → ¬ sort = 1 → 0 ≤ of ∧ of < 6) : cl xs (d + 1) 238 [.inr (.inr 256), .inl sort, .inl of, .inl a] (κ, D) = some (some (.inl (if isbR D sort of a then 1 else 0)), (κ, D)) := by
  rw [c_238]
  unfold isbR
  by_cases h0 : sort = 0
  · simp [h0]
  · by_cases h3 : sort = 3
    · by_cases ha : a = 0 <;> simp [h3, ha]
    · by_cases ha : a ≤ 0
      · simp [h0, h3, ha]
      · by_cases h1 : sort = 1
        · by_cases he : a = of
          · subst he
            simp [h1, ha]
          · simp [h1, ha, he]
        · have ho := hof h0 h3 h1
          have e1 : w32 (w32 (6 * D 256 18) + of) = 6 * D 256 18 + of := by
            rw [w32_add_l]
            exact w32_id (by omega) (by omega)
          have e2 : ain κ 266 100 (6 * D 256 18 + of) = true := n_266 hκ (by omega) (by omega)
          by_cases hb : oand (oshr (D 266 (6 * D 256 18 + of).toNat) a) 1 = 1
          · simp [h0, h3, h1, ha, k_256 hκ, pr_22 hp, e1, e2, hb]
          · simp [h0, h3, h1, ha, k_256 hκ, pr_22 hp, e1, e2, hb]
/-- a stone's work on letters: the letter ahead, then the letters -/
def chs (f t : Nat) (A B : Nat → Bool) (p c x : Nat) : Nat := if c = f ∧ A p = true ∧ B x = true then t else c
def stk (f t : Nat) (A B : Nat → Bool) : Nat → List Nat → List Nat
  | _, [] => []
  | p, c :: r => if chs f t A B p c (r.headD 0) = 0 then stk f t A B c r else chs f t A B p c (r.headD 0) :: stk f t A B c r
theorem chs_le {f t : Nat} {A B : Nat → Bool} {p c x : Nat} (ht : t ≤ 26) (hc : c ≤ 26) : chs f t A B p c x ≤ 26 := by
  unfold chs
  split
  · exact ht
  · exact hc
theorem stk_wv {f t : Nat} {A B : Nat → Bool} (ht : t ≤ 26) : ∀ (p : Nat) (l : List Nat), wv l → wv (stk f t A B p l) ∧ (stk f t A B p l).length ≤ l.length
  | _, [], _ => ⟨fun _ h => (by cases h), Nat.le_refl _⟩
  | p, c :: r, h => by
    have ih := stk_wv ht (f := f) (A := A) (B := B) c r (fun x hx => h x (List.mem_cons_of_mem _ hx))
    have hc := h c List.mem_cons_self
    unfold stk
    split
    · exact ⟨ih.1, Nat.le_succ_of_le ih.2⟩
    · rename_i hne
      refine ⟨fun x hx => ?_, Nat.succ_le_succ ih.2⟩
      rcases List.mem_cons.mp hx with rfl | hx
      · exact ⟨by omega, chs_le ht hc.2⟩
      · exact ih.1 x hx
theorem getLastD_snoc {pre : List Nat} {a d : Nat} : (pre ++ [a]).getLastD d = a := by simp
set_option maxHeartbeats 4000000 in
theorem taken_loop (xs : List Int) (d : Nat) {κ : aK} {D : Nat → Nat → Int} (hκ : Shp κ) (hp : PtrR D) (hl : D 256 18 = 0 ∨ D 256 18 = 1) {l : List Nat} (hlen : l.length ≤ 8) (hwv : wv l) (h0 : D 303 0 = 0) (hg : ∀ j, j < l.length → D 303 (j + 1) = ((l.getD j 0 : Nat) : Int)) (hn : D 303 (l.length + 1) = 0) {k f t : Nat} (hk : k < 14) (hf : D 268 k = (f : Int)) (ht : D 269 k = (t : Int)) (ht2 : t ≤ 26)
    (hA : ¬ D 270 k = 0 → ¬ D 270 k = 3 → ¬ D 270 k = 1 → 0 ≤ D 271 k ∧ D 271 k < 6) (hB : ¬ D 272 k = 0 → ¬ D 272 k = 3 → ¬ D 272 k = 1 → 0 ≤ D 273 k ∧ D 273 k < 6) (v1 v2 v6 : Int) :
    ∀ (r pre acc : List Nat) (u3 u7 u9 u11 : Option aV), l = pre ++ r → wv acc → acc.length ≤ pre.length →
    ev xs (d + 1) mm_239 73 [some (.inr (.inr 256)), some (.inl v1), some (.inr (.inl v2)), u3, some (.inl (k : Int)), some (.inl (l.length : Int)), some (.inr (.inl v6)), u7, some (.inr (.inl (p27 acc : Int))), u9, some (.inl ((pre.length + 1 : Nat) : Int)), u11] [] (κ, D) = some (some (.inr (.inl (p27 (acc ++ stk f t (fun a => isbR D (D 270 k) (D 271 k) (a : Int)) (fun a => isbR D (D 272 k) (D 273 k) (a : Int)) (pre.getLastD 0) r) : Int))), (κ, D))
  | [], pre, acc, u3, u7, u9, u11, he, hwa, hla => by
    rw [List.append_nil] at he
    subst he
    rw [q_239_73]
    have e1 : decide ((l.length : Int) < ((l.length + 1 : Nat) : Int)) = true := decide_eq_true (by omega)
    rw [e1]
    simp [stk]
  | c :: r, pre, acc, u3, u7, u9, u11, he, hwa, hla => by
    have hlt : pre.length + (r.length + 1) = l.length := by rw [he]; simp
    have hc := hwv c (by rw [he]; simp)
    have ec : D 303 (pre.length + 1) = (c : Int) := by
      rw [hg _ (by omega), he]
      simp
    have ep : D 303 pre.length = ((pre.getLastD 0 : Nat) : Int) := by
      by_cases hpe : pre = []
      · subst hpe
        exact h0
      · obtain ⟨q, a, rfl⟩ := list_snoc hpe
        rw [getLastD_snoc, List.length_append, List.length_singleton, hg _ (by rw [← hlt, List.length_append]; simp; omega), he]
        simp
    have en : D 303 (pre.length + 1 + 1) = ((r.headD 0 : Nat) : Int) := by
      cases r with
      | nil =>
        have : l.length = pre.length + 1 := by rw [← hlt]; simp
        rw [← this, hn]; rfl
      | cons b r' =>
        rw [hg _ (by rw [← hlt]; simp), he]
        simp
    have hwacc := p27_lt _ hwa
    have h12 := pow27_12 (n := acc.length) (by omega)
    have e1 : decide ((l.length : Int) < ((pre.length + 1 : Nat) : Int)) = false := decide_eq_false (by omega)
    have e2 : w32 (((pre.length + 1 : Nat) : Int) - 1) = (pre.length : Int) := by rw [w32_id (by omega) (by omega)]; omega
    have e3 : w32 (((pre.length + 1 : Nat) : Int) + 1) = ((pre.length + 1 + 1 : Nat) : Int) := by rw [w32_id (by omega) (by omega)]; omega
    have n1 : ain κ 303 100 ((pre.length + 1 : Nat) : Int) = true := n_303 hκ (by omega) (by omega)
    have n2 : ain κ 303 100 ((pre.length : Nat) : Int) = true := n_303 hκ (by omega) (by omega)
    have n3 : ain κ 303 100 ((pre.length + 1 + 1 : Nat) : Int) = true := n_303 hκ (by omega) (by omega)
    have m1 : ain κ 268 100 (k : Int) = true := n_268 hκ (by omega) (by omega)
    have m2 : ain κ 269 100 (k : Int) = true := n_269 hκ (by omega) (by omega)
    have m3 : ain κ 270 100 (k : Int) = true := n_270 hκ (by omega) (by omega)
    have m4 : ain κ 271 100 (k : Int) = true := n_271 hκ (by omega) (by omega)
    have m5 : ain κ 272 100 (k : Int) = true := n_272 hκ (by omega) (by omega)
    have m6 : ain κ 273 100 (k : Int) = true := n_273 hκ (by omega) (by omega)
    have hkk := k_256 hκ
    have b1 := isBeside_eq xs d hκ hp hl (a := ((pre.getLastD 0 : Nat) : Int)) hA
    have b2 := isBeside_eq xs d hκ hp hl (a := ((r.headD 0 : Nat) : Int)) hB
    -- the step behind the choice of the letter
    have fin : ∀ (x : Nat) (w3 w7 w9 : Option aV), x ≤ 26 → ev xs (d + 1) mm_239 170 [some (.inr (.inr 256)), some (.inl v1), some (.inr (.inl v2)), w3, some (.inl (k : Int)), some (.inl (l.length : Int)), some (.inr (.inl v6)), w7, some (.inr (.inl (p27 acc : Int))), w9, some (.inl ((pre.length + 1 : Nat) : Int)), some (.inl (x : Int))] [] (κ, D) = some (some (.inr (.inl (p27 (acc ++ (if x = 0 then stk f t (fun a => isbR D (D 270 k) (D 271 k) (a : Int)) (fun a => isbR D (D 272 k) (D 273 k) (a : Int)) c r else x :: stk f t (fun a => isbR D (D 270 k) (D 271 k) (a : Int)) (fun a => isbR D (D 272 k) (D 273 k) (a : Int)) c r)) : Int))), (κ, D)) := by
      intro x w3 w7 w9 hx
      rw [q_239_170, e3]
      by_cases hx0 : x = 0
      · subst hx0
        have ih := taken_loop xs d hκ hp hl hlen hwv h0 hg hn hk hf ht ht2 hA hB v1 v2 v6 r (pre ++ [c]) acc w3 w7 (acl w9) (some (.inl (0 : Nat))) (by rw [he]; simp) hwa (by simp; omega)
        rw [getLastD_snoc, List.length_append, List.length_singleton] at ih
        simpa using ih
      · have e5 : decide ((x : Int) ≤ 0) = false := decide_eq_false (by omega)
        have hsn : p27 (acc ++ [x]) = 27 * p27 acc + x := p27_snoc acc x
        have e6 : w64 (w64 (27 * (p27 acc : Int)) + (x : Int)) = ((p27 (acc ++ [x]) : Nat) : Int) := by
          rw [hsn, w64_id (x := 27 * (p27 acc : Int)) (by omega) (by omega), w64_id (by omega) (by omega)]
          omega
        have ih := taken_loop xs d hκ hp hl hlen hwv h0 hg hn hk hf ht ht2 hA hB v1 v2 v6 r (pre ++ [c]) (acc ++ [x]) w3 (acl w7) none (some (.inl (x : Int))) (by rw [he]; simp) (fun y hy => by
          rcases List.mem_append.mp hy with hy | hy
          · exact hwa y hy
          · rw [List.mem_singleton.mp hy]; exact ⟨by omega, hx⟩) (by simp; omega)
        rw [getLastD_snoc, List.length_append, List.length_singleton] at ih
        rw [e5, e6, if_neg hx0]
        rw [List.append_assoc] at ih
        exact ih
    rw [q_239_73, e1]
    simp only [cond_false, hkk, cond_true, show ((256 : Int)).toNat = 256 from rfl, pr_65 hp, pr_24 hp, pr_26 hp, pr_27 hp, pr_28 hp, pr_29 hp, pr_25 hp, n1, m1, show ((303 : Int)).toNat = 303 from rfl, show ((268 : Int)).toNat = 268 from rfl, show ((269 : Int)).toNat = 269 from rfl, show ((270 : Int)).toNat = 270 from rfl, show ((271 : Int)).toNat = 271 from rfl, show ((272 : Int)).toNat = 272 from rfl, show ((273 : Int)).toNat = 273 from rfl, Int.toNat_natCast, ec, hf, ht, e2, e3, n2, n3, m2, m3, m4, m5, m6, ep, en, b1, b2, Bool.and_true, bI]
    have key : some (some (.inr (.inl (p27 (acc ++ stk f t (fun a => isbR D (D 270 k) (D 271 k) (a : Int)) (fun a => isbR D (D 272 k) (D 273 k) (a : Int)) (pre.getLastD 0) (c :: r)) : Int))), (κ, D)) = ev xs (d + 1) mm_239 170 [some (.inr (.inr 256)), some (.inl v1), some (.inr (.inl v2)), u3, some (.inl (k : Int)), some (.inl (l.length : Int)), some (.inr (.inl v6)), u7, some (.inr (.inl (p27 acc : Int))), u9, some (.inl ((pre.length + 1 : Nat) : Int)), some (.inl ((chs f t (fun a => isbR D (D 270 k) (D 271 k) (a : Int)) (fun a => isbR D (D 272 k) (D 273 k) (a : Int)) (pre.getLastD 0) c (r.headD 0) : Nat) : Int))] [] (κ, D) := (fin _ u3 u7 u9 (chs_le ht2 hc.2)).symm
    rw [key]
    unfold chs
    generalize pre.getLastD 0 = pl
    generalize r.headD 0 = nx
    by_cases hcf : c = f
    · subst hcf
      cases ha : isbR D (D 270 k) (D 271 k) (pl : Int)
      · simp [ha]
      · cases hb : isbR D (D 272 k) (D 273 k) (nx : Int)
        · simp [ha, hb]
        · simp [ha, hb]
    · have : ¬ (c : Int) = (f : Int) := by omega
      simp [hcf, this]
