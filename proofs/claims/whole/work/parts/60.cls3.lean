/-! The class: Stones.take. -/
def isStn (κ : aK) (D : Nat → Nat → Int) (c : Nat) : Prop := c + 4 < κ.1 ∧ κ.2.2 c = (7, 5) ∧ κ.2.2 (c + 1) = (100, 7) ∧ κ.2.2 (c + 2) = (100, 7) ∧ κ.2.2 (c + 3) = (100, 7) ∧ κ.2.2 (c + 4) = (100, 7) ∧ D c 1 = ((c + 1 : Nat) : Int) ∧ D c 2 = ((c + 2 : Nat) : Int) ∧ D c 3 = ((c + 3 : Nat) : Int) ∧ D c 4 = ((c + 4 : Nat) : Int)
theorem p32_snoc (l : List Nat) (a : Nat) : p32 (l ++ [a]) = p32 l + 32 ^ l.length * a := by
  rw [p32_append]
  simp [p32]
/-- a letter's bit in a mask -/
def mbit (m : Int) (a : Nat) : Bool := !decide (oand (oushr m (a : Int)) 1 = 0)
theorem stk_no {f t : Nat} {A B : Nat → Bool} : ∀ (p : Nat) (l : List Nat), wv l → f ∉ l → stk f t A B p l = l
  | _, [], _, _ => rfl
  | p, c :: r, hw, hf => by
    have hc : c ≠ f := fun e => hf (by rw [e]; exact List.mem_cons_self)
    have h1 := (hw c List.mem_cons_self).1
    have e : chs f t A B p c (r.headD 0) = c := by unfold chs; rw [if_neg (fun q => hc q.1)]
    unfold stk
    rw [e, if_neg (by omega), stk_no c r (fun x hx => hw x (List.mem_cons_of_mem _ hx)) (fun hm => hf (List.mem_cons_of_mem _ hm))]
set_option maxHeartbeats 4000000 in
theorem take_loop (xs : List Int) (d : Nat) {κ : aK} {D : Nat → Nat → Int} {c : Nat} (hS : isStn κ D c) {l : List Nat} (hwv : wv l) (hlen : l.length ≤ 8) {s f t : Nat} (hs : s < 7) (hf : D (c + 1) s = (f : Int)) (ht : D (c + 2) s = (t : Int)) (ht2 : t ≤ 26) :
    ∀ (r pre acc : List Nat) (u3 u5 u9 u10 : Option aV), l = pre ++ r → wv acc → acc.length ≤ pre.length →
    ev xs (d + 1) mm_86 39 [some (.inr (.inr (c : Int))), some (.inl (s : Int)), some (.inr (.inl (p32 l : Int))), u3, some (.inr (.inl (p32 acc : Int))), u5, some (.inl ((5 * acc.length : Nat) : Int)), some (.inl ((pre.getLastD 0 : Nat) : Int)), some (.inl ((pre.length : Nat) : Int)), u9, u10] [] (κ, D) = some (some (.inr (.inl (p32 (acc ++ stk f t (mbit (D (c + 3) s)) (mbit (D (c + 4) s)) (pre.getLastD 0) r) : Int))), (κ, D)) := by
  obtain ⟨z1, z2, z3, z4, z5, z6, z7, z8, z9, z10⟩ := hS
  have ko : aok κ (c : Int) 7 = true := aok_t c rfl (by omega) z2
  have m1 : ain κ ((c + 1 : Nat) : Int) 100 (s : Int) = true := ain_t (c + 1) s rfl rfl (by omega) z3 hs
  have m2 : ain κ ((c + 2 : Nat) : Int) 100 (s : Int) = true := ain_t (c + 2) s rfl rfl (by omega) z4 hs
  have m3 : ain κ ((c + 3 : Nat) : Int) 100 (s : Int) = true := ain_t (c + 3) s rfl rfl (by omega) z5 hs
  have m4 : ain κ ((c + 4 : Nat) : Int) 100 (s : Int) = true := ain_t (c + 4) s rfl rfl (by omega) z6 hs
  intro r
  induction r with
  | nil =>
    intro pre acc u3 u5 u9 u10 he hwa hla
    rw [List.append_nil] at he
    subst he
    rw [q_86_39]
    by_cases h8 : l.length = 8
    · rw [show decide ((8 : Int) ≤ ((l.length : Nat) : Int)) = true from decide_eq_true (by omega)]
      simp [stk]
    · rw [show decide ((8 : Int) ≤ ((l.length : Nat) : Int)) = false from decide_eq_false (by omega)]
      simp only [cond_false, letterAt_eq xs d (κ, D) hwv (by omega) (show l.length ≤ 12 by omega), bI, show l.getD l.length 0 = 0 from by simp]
      simp [stk]
  | cons b r ih =>
    intro pre acc u3 u5 u9 u10 he hwa hla
    have hlt : pre.length + (r.length + 1) = l.length := by rw [he]; simp
    have hb := hwv b (by rw [he]; simp)
    have eb : l.getD pre.length 0 = b := by rw [he]; simp
    have en : l.getD (pre.length + 1) 0 = r.headD 0 := by
      rw [he]
      cases r with
      | nil => simp
      | cons x r' => simp
    have hwacc := p32_lt _ hwa
    have h8 : 32 ^ acc.length ≤ 32 ^ 7 := Nat.pow_le_pow_right (by decide) (by omega)
    have e7 : (32 : Nat) ^ 7 = 34359738368 := by decide
    have e3 : w32 (((pre.length : Nat) : Int) + 1) = ((pre.length + 1 : Nat) : Int) := by rw [w32_id (by omega) (by omega)]; omega
    have fin : ∀ (x : Nat), x ≤ 26 → ∀ (w3 w5 : Option aV), ev xs (d + 1) mm_86 119 [some (.inr (.inr (c : Int))), some (.inl (s : Int)), some (.inr (.inl (p32 l : Int))), w3, some (.inr (.inl (p32 acc : Int))), w5, some (.inl ((5 * acc.length : Nat) : Int)), some (.inl ((pre.getLastD 0 : Nat) : Int)), some (.inl ((pre.length : Nat) : Int)), some (.inl (b : Int)), some (.inl (x : Int))] [] (κ, D) = some (some (.inr (.inl (p32 (acc ++ (if x = 0 then stk f t (mbit (D (c + 3) s)) (mbit (D (c + 4) s)) b r else x :: stk f t (mbit (D (c + 3) s)) (mbit (D (c + 4) s)) b r)) : Int))), (κ, D)) := by
      intro x hx w3 w5
      rw [q_86_119, e3]
      by_cases hx0 : x = 0
      · subst hx0
        have ihh := ih (pre ++ [b]) acc w3 w5 (some (.inl (b : Int))) (some (.inl ((0 : Nat) : Int))) (by rw [he]; simp) hwa (by simp; omega)
        rw [getLastD_snoc, List.length_append, List.length_singleton] at ihh
        simpa using ihh
      · have e5 : decide ((x : Int) = 0) = false := decide_eq_false (by omega)
        have hsn := p32_snoc acc x
        have hsh : x * 2 ^ (5 * acc.length) = 32 ^ acc.length * x := by rw [pow32_eq, Nat.mul_comm]
        have hmul : 32 ^ acc.length * x ≤ 34359738368 * 26 := Nat.mul_le_mul (by omega) hx
        have e6 : olor (p32 acc : Int) (olshl (x : Int) ((5 * acc.length : Nat) : Int)) = ((p32 (acc ++ [x]) : Nat) : Int) := by
          rw [olshl_nat (by omega) (by rw [hsh]; omega), hsh, olor_nat (by omega) (by omega), hsn, Nat.or_comm, ← pow32_eq, ← Nat.two_pow_add_eq_or_of_lt (by rw [pow32_eq]; exact hwacc), Nat.add_comm]
        have e7' : w32 (((5 * acc.length : Nat) : Int) + 5) = ((5 * (acc ++ [x]).length : Nat) : Int) := by
          rw [w32_id (by omega) (by omega), List.length_append, List.length_singleton]; omega
        have ihh := ih (pre ++ [b]) (acc ++ [x]) (acl w3) none (some (.inl (b : Int))) (some (.inl (x : Int))) (by rw [he]; simp) (fun y hy => by
          rcases List.mem_append.mp hy with hy | hy
          · exact hwa y hy
          · rw [List.mem_singleton.mp hy]; exact ⟨by omega, hx⟩) (by simp; omega)
        rw [getLastD_snoc, List.length_append (as := pre), List.length_singleton] at ihh
        rw [e5, e6, e7', if_neg hx0]
        rw [List.append_assoc] at ihh
        exact ihh
    rw [q_86_39, show decide ((8 : Int) ≤ ((pre.length : Nat) : Int)) = false from decide_eq_false (by omega)]
    simp only [cond_false, letterAt_eq xs d (κ, D) hwv (by omega) (show pre.length ≤ 12 by omega), letterAt_eq xs d (κ, D) hwv (by omega) (show pre.length + 1 ≤ 12 by omega), bI, eb, en, show decide (¬ (b : Int) = 0) = true from decide_eq_true (by omega), cond_true, ko, Int.toNat_natCast, z7, z8, z9, z10, m1, m2, m3, m4, hf, ht, e3]
    have key : some (some (.inr (.inl (p32 (acc ++ stk f t (mbit (D (c + 3) s)) (mbit (D (c + 4) s)) (pre.getLastD 0) (b :: r)) : Int))), (κ, D)) = ev xs (d + 1) mm_86 119 [some (.inr (.inr (c : Int))), some (.inl (s : Int)), some (.inr (.inl (p32 l : Int))), u3, some (.inr (.inl (p32 acc : Int))), u5, some (.inl ((5 * acc.length : Nat) : Int)), some (.inl ((pre.getLastD 0 : Nat) : Int)), some (.inl ((pre.length : Nat) : Int)), some (.inl (b : Int)), some (.inl ((chs f t (mbit (D (c + 3) s)) (mbit (D (c + 4) s)) (pre.getLastD 0) b (r.headD 0) : Nat) : Int))] [] (κ, D) := (fin _ (chs_le ht2 hb.2) u3 u5).symm
    rw [key]
    unfold chs mbit
    generalize pre.getLastD 0 = pl
    generalize r.headD 0 = nx
    by_cases hbf : b = f
    · subst hbf
      by_cases ha : oand (oushr (D (c + 3) s) (pl : Int)) 1 = 0
      · simp [ha]
      · by_cases hb2 : oand (oushr (D (c + 4) s) (nx : Int)) 1 = 0
        · simp [ha, hb2]
        · simp [ha, hb2]
    · have : ¬ (b : Int) = (f : Int) := by omega
      simp [hbf, this]
/-- Stones.take -/
theorem take_eq (xs : List Int) (d : Nat) {κ : aK} {D : Nat → Nat → Int} {c n : Nat} (hS : isStn κ D c) (hn : D c 0 = (n : Int)) (hn7 : n ≤ 7) {l : List Nat} (hwv : wv l) (hlen : l.length ≤ 8) {s f t : Nat} (hs : s < n) (hf : D (c + 1) s = (f : Int)) (hf2 : f ≤ 26) (ht : D (c + 2) s = (t : Int)) (ht2 : t ≤ 26) :
    cl xs (d + 2) 86 [.inr (.inr (c : Int)), .inl (s : Int), .inr (.inl (p32 l : Int))] (κ, D) = some (some (.inr (.inl (p32 (stk f t (mbit (D (c + 3) s)) (mbit (D (c + 4) s)) 0 l) : Int))), (κ, D)) := by
  obtain ⟨b, hb01, hbn, hb⟩ := hasLetter_eq xs d (κ, D) hwv hlen (f := f) (by omega)
  have hS' := hS
  obtain ⟨z1, z2, z3, z4, z5, z6, z7, z8, z9, z10⟩ := hS
  have ko : aok κ (c : Int) 7 = true := aok_t c rfl (by omega) z2
  have m1 : ain κ ((c + 1 : Nat) : Int) 100 (s : Int) = true := ain_t (c + 1) s rfl rfl (by omega) z3 (by omega)
  rw [c_86]
  simp only [show decide ((s : Int) < 0) = false from decide_eq_false (by omega), cond_false, ko, cond_true, Int.toNat_natCast, hn, show decide ((n : Int) ≤ (s : Int)) = false from decide_eq_false (by omega), z7, m1, hf, hb, bI]
  rcases hb01 with rfl | rfl
  · rw [stk_no 0 l hwv (hbn rfl)]
    simp
  · have key := take_loop xs d hS' hwv hlen (s := s) (by omega) hf ht ht2 l [] [] none none none none rfl (fun _ h => by cases h) (Nat.le_refl _)
    exact key
