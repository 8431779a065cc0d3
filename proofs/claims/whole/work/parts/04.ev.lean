/-! What a step is, case by case; more fuel; runs without fuel. -/
def abr (i : Instr) (pc len a : Nat) (st : List aV) : Option (Nat × List aV) := match i with
  | .goto _ => some (a, st)
  | .ifCond cd _ => match st with
    | .inl x :: r => some (bif acnd cd x 0 then a else pc + len, r)
    | _ => none
  | .if_icmp cd _ => match st with
    | .inl y :: .inl x :: r => some (bif acnd cd x y then a else pc + len, r)
    | _ => none
  | .tableswitch dflt lo hi offs => match st with
    | .inl x :: r => some (asw pc dflt lo hi offs x, r)
    | _ => none
  | _ => none
def artn (i : Instr) (ret : Option FieldType) (st : List aV) : Option (Option aV) := match i with
  | .ireturn => match st with
    | [.inl x] => match ret with
      | some .int => some (some (.inl x))
      | some .boolean => bif decide (x = 0) || decide (x = 1) then some (some (.inl x)) else none
      | _ => none
    | _ => none
  | .lreturn => match st with
    | [.inr (.inl x)] => match ret with
      | some .long => some (some (.inr (.inl x)))
      | _ => none
    | _ => none
  | .areturn => match st with
    | [.inr (.inr x)] => match ret with
      | some (.object _) => some (some (.inr (.inr x)))
      | some (.array _) => some (some (.inr (.inr x)))
      | _ => none
    | _ => none
  | .return_ => match st with
    | [] => match ret with
      | none => some none
      | _ => none
    | _ => none
  | _ => none
def apsh (c : Nat) (rv : Option aV) (rest : List aV) : Option (List aV) := match c, rv with
  | 0, none => some rest
  | 1, some (.inl x) => some (.inl x :: rest)
  | 2, some (.inr (.inl x)) => some (.inr (.inl x) :: rest)
  | 0, _ => none
  | 1, _ => none
  | 2, _ => none
  | _, some (.inr (.inr x)) => some (.inr (.inr x) :: rest)
  | _, _ => none
def acp (a : Nat) (st : List aV) (h : aH) : Option (List aV × aH) := match st with
  | .inl n :: .inl dp :: .inr (.inr y) :: .inl sp :: .inr (.inr x) :: r =>
    bif aok h.1 x a && (aok h.1 y a && (decide (0 ≤ sp) && (decide (0 ≤ dp) && (decide (0 ≤ n) && (decide (sp.toNat + n.toNat ≤ aln h.1 x) && (decide (dp.toNat + n.toNat ≤ aln h.1 y) && Nat.ble (acats r) 8)))))) then
      some (r, (h.1, fun q j => if q = y.toNat then acpy (h.2 x.toNat) (h.2 y.toNat) sp.toNat dp.toNat n.toNat j else h.2 q j)) else none
  | _ => none
theorem ahk_eq (xs : List Int) (i : Instr) (a b c : Nat) (z : Int) (st : List aV) (h : aH) (k : List aV → aH → aO) : ahk xs i a b c z st h k = (aho xs i a b c z st h).bind (fun p => k p.1 p.2) := by
  cases i
  case ldc =>
    show (match c with | 28 => _ | _ => _) = Option.bind (match c with | 28 => _ | _ => _) _
    split <;> rfl
  case getfield =>
    rcases st with _ | ⟨v1 | v1 | v1, st⟩ <;> try rfl
    show (bif aok h.1 v1 a then _ else _) = Option.bind (bif aok h.1 v1 a then _ else _) _
    cases aok h.1 v1 a <;> rfl
  case putfield =>
    rcases c with _ | _ | _ | _ | c
    · rcases st with _ | ⟨v1 | v1 | v1, _ | ⟨v2 | v2 | v2, st⟩⟩ <;> try rfl
      show (bif aok h.1 v2 a then _ else _) = Option.bind (bif aok h.1 v2 a then _ else _) _
      cases aok h.1 v2 a <;> rfl
    · rcases st with _ | ⟨v1 | v1 | v1, _ | ⟨v2 | v2 | v2, st⟩⟩ <;> try rfl
      show (bif aok h.1 v2 a then _ else _) = Option.bind (bif aok h.1 v2 a then _ else _) _
      cases aok h.1 v2 a <;> rfl
    · rcases st with _ | ⟨v1 | v1 | v1, _ | ⟨v2 | v2 | v2, st⟩⟩ <;> try rfl
      show (bif aok h.1 v2 a then _ else _) = Option.bind (bif aok h.1 v2 a then _ else _) _
      cases aok h.1 v2 a <;> rfl
    · rcases st with _ | ⟨v1 | v1 | v1, _ | ⟨v2 | v2 | v2, st⟩⟩ <;> try rfl
      show (bif aok h.1 v2 a && (decide (v1 = 0) || decide (v1 = 1)) then _ else _) = Option.bind (bif aok h.1 v2 a && (decide (v1 = 0) || decide (v1 = 1)) then _ else _) _
      cases aok h.1 v2 a && (decide (v1 = 0) || decide (v1 = 1)) <;> rfl
    · rfl
  case iaload =>
    rcases c with _ | _ | _ | _ | _ | _ | c <;> try rfl
    · rcases st with _ | ⟨v1 | v1 | v1, _ | ⟨v2 | v2 | v2, st⟩⟩ <;> try rfl
      show (bif ain h.1 v2 100 v1 then _ else _) = Option.bind (bif ain h.1 v2 100 v1 then _ else _) _
      cases ain h.1 v2 100 v1 <;> rfl
    · rcases st with _ | ⟨v1 | v1 | v1, _ | ⟨v2 | v2 | v2, st⟩⟩ <;> try rfl
      show (bif decide (v2 = -2) && (decide (0 ≤ v1) && decide (v1.toNat < xs.length)) then _ else _) = Option.bind (bif decide (v2 = -2) && (decide (0 ≤ v1) && decide (v1.toNat < xs.length)) then _ else _) _
      cases decide (v2 = -2) && (decide (0 ≤ v1) && decide (v1.toNat < xs.length)) <;> rfl
  case laload =>
    rcases st with _ | ⟨v1 | v1 | v1, _ | ⟨v2 | v2 | v2, st⟩⟩ <;> try rfl
    show (bif ain h.1 v2 101 v1 then _ else _) = Option.bind (bif ain h.1 v2 101 v1 then _ else _) _
    cases ain h.1 v2 101 v1 <;> rfl
  case aaload =>
    rcases st with _ | ⟨v1 | v1 | v1, _ | ⟨v2 | v2 | v2, st⟩⟩ <;> try rfl
    show (bif ain h.1 v2 104 v1 then _ else _) = Option.bind (bif ain h.1 v2 104 v1 then _ else _) _
    cases ain h.1 v2 104 v1 <;> rfl
  case baload =>
    rcases c with _ | _ | _ | _ | c <;> try rfl
    · rcases st with _ | ⟨v1 | v1 | v1, _ | ⟨v2 | v2 | v2, st⟩⟩ <;> try rfl
      show (bif ain h.1 v2 102 v1 then _ else _) = Option.bind (bif ain h.1 v2 102 v1 then _ else _) _
      cases ain h.1 v2 102 v1 <;> rfl
    · rcases st with _ | ⟨v1 | v1 | v1, _ | ⟨v2 | v2 | v2, st⟩⟩ <;> try rfl
      show (bif ain h.1 v2 103 v1 then _ else _) = Option.bind (bif ain h.1 v2 103 v1 then _ else _) _
      cases ain h.1 v2 103 v1 <;> rfl
  case iastore =>
    rcases st with _ | ⟨v1 | v1 | v1, _ | ⟨v2 | v2 | v2, _ | ⟨v3 | v3 | v3, st⟩⟩⟩ <;> try rfl
    show (bif ain h.1 v3 100 v2 then _ else _) = Option.bind (bif ain h.1 v3 100 v2 then _ else _) _
    cases ain h.1 v3 100 v2 <;> rfl
  case lastore =>
    rcases st with _ | ⟨v1 | v1 | v1, _ | ⟨v2 | v2 | v2, _ | ⟨v3 | v3 | v3, st⟩⟩⟩ <;> try rfl
    show (bif ain h.1 v3 101 v2 then _ else _) = Option.bind (bif ain h.1 v3 101 v2 then _ else _) _
    cases ain h.1 v3 101 v2 <;> rfl
  case bastore =>
    rcases c with _ | _ | _ | _ | c <;> try rfl
    · rcases st with _ | ⟨v1 | v1 | v1, _ | ⟨v2 | v2 | v2, _ | ⟨v3 | v3 | v3, st⟩⟩⟩ <;> try rfl
      show (bif ain h.1 v3 102 v2 then _ else _) = Option.bind (bif ain h.1 v3 102 v2 then _ else _) _
      cases ain h.1 v3 102 v2 <;> rfl
    · rcases st with _ | ⟨v1 | v1 | v1, _ | ⟨v2 | v2 | v2, _ | ⟨v3 | v3 | v3, st⟩⟩⟩ <;> try rfl
      show (bif ain h.1 v3 103 v2 && (decide (v1 = 0) || decide (v1 = 1)) then _ else _) = Option.bind (bif ain h.1 v3 103 v2 && (decide (v1 = 0) || decide (v1 = 1)) then _ else _) _
      cases ain h.1 v3 103 v2 && (decide (v1 = 0) || decide (v1 = 1)) <;> rfl
  case aastore =>
    rcases st with _ | ⟨v1 | v1 | v1, _ | ⟨v2 | v2 | v2, _ | ⟨v3 | v3 | v3, st⟩⟩⟩ <;> try rfl
    show (bif ain h.1 v3 104 v2 && aok h.1 v1 a then _ else _) = Option.bind (bif ain h.1 v3 104 v2 && aok h.1 v1 a then _ else _) _
    cases ain h.1 v3 104 v2 && aok h.1 v1 a <;> rfl
  case arraylength =>
    rcases c with _ | _ | _ | _ | _ | _ | c <;> try rfl
    · rcases st with _ | ⟨v1 | v1 | v1, st⟩ <;> try rfl
      show (bif aoa h.1 v1 then _ else _) = Option.bind (bif aoa h.1 v1 then _ else _) _
      cases aoa h.1 v1 <;> rfl
    · rcases st with _ | ⟨v1 | v1 | v1, st⟩ <;> try rfl
      show (bif decide (v1 = -2) then _ else _) = Option.bind (bif decide (v1 = -2) then _ else _) _
      cases decide (v1 = -2) <;> rfl
  case newarray =>
    rcases st with _ | ⟨v1 | v1 | v1, st⟩ <;> try rfl
    show (bif decide (0 ≤ v1) && decide (v1 ≤ 1000000) then _ else _) = Option.bind (bif decide (0 ≤ v1) && decide (v1 ≤ 1000000) then _ else _) _
    cases decide (0 ≤ v1) && decide (v1 ≤ 1000000) <;> rfl
  case anewarray =>
    rcases st with _ | ⟨v1 | v1 | v1, st⟩ <;> try rfl
    show (bif decide (0 ≤ v1) && decide (v1 ≤ 1000000) then _ else _) = Option.bind (bif decide (0 ≤ v1) && decide (v1 ≤ 1000000) then _ else _) _
    cases decide (0 ≤ v1) && decide (v1 ≤ 1000000) <;> rfl
  case idiv =>
    rcases st with _ | ⟨v1 | v1 | v1, _ | ⟨v2 | v2 | v2, st⟩⟩ <;> try rfl
    show (bif decide (v1 = 0) then _ else _) = Option.bind (bif decide (v1 = 0) then _ else _) _
    cases decide (v1 = 0) <;> rfl
  case irem =>
    rcases st with _ | ⟨v1 | v1 | v1, _ | ⟨v2 | v2 | v2, st⟩⟩ <;> try rfl
    show (bif decide (v1 = 0) then _ else _) = Option.bind (bif decide (v1 = 0) then _ else _) _
    cases decide (v1 = 0) <;> rfl
  case ldiv =>
    rcases st with _ | ⟨v1 | v1 | v1, _ | ⟨v2 | v2 | v2, st⟩⟩ <;> try rfl
    show (bif decide (v1 = 0) then _ else _) = Option.bind (bif decide (v1 = 0) then _ else _) _
    cases decide (v1 = 0) <;> rfl
  case lrem =>
    rcases st with _ | ⟨v1 | v1 | v1, _ | ⟨v2 | v2 | v2, st⟩⟩ <;> try rfl
    show (bif decide (v1 = 0) then _ else _) = Option.bind (bif decide (v1 = 0) then _ else _) _
    cases decide (v1 = 0) <;> rfl
  all_goals rfl
theorem sxk_eq (a : Nat) (args : List aV) (k : Int → aO) : sxk a args k = (sxo a args).bind k := by
  unfold sxk sxo
  split
  · rename_i x
    cases decide (x = -10) <;> rfl
  · rename_i x i
    cases decide (x = -10) && (decide (0 ≤ i) && decide (i.toNat < str0.length)) <;> rfl
  · rename_i x c
    cases decide (x = -11) <;> rfl
  · rfl
def aCs (xs : List Int) (g : Nat → aM → Nat → aL → List aV → aH → aO) (gc : Nat → Nat → List aV → aH → aO) (d : Nat) (M : aM) (pc : Nat) (ls : aL) (st : List aV) (h : aH) (r : Option aV × aH) (i : Instr) (len a b c : Nat) (z : Int) : Prop :=
  (c = 20 ∧ ∃ st', apu i st = some st' ∧ g d M (pc + len) ls st' h = some r) ∨
  (c = 21 ∧ ∃ ls' st', alo i ls st = some (ls', st') ∧ g d M (pc + len) ls' st' h = some r) ∨
  (c = 22 ∧ ∃ pc' st', abr i pc len a st = some (pc', st') ∧ g d M pc' ls st' h = some r) ∨
  (c = 23 ∧ artn i M.2.2.2.1 st = some r.1 ∧ r.2 = h) ∨
  (c = 24 ∧ ∃ x rest, st = .inr (.inr x) :: rest ∧ 0 ≤ x ∧ acats rest ≤ 8 ∧ g d M (pc + 3) ls rest h = some r) ∨
  (c = 25 ∧ ∃ st' h', acp a st h = some (st', h') ∧ g d M (pc + 3) ls st' h' = some r) ∨
  (c = 26 ∧ ∃ args rest rv h1 st', aarg b st = some (args, rest) ∧ arcv i args h.1 z = true ∧ acats rest ≤ 8 ∧ gc d a args h = some (rv, h1) ∧ apsh (len - 3) rv rest = some st' ∧ g d M (pc + 3) ls st' h1 = some r) ∨
  (c = 29 ∧ ∃ args rest x, aarg b st = some (args, rest) ∧ 8 ≤ d ∧ acats rest ≤ 8 ∧ sxo a args = some x ∧ g d M (pc + 3) ls (.inl x :: rest) h = some r) ∨
  (c = 30 ∧ ∃ x y rest, st = .inl y :: .inl x :: rest ∧ acats rest ≤ 8 ∧ g d M (pc + 3) ls (.inl (ammx a x y) :: rest) h = some r) ∨
  ((c ≤ 19 ∨ (27 ≤ c ∧ c ≠ 29 ∧ c ≠ 30)) ∧ ∃ st' h', aho xs i a b c z st h = some (st', h') ∧ g d M (pc + len) ls st' h' = some r)

theorem aph_cases {xs : List Int} {g : Nat → aM → Nat → aL → List aV → aH → aO} {gc : Nat → Nat → List aV → aH → aO} {d : Nat} {M : aM} {pc : Nat} {ls : aL} {st : List aV} {h : aH} {r : Option aV × aH} (hr : aph xs g gc d M pc ls st h = some r) : ∃ i len a b c z, afind M.2.2.2.2 pc = some (i, len, a, b, c, z) ∧ aCs xs g gc d M pc ls st h r i len a b c z := by
  unfold aph at hr
  split at hr
  · cases hr
  · rename_i i len a b c z he
    refine ⟨i, len, a, b, c, z, he, ?_⟩
    unfold aCs
    split at hr
    · split at hr
      · rename_i st' h1
        exact Or.inl ⟨rfl, st', h1, hr⟩
      · cases hr
    · split at hr
      · rename_i ls' st' h1
        exact Or.inr (Or.inl ⟨rfl, ls', st', h1, hr⟩)
      · cases hr
    · refine Or.inr (Or.inr (Or.inl ⟨rfl, ?_⟩))
      split at hr
      · exact ⟨_, _, rfl, hr⟩
      · split at hr
        · rename_i cd off st0 x r'
          cases hc : acnd cd x 0
          · rw [hc] at hr
            exact ⟨_, _, by simp [abr, hc], hr⟩
          · rw [hc] at hr
            exact ⟨_, _, by simp [abr, hc], hr⟩
        · cases hr
      · split at hr
        · rename_i cd off st0 y x r'
          cases hc : acnd cd x y
          · rw [hc] at hr
            exact ⟨_, _, by simp [abr, hc], hr⟩
          · rw [hc] at hr
            exact ⟨_, _, by simp [abr, hc], hr⟩
        · cases hr
      · split at hr
        · exact ⟨_, _, rfl, hr⟩
        · cases hr
      · cases hr
    · refine Or.inr (Or.inr (Or.inr (Or.inl ⟨rfl, ?_⟩)))
      split at hr
      · split at hr
        · split at hr
          · rename_i h1
            cases hr
            exact ⟨by simp [artn, h1], rfl⟩
          · rename_i x _ h1
            cases hb : decide (x = 0) || decide (x = 1)
            · rw [hb] at hr; cases hr
            · rw [hb] at hr; cases hr
              exact ⟨by simp only [artn, h1, hb, cond_true], rfl⟩
          · cases hr
        · cases hr
      · split at hr
        · split at hr
          · rename_i h1
            cases hr
            exact ⟨by simp [artn, h1], rfl⟩
          · cases hr
        · cases hr
      · split at hr
        · split at hr
          · rename_i h1
            cases hr
            exact ⟨by simp [artn, h1], rfl⟩
          · rename_i h1
            cases hr
            exact ⟨by simp [artn, h1], rfl⟩
          · cases hr
        · cases hr
      · split at hr
        · split at hr
          · rename_i h1
            cases hr
            exact ⟨by simp [artn, h1], rfl⟩
          · cases hr
        · cases hr
      · cases hr
    · refine Or.inr (Or.inr (Or.inr (Or.inr (Or.inl ⟨rfl, ?_⟩))))
      split at hr
      · rename_i x r'
        cases hb : decide (0 ≤ x) && Nat.ble (acats r') 8
        · rw [hb] at hr; cases hr
        · rw [hb] at hr
          simp only [Bool.and_eq_true, decide_eq_true_eq] at hb
          exact ⟨x, r', rfl, hb.1, Nat.le_of_ble_eq_true hb.2, hr⟩
      · cases hr
    · refine Or.inr (Or.inr (Or.inr (Or.inr (Or.inr (Or.inl ⟨rfl, ?_⟩)))))
      split at hr
      · rename_i n dp y sp x r'
        cases hb : (aok h.1 x a && (aok h.1 y a && (decide (0 ≤ sp) && (decide (0 ≤ dp) && (decide (0 ≤ n) && (decide (sp.toNat + n.toNat ≤ aln h.1 x) && (decide (dp.toNat + n.toNat ≤ aln h.1 y) && Nat.ble (acats r') 8)))))))
        · rw [hb] at hr; cases hr
        · rw [hb] at hr
          exact ⟨_, _, by simp only [acp, hb, cond_true], hr⟩
      · cases hr
    · refine Or.inr (Or.inr (Or.inr (Or.inr (Or.inr (Or.inr (Or.inl ⟨rfl, ?_⟩))))))
      split at hr
      · rename_i args rest h1
        cases hb : arcv i args h.1 z && Nat.ble (acats rest) 8
        · rw [hb] at hr; cases hr
        · rw [hb] at hr
          simp only [Bool.and_eq_true] at hb
          simp only [cond_true] at hr
          unfold abnd at hr
          split at hr
          · unfold bV at hr
            split at hr
            · rename_i hl _ h2 hg
              exact ⟨args, rest, _, _, _, h1, hb.1, Nat.le_of_ble_eq_true hb.2, hg, by rw [hl]; rfl, hr⟩
            · cases hr
          · unfold bI at hr
            split at hr
            · rename_i hl _ x h2 hg
              exact ⟨args, rest, _, _, _, h1, hb.1, Nat.le_of_ble_eq_true hb.2, hg, by rw [hl]; rfl, hr⟩
            · cases hr
          · unfold bJ at hr
            split at hr
            · rename_i hl _ x h2 hg
              exact ⟨args, rest, _, _, _, h1, hb.1, Nat.le_of_ble_eq_true hb.2, hg, by rw [hl]; rfl, hr⟩
            · cases hr
          · rename_i n0 n1 n2
            unfold bR at hr
            split at hr
            · rename_i _ x h2 hg
              refine ⟨args, rest, _, _, _, h1, hb.1, Nat.le_of_ble_eq_true hb.2, hg, ?_, hr⟩
              unfold apsh
              split <;> first | rfl | (rename_i e _; cases e) | simp_all
            · cases hr
      · cases hr
    · refine Or.inr (Or.inr (Or.inr (Or.inr (Or.inr (Or.inr (Or.inr (Or.inl ⟨rfl, ?_⟩)))))))
      split at hr
      · rename_i args rest h1
        cases hb : Nat.ble 8 d && Nat.ble (acats rest) 8
        · rw [hb] at hr; cases hr
        · rw [hb] at hr
          simp only [Bool.and_eq_true] at hb
          simp only [cond_true] at hr
          rw [sxk_eq] at hr
          cases hx : sxo a args with
          | none => rw [hx] at hr; cases hr
          | some x =>
            rw [hx] at hr
            exact ⟨args, rest, x, h1, Nat.le_of_ble_eq_true hb.1, Nat.le_of_ble_eq_true hb.2, hx, hr⟩
      · cases hr
    · refine Or.inr (Or.inr (Or.inr (Or.inr (Or.inr (Or.inr (Or.inr (Or.inr (Or.inl ⟨rfl, ?_⟩))))))))
      split at hr
      · rename_i y x r'
        cases hb : Nat.ble (acats r') 8
        · rw [hb] at hr; cases hr
        · rw [hb] at hr
          exact ⟨x, y, r', rfl, Nat.le_of_ble_eq_true hb, hr⟩
      · cases hr
    · rename_i n20 n21 n22 n23 n24 n25 n26 n29 n30
      refine Or.inr (Or.inr (Or.inr (Or.inr (Or.inr (Or.inr (Or.inr (Or.inr (Or.inr ⟨?_, ?_⟩))))))))
      · rcases Nat.lt_or_ge c 20 with h0 | h0
        · exact Or.inl (by omega)
        · rcases Nat.lt_or_ge c 27 with h1 | h1
          · have : c = 20 ∨ c = 21 ∨ c = 22 ∨ c = 23 ∨ c = 24 ∨ c = 25 ∨ c = 26 := by omega
            rcases this with e | e | e | e | e | e | e <;> exact absurd e (by assumption)
          · exact Or.inr ⟨h1, by assumption, by assumption⟩
      · rw [ahk_eq] at hr
        cases ho : aho xs i a b c z st h with
        | none => rw [ho] at hr; cases hr
        | some q => rw [ho] at hr; exact ⟨q.1, q.2, rfl, hr⟩

theorem acw_cases {P : Nat → Option aM} {X : Nat → Option (List aV → Option (Option aV))} {g : Nat → aM → Nat → aL → List aV → aH → aO} {d m : Nat} {args : List aV} {h : aH} {r : Option aV × aH} (hr : acw P X g d m args h = some r) : ∃ d', d = d' + 1 ∧ ((∃ fx, X m = some fx ∧ 8 ≤ d' ∧ fx args = some r.1 ∧ r.2 = h) ∨ (X m = none ∧ ∃ M ls, P m = some M ∧ aent M.2.2.1 args = some ls ∧ g d' M 0 ls [] h = some r)) := by
  cases d with
  | zero => cases hr
  | succ d =>
    refine ⟨d, rfl, ?_⟩
    simp only [acw] at hr
    split at hr
    · rename_i fx hx
      cases hg : Nat.ble 8 d <;> rw [hg] at hr
      · cases hr
      · simp only [cond_true] at hr
        split at hr
        · rename_i rv hv
          cases hr
          exact Or.inl ⟨fx, hx, Nat.le_of_ble_eq_true hg, hv, rfl⟩
        · cases hr
    · rename_i hx
      split at hr
      · cases hr
      · rename_i M hM
        split at hr
        · cases hr
        · rename_i ls hl
          exact Or.inr ⟨hx, M, ls, hM, hl, hr⟩
theorem aph_of {xs : List Int} {g : Nat → aM → Nat → aL → List aV → aH → aO} {gc : Nat → Nat → List aV → aH → aO} {d : Nat} {M : aM} {pc : Nat} {ls : aL} {st : List aV} {h : aH} {r : Option aV × aH} {i : Instr} {len a b c : Nat} {z : Int} (he : afind M.2.2.2.2 pc = some (i, len, a, b, c, z)) (hc : aCs xs g gc d M pc ls st h r i len a b c z) : aph xs g gc d M pc ls st h = some r := by
  unfold aCs at hc
  rcases hc with ⟨rfl, st', h1, h2⟩ | ⟨rfl, ls', st', h1, h2⟩ | ⟨rfl, pc', st', h1, h2⟩ | ⟨rfl, h1, h2⟩ | ⟨rfl, x, rest, rfl, h1, h2, h3⟩ | ⟨rfl, st', h', h1, h2⟩ | ⟨rfl, args, rest, rv, h1, st', h2, h3, h4, h5, h6, h7⟩ | ⟨rfl, args, rest, x, h2, h3, h4, h5, h6⟩ | ⟨rfl, x, y, rest, rfl, h2, h3⟩ | ⟨hc, st', h', h1, h2⟩
  · simp only [aph, he, h1, h2]
  · simp only [aph, he, h1, h2]
  · simp only [aph, he]
    unfold abr at h1
    split at h1
    · cases h1; exact h2
    · split at h1
      · rename_i cd _ _ x r'
        cases h1
        cases hb : acnd cd x 0 <;> rw [hb] at h2 <;> simp only [hb] <;> exact h2
      · cases h1
    · split at h1
      · rename_i cd _ _ y x r'
        cases h1
        cases hb : acnd cd x y <;> rw [hb] at h2 <;> simp only [hb] <;> exact h2
      · cases h1
    · split at h1
      · cases h1; exact h2
      · cases h1
    · cases h1
  · obtain ⟨rv, hh⟩ := r
    cases h2
    simp only [aph, he]
    unfold artn at h1
    split at h1
    · split at h1
      · split at h1
        · rename_i hR; cases h1; simp only [hR]
        · rename_i x _ hR
          cases hb : decide (x = 0) || decide (x = 1)
          · rw [hb] at h1; cases h1
          · rw [hb] at h1; cases h1
            simp only [hR, hb, cond_true]
        · cases h1
      · cases h1
    · split at h1
      · split at h1
        · rename_i hR; cases h1; simp only [hR]
        · cases h1
      · cases h1
    · split at h1
      · split at h1
        · rename_i hR; cases h1; simp only [hR]
        · rename_i hR; cases h1; simp only [hR]
        · cases h1
      · cases h1
    · split at h1
      · split at h1
        · rename_i hR; cases h1; simp only [hR]
        · cases h1
      · cases h1
    · cases h1
  · simp only [aph, he]
    rw [show (decide (0 ≤ x) && Nat.ble (acats rest) 8) = true by rw [Bool.and_eq_true]; exact ⟨decide_eq_true h1, Nat.ble_eq_true_of_le h2⟩]
    exact h3
  · simp only [aph, he]
    unfold acp at h1
    split at h1
    · rename_i n dp y sp x r'
      cases hb : (aok h.1 x a && (aok h.1 y a && (decide (0 ≤ sp) && (decide (0 ≤ dp) && (decide (0 ≤ n) && (decide (sp.toNat + n.toNat ≤ aln h.1 x) && (decide (dp.toNat + n.toNat ≤ aln h.1 y) && Nat.ble (acats r') 8)))))))
      · rw [hb] at h1; cases h1
      · rw [hb] at h1; cases h1
        simp only [hb, cond_true]
        exact h2
    · cases h1
  · simp only [aph, he, h2]
    rw [show (arcv i args h.1 z && Nat.ble (acats rest) 8) = true by rw [Bool.and_eq_true]; exact ⟨h3, Nat.ble_eq_true_of_le h4⟩]
    simp only [cond_true, h5]
    unfold apsh at h6
    unfold abnd
    split at h6
    · rename_i hl; cases h6; simp only [hl, bV]; exact h7
    · rename_i hl; cases h6; simp only [hl, bI]; exact h7
    · rename_i hl; cases h6; simp only [hl, bJ]; exact h7
    · cases h6
    · cases h6
    · cases h6
    · rename_i n0 n1 n2
      cases h6
      split
      · rename_i e; exact absurd e (by assumption)
      · rename_i e; exact absurd e (by assumption)
      · rename_i e; exact absurd e (by assumption)
      · simp only [bR]; exact h7
    · cases h6
  · simp only [aph, he, h2]
    rw [show (Nat.ble 8 d && Nat.ble (acats rest) 8) = true by rw [Bool.and_eq_true]; exact ⟨Nat.ble_eq_true_of_le h3, Nat.ble_eq_true_of_le h4⟩]
    simp only [cond_true, sxk_eq, h5]
    exact h6
  · simp only [aph, he, Nat.ble_eq_true_of_le h2, cond_true]
    exact h3
  · have e : aph xs g gc d M pc ls st h = ahk xs i a b c z st h (fun st' h' => g d M (pc + len) ls st' h') := by
      simp only [aph, he]
      split <;> first | rfl | omega
    rw [e, ahk_eq, h1]
    exact h2

theorem aCs_mono {xs : List Int} {g g' : Nat → aM → Nat → aL → List aV → aH → aO} {gc gc' : Nat → Nat → List aV → aH → aO} {d : Nat} {M : aM} {pc : Nat} {ls : aL} {st : List aV} {h : aH} {r : Option aV × aH} {i : Instr} {len a b c : Nat} {z : Int} (hg : ∀ d M pc ls st h r, g d M pc ls st h = some r → g' d M pc ls st h = some r) (hgc : ∀ d m args h r, gc d m args h = some r → gc' d m args h = some r) (hc : aCs xs g gc d M pc ls st h r i len a b c z) : aCs xs g' gc' d M pc ls st h r i len a b c z := by
  unfold aCs at hc ⊢
  rcases hc with ⟨e, st', h1, h2⟩ | ⟨e, ls', st', h1, h2⟩ | ⟨e, pc', st', h1, h2⟩ | ⟨e, h1, h2⟩ | ⟨e, x, rest, e2, h1, h2, h3⟩ | ⟨e, st', h', h1, h2⟩ | ⟨e, args, rest, rv, h1, st', h2, h3, h4, h5, h6, h7⟩ | ⟨e, args, rest, x, h2, h3, h4, h5, h6⟩ | ⟨e, x, y, rest, e2, h2, h3⟩ | ⟨hc, st', h', h1, h2⟩
  · exact Or.inl ⟨e, st', h1, hg _ _ _ _ _ _ _ h2⟩
  · exact Or.inr (Or.inl ⟨e, ls', st', h1, hg _ _ _ _ _ _ _ h2⟩)
  · exact Or.inr (Or.inr (Or.inl ⟨e, pc', st', h1, hg _ _ _ _ _ _ _ h2⟩))
  · exact Or.inr (Or.inr (Or.inr (Or.inl ⟨e, h1, h2⟩)))
  · exact Or.inr (Or.inr (Or.inr (Or.inr (Or.inl ⟨e, x, rest, e2, h1, h2, hg _ _ _ _ _ _ _ h3⟩))))
  · exact Or.inr (Or.inr (Or.inr (Or.inr (Or.inr (Or.inl ⟨e, st', h', h1, hg _ _ _ _ _ _ _ h2⟩)))))
  · exact Or.inr (Or.inr (Or.inr (Or.inr (Or.inr (Or.inr (Or.inl ⟨e, args, rest, rv, h1, st', h2, h3, h4, hgc _ _ _ _ _ h5, h6, hg _ _ _ _ _ _ _ h7⟩))))))
  · exact Or.inr (Or.inr (Or.inr (Or.inr (Or.inr (Or.inr (Or.inr (Or.inl ⟨e, args, rest, x, h2, h3, h4, h5, hg _ _ _ _ _ _ _ h6⟩)))))))
  · exact Or.inr (Or.inr (Or.inr (Or.inr (Or.inr (Or.inr (Or.inr (Or.inr (Or.inl ⟨e, x, y, rest, e2, h2, hg _ _ _ _ _ _ _ h3⟩))))))))
  · exact Or.inr (Or.inr (Or.inr (Or.inr (Or.inr (Or.inr (Or.inr (Or.inr (Or.inr ⟨hc, st', h', h1, hg _ _ _ _ _ _ _ h2⟩))))))))
theorem acw_mono {P : Nat → Option aM} {X : Nat → Option (List aV → Option (Option aV))} {g g' : Nat → aM → Nat → aL → List aV → aH → aO} (hg : ∀ d M pc ls st h r, g d M pc ls st h = some r → g' d M pc ls st h = some r) : ∀ d m args h r, acw P X g d m args h = some r → acw P X g' d m args h = some r := by
  intro d m args h r hr
  obtain ⟨d', rfl, ⟨fx, h1, h0, h2, h3⟩ | ⟨h0, M, ls, h1, h2, h3⟩⟩ := acw_cases hr
  · obtain ⟨rv, hh⟩ := r
    cases h3
    simp only [acw, h1, h2, Nat.ble_eq_true_of_le h0, cond_true]
  · simp only [acw, h0, h1, h2]
    exact hg _ _ _ _ _ _ _ h3
theorem arun_mono (P : Nat → Option aM) (X : Nat → Option (List aV → Option (Option aV))) (xs : List Int) : ∀ (f d : Nat) (M : aM) (pc : Nat) (ls : aL) (st : List aV) (h : aH) (r : Option aV × aH), arun P X xs f d M pc ls st h = some r → arun P X xs (f + 1) d M pc ls st h = some r
  | 0, _, _, _, _, _, _, _, hr => by cases hr
  | f + 1, d, M, pc, ls, st, h, r, hr => by
    obtain ⟨i, len, a, b, c, z, he, hc⟩ := aph_cases (show aph xs (arun P X xs f) (acw P X (arun P X xs f)) d M pc ls st h = some r from hr)
    exact aph_of (gc := acw P X (arun P X xs (f + 1))) he (aCs_mono (arun_mono P X xs f) (acw_mono (arun_mono P X xs f)) hc)
theorem arun_le {P : Nat → Option aM} {X : Nat → Option (List aV → Option (Option aV))} {xs : List Int} {f f' : Nat} (hf : f ≤ f') {d : Nat} {M : aM} {pc : Nat} {ls : aL} {st : List aV} {h : aH} {r : Option aV × aH} (hr : arun P X xs f d M pc ls st h = some r) : arun P X xs f' d M pc ls st h = some r := by
  induction hf with
  | refl => exact hr
  | step _ ih => exact arun_mono P X xs _ _ _ _ _ _ _ _ ih
noncomputable def aev (P : Nat → Option aM) (X : Nat → Option (List aV → Option (Option aV))) (xs : List Int) (d : Nat) (M : aM) (pc : Nat) (ls : aL) (st : List aV) (h : aH) : aO :=
  @dite _ (∃ r f, arun P X xs f d M pc ls st h = some r) (Classical.propDecidable _) (fun hx => some (Classical.choose hx)) (fun _ => none)
theorem of_aev {P : Nat → Option aM} {X : Nat → Option (List aV → Option (Option aV))} {xs : List Int} {d : Nat} {M : aM} {pc : Nat} {ls : aL} {st : List aV} {h : aH} {r : Option aV × aH} (hr : aev P X xs d M pc ls st h = some r) : ∃ f, arun P X xs f d M pc ls st h = some r := by
  unfold aev at hr
  split at hr
  · rename_i hx
    cases hr
    exact Classical.choose_spec hx
  · cases hr
theorem aev_of {P : Nat → Option aM} {X : Nat → Option (List aV → Option (Option aV))} {xs : List Int} {f d : Nat} {M : aM} {pc : Nat} {ls : aL} {st : List aV} {h : aH} {r : Option aV × aH} (hr : arun P X xs f d M pc ls st h = some r) : aev P X xs d M pc ls st h = some r := by
  have hx : ∃ r f, arun P X xs f d M pc ls st h = some r := ⟨r, f, hr⟩
  unfold aev
  rw [dif_pos hx]
  obtain ⟨f', hf'⟩ := Classical.choose_spec hx
  have h1 := arun_le (Nat.le_max_left f f') hr
  have h2 := arun_le (Nat.le_max_right f f') hf'
  exact h2.symm.trans h1
theorem aev_eq (P : Nat → Option aM) (X : Nat → Option (List aV → Option (Option aV))) (xs : List Int) (d : Nat) (M : aM) (pc : Nat) (ls : aL) (st : List aV) (h : aH) : aev P X xs d M pc ls st h = aph xs (aev P X xs) (acw P X (aev P X xs)) d M pc ls st h := by
  apply Option.ext
  intro r
  constructor
  · intro hr
    obtain ⟨f, hf⟩ := of_aev hr
    cases f with
    | zero => cases hf
    | succ f =>
      obtain ⟨i, len, a, b, c, z, he, hc⟩ := aph_cases (show aph xs (arun P X xs f) (acw P X (arun P X xs f)) d M pc ls st h = some r from hf)
      exact aph_of he (aCs_mono (fun _ _ _ _ _ _ _ => aev_of) (acw_mono (fun _ _ _ _ _ _ _ => aev_of)) hc)
  · intro hr
    obtain ⟨i, len, a, b, c, z, he, hc⟩ := aph_cases hr
    have key : ∃ f, aCs xs (arun P X xs f) (acw P X (arun P X xs f)) d M pc ls st h r i len a b c z := by
      unfold aCs at hc ⊢
      rcases hc with ⟨e, st', h1, h2⟩ | ⟨e, ls', st', h1, h2⟩ | ⟨e, pc', st', h1, h2⟩ | ⟨e, h1, h2⟩ | ⟨e, x, rest, e2, h1, h2, h3⟩ | ⟨e, st', h', h1, h2⟩ | ⟨e, args, rest, rv, h1, st', h2, h3, h4, h5, h6, h7⟩ | ⟨e, args, rest, x, h2, h3, h4, h5, h6⟩ | ⟨e, x, y, rest, e2, h2, h3⟩ | ⟨hc, st', h', h1, h2⟩
      · obtain ⟨f, hf⟩ := of_aev h2
        exact ⟨f, Or.inl ⟨e, st', h1, hf⟩⟩
      · obtain ⟨f, hf⟩ := of_aev h2
        exact ⟨f, Or.inr (Or.inl ⟨e, ls', st', h1, hf⟩)⟩
      · obtain ⟨f, hf⟩ := of_aev h2
        exact ⟨f, Or.inr (Or.inr (Or.inl ⟨e, pc', st', h1, hf⟩))⟩
      · exact ⟨0, Or.inr (Or.inr (Or.inr (Or.inl ⟨e, h1, h2⟩)))⟩
      · obtain ⟨f, hf⟩ := of_aev h3
        exact ⟨f, Or.inr (Or.inr (Or.inr (Or.inr (Or.inl ⟨e, x, rest, e2, h1, h2, hf⟩))))⟩
      · obtain ⟨f, hf⟩ := of_aev h2
        exact ⟨f, Or.inr (Or.inr (Or.inr (Or.inr (Or.inr (Or.inl ⟨e, st', h', h1, hf⟩)))))⟩
      · obtain ⟨f, hf⟩ := of_aev h7
        obtain ⟨d', rfl, ⟨fx, k1, k0, k2, k3⟩ | ⟨k0, M', ls', k1, k2, k3⟩⟩ := acw_cases h5
        · refine ⟨f, Or.inr (Or.inr (Or.inr (Or.inr (Or.inr (Or.inr (Or.inl ⟨e, args, rest, rv, h1, st', h2, h3, h4, ?_, h6, hf⟩))))))⟩
          cases k3
          simp only [acw, k1, k2, Nat.ble_eq_true_of_le k0, cond_true]
        · obtain ⟨f', hf'⟩ := of_aev k3
          refine ⟨max f f', Or.inr (Or.inr (Or.inr (Or.inr (Or.inr (Or.inr (Or.inl ⟨e, args, rest, rv, h1, st', h2, h3, h4, ?_, h6, arun_le (Nat.le_max_left _ _) hf⟩))))))⟩
          simp only [acw, k0, k1, k2]
          exact arun_le (Nat.le_max_right _ _) hf'
      · obtain ⟨f, hf⟩ := of_aev h6
        exact ⟨f, Or.inr (Or.inr (Or.inr (Or.inr (Or.inr (Or.inr (Or.inr (Or.inl ⟨e, args, rest, x, h2, h3, h4, h5, hf⟩)))))))⟩
      · obtain ⟨f, hf⟩ := of_aev h3
        exact ⟨f, Or.inr (Or.inr (Or.inr (Or.inr (Or.inr (Or.inr (Or.inr (Or.inr (Or.inl ⟨e, x, y, rest, e2, h2, hf⟩))))))))⟩
      · obtain ⟨f, hf⟩ := of_aev h2
        exact ⟨f, Or.inr (Or.inr (Or.inr (Or.inr (Or.inr (Or.inr (Or.inr (Or.inr (Or.inr ⟨hc, st', h', h1, hf⟩))))))))⟩
    obtain ⟨f, hf⟩ := key
    exact aev_of (f := f + 1) (aph_of he hf)
/-- as far as the next stop -/
noncomputable def aG (P : Nat → Option aM) (X : Nat → Option (List aV → Option (Option aV))) (xs : List Int) (stops : List Nat) : Nat → Nat → aM → Nat → aL → List aV → aH → aO
  | 0 => aev P X xs
  | K + 1 => fun d M pc ls st h => bif stops.any (Nat.beq pc) then aev P X xs d M pc ls st h else aph xs (aG P X xs stops K) (acw P X (aev P X xs)) d M pc ls st h
theorem aG_eq (P : Nat → Option aM) (X : Nat → Option (List aV → Option (Option aV))) (xs : List Int) (stops : List Nat) : ∀ K, aG P X xs stops K = aev P X xs
  | 0 => rfl
  | K + 1 => by
    funext d M pc ls st h
    simp only [aG, aG_eq P X xs stops K, ← aev_eq]
    cases stops.any (Nat.beq pc) <;> rfl
theorem aB (P : Nat → Option aM) (X : Nat → Option (List aV → Option (Option aV))) (xs : List Int) (stops : List Nat) (K d : Nat) (M : aM) (pc : Nat) (ls : aL) (st : List aV) (h : aH) : aev P X xs d M pc ls st h = aph xs (aG P X xs stops K) (acw P X (aev P X xs)) d M pc ls st h := by
  rw [aG_eq]
  exact aev_eq P X xs d M pc ls st h
