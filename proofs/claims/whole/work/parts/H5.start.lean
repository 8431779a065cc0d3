/-! The reference reads: where the rows begin. -/
theorem RFp.refl' {D : Nat → Nat → Int} {v : Nat} : RFp D D v := ⟨fun _ _ _ => rfl, fun _ _ => rfl, fun _ _ _ _ _ => rfl⟩
theorem clear_fr {D : Nat → Nat → Int} {v u : Nat} (hvu : u + v = 1) : RFp D (aup (aup (aup (aup (aup (aup (aup (aup (aup (aup (aup (aup (aup D 264 u 0) 267 u 0) 274 (3 * u + 0) 0) 274 (3 * u + 1) 0) 274 (3 * u + 2) 0) 277 u 0) 279 u 0) 283 u 0) 288 u 0) 256 47 ((130 * u : Nat) : Int)) 256 53 ((420 * u : Nat) : Int)) 289 u 0) 290 u 0) v := by
  have h1 : ¬ u / 1 = v := by omega
  have h30 : ¬ (3 * u + 0) / 3 = v := by omega
  have h31 : ¬ (3 * u + 1) / 3 = v := by omega
  have h32 : ¬ (3 * u + 2) / 3 = v := by omega
  have g0 := RFp.wr (RFp.refl' (D := D) (v := v)) (q := 264) (j := u) (by decide) (by decide) (show ¬ (u) / strd 264 = v from h1) 0
  have g1 := RFp.wr g0 (q := 267) (j := u) (by decide) (by decide) (show ¬ (u) / strd 267 = v from h1) 0
  have g2 := RFp.wr g1 (q := 274) (j := 3 * u + 0) (by decide) (by decide) (show ¬ (3 * u + 0) / strd 274 = v from h30) 0
  have g3 := RFp.wr g2 (q := 274) (j := 3 * u + 1) (by decide) (by decide) (show ¬ (3 * u + 1) / strd 274 = v from h31) 0
  have g4 := RFp.wr g3 (q := 274) (j := 3 * u + 2) (by decide) (by decide) (show ¬ (3 * u + 2) / strd 274 = v from h32) 0
  have g5 := RFp.wr g4 (q := 277) (j := u) (by decide) (by decide) (show ¬ (u) / strd 277 = v from h1) 0
  have g6 := RFp.wr g5 (q := 279) (j := u) (by decide) (by decide) (show ¬ (u) / strd 279 = v from h1) 0
  have g7 := RFp.wr g6 (q := 283) (j := u) (by decide) (by decide) (show ¬ (u) / strd 283 = v from h1) 0
  have g8 := RFp.wr g7 (q := 288) (j := u) (by decide) (by decide) (show ¬ (u) / strd 288 = v from h1) 0
  have g9 := RFp.fld g8 (j := 47) (by decide) ((130 * u : Nat) : Int)
  have g10 := RFp.fld g9 (j := 53) (by decide) ((420 * u : Nat) : Int)
  have g11 := RFp.wr g10 (q := 289) (j := u) (by decide) (by decide) (show ¬ (u) / strd 289 = v from h1) 0
  have g12 := RFp.wr g11 (q := 290) (j := u) (by decide) (by decide) (show ¬ (u) / strd 290 = v from h1) 0
  exact g12
