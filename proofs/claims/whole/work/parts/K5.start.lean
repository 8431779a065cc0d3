/-! The reference is made; what the calls start from. -/
theorem rm_1 (h : aH) : (o187 (o187a h 256 257)).2 256 1 = 257 := rfl
theorem rm_3 (h : aH) : (o187 (o187a h 256 257)).2 256 3 = 258 := rfl
theorem rm_5 (h : aH) : (o187 (o187a h 256 257)).2 256 5 = 259 := rfl
theorem rm_6 (h : aH) : (o187 (o187a h 256 257)).2 256 6 = 260 := rfl
theorem rm_7 (h : aH) : (o187 (o187a h 256 257)).2 256 7 = 261 := rfl
theorem rm_8 (h : aH) : (o187 (o187a h 256 257)).2 256 8 = 262 := rfl
theorem rm_9 (h : aH) : (o187 (o187a h 256 257)).2 256 9 = 263 := rfl
theorem rm_20 (h : aH) : (o187 (o187a h 256 257)).2 256 20 = 264 := rfl
theorem rm_21 (h : aH) : (o187 (o187a h 256 257)).2 256 21 = 265 := rfl
theorem rm_22 (h : aH) : (o187 (o187a h 256 257)).2 256 22 = 266 := rfl
theorem rm_23 (h : aH) : (o187 (o187a h 256 257)).2 256 23 = 267 := rfl
theorem rm_24 (h : aH) : (o187 (o187a h 256 257)).2 256 24 = 268 := rfl
theorem rm_25 (h : aH) : (o187 (o187a h 256 257)).2 256 25 = 269 := rfl
theorem rm_26 (h : aH) : (o187 (o187a h 256 257)).2 256 26 = 270 := rfl
theorem rm_27 (h : aH) : (o187 (o187a h 256 257)).2 256 27 = 271 := rfl
theorem rm_28 (h : aH) : (o187 (o187a h 256 257)).2 256 28 = 272 := rfl
theorem rm_29 (h : aH) : (o187 (o187a h 256 257)).2 256 29 = 273 := rfl
theorem rm_30 (h : aH) : (o187 (o187a h 256 257)).2 256 30 = 274 := rfl
theorem rm_31 (h : aH) : (o187 (o187a h 256 257)).2 256 31 = 275 := rfl
theorem rm_32 (h : aH) : (o187 (o187a h 256 257)).2 256 32 = 276 := rfl
theorem rm_33 (h : aH) : (o187 (o187a h 256 257)).2 256 33 = 277 := rfl
theorem rm_34 (h : aH) : (o187 (o187a h 256 257)).2 256 34 = 278 := rfl
theorem rm_35 (h : aH) : (o187 (o187a h 256 257)).2 256 35 = 279 := rfl
theorem rm_36 (h : aH) : (o187 (o187a h 256 257)).2 256 36 = 280 := rfl
theorem rm_37 (h : aH) : (o187 (o187a h 256 257)).2 256 37 = 281 := rfl
theorem rm_38 (h : aH) : (o187 (o187a h 256 257)).2 256 38 = 282 := rfl
theorem rm_39 (h : aH) : (o187 (o187a h 256 257)).2 256 39 = 283 := rfl
theorem rm_40 (h : aH) : (o187 (o187a h 256 257)).2 256 40 = 284 := rfl
theorem rm_41 (h : aH) : (o187 (o187a h 256 257)).2 256 41 = 285 := rfl
theorem rm_42 (h : aH) : (o187 (o187a h 256 257)).2 256 42 = 286 := rfl
theorem rm_43 (h : aH) : (o187 (o187a h 256 257)).2 256 43 = 287 := rfl
theorem rm_44 (h : aH) : (o187 (o187a h 256 257)).2 256 44 = 288 := rfl
theorem rm_45 (h : aH) : (o187 (o187a h 256 257)).2 256 45 = 289 := rfl
theorem rm_46 (h : aH) : (o187 (o187a h 256 257)).2 256 46 = 290 := rfl
theorem rm_48 (h : aH) : (o187 (o187a h 256 257)).2 256 48 = 291 := rfl
theorem rm_49 (h : aH) : (o187 (o187a h 256 257)).2 256 49 = 292 := rfl
theorem rm_50 (h : aH) : (o187 (o187a h 256 257)).2 256 50 = 293 := rfl
theorem rm_51 (h : aH) : (o187 (o187a h 256 257)).2 256 51 = 294 := rfl
theorem rm_52 (h : aH) : (o187 (o187a h 256 257)).2 256 52 = 295 := rfl
theorem rm_54 (h : aH) : (o187 (o187a h 256 257)).2 256 54 = 296 := rfl
theorem rm_55 (h : aH) : (o187 (o187a h 256 257)).2 256 55 = 297 := rfl
theorem rm_58 (h : aH) : (o187 (o187a h 256 257)).2 256 58 = 298 := rfl
theorem rm_60 (h : aH) : (o187 (o187a h 256 257)).2 256 60 = 299 := rfl
theorem rm_61 (h : aH) : (o187 (o187a h 256 257)).2 256 61 = 300 := rfl
theorem rm_63 (h : aH) : (o187 (o187a h 256 257)).2 256 63 = 301 := rfl
theorem rm_64 (h : aH) : (o187 (o187a h 256 257)).2 256 64 = 302 := rfl
theorem rm_65 (h : aH) : (o187 (o187a h 256 257)).2 256 65 = 303 := rfl
theorem rm_71 (h : aH) : (o187 (o187a h 256 257)).2 256 71 = 304 := rfl
theorem rm_72 (h : aH) : (o187 (o187a h 256 257)).2 256 72 = 305 := rfl
theorem rm_73 (h : aH) : (o187 (o187a h 256 257)).2 256 73 = 306 := rfl
theorem rm_75 (h : aH) : (o187 (o187a h 256 257)).2 256 75 = 307 := rfl
theorem rm_76 (h : aH) : (o187 (o187a h 256 257)).2 256 76 = 308 := rfl
theorem rm_78 (h : aH) : (o187 (o187a h 256 257)).2 256 78 = 309 := rfl
theorem rm_80 (h : aH) : (o187 (o187a h 256 257)).2 256 80 = 310 := rfl
theorem rm_81 (h : aH) : (o187 (o187a h 256 257)).2 256 81 = 311 := rfl
theorem rm_82 (h : aH) : (o187 (o187a h 256 257)).2 256 82 = 312 := rfl
theorem rm_83 (h : aH) : (o187 (o187a h 256 257)).2 256 83 = 313 := rfl
theorem rm_84 (h : aH) : (o187 (o187a h 256 257)).2 256 84 = 314 := rfl
theorem rz_256_17 {E : Nat → Nat → Int} {κ : aK} : (o187 (o187a (opA (κ, E) 256 12 85 (adf 12)) 256 257)).2 256 17 = -1 := rfl
theorem rz_256_2 {E : Nat → Nat → Int} {κ : aK} : (o187 (o187a (opA (κ, E) 256 12 85 (adf 12)) 256 257)).2 256 2 = 0 := rfl
theorem rz_256_18 {E : Nat → Nat → Int} {κ : aK} : (o187 (o187a (opA (κ, E) 256 12 85 (adf 12)) 256 257)).2 256 18 = 0 := rfl
theorem rz_256_70 {E : Nat → Nat → Int} {κ : aK} : (o187 (o187a (opA (κ, E) 256 12 85 (adf 12)) 256 257)).2 256 70 = 0 := rfl
theorem rz_264_0 {E : Nat → Nat → Int} {κ : aK} : (o187 (o187a (opA (κ, E) 256 12 85 (adf 12)) 256 257)).2 264 0 = 0 := rfl
theorem rz_267_0 {E : Nat → Nat → Int} {κ : aK} : (o187 (o187a (opA (κ, E) 256 12 85 (adf 12)) 256 257)).2 267 0 = 0 := rfl
theorem rz_274_0 {E : Nat → Nat → Int} {κ : aK} : (o187 (o187a (opA (κ, E) 256 12 85 (adf 12)) 256 257)).2 274 0 = 0 := rfl
theorem rz_274_1 {E : Nat → Nat → Int} {κ : aK} : (o187 (o187a (opA (κ, E) 256 12 85 (adf 12)) 256 257)).2 274 1 = 0 := rfl
theorem rz_274_2 {E : Nat → Nat → Int} {κ : aK} : (o187 (o187a (opA (κ, E) 256 12 85 (adf 12)) 256 257)).2 274 2 = 0 := rfl
theorem rz_277_0 {E : Nat → Nat → Int} {κ : aK} : (o187 (o187a (opA (κ, E) 256 12 85 (adf 12)) 256 257)).2 277 0 = 0 := rfl
theorem rz_279_0 {E : Nat → Nat → Int} {κ : aK} : (o187 (o187a (opA (κ, E) 256 12 85 (adf 12)) 256 257)).2 279 0 = 0 := rfl
theorem rz_283_0 {E : Nat → Nat → Int} {κ : aK} : (o187 (o187a (opA (κ, E) 256 12 85 (adf 12)) 256 257)).2 283 0 = 0 := rfl
theorem rz_288_0 {E : Nat → Nat → Int} {κ : aK} : (o187 (o187a (opA (κ, E) 256 12 85 (adf 12)) 256 257)).2 288 0 = 0 := rfl
theorem rz_289_0 {E : Nat → Nat → Int} {κ : aK} : (o187 (o187a (opA (κ, E) 256 12 85 (adf 12)) 256 257)).2 289 0 = 0 := rfl
theorem rz_290_0 {E : Nat → Nat → Int} {κ : aK} : (o187 (o187a (opA (κ, E) 256 12 85 (adf 12)) 256 257)).2 290 0 = 0 := rfl
theorem rz_303_0 {E : Nat → Nat → Int} {κ : aK} : (o187 (o187a (opA (κ, E) 256 12 85 (adf 12)) 256 257)).2 303 0 = 0 := rfl
theorem rz_313_0 {E : Nat → Nat → Int} {κ : aK} : (o187 (o187a (opA (κ, E) 256 12 85 (adf 12)) 256 257)).2 313 0 = 0 := rfl
theorem rz_313_1 {E : Nat → Nat → Int} {κ : aK} : (o187 (o187a (opA (κ, E) 256 12 85 (adf 12)) 256 257)).2 313 1 = 0 := rfl
theorem rz_313_2 {E : Nat → Nat → Int} {κ : aK} : (o187 (o187a (opA (κ, E) 256 12 85 (adf 12)) 256 257)).2 313 2 = 0 := rfl
theorem rm_key (h : aH) : ∀ q, q < 24 → (o187 (o187a h 256 257)).2 263 q = (krL.map (fun l => (p27 l : Int))).getD q 0 := by
  intro q hq
  rw [← keys_ok]
  have hc : q = 0 ∨ q = 1 ∨ q = 2 ∨ q = 3 ∨ q = 4 ∨ q = 5 ∨ q = 6 ∨ q = 7 ∨ q = 8 ∨ q = 9 ∨ q = 10 ∨ q = 11 ∨ q = 12 ∨ q = 13 ∨ q = 14 ∨ q = 15 ∨ q = 16 ∨ q = 17 ∨ q = 18 ∨ q = 19 ∨ q = 20 ∨ q = 21 ∨ q = 22 ∨ q = 23 := by omega
  rcases hc with rfl | rfl | rfl | rfl | rfl | rfl | rfl | rfl | rfl | rfl | rfl | rfl | rfl | rfl | rfl | rfl | rfl | rfl | rfl | rfl | rfl | rfl | rfl | rfl <;> rfl
theorem rm_k (h : aH) : KyR (o187 (o187a h 256 257)).2 := by
  intro q hq
  rw [rm_key h q hq, List.getD_eq_getElem?_getD, List.getElem?_map, List.getD_eq_getElem?_getD]
  have hl : q < krL.length := hq
  rw [List.getElem?_eq_getElem hl]
  rfl
theorem rm_p (h : aH) : PtrR (o187 (o187a h 256 257)).2 := ⟨rm_1 h, rm_3 h, rm_5 h, rm_6 h, rm_7 h, rm_8 h, rm_9 h, rm_20 h, rm_21 h, rm_22 h, rm_23 h, rm_24 h, rm_25 h, rm_26 h, rm_27 h, rm_28 h, rm_29 h, rm_30 h, rm_31 h, rm_32 h, rm_33 h, rm_34 h, rm_35 h, rm_36 h, rm_37 h, rm_38 h, rm_39 h, rm_40 h, rm_41 h, rm_42 h, rm_43 h, rm_44 h, rm_45 h, rm_46 h, rm_48 h, rm_49 h, rm_50 h, rm_51 h, rm_52 h, rm_54 h, rm_55 h, rm_58 h, rm_60 h, rm_61 h, rm_63 h, rm_64 h, rm_65 h, rm_71 h, rm_72 h, rm_73 h, rm_75 h, rm_76 h, rm_78 h, rm_80 h, rm_81 h, rm_82 h, rm_83 h, rm_84 h⟩
theorem rm9a (h : aH) : (o187a h 256 257).2 256 9 = ((263 : Nat) : Int) := rfl
theorem rm_q (h : aH) {q : Nat} (hq : q < 256) : (o187 (o187a h 256 257)).2 q = h.2 q := by
  have z1 : q ≠ 263 := by omega
  have z2 : q ≠ 256 := by omega
  unfold o187 o187k o187a
  rw [oW_q z1, oW_q z1, oW_q z1, oW_q z1, oW_q z1, oW_q z1, oW_q z1, oW_q z1, oW_q z1, oW_q z1, oW_q z1, oW_q z1, oW_q z1, oW_q z1, oW_q z1, oW_q z1, oW_q z1, oW_q z1, oW_q z1, oW_q z1, oW_q z1, oW_q z1, oW_q z1, oW_q z1, oW_q z2]
  rw [oA_q (by omega), oW_q z2, oA_q (by omega), oW_q z2, oA_q (by omega), oW_q z2, oA_q (by omega), oW_q z2, oA_q (by omega), oW_q z2, oA_q (by omega), oW_q z2, oA_q (by omega), oW_q z2, oA_q (by omega), oW_q z2, oA_q (by omega), oW_q z2, oA_q (by omega), oW_q z2, oA_q (by omega), oW_q z2, oA_q (by omega), oW_q z2, oA_q (by omega), oW_q z2, oA_q (by omega), oW_q z2, oA_q (by omega), oW_q z2, oA_q (by omega), oW_q z2, oA_q (by omega), oW_q z2, oA_q (by omega), oW_q z2, oA_q (by omega), oW_q z2, oA_q (by omega), oW_q z2, oA_q (by omega), oW_q z2, oA_q (by omega), oW_q z2, oA_q (by omega), oW_q z2, oA_q (by omega), oW_q z2, oA_q (by omega), oW_q z2, oA_q (by omega), oW_q z2, oA_q (by omega), oW_q z2, oA_q (by omega), oW_q z2, oA_q (by omega), oW_q z2, oA_q (by omega), oW_q z2, oA_q (by omega), oW_q z2, oA_q (by omega), oW_q z2, oA_q (by omega), oW_q z2, oA_q (by omega), oW_q z2, oA_q (by omega), oW_q z2, oA_q (by omega), oW_q z2, oA_q (by omega), oW_q z2, oA_q (by omega), oW_q z2, oA_q (by omega), oW_q z2, oA_q (by omega), oW_q z2, oA_q (by omega), oW_q z2, oA_q (by omega), oW_q z2, oA_q (by omega), oW_q z2, oA_q (by omega), oW_q z2, oA_q (by omega), oW_q z2, oA_q (by omega), oW_q z2, oA_q (by omega), oW_q z2, oA_q (by omega), oW_q z2, oA_q (by omega), oW_q z2, oA_q (by omega), oW_q z2, oA_q (by omega), oW_q z2, oW_q z2, oA_q (by omega), oW_q z2, oA_q (by omega), oW_q z2, oA_q (by omega), oW_q z2, oA_q (by omega), oW_q z2, oA_q (by omega), oW_q z2, oA_q (by omega), oW_q z2, oA_q (by omega)]
def hR : aK := (o187a (opA (hB.1, fun _ _ => 0) 256 12 85 (adf 12)) 256 257).1
set_option maxRecDepth 100000 in
theorem hR_shp : Shp hR := by
  show ∀ r, r < 315 → r < hR.1 ∧ hR.2.2 r = KT r
  decide +kernel
set_option maxRecDepth 100000 in
theorem hR_n : hR.1 = 315 ∧ hR.2.1 = 25856 := by decide +kernel
theorem hR_e (E : Nat → Nat → Int) : (o187a (opA (hB.1, E) 256 12 85 (adf 12)) 256 257).1 = hR := rfl
theorem ref0 (xs : List Int) (d : Nat) (E : Nat → Nat → Int) : ∃ E', cl xs (d + 8) 187 [.inr (.inr 256)] (opA (hB.1, E) 256 12 85 (adf 12)) = some (none, (hR, E')) ∧ (∀ q, q < 256 → E' q = E q) ∧ KyR E' ∧ RCore E' 0 X0 (S0 X0) 0 (fun _ => S0 X0) (fun _ => none) ∧ LwR E' 0 X0 ∧ E' 256 2 = 0 ∧ E' 256 17 = -1 := by
  have hs := hR_shp
  have k256 : aok hR ((256 : Nat) : Int) 12 = true := k_256 hs
  have kr : kd (o187a (opA (hB.1, E) 256 12 85 (adf 12)) 256 257) 256 12 85 := by
    have := hs 256 (by decide)
    exact this
  have kk : kd (o187a (opA (hB.1, E) 256 12 85 (adf 12)) 256 257) 263 101 24 := by
    have := hs 263 (by decide)
    exact this
  have e1 := i_187a xs (d + 7) (h := opA (hB.1, E) 256 12 85 (adf 12)) (r := 256) (n := 257) rfl (kd_N _ _ _ _ _)
  have e2 := keys_run xs (d + 5) kr kk (rm9a _)
  have hp := rm_p (opA (hB.1, E) 256 12 85 (adf 12))
  have hky := rm_k (opA (hB.1, E) 256 12 85 (adf 12))
  have hq := fun (q : Nat) (hq : q < 256) => rm_q (opA (hB.1, E) 256 12 85 (adf 12)) hq
  have y := y0_R (E := (o187 (o187a (opA (hB.1, E) 256 12 85 (adf 12)) 256 257)).2) (u := 0) rz_264_0 rz_267_0 (fun s hs => by
    rcases (show s = 0 ∨ s = 1 ∨ s = 2 by omega) with rfl | rfl | rfl
    · exact rz_274_0
    · exact rz_274_1
    · exact rz_274_2) rz_277_0 rz_279_0 rz_283_0 rz_288_0 (rz_289_0.trans rz_290_0.symm)
  have z2 : (o187 (o187a (opA (hB.1, E) 256 12 85 (adf 12)) 256 257)).2 256 2 = 0 := rz_256_2
  have z17 : (o187 (o187a (opA (hB.1, E) 256 12 85 (adf 12)) 256 257)).2 256 17 = -1 := rz_256_17
  have z18 : (o187 (o187a (opA (hB.1, E) 256 12 85 (adf 12)) 256 257)).2 256 18 = ((0 : Nat) : Int) := rz_256_18
  have z70 : (o187 (o187a (opA (hB.1, E) 256 12 85 (adf 12)) 256 257)).2 256 70 = ((0 : Nat) : Int) := rz_256_70
  have z303 : (o187 (o187a (opA (hB.1, E) 256 12 85 (adf 12)) 256 257)).2 303 0 = 0 := rz_303_0
  have z313 : ∀ i, i < 3 → (o187 (o187a (opA (hB.1, E) 256 12 85 (adf 12)) 256 257)).2 313 i = 0 := fun i hi => by
    rcases (show i = 0 ∨ i = 1 ∨ i = 2 by omega) with rfl | rfl | rfl
    · exact rz_313_0
    · exact rz_313_1
    · exact rz_313_2
  have r9 : (o187k (o187a (opA (hB.1, E) 256 12 85 (adf 12)) 256 257)).2 256 9 = ((263 : Nat) : Int) := (o187k_9 _).trans (rm9a _)
  have hk1 : (o187k (o187a (opA (hB.1, E) 256 12 85 (adf 12)) 256 257)).1 = hR := rfl
  have hD : ∀ v, aup (o187k (o187a (opA (hB.1, E) 256 12 85 (adf 12)) 256 257)).2 263 23 v = (opW (o187k (o187a (opA (hB.1, E) 256 12 85 (adf 12)) 256 257)) 263 23 v).2 := fun v => rfl
  have hO : (opW (o187k (o187a (opA (hB.1, E) 256 12 85 (adf 12)) 256 257)) 263 23 (pk7 108 101 102 116 0 0 0)).2 = (o187 (o187a (opA (hB.1, E) 256 12 85 (adf 12)) 256 257)).2 := rfl
  generalize (o187 (o187a (opA (hB.1, E) 256 12 85 (adf 12)) 256 257)).2 = D at *
  have tx : TxV D 0 X0 := TxV.congr y.1.1 (fun q q1 q2 => by rw [sid_q (by omega)]) (by rw [sid_18]; exact z18)
  obtain ⟨r, c1, c2⟩ := rbeg_eq xs (d + 6) hs hp (v := 0) (by decide) z18 Y0_ok.1 tx
  have pG := hp.setc (r := 302) (by decide) r
  have c3 := keepsRow_eq xs (d + 6) hs pG
  rw [setc_self] at c3
  have pK := pG.setc (r := 301) (by decide) (cpn 60 r (setc D 302 r 301))
  have k0 : ∀ q, q ≠ 301 → q ≠ 302 → setc (setc D 302 r) 301 (cpn 60 r (setc D 302 r 301)) q = D q := fun q q1 q2 => by rw [setc_ne q1, setc_ne q2]
  have k1 : setc (setc D 302 r) 301 (cpn 60 r (setc D 302 r 301)) 301 = cpn 60 r (setc D 302 r 301) := setc_self ..
  refine ⟨setc (setc D 302 r) 301 (cpn 60 r (setc D 302 r 301)), ?_, fun q hlt => ?_, fun q hlt => ?_, ⟨⟨pK, ?_, by decide, ?_, TxV.congr tx (fun q q1 q2 => k0 q (by omega) (by omega)) (by rw [k0 256 (by decide) (by decide)])⟩, ?_, ⟨?_, Nat.zero_le _, fun i hi => absurd hi (Nat.not_lt_zero i)⟩, fun i hi => ⟨?_, fun S h => by cases h⟩⟩, y.1.2.2.2.congr (fun q q1 q2 => k0 q (by omega) (by omega)) rfl, by rw [k0 256 (by decide) (by decide)]; exact z2, by rw [k0 256 (by decide) (by decide)]; exact z17⟩
  · refine (e1.trans e2).trans ?_
    have i23 : ain hR ((263 : Nat) : Int) 101 23 = true := n_263 hs (by decide) (by decide)
    have c2' : cl xs (d + 7) 227 [.inr (.inr ((256 : Nat) : Int))] (hR, D) = some (none, (hR, setc D 302 r)) := c2
    have c3' : cl xs (d + 7) 228 [.inr (.inr ((256 : Nat) : Int))] (hR, setc D 302 r) = some (none, (hR, setc (setc D 302 r) 301 (cpn 60 r (setc D 302 r 301)))) := c3
    rw [q_187_966]
    simp only [hk1, k256, cond_true, Bool.and_true, Int.toNat_natCast, Int.reduceToNat, pk_195, bJ_s, r9, i23, hD, hO, c2', bV_s, c3']
  · rw [k0 q (by omega) (by omega), hq q hlt, oA_q (by omega)]
  · rw [k0 263 (by decide) (by decide)]; exact hky q hlt
  · rw [k0 256 (by decide) (by decide)]; exact z18
  · rw [k0 303 (by decide) (by decide)]; exact z303
  · rw [k1]; exact c1.cpn Y0_ok.1
  · rw [k0 256 (by decide) (by decide)]; exact z70
  · rw [k0 313 (by decide) (by decide)]; exact z313 i hi
