/-! The law, block by block. -/
def stp_321 : List Nat := [0, 3, 11, 18, 212, 275, 298, 311, 324, 357, 390, 433, 456, 489, 512, 535, 558, 591, 614, 637, 660, 673, 706, 739, 758, 780, 788, 811, 844, 867, 886, 913, 926, 949, 982, 1005, 1048, 1081, 1114, 1137, 1170, 1203, 1246, 1269, 1282, 1305, 1328, 1351, 1374]
set_option maxRecDepth 100000 in
set_option maxHeartbeats 4000000 in
theorem q_321_0 (xs : List Int) (d : Nat) (v0 : Int) (h : aH) : ev xs d mm_321 0 [some (.inr (.inr v0)), none, none, none] [] h =
  ev xs d mm_321 3 [some (.inr (.inr v0)), none, none, none] [.inr (.inr (h.1.1 : Int))] ((h.1.1 + 1, h.1.2.1 + 20, fun q => if q = h.1.1 then (11, 20) else h.1.2.2 q), fun q j => if q = h.1.1 then adf 11 j else h.2 q j) :=
  (aB gP gX xs stp_321 2 d mm_321 0 _ _ h).trans rfl
set_option maxRecDepth 100000 in
set_option maxHeartbeats 4000000 in
theorem q_321_3 (xs : List Int) (d : Nat) (v0 : Int) (u1 : Option aV) (u2 : Option aV) (u3 : Option aV) (s0 : Int) (h : aH) : ev xs d mm_321 3 [some (.inr (.inr v0)), u1, u2, u3] [.inr (.inr s0)] h =
  bif decide (0 ≤ s0) && true then
    bV (cl xs d 120 [.inr (.inr s0)] h) (fun h1 =>
    ev xs d mm_321 11 [some (.inr (.inr v0)), some (.inr (.inr s0)), u2, u3] [.inr (.inr (h1.1.1 : Int))] ((h1.1.1 + 1, h1.1.2.1 + 85, fun q => if q = h1.1.1 then (12, 85) else h1.1.2.2 q), fun q j => if q = h1.1.1 then adf 12 j else h1.2 q j))
  else none :=
  (aB gP gX xs stp_321 5 d mm_321 3 _ _ h).trans rfl
set_option maxRecDepth 100000 in
set_option maxHeartbeats 4000000 in
theorem q_321_11 (xs : List Int) (d : Nat) (v0 : Int) (v1 : Int) (u2 : Option aV) (u3 : Option aV) (s0 : Int) (h : aH) : ev xs d mm_321 11 [some (.inr (.inr v0)), some (.inr (.inr v1)), u2, u3] [.inr (.inr s0)] h =
  bif decide (0 ≤ s0) && true then
    bV (cl xs d 187 [.inr (.inr s0)] h) (fun h1 =>
    ev xs d mm_321 18 [some (.inr (.inr v0)), some (.inr (.inr v1)), some (.inr (.inr s0)), some (.inl 0)] [] h1)
  else none :=
  (aB gP gX xs stp_321 6 d mm_321 11 _ _ h).trans rfl
set_option maxRecDepth 100000 in
set_option maxHeartbeats 4000000 in
theorem q_321_18 (xs : List Int) (d : Nat) (v0 : Int) (v1 : Int) (v2 : Int) (v3 : Int) (h : aH) : ev xs d mm_321 18 [some (.inr (.inr v0)), some (.inr (.inr v1)), some (.inr (.inr v2)), some (.inl v3)] [] h =
  bif decide (v0 = -2) then
    bif decide ((w32 ((xs.length : Int) - 6)) < v3) then
      some (some (.inl 1), h)
    else
      bif decide (v0 = -2) && (decide (0 ≤ v3) && decide (v3.toNat < xs.length)) then
        ev xs d mm_321 (asw 33 1364 0 40 #[179, 242, 265, 278, 291, 324, 357, 400, 423, 456, 479, 502, 525, 558, 581, 604, 627, 640, 673, 706, 755, 778, 811, 834, 893, 916, 949, 972, 1015, 1048, 1081, 1104, 1137, 1170, 1213, 1236, 1249, 1272, 1295, 1318, 1341] (oand (xs.getD v3.toNat 0) 63)) [some (.inr (.inr v0)), some (.inr (.inr v1)), some (.inr (.inr v2)), some (.inl v3)] [] h
      else none
  else none :=
  (aB gP gX xs stp_321 11 d mm_321 18 _ _ h).trans rfl
set_option maxRecDepth 100000 in
set_option maxHeartbeats 4000000 in
theorem q_321_212 (xs : List Int) (d : Nat) (v0 : Int) (v1 : Int) (v2 : Int) (v3 : Int) (h : aH) : ev xs d mm_321 212 [some (.inr (.inr v0)), some (.inr (.inr v1)), some (.inr (.inr v2)), some (.inl v3)] [] h =
  bif decide (v0 = -2) && (decide (0 ≤ (w32 (v3 + 1))) && decide ((w32 (v3 + 1)).toNat < xs.length)) then
    bif decide (v0 = -2) && (decide (0 ≤ (w32 (v3 + 2))) && decide ((w32 (v3 + 2)).toNat < xs.length)) then
      bif decide (v0 = -2) && (decide (0 ≤ (w32 (v3 + 3))) && decide ((w32 (v3 + 3)).toNat < xs.length)) then
        bif decide (v0 = -2) && (decide (0 ≤ (w32 (v3 + 4))) && decide ((w32 (v3 + 4)).toNat < xs.length)) then
          bif decide (v0 = -2) && (decide (0 ≤ (w32 (v3 + 5))) && decide ((w32 (v3 + 5)).toNat < xs.length)) then
            bif aok h.1 v1 11 && true then
              bI (cl xs d 127 [.inr (.inr v1), .inl (xs.getD (w32 (v3 + 1)).toNat 0), .inl (xs.getD (w32 (v3 + 2)).toNat 0), .inl (xs.getD (w32 (v3 + 3)).toNat 0), .inl (xs.getD (w32 (v3 + 4)).toNat 0), .inl (xs.getD (w32 (v3 + 5)).toNat 0)] h) (fun x2 h1 =>
              bif decide (v0 = -2) && (decide (0 ≤ (w32 (v3 + 1))) && decide ((w32 (v3 + 1)).toNat < xs.length)) then
                bif decide (v0 = -2) && (decide (0 ≤ (w32 (v3 + 2))) && decide ((w32 (v3 + 2)).toNat < xs.length)) then
                  bif decide (v0 = -2) && (decide (0 ≤ (w32 (v3 + 3))) && decide ((w32 (v3 + 3)).toNat < xs.length)) then
                    bif decide (v0 = -2) && (decide (0 ≤ (w32 (v3 + 4))) && decide ((w32 (v3 + 4)).toNat < xs.length)) then
                      bif decide (v0 = -2) && (decide (0 ≤ (w32 (v3 + 5))) && decide ((w32 (v3 + 5)).toNat < xs.length)) then
                        bif aok h1.1 v2 12 && true then
                          bI (cl xs d 188 [.inr (.inr v2), .inl (xs.getD (w32 (v3 + 1)).toNat 0), .inl (xs.getD (w32 (v3 + 2)).toNat 0), .inl (xs.getD (w32 (v3 + 3)).toNat 0), .inl (xs.getD (w32 (v3 + 4)).toNat 0), .inl (xs.getD (w32 (v3 + 5)).toNat 0)] h1) (fun x4 h3 =>
                          bif decide (x2 = x4) then
                            ev xs d mm_321 18 [some (.inr (.inr v0)), some (.inr (.inr v1)), some (.inr (.inr v2)), some (.inl (w32 (v3 + 6)))] [] h3
                          else
                            some (some (.inl 0), h3))
                        else none
                      else none
                    else none
                  else none
                else none
              else none)
            else none
          else none
        else none
      else none
    else none
  else none :=
  (aB gP gX xs stp_321 58 d mm_321 212 _ _ h).trans rfl
set_option maxRecDepth 100000 in
set_option maxHeartbeats 4000000 in
theorem q_321_275 (xs : List Int) (d : Nat) (v0 : Int) (v1 : Int) (v2 : Int) (v3 : Int) (h : aH) : ev xs d mm_321 275 [some (.inr (.inr v0)), some (.inr (.inr v1)), some (.inr (.inr v2)), some (.inl v3)] [] h =
  bif decide (v0 = -2) && (decide (0 ≤ (w32 (v3 + 1))) && decide ((w32 (v3 + 1)).toNat < xs.length)) then
    bif aok h.1 v1 11 && true then
      bI (cl xs d 129 [.inr (.inr v1), .inl (xs.getD (w32 (v3 + 1)).toNat 0)] h) (fun x2 h1 =>
      bif decide (v0 = -2) && (decide (0 ≤ (w32 (v3 + 1))) && decide ((w32 (v3 + 1)).toNat < xs.length)) then
        bif aok h1.1 v2 12 && true then
          bI (cl xs d 190 [.inr (.inr v2), .inl (xs.getD (w32 (v3 + 1)).toNat 0)] h1) (fun x4 h3 =>
          bif decide (x2 = x4) then
            ev xs d mm_321 18 [some (.inr (.inr v0)), some (.inr (.inr v1)), some (.inr (.inr v2)), some (.inl (w32 (v3 + 6)))] [] h3
          else
            some (some (.inl 0), h3))
        else none
      else none)
    else none
  else none :=
  (aB gP gX xs stp_321 18 d mm_321 275 _ _ h).trans rfl
set_option maxRecDepth 100000 in
set_option maxHeartbeats 4000000 in
theorem q_321_298 (xs : List Int) (d : Nat) (v0 : Int) (v1 : Int) (v2 : Int) (v3 : Int) (h : aH) : ev xs d mm_321 298 [some (.inr (.inr v0)), some (.inr (.inr v1)), some (.inr (.inr v2)), some (.inl v3)] [] h =
  bif aok h.1 v1 11 && true then
    bI (cl xs d 130 [.inr (.inr v1)] h) (fun x2 h1 =>
    bif aok h1.1 v2 12 && true then
      bI (cl xs d 204 [.inr (.inr v2)] h1) (fun x4 h3 =>
      bif decide (x2 = x4) then
        ev xs d mm_321 18 [some (.inr (.inr v0)), some (.inr (.inr v1)), some (.inr (.inr v2)), some (.inl (w32 (v3 + 6)))] [] h3
      else
        some (some (.inl 0), h3))
    else none)
  else none :=
  (aB gP gX xs stp_321 8 d mm_321 298 _ _ h).trans rfl
set_option maxRecDepth 100000 in
set_option maxHeartbeats 4000000 in
theorem q_321_311 (xs : List Int) (d : Nat) (v0 : Int) (v1 : Int) (v2 : Int) (v3 : Int) (h : aH) : ev xs d mm_321 311 [some (.inr (.inr v0)), some (.inr (.inr v1)), some (.inr (.inr v2)), some (.inl v3)] [] h =
  bif aok h.1 v1 11 && true then
    bI (cl xs d 134 [.inr (.inr v1)] h) (fun x2 h1 =>
    bif aok h1.1 v2 12 && true then
      bI (cl xs d 205 [.inr (.inr v2)] h1) (fun x4 h3 =>
      bif decide (x2 = x4) then
        ev xs d mm_321 18 [some (.inr (.inr v0)), some (.inr (.inr v1)), some (.inr (.inr v2)), some (.inl (w32 (v3 + 6)))] [] h3
      else
        some (some (.inl 0), h3))
    else none)
  else none :=
  (aB gP gX xs stp_321 8 d mm_321 311 _ _ h).trans rfl
set_option maxRecDepth 100000 in
set_option maxHeartbeats 4000000 in
theorem q_321_324 (xs : List Int) (d : Nat) (v0 : Int) (v1 : Int) (v2 : Int) (v3 : Int) (h : aH) : ev xs d mm_321 324 [some (.inr (.inr v0)), some (.inr (.inr v1)), some (.inr (.inr v2)), some (.inl v3)] [] h =
  bif decide (v0 = -2) && (decide (0 ≤ (w32 (v3 + 1))) && decide ((w32 (v3 + 1)).toNat < xs.length)) then
    bif decide (v0 = -2) && (decide (0 ≤ (w32 (v3 + 2))) && decide ((w32 (v3 + 2)).toNat < xs.length)) then
      bif aok h.1 v1 11 && true then
        bI (cl xs d 140 [.inr (.inr v1), .inl (xs.getD (w32 (v3 + 1)).toNat 0), .inl (xs.getD (w32 (v3 + 2)).toNat 0)] h) (fun x2 h1 =>
        bif decide (v0 = -2) && (decide (0 ≤ (w32 (v3 + 1))) && decide ((w32 (v3 + 1)).toNat < xs.length)) then
          bif decide (v0 = -2) && (decide (0 ≤ (w32 (v3 + 2))) && decide ((w32 (v3 + 2)).toNat < xs.length)) then
            bif aok h1.1 v2 12 && true then
              bI (cl xs d 243 [.inr (.inr v2), .inl (xs.getD (w32 (v3 + 1)).toNat 0), .inl (xs.getD (w32 (v3 + 2)).toNat 0)] h1) (fun x4 h3 =>
              bif decide (x2 = x4) then
                ev xs d mm_321 18 [some (.inr (.inr v0)), some (.inr (.inr v1)), some (.inr (.inr v2)), some (.inl (w32 (v3 + 6)))] [] h3
              else
                some (some (.inl 0), h3))
            else none
          else none
        else none)
      else none
    else none
  else none :=
  (aB gP gX xs stp_321 28 d mm_321 324 _ _ h).trans rfl
set_option maxRecDepth 100000 in
set_option maxHeartbeats 4000000 in
theorem q_321_357 (xs : List Int) (d : Nat) (v0 : Int) (v1 : Int) (v2 : Int) (v3 : Int) (h : aH) : ev xs d mm_321 357 [some (.inr (.inr v0)), some (.inr (.inr v1)), some (.inr (.inr v2)), some (.inl v3)] [] h =
  bif decide (v0 = -2) && (decide (0 ≤ (w32 (v3 + 1))) && decide ((w32 (v3 + 1)).toNat < xs.length)) then
    bif decide (v0 = -2) && (decide (0 ≤ (w32 (v3 + 2))) && decide ((w32 (v3 + 2)).toNat < xs.length)) then
      bif aok h.1 v1 11 && true then
        bI (cl xs d 141 [.inr (.inr v1), .inl (xs.getD (w32 (v3 + 1)).toNat 0), .inl (xs.getD (w32 (v3 + 2)).toNat 0)] h) (fun x2 h1 =>
        bif decide (v0 = -2) && (decide (0 ≤ (w32 (v3 + 1))) && decide ((w32 (v3 + 1)).toNat < xs.length)) then
          bif decide (v0 = -2) && (decide (0 ≤ (w32 (v3 + 2))) && decide ((w32 (v3 + 2)).toNat < xs.length)) then
            bif aok h1.1 v2 12 && true then
              bI (cl xs d 244 [.inr (.inr v2), .inl (xs.getD (w32 (v3 + 1)).toNat 0), .inl (xs.getD (w32 (v3 + 2)).toNat 0)] h1) (fun x4 h3 =>
              bif decide (x2 = x4) then
                ev xs d mm_321 18 [some (.inr (.inr v0)), some (.inr (.inr v1)), some (.inr (.inr v2)), some (.inl (w32 (v3 + 6)))] [] h3
              else
                some (some (.inl 0), h3))
            else none
          else none
        else none)
      else none
    else none
  else none :=
  (aB gP gX xs stp_321 28 d mm_321 357 _ _ h).trans rfl
set_option maxRecDepth 100000 in
set_option maxHeartbeats 4000000 in
theorem q_321_390 (xs : List Int) (d : Nat) (v0 : Int) (v1 : Int) (v2 : Int) (v3 : Int) (h : aH) : ev xs d mm_321 390 [some (.inr (.inr v0)), some (.inr (.inr v1)), some (.inr (.inr v2)), some (.inl v3)] [] h =
  bif decide (v0 = -2) && (decide (0 ≤ (w32 (v3 + 1))) && decide ((w32 (v3 + 1)).toNat < xs.length)) then
    bif decide (v0 = -2) && (decide (0 ≤ (w32 (v3 + 2))) && decide ((w32 (v3 + 2)).toNat < xs.length)) then
      bif decide (v0 = -2) && (decide (0 ≤ (w32 (v3 + 3))) && decide ((w32 (v3 + 3)).toNat < xs.length)) then
        bif aok h.1 v1 11 && true then
          bI (cl xs d 142 [.inr (.inr v1), .inl (xs.getD (w32 (v3 + 1)).toNat 0), .inl (xs.getD (w32 (v3 + 2)).toNat 0), .inl (xs.getD (w32 (v3 + 3)).toNat 0)] h) (fun x2 h1 =>
          bif decide (v0 = -2) && (decide (0 ≤ (w32 (v3 + 1))) && decide ((w32 (v3 + 1)).toNat < xs.length)) then
            bif decide (v0 = -2) && (decide (0 ≤ (w32 (v3 + 2))) && decide ((w32 (v3 + 2)).toNat < xs.length)) then
              bif decide (v0 = -2) && (decide (0 ≤ (w32 (v3 + 3))) && decide ((w32 (v3 + 3)).toNat < xs.length)) then
                bif aok h1.1 v2 12 && true then
                  bI (cl xs d 245 [.inr (.inr v2), .inl (xs.getD (w32 (v3 + 1)).toNat 0), .inl (xs.getD (w32 (v3 + 2)).toNat 0), .inl (xs.getD (w32 (v3 + 3)).toNat 0)] h1) (fun x4 h3 =>
                  bif decide (x2 = x4) then
                    ev xs d mm_321 18 [some (.inr (.inr v0)), some (.inr (.inr v1)), some (.inr (.inr v2)), some (.inl (w32 (v3 + 6)))] [] h3
                  else
                    some (some (.inl 0), h3))
                else none
              else none
            else none
          else none)
        else none
      else none
    else none
  else none :=
  (aB gP gX xs stp_321 38 d mm_321 390 _ _ h).trans rfl
set_option maxRecDepth 100000 in
set_option maxHeartbeats 4000000 in
theorem q_321_433 (xs : List Int) (d : Nat) (v0 : Int) (v1 : Int) (v2 : Int) (v3 : Int) (h : aH) : ev xs d mm_321 433 [some (.inr (.inr v0)), some (.inr (.inr v1)), some (.inr (.inr v2)), some (.inl v3)] [] h =
  bif decide (v0 = -2) && (decide (0 ≤ (w32 (v3 + 1))) && decide ((w32 (v3 + 1)).toNat < xs.length)) then
    bif aok h.1 v1 11 && true then
      bI (cl xs d 143 [.inr (.inr v1), .inl (xs.getD (w32 (v3 + 1)).toNat 0)] h) (fun x2 h1 =>
      bif decide (v0 = -2) && (decide (0 ≤ (w32 (v3 + 1))) && decide ((w32 (v3 + 1)).toNat < xs.length)) then
        bif aok h1.1 v2 12 && true then
          bI (cl xs d 246 [.inr (.inr v2), .inl (xs.getD (w32 (v3 + 1)).toNat 0)] h1) (fun x4 h3 =>
          bif decide (x2 = x4) then
            ev xs d mm_321 18 [some (.inr (.inr v0)), some (.inr (.inr v1)), some (.inr (.inr v2)), some (.inl (w32 (v3 + 6)))] [] h3
          else
            some (some (.inl 0), h3))
        else none
      else none)
    else none
  else none :=
  (aB gP gX xs stp_321 18 d mm_321 433 _ _ h).trans rfl
set_option maxRecDepth 100000 in
set_option maxHeartbeats 4000000 in
theorem q_321_456 (xs : List Int) (d : Nat) (v0 : Int) (v1 : Int) (v2 : Int) (v3 : Int) (h : aH) : ev xs d mm_321 456 [some (.inr (.inr v0)), some (.inr (.inr v1)), some (.inr (.inr v2)), some (.inl v3)] [] h =
  bif decide (v0 = -2) && (decide (0 ≤ (w32 (v3 + 1))) && decide ((w32 (v3 + 1)).toNat < xs.length)) then
    bif decide (v0 = -2) && (decide (0 ≤ (w32 (v3 + 2))) && decide ((w32 (v3 + 2)).toNat < xs.length)) then
      bif aok h.1 v1 11 && true then
        bI (cl xs d 144 [.inr (.inr v1), .inl (xs.getD (w32 (v3 + 1)).toNat 0), .inl (xs.getD (w32 (v3 + 2)).toNat 0)] h) (fun x2 h1 =>
        bif decide (v0 = -2) && (decide (0 ≤ (w32 (v3 + 1))) && decide ((w32 (v3 + 1)).toNat < xs.length)) then
          bif decide (v0 = -2) && (decide (0 ≤ (w32 (v3 + 2))) && decide ((w32 (v3 + 2)).toNat < xs.length)) then
            bif aok h1.1 v2 12 && true then
              bI (cl xs d 255 [.inr (.inr v2), .inl (xs.getD (w32 (v3 + 1)).toNat 0), .inl (xs.getD (w32 (v3 + 2)).toNat 0)] h1) (fun x4 h3 =>
              bif decide (x2 = x4) then
                ev xs d mm_321 18 [some (.inr (.inr v0)), some (.inr (.inr v1)), some (.inr (.inr v2)), some (.inl (w32 (v3 + 6)))] [] h3
              else
                some (some (.inl 0), h3))
            else none
          else none
        else none)
      else none
    else none
  else none :=
  (aB gP gX xs stp_321 28 d mm_321 456 _ _ h).trans rfl
set_option maxRecDepth 100000 in
set_option maxHeartbeats 4000000 in
theorem q_321_489 (xs : List Int) (d : Nat) (v0 : Int) (v1 : Int) (v2 : Int) (v3 : Int) (h : aH) : ev xs d mm_321 489 [some (.inr (.inr v0)), some (.inr (.inr v1)), some (.inr (.inr v2)), some (.inl v3)] [] h =
  bif decide (v0 = -2) && (decide (0 ≤ (w32 (v3 + 1))) && decide ((w32 (v3 + 1)).toNat < xs.length)) then
    bif aok h.1 v1 11 && true then
      bI (cl xs d 145 [.inr (.inr v1), .inl (xs.getD (w32 (v3 + 1)).toNat 0)] h) (fun x2 h1 =>
      bif decide (v0 = -2) && (decide (0 ≤ (w32 (v3 + 1))) && decide ((w32 (v3 + 1)).toNat < xs.length)) then
        bif aok h1.1 v2 12 && true then
          bI (cl xs d 256 [.inr (.inr v2), .inl (xs.getD (w32 (v3 + 1)).toNat 0)] h1) (fun x4 h3 =>
          bif decide (x2 = x4) then
            ev xs d mm_321 18 [some (.inr (.inr v0)), some (.inr (.inr v1)), some (.inr (.inr v2)), some (.inl (w32 (v3 + 6)))] [] h3
          else
            some (some (.inl 0), h3))
        else none
      else none)
    else none
  else none :=
  (aB gP gX xs stp_321 18 d mm_321 489 _ _ h).trans rfl
set_option maxRecDepth 100000 in
set_option maxHeartbeats 4000000 in
theorem q_321_512 (xs : List Int) (d : Nat) (v0 : Int) (v1 : Int) (v2 : Int) (v3 : Int) (h : aH) : ev xs d mm_321 512 [some (.inr (.inr v0)), some (.inr (.inr v1)), some (.inr (.inr v2)), some (.inl v3)] [] h =
  bif decide (v0 = -2) && (decide (0 ≤ (w32 (v3 + 1))) && decide ((w32 (v3 + 1)).toNat < xs.length)) then
    bif aok h.1 v1 11 && true then
      bI (cl xs d 146 [.inr (.inr v1), .inl (xs.getD (w32 (v3 + 1)).toNat 0)] h) (fun x2 h1 =>
      bif decide (v0 = -2) && (decide (0 ≤ (w32 (v3 + 1))) && decide ((w32 (v3 + 1)).toNat < xs.length)) then
        bif aok h1.1 v2 12 && true then
          bI (cl xs d 257 [.inr (.inr v2), .inl (xs.getD (w32 (v3 + 1)).toNat 0)] h1) (fun x4 h3 =>
          bif decide (x2 = x4) then
            ev xs d mm_321 18 [some (.inr (.inr v0)), some (.inr (.inr v1)), some (.inr (.inr v2)), some (.inl (w32 (v3 + 6)))] [] h3
          else
            some (some (.inl 0), h3))
        else none
      else none)
    else none
  else none :=
  (aB gP gX xs stp_321 18 d mm_321 512 _ _ h).trans rfl
set_option maxRecDepth 100000 in
set_option maxHeartbeats 4000000 in
theorem q_321_535 (xs : List Int) (d : Nat) (v0 : Int) (v1 : Int) (v2 : Int) (v3 : Int) (h : aH) : ev xs d mm_321 535 [some (.inr (.inr v0)), some (.inr (.inr v1)), some (.inr (.inr v2)), some (.inl v3)] [] h =
  bif decide (v0 = -2) && (decide (0 ≤ (w32 (v3 + 1))) && decide ((w32 (v3 + 1)).toNat < xs.length)) then
    bif aok h.1 v1 11 && true then
      bI (cl xs d 148 [.inr (.inr v1), .inl (xs.getD (w32 (v3 + 1)).toNat 0)] h) (fun x2 h1 =>
      bif decide (v0 = -2) && (decide (0 ≤ (w32 (v3 + 1))) && decide ((w32 (v3 + 1)).toNat < xs.length)) then
        bif aok h1.1 v2 12 && true then
          bI (cl xs d 259 [.inr (.inr v2), .inl (xs.getD (w32 (v3 + 1)).toNat 0)] h1) (fun x4 h3 =>
          bif decide (x2 = x4) then
            ev xs d mm_321 18 [some (.inr (.inr v0)), some (.inr (.inr v1)), some (.inr (.inr v2)), some (.inl (w32 (v3 + 6)))] [] h3
          else
            some (some (.inl 0), h3))
        else none
      else none)
    else none
  else none :=
  (aB gP gX xs stp_321 18 d mm_321 535 _ _ h).trans rfl
set_option maxRecDepth 100000 in
set_option maxHeartbeats 4000000 in
theorem q_321_558 (xs : List Int) (d : Nat) (v0 : Int) (v1 : Int) (v2 : Int) (v3 : Int) (h : aH) : ev xs d mm_321 558 [some (.inr (.inr v0)), some (.inr (.inr v1)), some (.inr (.inr v2)), some (.inl v3)] [] h =
  bif decide (v0 = -2) && (decide (0 ≤ (w32 (v3 + 1))) && decide ((w32 (v3 + 1)).toNat < xs.length)) then
    bif decide (v0 = -2) && (decide (0 ≤ (w32 (v3 + 2))) && decide ((w32 (v3 + 2)).toNat < xs.length)) then
      bif aok h.1 v1 11 && true then
        bI (cl xs d 149 [.inr (.inr v1), .inl (xs.getD (w32 (v3 + 1)).toNat 0), .inl (xs.getD (w32 (v3 + 2)).toNat 0)] h) (fun x2 h1 =>
        bif decide (v0 = -2) && (decide (0 ≤ (w32 (v3 + 1))) && decide ((w32 (v3 + 1)).toNat < xs.length)) then
          bif decide (v0 = -2) && (decide (0 ≤ (w32 (v3 + 2))) && decide ((w32 (v3 + 2)).toNat < xs.length)) then
            bif aok h1.1 v2 12 && true then
              bI (cl xs d 260 [.inr (.inr v2), .inl (xs.getD (w32 (v3 + 1)).toNat 0), .inl (xs.getD (w32 (v3 + 2)).toNat 0)] h1) (fun x4 h3 =>
              bif decide (x2 = x4) then
                ev xs d mm_321 18 [some (.inr (.inr v0)), some (.inr (.inr v1)), some (.inr (.inr v2)), some (.inl (w32 (v3 + 6)))] [] h3
              else
                some (some (.inl 0), h3))
            else none
          else none
        else none)
      else none
    else none
  else none :=
  (aB gP gX xs stp_321 28 d mm_321 558 _ _ h).trans rfl
set_option maxRecDepth 100000 in
set_option maxHeartbeats 4000000 in
theorem q_321_591 (xs : List Int) (d : Nat) (v0 : Int) (v1 : Int) (v2 : Int) (v3 : Int) (h : aH) : ev xs d mm_321 591 [some (.inr (.inr v0)), some (.inr (.inr v1)), some (.inr (.inr v2)), some (.inl v3)] [] h =
  bif decide (v0 = -2) && (decide (0 ≤ (w32 (v3 + 1))) && decide ((w32 (v3 + 1)).toNat < xs.length)) then
    bif aok h.1 v1 11 && true then
      bI (cl xs d 150 [.inr (.inr v1), .inl (xs.getD (w32 (v3 + 1)).toNat 0)] h) (fun x2 h1 =>
      bif decide (v0 = -2) && (decide (0 ≤ (w32 (v3 + 1))) && decide ((w32 (v3 + 1)).toNat < xs.length)) then
        bif aok h1.1 v2 12 && true then
          bI (cl xs d 264 [.inr (.inr v2), .inl (xs.getD (w32 (v3 + 1)).toNat 0)] h1) (fun x4 h3 =>
          bif decide (x2 = x4) then
            ev xs d mm_321 18 [some (.inr (.inr v0)), some (.inr (.inr v1)), some (.inr (.inr v2)), some (.inl (w32 (v3 + 6)))] [] h3
          else
            some (some (.inl 0), h3))
        else none
      else none)
    else none
  else none :=
  (aB gP gX xs stp_321 18 d mm_321 591 _ _ h).trans rfl
set_option maxRecDepth 100000 in
set_option maxHeartbeats 4000000 in
theorem q_321_614 (xs : List Int) (d : Nat) (v0 : Int) (v1 : Int) (v2 : Int) (v3 : Int) (h : aH) : ev xs d mm_321 614 [some (.inr (.inr v0)), some (.inr (.inr v1)), some (.inr (.inr v2)), some (.inl v3)] [] h =
  bif decide (v0 = -2) && (decide (0 ≤ (w32 (v3 + 1))) && decide ((w32 (v3 + 1)).toNat < xs.length)) then
    bif aok h.1 v1 11 && true then
      bI (cl xs d 152 [.inr (.inr v1), .inl (xs.getD (w32 (v3 + 1)).toNat 0)] h) (fun x2 h1 =>
      bif decide (v0 = -2) && (decide (0 ≤ (w32 (v3 + 1))) && decide ((w32 (v3 + 1)).toNat < xs.length)) then
        bif aok h1.1 v2 12 && true then
          bI (cl xs d 269 [.inr (.inr v2), .inl (xs.getD (w32 (v3 + 1)).toNat 0)] h1) (fun x4 h3 =>
          bif decide (x2 = x4) then
            ev xs d mm_321 18 [some (.inr (.inr v0)), some (.inr (.inr v1)), some (.inr (.inr v2)), some (.inl (w32 (v3 + 6)))] [] h3
          else
            some (some (.inl 0), h3))
        else none
      else none)
    else none
  else none :=
  (aB gP gX xs stp_321 18 d mm_321 614 _ _ h).trans rfl
set_option maxRecDepth 100000 in
set_option maxHeartbeats 4000000 in
theorem q_321_637 (xs : List Int) (d : Nat) (v0 : Int) (v1 : Int) (v2 : Int) (v3 : Int) (h : aH) : ev xs d mm_321 637 [some (.inr (.inr v0)), some (.inr (.inr v1)), some (.inr (.inr v2)), some (.inl v3)] [] h =
  bif decide (v0 = -2) && (decide (0 ≤ (w32 (v3 + 1))) && decide ((w32 (v3 + 1)).toNat < xs.length)) then
    bif aok h.1 v1 11 && true then
      bI (cl xs d 154 [.inr (.inr v1), .inl (xs.getD (w32 (v3 + 1)).toNat 0)] h) (fun x2 h1 =>
      bif decide (v0 = -2) && (decide (0 ≤ (w32 (v3 + 1))) && decide ((w32 (v3 + 1)).toNat < xs.length)) then
        bif aok h1.1 v2 12 && true then
          bI (cl xs d 274 [.inr (.inr v2), .inl (xs.getD (w32 (v3 + 1)).toNat 0)] h1) (fun x4 h3 =>
          bif decide (x2 = x4) then
            ev xs d mm_321 18 [some (.inr (.inr v0)), some (.inr (.inr v1)), some (.inr (.inr v2)), some (.inl (w32 (v3 + 6)))] [] h3
          else
            some (some (.inl 0), h3))
        else none
      else none)
    else none
  else none :=
  (aB gP gX xs stp_321 18 d mm_321 637 _ _ h).trans rfl
set_option maxRecDepth 100000 in
set_option maxHeartbeats 4000000 in
theorem q_321_660 (xs : List Int) (d : Nat) (v0 : Int) (v1 : Int) (v2 : Int) (v3 : Int) (h : aH) : ev xs d mm_321 660 [some (.inr (.inr v0)), some (.inr (.inr v1)), some (.inr (.inr v2)), some (.inl v3)] [] h =
  bif aok h.1 v1 11 && true then
    bI (cl xs d 155 [.inr (.inr v1)] h) (fun x2 h1 =>
    bif aok h1.1 v2 12 && true then
      bI (cl xs d 275 [.inr (.inr v2)] h1) (fun x4 h3 =>
      bif decide (x2 = x4) then
        ev xs d mm_321 18 [some (.inr (.inr v0)), some (.inr (.inr v1)), some (.inr (.inr v2)), some (.inl (w32 (v3 + 6)))] [] h3
      else
        some (some (.inl 0), h3))
    else none)
  else none :=
  (aB gP gX xs stp_321 8 d mm_321 660 _ _ h).trans rfl
set_option maxRecDepth 100000 in
set_option maxHeartbeats 4000000 in
theorem q_321_673 (xs : List Int) (d : Nat) (v0 : Int) (v1 : Int) (v2 : Int) (v3 : Int) (h : aH) : ev xs d mm_321 673 [some (.inr (.inr v0)), some (.inr (.inr v1)), some (.inr (.inr v2)), some (.inl v3)] [] h =
  bif decide (v0 = -2) && (decide (0 ≤ (w32 (v3 + 1))) && decide ((w32 (v3 + 1)).toNat < xs.length)) then
    bif decide (v0 = -2) && (decide (0 ≤ (w32 (v3 + 2))) && decide ((w32 (v3 + 2)).toNat < xs.length)) then
      bif aok h.1 v1 11 && true then
        bI (cl xs d 156 [.inr (.inr v1), .inl (xs.getD (w32 (v3 + 1)).toNat 0), .inl (xs.getD (w32 (v3 + 2)).toNat 0)] h) (fun x2 h1 =>
        bif decide (v0 = -2) && (decide (0 ≤ (w32 (v3 + 1))) && decide ((w32 (v3 + 1)).toNat < xs.length)) then
          bif decide (v0 = -2) && (decide (0 ≤ (w32 (v3 + 2))) && decide ((w32 (v3 + 2)).toNat < xs.length)) then
            bif aok h1.1 v2 12 && true then
              bI (cl xs d 276 [.inr (.inr v2), .inl (xs.getD (w32 (v3 + 1)).toNat 0), .inl (xs.getD (w32 (v3 + 2)).toNat 0)] h1) (fun x4 h3 =>
              bif decide (x2 = x4) then
                ev xs d mm_321 18 [some (.inr (.inr v0)), some (.inr (.inr v1)), some (.inr (.inr v2)), some (.inl (w32 (v3 + 6)))] [] h3
              else
                some (some (.inl 0), h3))
            else none
          else none
        else none)
      else none
    else none
  else none :=
  (aB gP gX xs stp_321 28 d mm_321 673 _ _ h).trans rfl
set_option maxRecDepth 100000 in
set_option maxHeartbeats 4000000 in
theorem q_321_706 (xs : List Int) (d : Nat) (v0 : Int) (v1 : Int) (v2 : Int) (v3 : Int) (h : aH) : ev xs d mm_321 706 [some (.inr (.inr v0)), some (.inr (.inr v1)), some (.inr (.inr v2)), some (.inl v3)] [] h =
  bif decide (v0 = -2) && (decide (0 ≤ (w32 (v3 + 1))) && decide ((w32 (v3 + 1)).toNat < xs.length)) then
    bif decide (v0 = -2) && (decide (0 ≤ (w32 (v3 + 2))) && decide ((w32 (v3 + 2)).toNat < xs.length)) then
      bif aok h.1 v1 11 && true then
        bI (cl xs d 157 [.inr (.inr v1), .inl (xs.getD (w32 (v3 + 1)).toNat 0), .inl (xs.getD (w32 (v3 + 2)).toNat 0)] h) (fun x2 h1 =>
        bif decide (v0 = -2) && (decide (0 ≤ (w32 (v3 + 1))) && decide ((w32 (v3 + 1)).toNat < xs.length)) then
          bif decide (v0 = -2) && (decide (0 ≤ (w32 (v3 + 2))) && decide ((w32 (v3 + 2)).toNat < xs.length)) then
            bif aok h1.1 v2 12 && true then
              bI (cl xs d 277 [.inr (.inr v2), .inl (xs.getD (w32 (v3 + 1)).toNat 0), .inl (xs.getD (w32 (v3 + 2)).toNat 0)] h1) (fun x4 h3 =>
              bif decide (x2 = x4) then
                ev xs d mm_321 18 [some (.inr (.inr v0)), some (.inr (.inr v1)), some (.inr (.inr v2)), some (.inl (w32 (v3 + 6)))] [] h3
              else
                some (some (.inl 0), h3))
            else none
          else none
        else none)
      else none
    else none
  else none :=
  (aB gP gX xs stp_321 28 d mm_321 706 _ _ h).trans rfl
set_option maxRecDepth 100000 in
set_option maxHeartbeats 4000000 in
theorem q_321_739 (xs : List Int) (d : Nat) (v0 : Int) (v1 : Int) (v2 : Int) (v3 : Int) (h : aH) : ev xs d mm_321 739 [some (.inr (.inr v0)), some (.inr (.inr v1)), some (.inr (.inr v2)), some (.inl v3)] [] h =
  bif decide (v0 = -2) && (decide (0 ≤ (w32 (v3 + 1))) && decide ((w32 (v3 + 1)).toNat < xs.length)) then
    bif decide (v0 = -2) && (decide (0 ≤ (w32 (v3 + 2))) && decide ((w32 (v3 + 2)).toNat < xs.length)) then
      bif decide ((xs.getD (w32 (v3 + 2)).toNat 0) = 0) then
        ev xs d mm_321 758 [some (.inr (.inr v0)), some (.inr (.inr v1)), some (.inr (.inr v2)), some (.inl v3)] [.inl 0, .inl (xs.getD (w32 (v3 + 1)).toNat 0), .inr (.inr v1)] h
      else
        ev xs d mm_321 758 [some (.inr (.inr v0)), some (.inr (.inr v1)), some (.inr (.inr v2)), some (.inl v3)] [.inl 1, .inl (xs.getD (w32 (v3 + 1)).toNat 0), .inr (.inr v1)] h
    else none
  else none :=
  (aB gP gX xs stp_321 15 d mm_321 739 _ _ h).trans rfl
set_option maxRecDepth 100000 in
set_option maxHeartbeats 4000000 in
theorem q_321_758 (xs : List Int) (d : Nat) (v0 : Int) (v1 : Int) (v2 : Int) (v3 : Int) (s0 : Int) (s1 : Int) (s2 : Int) (h : aH) : ev xs d mm_321 758 [some (.inr (.inr v0)), some (.inr (.inr v1)), some (.inr (.inr v2)), some (.inl v3)] [.inl s2, .inl s1, .inr (.inr s0)] h =
  bif aok h.1 s0 11 && true then
    bI (cl xs d 165 [.inr (.inr s0), .inl s1, .inl s2] h) (fun x2 h1 =>
    bif decide (v0 = -2) && (decide (0 ≤ (w32 (v3 + 1))) && decide ((w32 (v3 + 1)).toNat < xs.length)) then
      bif decide (v0 = -2) && (decide (0 ≤ (w32 (v3 + 2))) && decide ((w32 (v3 + 2)).toNat < xs.length)) then
        bif decide ((xs.getD (w32 (v3 + 2)).toNat 0) = 0) then
          ev xs d mm_321 780 [some (.inr (.inr v0)), some (.inr (.inr v1)), some (.inr (.inr v2)), some (.inl v3)] [.inl 0, .inl (xs.getD (w32 (v3 + 1)).toNat 0), .inr (.inr v2), .inl x2] h1
        else
          ev xs d mm_321 780 [some (.inr (.inr v0)), some (.inr (.inr v1)), some (.inr (.inr v2)), some (.inl v3)] [.inl 1, .inl (xs.getD (w32 (v3 + 1)).toNat 0), .inr (.inr v2), .inl x2] h1
      else none
    else none)
  else none :=
  (aB gP gX xs stp_321 16 d mm_321 758 _ _ h).trans rfl
set_option maxRecDepth 100000 in
set_option maxHeartbeats 4000000 in
theorem q_321_780 (xs : List Int) (d : Nat) (v0 : Int) (v1 : Int) (v2 : Int) (v3 : Int) (s0 : Int) (s1 : Int) (s2 : Int) (s3 : Int) (h : aH) : ev xs d mm_321 780 [some (.inr (.inr v0)), some (.inr (.inr v1)), some (.inr (.inr v2)), some (.inl v3)] [.inl s3, .inl s2, .inr (.inr s1), .inl s0] h =
  bif aok h.1 s1 12 && true then
    bI (cl xs d 281 [.inr (.inr s1), .inl s2, .inl s3] h) (fun x2 h1 =>
    bif decide (s0 = x2) then
      ev xs d mm_321 18 [some (.inr (.inr v0)), some (.inr (.inr v1)), some (.inr (.inr v2)), some (.inl (w32 (v3 + 6)))] [] h1
    else
      some (some (.inl 0), h1))
  else none :=
  (aB gP gX xs stp_321 5 d mm_321 780 _ _ h).trans rfl
set_option maxRecDepth 100000 in
set_option maxHeartbeats 4000000 in
theorem q_321_788 (xs : List Int) (d : Nat) (v0 : Int) (v1 : Int) (v2 : Int) (v3 : Int) (h : aH) : ev xs d mm_321 788 [some (.inr (.inr v0)), some (.inr (.inr v1)), some (.inr (.inr v2)), some (.inl v3)] [] h =
  bif decide (v0 = -2) && (decide (0 ≤ (w32 (v3 + 1))) && decide ((w32 (v3 + 1)).toNat < xs.length)) then
    bif aok h.1 v1 11 && true then
      bI (cl xs d 166 [.inr (.inr v1), .inl (xs.getD (w32 (v3 + 1)).toNat 0)] h) (fun x2 h1 =>
      bif decide (v0 = -2) && (decide (0 ≤ (w32 (v3 + 1))) && decide ((w32 (v3 + 1)).toNat < xs.length)) then
        bif aok h1.1 v2 12 && true then
          bI (cl xs d 286 [.inr (.inr v2), .inl (xs.getD (w32 (v3 + 1)).toNat 0)] h1) (fun x4 h3 =>
          bif decide (x2 = x4) then
            ev xs d mm_321 18 [some (.inr (.inr v0)), some (.inr (.inr v1)), some (.inr (.inr v2)), some (.inl (w32 (v3 + 6)))] [] h3
          else
            some (some (.inl 0), h3))
        else none
      else none)
    else none
  else none :=
  (aB gP gX xs stp_321 18 d mm_321 788 _ _ h).trans rfl
set_option maxRecDepth 100000 in
set_option maxHeartbeats 4000000 in
theorem q_321_811 (xs : List Int) (d : Nat) (v0 : Int) (v1 : Int) (v2 : Int) (v3 : Int) (h : aH) : ev xs d mm_321 811 [some (.inr (.inr v0)), some (.inr (.inr v1)), some (.inr (.inr v2)), some (.inl v3)] [] h =
  bif decide (v0 = -2) && (decide (0 ≤ (w32 (v3 + 1))) && decide ((w32 (v3 + 1)).toNat < xs.length)) then
    bif decide (v0 = -2) && (decide (0 ≤ (w32 (v3 + 2))) && decide ((w32 (v3 + 2)).toNat < xs.length)) then
      bif aok h.1 v1 11 && true then
        bI (cl xs d 167 [.inr (.inr v1), .inl (xs.getD (w32 (v3 + 1)).toNat 0), .inl (xs.getD (w32 (v3 + 2)).toNat 0)] h) (fun x2 h1 =>
        bif decide (v0 = -2) && (decide (0 ≤ (w32 (v3 + 1))) && decide ((w32 (v3 + 1)).toNat < xs.length)) then
          bif decide (v0 = -2) && (decide (0 ≤ (w32 (v3 + 2))) && decide ((w32 (v3 + 2)).toNat < xs.length)) then
            bif aok h1.1 v2 12 && true then
              bI (cl xs d 287 [.inr (.inr v2), .inl (xs.getD (w32 (v3 + 1)).toNat 0), .inl (xs.getD (w32 (v3 + 2)).toNat 0)] h1) (fun x4 h3 =>
              bif decide (x2 = x4) then
                ev xs d mm_321 18 [some (.inr (.inr v0)), some (.inr (.inr v1)), some (.inr (.inr v2)), some (.inl (w32 (v3 + 6)))] [] h3
              else
                some (some (.inl 0), h3))
            else none
          else none
        else none)
      else none
    else none
  else none :=
  (aB gP gX xs stp_321 28 d mm_321 811 _ _ h).trans rfl
set_option maxRecDepth 100000 in
set_option maxHeartbeats 4000000 in
theorem q_321_844 (xs : List Int) (d : Nat) (v0 : Int) (v1 : Int) (v2 : Int) (v3 : Int) (h : aH) : ev xs d mm_321 844 [some (.inr (.inr v0)), some (.inr (.inr v1)), some (.inr (.inr v2)), some (.inl v3)] [] h =
  bif decide (v0 = -2) && (decide (0 ≤ (w32 (v3 + 1))) && decide ((w32 (v3 + 1)).toNat < xs.length)) then
    bif aok h.1 v1 11 && true then
      bI (cl xs d 168 [.inr (.inr v1), .inl (xs.getD (w32 (v3 + 1)).toNat 0)] h) (fun x2 h1 =>
      bif decide (v0 = -2) && (decide (0 ≤ (w32 (v3 + 1))) && decide ((w32 (v3 + 1)).toNat < xs.length)) then
        bif aok h1.1 v2 12 && true then
          bI (cl xs d 288 [.inr (.inr v2), .inl (xs.getD (w32 (v3 + 1)).toNat 0)] h1) (fun x4 h3 =>
          bif decide (x2 = x4) then
            ev xs d mm_321 18 [some (.inr (.inr v0)), some (.inr (.inr v1)), some (.inr (.inr v2)), some (.inl (w32 (v3 + 6)))] [] h3
          else
            some (some (.inl 0), h3))
        else none
      else none)
    else none
  else none :=
  (aB gP gX xs stp_321 18 d mm_321 844 _ _ h).trans rfl
set_option maxRecDepth 100000 in
set_option maxHeartbeats 4000000 in
theorem q_321_867 (xs : List Int) (d : Nat) (v0 : Int) (v1 : Int) (v2 : Int) (v3 : Int) (h : aH) : ev xs d mm_321 867 [some (.inr (.inr v0)), some (.inr (.inr v1)), some (.inr (.inr v2)), some (.inl v3)] [] h =
  bif decide (v0 = -2) && (decide (0 ≤ (w32 (v3 + 1))) && decide ((w32 (v3 + 1)).toNat < xs.length)) then
    bif decide (v0 = -2) && (decide (0 ≤ (w32 (v3 + 2))) && decide ((w32 (v3 + 2)).toNat < xs.length)) then
      bif decide ((xs.getD (w32 (v3 + 2)).toNat 0) = 0) then
        ev xs d mm_321 886 [some (.inr (.inr v0)), some (.inr (.inr v1)), some (.inr (.inr v2)), some (.inl v3)] [.inl 0, .inl (xs.getD (w32 (v3 + 1)).toNat 0), .inr (.inr v1)] h
      else
        ev xs d mm_321 886 [some (.inr (.inr v0)), some (.inr (.inr v1)), some (.inr (.inr v2)), some (.inl v3)] [.inl 1, .inl (xs.getD (w32 (v3 + 1)).toNat 0), .inr (.inr v1)] h
    else none
  else none :=
  (aB gP gX xs stp_321 15 d mm_321 867 _ _ h).trans rfl
set_option maxRecDepth 100000 in
set_option maxHeartbeats 4000000 in
theorem q_321_886 (xs : List Int) (d : Nat) (v0 : Int) (v1 : Int) (v2 : Int) (v3 : Int) (s0 : Int) (s1 : Int) (s2 : Int) (h : aH) : ev xs d mm_321 886 [some (.inr (.inr v0)), some (.inr (.inr v1)), some (.inr (.inr v2)), some (.inl v3)] [.inl s2, .inl s1, .inr (.inr s0)] h =
  bif decide (v0 = -2) && (decide (0 ≤ (w32 (v3 + 3))) && decide ((w32 (v3 + 3)).toNat < xs.length)) then
    bif aok h.1 s0 11 && true then
      bI (cl xs d 169 [.inr (.inr s0), .inl s1, .inl s2, .inl (xs.getD (w32 (v3 + 3)).toNat 0)] h) (fun x2 h1 =>
      bif decide (v0 = -2) && (decide (0 ≤ (w32 (v3 + 1))) && decide ((w32 (v3 + 1)).toNat < xs.length)) then
        bif decide (v0 = -2) && (decide (0 ≤ (w32 (v3 + 2))) && decide ((w32 (v3 + 2)).toNat < xs.length)) then
          bif decide ((xs.getD (w32 (v3 + 2)).toNat 0) = 0) then
            ev xs d mm_321 913 [some (.inr (.inr v0)), some (.inr (.inr v1)), some (.inr (.inr v2)), some (.inl v3)] [.inl 0, .inl (xs.getD (w32 (v3 + 1)).toNat 0), .inr (.inr v2), .inl x2] h1
          else
            ev xs d mm_321 913 [some (.inr (.inr v0)), some (.inr (.inr v1)), some (.inr (.inr v2)), some (.inl v3)] [.inl 1, .inl (xs.getD (w32 (v3 + 1)).toNat 0), .inr (.inr v2), .inl x2] h1
        else none
      else none)
    else none
  else none :=
  (aB gP gX xs stp_321 21 d mm_321 886 _ _ h).trans rfl
set_option maxRecDepth 100000 in
set_option maxHeartbeats 4000000 in
theorem q_321_913 (xs : List Int) (d : Nat) (v0 : Int) (v1 : Int) (v2 : Int) (v3 : Int) (s0 : Int) (s1 : Int) (s2 : Int) (s3 : Int) (h : aH) : ev xs d mm_321 913 [some (.inr (.inr v0)), some (.inr (.inr v1)), some (.inr (.inr v2)), some (.inl v3)] [.inl s3, .inl s2, .inr (.inr s1), .inl s0] h =
  bif decide (v0 = -2) && (decide (0 ≤ (w32 (v3 + 3))) && decide ((w32 (v3 + 3)).toNat < xs.length)) then
    bif aok h.1 s1 12 && true then
      bI (cl xs d 289 [.inr (.inr s1), .inl s2, .inl s3, .inl (xs.getD (w32 (v3 + 3)).toNat 0)] h) (fun x2 h1 =>
      bif decide (s0 = x2) then
        ev xs d mm_321 18 [some (.inr (.inr v0)), some (.inr (.inr v1)), some (.inr (.inr v2)), some (.inl (w32 (v3 + 6)))] [] h1
      else
        some (some (.inl 0), h1))
    else none
  else none :=
  (aB gP gX xs stp_321 10 d mm_321 913 _ _ h).trans rfl
set_option maxRecDepth 100000 in
set_option maxHeartbeats 4000000 in
theorem q_321_926 (xs : List Int) (d : Nat) (v0 : Int) (v1 : Int) (v2 : Int) (v3 : Int) (h : aH) : ev xs d mm_321 926 [some (.inr (.inr v0)), some (.inr (.inr v1)), some (.inr (.inr v2)), some (.inl v3)] [] h =
  bif decide (v0 = -2) && (decide (0 ≤ (w32 (v3 + 1))) && decide ((w32 (v3 + 1)).toNat < xs.length)) then
    bif aok h.1 v1 11 && true then
      bI (cl xs d 170 [.inr (.inr v1), .inl (xs.getD (w32 (v3 + 1)).toNat 0)] h) (fun x2 h1 =>
      bif decide (v0 = -2) && (decide (0 ≤ (w32 (v3 + 1))) && decide ((w32 (v3 + 1)).toNat < xs.length)) then
        bif aok h1.1 v2 12 && true then
          bI (cl xs d 292 [.inr (.inr v2), .inl (xs.getD (w32 (v3 + 1)).toNat 0)] h1) (fun x4 h3 =>
          bif decide (x2 = x4) then
            ev xs d mm_321 18 [some (.inr (.inr v0)), some (.inr (.inr v1)), some (.inr (.inr v2)), some (.inl (w32 (v3 + 6)))] [] h3
          else
            some (some (.inl 0), h3))
        else none
      else none)
    else none
  else none :=
  (aB gP gX xs stp_321 18 d mm_321 926 _ _ h).trans rfl
set_option maxRecDepth 100000 in
set_option maxHeartbeats 4000000 in
theorem q_321_949 (xs : List Int) (d : Nat) (v0 : Int) (v1 : Int) (v2 : Int) (v3 : Int) (h : aH) : ev xs d mm_321 949 [some (.inr (.inr v0)), some (.inr (.inr v1)), some (.inr (.inr v2)), some (.inl v3)] [] h =
  bif decide (v0 = -2) && (decide (0 ≤ (w32 (v3 + 1))) && decide ((w32 (v3 + 1)).toNat < xs.length)) then
    bif decide (v0 = -2) && (decide (0 ≤ (w32 (v3 + 2))) && decide ((w32 (v3 + 2)).toNat < xs.length)) then
      bif aok h.1 v1 11 && true then
        bI (cl xs d 171 [.inr (.inr v1), .inl (xs.getD (w32 (v3 + 1)).toNat 0), .inl (xs.getD (w32 (v3 + 2)).toNat 0)] h) (fun x2 h1 =>
        bif decide (v0 = -2) && (decide (0 ≤ (w32 (v3 + 1))) && decide ((w32 (v3 + 1)).toNat < xs.length)) then
          bif decide (v0 = -2) && (decide (0 ≤ (w32 (v3 + 2))) && decide ((w32 (v3 + 2)).toNat < xs.length)) then
            bif aok h1.1 v2 12 && true then
              bI (cl xs d 294 [.inr (.inr v2), .inl (xs.getD (w32 (v3 + 1)).toNat 0), .inl (xs.getD (w32 (v3 + 2)).toNat 0)] h1) (fun x4 h3 =>
              bif decide (x2 = x4) then
                ev xs d mm_321 18 [some (.inr (.inr v0)), some (.inr (.inr v1)), some (.inr (.inr v2)), some (.inl (w32 (v3 + 6)))] [] h3
              else
                some (some (.inl 0), h3))
            else none
          else none
        else none)
      else none
    else none
  else none :=
  (aB gP gX xs stp_321 28 d mm_321 949 _ _ h).trans rfl
set_option maxRecDepth 100000 in
set_option maxHeartbeats 4000000 in
theorem q_321_982 (xs : List Int) (d : Nat) (v0 : Int) (v1 : Int) (v2 : Int) (v3 : Int) (h : aH) : ev xs d mm_321 982 [some (.inr (.inr v0)), some (.inr (.inr v1)), some (.inr (.inr v2)), some (.inl v3)] [] h =
  bif decide (v0 = -2) && (decide (0 ≤ (w32 (v3 + 1))) && decide ((w32 (v3 + 1)).toNat < xs.length)) then
    bif aok h.1 v1 11 && true then
      bI (cl xs d 172 [.inr (.inr v1), .inl (xs.getD (w32 (v3 + 1)).toNat 0)] h) (fun x2 h1 =>
      bif decide (v0 = -2) && (decide (0 ≤ (w32 (v3 + 1))) && decide ((w32 (v3 + 1)).toNat < xs.length)) then
        bif aok h1.1 v2 12 && true then
          bI (cl xs d 296 [.inr (.inr v2), .inl (xs.getD (w32 (v3 + 1)).toNat 0)] h1) (fun x4 h3 =>
          bif decide (x2 = x4) then
            ev xs d mm_321 18 [some (.inr (.inr v0)), some (.inr (.inr v1)), some (.inr (.inr v2)), some (.inl (w32 (v3 + 6)))] [] h3
          else
            some (some (.inl 0), h3))
        else none
      else none)
    else none
  else none :=
  (aB gP gX xs stp_321 18 d mm_321 982 _ _ h).trans rfl
set_option maxRecDepth 100000 in
set_option maxHeartbeats 4000000 in
theorem q_321_1005 (xs : List Int) (d : Nat) (v0 : Int) (v1 : Int) (v2 : Int) (v3 : Int) (h : aH) : ev xs d mm_321 1005 [some (.inr (.inr v0)), some (.inr (.inr v1)), some (.inr (.inr v2)), some (.inl v3)] [] h =
  bif decide (v0 = -2) && (decide (0 ≤ (w32 (v3 + 1))) && decide ((w32 (v3 + 1)).toNat < xs.length)) then
    bif decide (v0 = -2) && (decide (0 ≤ (w32 (v3 + 2))) && decide ((w32 (v3 + 2)).toNat < xs.length)) then
      bif decide (v0 = -2) && (decide (0 ≤ (w32 (v3 + 3))) && decide ((w32 (v3 + 3)).toNat < xs.length)) then
        bif aok h.1 v1 11 && true then
          bI (cl xs d 174 [.inr (.inr v1), .inl (xs.getD (w32 (v3 + 1)).toNat 0), .inl (xs.getD (w32 (v3 + 2)).toNat 0), .inl (xs.getD (w32 (v3 + 3)).toNat 0)] h) (fun x2 h1 =>
          bif decide (v0 = -2) && (decide (0 ≤ (w32 (v3 + 1))) && decide ((w32 (v3 + 1)).toNat < xs.length)) then
            bif decide (v0 = -2) && (decide (0 ≤ (w32 (v3 + 2))) && decide ((w32 (v3 + 2)).toNat < xs.length)) then
              bif decide (v0 = -2) && (decide (0 ≤ (w32 (v3 + 3))) && decide ((w32 (v3 + 3)).toNat < xs.length)) then
                bif aok h1.1 v2 12 && true then
                  bI (cl xs d 298 [.inr (.inr v2), .inl (xs.getD (w32 (v3 + 1)).toNat 0), .inl (xs.getD (w32 (v3 + 2)).toNat 0), .inl (xs.getD (w32 (v3 + 3)).toNat 0)] h1) (fun x4 h3 =>
                  bif decide (x2 = x4) then
                    ev xs d mm_321 18 [some (.inr (.inr v0)), some (.inr (.inr v1)), some (.inr (.inr v2)), some (.inl (w32 (v3 + 6)))] [] h3
                  else
                    some (some (.inl 0), h3))
                else none
              else none
            else none
          else none)
        else none
      else none
    else none
  else none :=
  (aB gP gX xs stp_321 38 d mm_321 1005 _ _ h).trans rfl
set_option maxRecDepth 100000 in
set_option maxHeartbeats 4000000 in
theorem q_321_1048 (xs : List Int) (d : Nat) (v0 : Int) (v1 : Int) (v2 : Int) (v3 : Int) (h : aH) : ev xs d mm_321 1048 [some (.inr (.inr v0)), some (.inr (.inr v1)), some (.inr (.inr v2)), some (.inl v3)] [] h =
  bif decide (v0 = -2) && (decide (0 ≤ (w32 (v3 + 1))) && decide ((w32 (v3 + 1)).toNat < xs.length)) then
    bif decide (v0 = -2) && (decide (0 ≤ (w32 (v3 + 2))) && decide ((w32 (v3 + 2)).toNat < xs.length)) then
      bif aok h.1 v1 11 && true then
        bI (cl xs d 176 [.inr (.inr v1), .inl (xs.getD (w32 (v3 + 1)).toNat 0), .inl (xs.getD (w32 (v3 + 2)).toNat 0)] h) (fun x2 h1 =>
        bif decide (v0 = -2) && (decide (0 ≤ (w32 (v3 + 1))) && decide ((w32 (v3 + 1)).toNat < xs.length)) then
          bif decide (v0 = -2) && (decide (0 ≤ (w32 (v3 + 2))) && decide ((w32 (v3 + 2)).toNat < xs.length)) then
            bif aok h1.1 v2 12 && true then
              bI (cl xs d 299 [.inr (.inr v2), .inl (xs.getD (w32 (v3 + 1)).toNat 0), .inl (xs.getD (w32 (v3 + 2)).toNat 0)] h1) (fun x4 h3 =>
              bif decide (x2 = x4) then
                ev xs d mm_321 18 [some (.inr (.inr v0)), some (.inr (.inr v1)), some (.inr (.inr v2)), some (.inl (w32 (v3 + 6)))] [] h3
              else
                some (some (.inl 0), h3))
            else none
          else none
        else none)
      else none
    else none
  else none :=
  (aB gP gX xs stp_321 28 d mm_321 1048 _ _ h).trans rfl
set_option maxRecDepth 100000 in
set_option maxHeartbeats 4000000 in
theorem q_321_1081 (xs : List Int) (d : Nat) (v0 : Int) (v1 : Int) (v2 : Int) (v3 : Int) (h : aH) : ev xs d mm_321 1081 [some (.inr (.inr v0)), some (.inr (.inr v1)), some (.inr (.inr v2)), some (.inl v3)] [] h =
  bif decide (v0 = -2) && (decide (0 ≤ (w32 (v3 + 1))) && decide ((w32 (v3 + 1)).toNat < xs.length)) then
    bif decide (v0 = -2) && (decide (0 ≤ (w32 (v3 + 2))) && decide ((w32 (v3 + 2)).toNat < xs.length)) then
      bif aok h.1 v1 11 && true then
        bI (cl xs d 177 [.inr (.inr v1), .inl (xs.getD (w32 (v3 + 1)).toNat 0), .inl (xs.getD (w32 (v3 + 2)).toNat 0)] h) (fun x2 h1 =>
        bif decide (v0 = -2) && (decide (0 ≤ (w32 (v3 + 1))) && decide ((w32 (v3 + 1)).toNat < xs.length)) then
          bif decide (v0 = -2) && (decide (0 ≤ (w32 (v3 + 2))) && decide ((w32 (v3 + 2)).toNat < xs.length)) then
            bif aok h1.1 v2 12 && true then
              bI (cl xs d 300 [.inr (.inr v2), .inl (xs.getD (w32 (v3 + 1)).toNat 0), .inl (xs.getD (w32 (v3 + 2)).toNat 0)] h1) (fun x4 h3 =>
              bif decide (x2 = x4) then
                ev xs d mm_321 18 [some (.inr (.inr v0)), some (.inr (.inr v1)), some (.inr (.inr v2)), some (.inl (w32 (v3 + 6)))] [] h3
              else
                some (some (.inl 0), h3))
            else none
          else none
        else none)
      else none
    else none
  else none :=
  (aB gP gX xs stp_321 28 d mm_321 1081 _ _ h).trans rfl
set_option maxRecDepth 100000 in
set_option maxHeartbeats 4000000 in
theorem q_321_1114 (xs : List Int) (d : Nat) (v0 : Int) (v1 : Int) (v2 : Int) (v3 : Int) (h : aH) : ev xs d mm_321 1114 [some (.inr (.inr v0)), some (.inr (.inr v1)), some (.inr (.inr v2)), some (.inl v3)] [] h =
  bif decide (v0 = -2) && (decide (0 ≤ (w32 (v3 + 1))) && decide ((w32 (v3 + 1)).toNat < xs.length)) then
    bif aok h.1 v1 11 && true then
      bI (cl xs d 173 [.inr (.inr v1), .inl (xs.getD (w32 (v3 + 1)).toNat 0)] h) (fun x2 h1 =>
      bif decide (v0 = -2) && (decide (0 ≤ (w32 (v3 + 1))) && decide ((w32 (v3 + 1)).toNat < xs.length)) then
        bif aok h1.1 v2 12 && true then
          bI (cl xs d 302 [.inr (.inr v2), .inl (xs.getD (w32 (v3 + 1)).toNat 0)] h1) (fun x4 h3 =>
          bif decide (x2 = x4) then
            ev xs d mm_321 18 [some (.inr (.inr v0)), some (.inr (.inr v1)), some (.inr (.inr v2)), some (.inl (w32 (v3 + 6)))] [] h3
          else
            some (some (.inl 0), h3))
        else none
      else none)
    else none
  else none :=
  (aB gP gX xs stp_321 18 d mm_321 1114 _ _ h).trans rfl
set_option maxRecDepth 100000 in
set_option maxHeartbeats 4000000 in
theorem q_321_1137 (xs : List Int) (d : Nat) (v0 : Int) (v1 : Int) (v2 : Int) (v3 : Int) (h : aH) : ev xs d mm_321 1137 [some (.inr (.inr v0)), some (.inr (.inr v1)), some (.inr (.inr v2)), some (.inl v3)] [] h =
  bif decide (v0 = -2) && (decide (0 ≤ (w32 (v3 + 1))) && decide ((w32 (v3 + 1)).toNat < xs.length)) then
    bif decide (v0 = -2) && (decide (0 ≤ (w32 (v3 + 2))) && decide ((w32 (v3 + 2)).toNat < xs.length)) then
      bif aok h.1 v1 11 && true then
        bI (cl xs d 159 [.inr (.inr v1), .inl (xs.getD (w32 (v3 + 1)).toNat 0), .inl (xs.getD (w32 (v3 + 2)).toNat 0)] h) (fun x2 h1 =>
        bif decide (v0 = -2) && (decide (0 ≤ (w32 (v3 + 1))) && decide ((w32 (v3 + 1)).toNat < xs.length)) then
          bif decide (v0 = -2) && (decide (0 ≤ (w32 (v3 + 2))) && decide ((w32 (v3 + 2)).toNat < xs.length)) then
            bif aok h1.1 v2 12 && true then
              bI (cl xs d 304 [.inr (.inr v2), .inl (xs.getD (w32 (v3 + 1)).toNat 0), .inl (xs.getD (w32 (v3 + 2)).toNat 0)] h1) (fun x4 h3 =>
              bif decide (x2 = x4) then
                ev xs d mm_321 18 [some (.inr (.inr v0)), some (.inr (.inr v1)), some (.inr (.inr v2)), some (.inl (w32 (v3 + 6)))] [] h3
              else
                some (some (.inl 0), h3))
            else none
          else none
        else none)
      else none
    else none
  else none :=
  (aB gP gX xs stp_321 28 d mm_321 1137 _ _ h).trans rfl
set_option maxRecDepth 100000 in
set_option maxHeartbeats 4000000 in
theorem q_321_1170 (xs : List Int) (d : Nat) (v0 : Int) (v1 : Int) (v2 : Int) (v3 : Int) (h : aH) : ev xs d mm_321 1170 [some (.inr (.inr v0)), some (.inr (.inr v1)), some (.inr (.inr v2)), some (.inl v3)] [] h =
  bif decide (v0 = -2) && (decide (0 ≤ (w32 (v3 + 1))) && decide ((w32 (v3 + 1)).toNat < xs.length)) then
    bif decide (v0 = -2) && (decide (0 ≤ (w32 (v3 + 2))) && decide ((w32 (v3 + 2)).toNat < xs.length)) then
      bif aok h.1 v1 11 && true then
        bI (cl xs d 160 [.inr (.inr v1), .inl (xs.getD (w32 (v3 + 1)).toNat 0), .inl (xs.getD (w32 (v3 + 2)).toNat 0)] h) (fun x2 h1 =>
        bif decide (v0 = -2) && (decide (0 ≤ (w32 (v3 + 1))) && decide ((w32 (v3 + 1)).toNat < xs.length)) then
          bif decide (v0 = -2) && (decide (0 ≤ (w32 (v3 + 2))) && decide ((w32 (v3 + 2)).toNat < xs.length)) then
            bif aok h1.1 v2 12 && true then
              bI (cl xs d 306 [.inr (.inr v2), .inl (xs.getD (w32 (v3 + 1)).toNat 0), .inl (xs.getD (w32 (v3 + 2)).toNat 0)] h1) (fun x4 h3 =>
              bif decide (x2 = x4) then
                ev xs d mm_321 18 [some (.inr (.inr v0)), some (.inr (.inr v1)), some (.inr (.inr v2)), some (.inl (w32 (v3 + 6)))] [] h3
              else
                some (some (.inl 0), h3))
            else none
          else none
        else none)
      else none
    else none
  else none :=
  (aB gP gX xs stp_321 28 d mm_321 1170 _ _ h).trans rfl
set_option maxRecDepth 100000 in
set_option maxHeartbeats 4000000 in
theorem q_321_1203 (xs : List Int) (d : Nat) (v0 : Int) (v1 : Int) (v2 : Int) (v3 : Int) (h : aH) : ev xs d mm_321 1203 [some (.inr (.inr v0)), some (.inr (.inr v1)), some (.inr (.inr v2)), some (.inl v3)] [] h =
  bif decide (v0 = -2) && (decide (0 ≤ (w32 (v3 + 1))) && decide ((w32 (v3 + 1)).toNat < xs.length)) then
    bif decide (v0 = -2) && (decide (0 ≤ (w32 (v3 + 2))) && decide ((w32 (v3 + 2)).toNat < xs.length)) then
      bif decide (v0 = -2) && (decide (0 ≤ (w32 (v3 + 3))) && decide ((w32 (v3 + 3)).toNat < xs.length)) then
        bif aok h.1 v1 11 && true then
          bI (cl xs d 180 [.inr (.inr v1), .inl (xs.getD (w32 (v3 + 1)).toNat 0), .inl (xs.getD (w32 (v3 + 2)).toNat 0), .inl (xs.getD (w32 (v3 + 3)).toNat 0)] h) (fun x2 h1 =>
          bif decide (v0 = -2) && (decide (0 ≤ (w32 (v3 + 1))) && decide ((w32 (v3 + 1)).toNat < xs.length)) then
            bif decide (v0 = -2) && (decide (0 ≤ (w32 (v3 + 2))) && decide ((w32 (v3 + 2)).toNat < xs.length)) then
              bif decide (v0 = -2) && (decide (0 ≤ (w32 (v3 + 3))) && decide ((w32 (v3 + 3)).toNat < xs.length)) then
                bif aok h1.1 v2 12 && true then
                  bI (cl xs d 310 [.inr (.inr v2), .inl (xs.getD (w32 (v3 + 1)).toNat 0), .inl (xs.getD (w32 (v3 + 2)).toNat 0), .inl (xs.getD (w32 (v3 + 3)).toNat 0)] h1) (fun x4 h3 =>
                  bif decide (x2 = x4) then
                    ev xs d mm_321 18 [some (.inr (.inr v0)), some (.inr (.inr v1)), some (.inr (.inr v2)), some (.inl (w32 (v3 + 6)))] [] h3
                  else
                    some (some (.inl 0), h3))
                else none
              else none
            else none
          else none)
        else none
      else none
    else none
  else none :=
  (aB gP gX xs stp_321 38 d mm_321 1203 _ _ h).trans rfl
set_option maxRecDepth 100000 in
set_option maxHeartbeats 4000000 in
theorem q_321_1246 (xs : List Int) (d : Nat) (v0 : Int) (v1 : Int) (v2 : Int) (v3 : Int) (h : aH) : ev xs d mm_321 1246 [some (.inr (.inr v0)), some (.inr (.inr v1)), some (.inr (.inr v2)), some (.inl v3)] [] h =
  bif decide (v0 = -2) && (decide (0 ≤ (w32 (v3 + 1))) && decide ((w32 (v3 + 1)).toNat < xs.length)) then
    bif aok h.1 v1 11 && true then
      bI (cl xs d 161 [.inr (.inr v1), .inl (xs.getD (w32 (v3 + 1)).toNat 0)] h) (fun x2 h1 =>
      bif decide (v0 = -2) && (decide (0 ≤ (w32 (v3 + 1))) && decide ((w32 (v3 + 1)).toNat < xs.length)) then
        bif aok h1.1 v2 12 && true then
          bI (cl xs d 308 [.inr (.inr v2), .inl (xs.getD (w32 (v3 + 1)).toNat 0)] h1) (fun x4 h3 =>
          bif decide (x2 = x4) then
            ev xs d mm_321 18 [some (.inr (.inr v0)), some (.inr (.inr v1)), some (.inr (.inr v2)), some (.inl (w32 (v3 + 6)))] [] h3
          else
            some (some (.inl 0), h3))
        else none
      else none)
    else none
  else none :=
  (aB gP gX xs stp_321 18 d mm_321 1246 _ _ h).trans rfl
set_option maxRecDepth 100000 in
set_option maxHeartbeats 4000000 in
theorem q_321_1269 (xs : List Int) (d : Nat) (v0 : Int) (v1 : Int) (v2 : Int) (v3 : Int) (h : aH) : ev xs d mm_321 1269 [some (.inr (.inr v0)), some (.inr (.inr v1)), some (.inr (.inr v2)), some (.inl v3)] [] h =
  bif aok h.1 v1 11 && true then
    bI (cl xs d 162 [.inr (.inr v1)] h) (fun x2 h1 =>
    bif aok h1.1 v2 12 && true then
      bI (cl xs d 305 [.inr (.inr v2)] h1) (fun x4 h3 =>
      bif decide (x2 = x4) then
        ev xs d mm_321 18 [some (.inr (.inr v0)), some (.inr (.inr v1)), some (.inr (.inr v2)), some (.inl (w32 (v3 + 6)))] [] h3
      else
        some (some (.inl 0), h3))
    else none)
  else none :=
  (aB gP gX xs stp_321 8 d mm_321 1269 _ _ h).trans rfl
set_option maxRecDepth 100000 in
set_option maxHeartbeats 4000000 in
theorem q_321_1282 (xs : List Int) (d : Nat) (v0 : Int) (v1 : Int) (v2 : Int) (v3 : Int) (h : aH) : ev xs d mm_321 1282 [some (.inr (.inr v0)), some (.inr (.inr v1)), some (.inr (.inr v2)), some (.inl v3)] [] h =
  bif decide (v0 = -2) && (decide (0 ≤ (w32 (v3 + 1))) && decide ((w32 (v3 + 1)).toNat < xs.length)) then
    bif aok h.1 v1 11 && true then
      bI (cl xs d 181 [.inr (.inr v1), .inl (xs.getD (w32 (v3 + 1)).toNat 0)] h) (fun x2 h1 =>
      bif decide (v0 = -2) && (decide (0 ≤ (w32 (v3 + 1))) && decide ((w32 (v3 + 1)).toNat < xs.length)) then
        bif aok h1.1 v2 12 && true then
          bI (cl xs d 312 [.inr (.inr v2), .inl (xs.getD (w32 (v3 + 1)).toNat 0)] h1) (fun x4 h3 =>
          bif decide (x2 = x4) then
            ev xs d mm_321 18 [some (.inr (.inr v0)), some (.inr (.inr v1)), some (.inr (.inr v2)), some (.inl (w32 (v3 + 6)))] [] h3
          else
            some (some (.inl 0), h3))
        else none
      else none)
    else none
  else none :=
  (aB gP gX xs stp_321 18 d mm_321 1282 _ _ h).trans rfl
set_option maxRecDepth 100000 in
set_option maxHeartbeats 4000000 in
theorem q_321_1305 (xs : List Int) (d : Nat) (v0 : Int) (v1 : Int) (v2 : Int) (v3 : Int) (h : aH) : ev xs d mm_321 1305 [some (.inr (.inr v0)), some (.inr (.inr v1)), some (.inr (.inr v2)), some (.inl v3)] [] h =
  bif decide (v0 = -2) && (decide (0 ≤ (w32 (v3 + 1))) && decide ((w32 (v3 + 1)).toNat < xs.length)) then
    bif aok h.1 v1 11 && true then
      bI (cl xs d 182 [.inr (.inr v1), .inl (xs.getD (w32 (v3 + 1)).toNat 0)] h) (fun x2 h1 =>
      bif decide (v0 = -2) && (decide (0 ≤ (w32 (v3 + 1))) && decide ((w32 (v3 + 1)).toNat < xs.length)) then
        bif aok h1.1 v2 12 && true then
          bI (cl xs d 311 [.inr (.inr v2), .inl (xs.getD (w32 (v3 + 1)).toNat 0)] h1) (fun x4 h3 =>
          bif decide (x2 = x4) then
            ev xs d mm_321 18 [some (.inr (.inr v0)), some (.inr (.inr v1)), some (.inr (.inr v2)), some (.inl (w32 (v3 + 6)))] [] h3
          else
            some (some (.inl 0), h3))
        else none
      else none)
    else none
  else none :=
  (aB gP gX xs stp_321 18 d mm_321 1305 _ _ h).trans rfl
set_option maxRecDepth 100000 in
set_option maxHeartbeats 4000000 in
theorem q_321_1328 (xs : List Int) (d : Nat) (v0 : Int) (v1 : Int) (v2 : Int) (v3 : Int) (h : aH) : ev xs d mm_321 1328 [some (.inr (.inr v0)), some (.inr (.inr v1)), some (.inr (.inr v2)), some (.inl v3)] [] h =
  bif decide (v0 = -2) && (decide (0 ≤ (w32 (v3 + 1))) && decide ((w32 (v3 + 1)).toNat < xs.length)) then
    bif aok h.1 v1 11 && true then
      bI (cl xs d 183 [.inr (.inr v1), .inl (xs.getD (w32 (v3 + 1)).toNat 0)] h) (fun x2 h1 =>
      bif decide (v0 = -2) && (decide (0 ≤ (w32 (v3 + 1))) && decide ((w32 (v3 + 1)).toNat < xs.length)) then
        bif aok h1.1 v2 12 && true then
          bI (cl xs d 313 [.inr (.inr v2), .inl (xs.getD (w32 (v3 + 1)).toNat 0)] h1) (fun x4 h3 =>
          bif decide (x2 = x4) then
            ev xs d mm_321 18 [some (.inr (.inr v0)), some (.inr (.inr v1)), some (.inr (.inr v2)), some (.inl (w32 (v3 + 6)))] [] h3
          else
            some (some (.inl 0), h3))
        else none
      else none)
    else none
  else none :=
  (aB gP gX xs stp_321 18 d mm_321 1328 _ _ h).trans rfl
set_option maxRecDepth 100000 in
set_option maxHeartbeats 4000000 in
theorem q_321_1351 (xs : List Int) (d : Nat) (v0 : Int) (v1 : Int) (v2 : Int) (v3 : Int) (h : aH) : ev xs d mm_321 1351 [some (.inr (.inr v0)), some (.inr (.inr v1)), some (.inr (.inr v2)), some (.inl v3)] [] h =
  bif decide (v0 = -2) && (decide (0 ≤ (w32 (v3 + 1))) && decide ((w32 (v3 + 1)).toNat < xs.length)) then
    bif aok h.1 v1 11 && true then
      bI (cl xs d 184 [.inr (.inr v1), .inl (xs.getD (w32 (v3 + 1)).toNat 0)] h) (fun x2 h1 =>
      bif decide (v0 = -2) && (decide (0 ≤ (w32 (v3 + 1))) && decide ((w32 (v3 + 1)).toNat < xs.length)) then
        bif aok h1.1 v2 12 && true then
          bI (cl xs d 314 [.inr (.inr v2), .inl (xs.getD (w32 (v3 + 1)).toNat 0)] h1) (fun x4 h3 =>
          bif decide (x2 = x4) then
            ev xs d mm_321 18 [some (.inr (.inr v0)), some (.inr (.inr v1)), some (.inr (.inr v2)), some (.inl (w32 (v3 + 6)))] [] h3
          else
            some (some (.inl 0), h3))
        else none
      else none)
    else none
  else none :=
  (aB gP gX xs stp_321 18 d mm_321 1351 _ _ h).trans rfl
set_option maxRecDepth 100000 in
set_option maxHeartbeats 4000000 in
theorem q_321_1374 (xs : List Int) (d : Nat) (v0 : Int) (v1 : Int) (v2 : Int) (v3 : Int) (h : aH) : ev xs d mm_321 1374 [some (.inr (.inr v0)), some (.inr (.inr v1)), some (.inr (.inr v2)), some (.inl v3)] [] h =
  bif decide (v0 = -2) && (decide (0 ≤ (w32 (v3 + 1))) && decide ((w32 (v3 + 1)).toNat < xs.length)) then
    bif aok h.1 v1 11 && true then
      bI (cl xs d 185 [.inr (.inr v1), .inl (xs.getD (w32 (v3 + 1)).toNat 0)] h) (fun x2 h1 =>
      bif decide (v0 = -2) && (decide (0 ≤ (w32 (v3 + 1))) && decide ((w32 (v3 + 1)).toNat < xs.length)) then
        bif aok h1.1 v2 12 && true then
          bI (cl xs d 315 [.inr (.inr v2), .inl (xs.getD (w32 (v3 + 1)).toNat 0)] h1) (fun x4 h3 =>
          bif decide (x2 = x4) then
            ev xs d mm_321 18 [some (.inr (.inr v0)), some (.inr (.inr v1)), some (.inr (.inr v2)), some (.inl (w32 (v3 + 6)))] [] h3
          else
            some (some (.inl 0), h3))
        else none
      else none)
    else none
  else none :=
  (aB gP gX xs stp_321 18 d mm_321 1374 _ _ h).trans rfl
set_option maxRecDepth 100000 in
set_option maxHeartbeats 4000000 in
theorem q_321_1397 (xs : List Int) (d : Nat) (v0 : Int) (v1 : Int) (v2 : Int) (v3 : Int) (h : aH) : ev xs d mm_321 1397 [some (.inr (.inr v0)), some (.inr (.inr v1)), some (.inr (.inr v2)), some (.inl v3)] [] h =
  ev xs d mm_321 18 [some (.inr (.inr v0)), some (.inr (.inr v1)), some (.inr (.inr v2)), some (.inl (w32 (v3 + 6)))] [] h :=
  (aB gP gX xs stp_321 3 d mm_321 1397 _ _ h).trans rfl
