def stp_274 : List Nat := [0, 31]
set_option maxRecDepth 100000 in
set_option maxHeartbeats 4000000 in
theorem q_274_0 (xs : List Int) (d : Nat) (v0 : Int) (v1 : Int) (h : aH) : ev xs d mm_274 0 [some (.inr (.inr v0)), some (.inl v1), none] [] h =
  bI (cl xs d 226 [.inl v1, .inl 0, .inl 100] h) (fun x2 h1 =>
    bif decide (¬ x2 = 0) then
      bif decide (¬ v1 = 0) then
        bif aok h1.1 v0 12 && true then
          bV (cl xs d 229 [.inr (.inr v0)] h1) (fun h3 =>
          ev xs d mm_274 31 [some (.inr (.inr v0)), some (.inl v1), some (.inl 0)] [] h3)
        else none
      else
        bif aok h1.1 v0 12 then
          bif ain h1.1 (h1.2 v0.toNat 63) 101 53 then
            some (some (.inl (ol2i (h1.2 (h1.2 v0.toNat 63).toNat (53 : Int).toNat))), h1)
          else none
        else none
    else
      some (some (.inl (-1)), h1)) :=
  (aB gP gX xs stp_274 14 d mm_274 0 _ _ h).trans rfl

set_option maxRecDepth 100000 in
set_option maxHeartbeats 4000000 in
theorem q_274_31 (xs : List Int) (d : Nat) (v0 : Int) (v1 : Int) (v2 : Int) (h : aH) : ev xs d mm_274 31 [some (.inr (.inr v0)), some (.inl v1), some (.inl v2)] [] h =
  bif decide (v1 ≤ v2) then
    bif aok h.1 v0 12 && true then
      bV (cl xs d 258 [.inr (.inr v0)] h) (fun h1 =>
      bif aok h1.1 v0 12 then
        bif ain h1.1 (h1.2 v0.toNat 63) 101 53 then
          some (some (.inl (ol2i (h1.2 (h1.2 v0.toNat 63).toNat (53 : Int).toNat))), h1)
        else none
      else none)
    else none
  else
    bif aok h.1 v0 12 && true then
      bV (cl xs d 273 [.inr (.inr v0)] h) (fun h2 =>
      ev xs d mm_274 31 [some (.inr (.inr v0)), some (.inl v1), some (.inl (w32 (v2 + 1)))] [] h2)
    else none :=
  (aB gP gX xs stp_274 12 d mm_274 31 _ _ h).trans rfl

def stp_275 : List Nat := [0, 21]
set_option maxRecDepth 100000 in
set_option maxHeartbeats 4000000 in
theorem q_275_0 (xs : List Int) (d : Nat) (v0 : Int) (h : aH) : ev xs d mm_275 0 [some (.inr (.inr v0)), none] [] h =
  bif aok h.1 v0 12 then
    bif decide (¬ (h.2 v0.toNat 70) = 0) then
      bif aok h.1 v0 12 then
        bif aok h.1 v0 12 then
          ev xs d mm_275 21 [some (.inr (.inr v0)), some (.inl 0)] [] (h.1, aup h.2 v0.toNat 70 (w32 ((h.2 v0.toNat 70) - 1)))
        else none
      else none
    else
      some (some (.inl 0), h)
  else none :=
  (aB gP gX xs stp_275 12 d mm_275 0 _ _ h).trans rfl

set_option maxRecDepth 100000 in
set_option maxHeartbeats 4000000 in
theorem q_275_21 (xs : List Int) (d : Nat) (v0 : Int) (v1 : Int) (h : aH) : ev xs d mm_275 21 [some (.inr (.inr v0)), some (.inl v1)] [] h =
  bif decide (60 ≤ v1) then
    some (some (.inl 1), h)
  else
    bif aok h.1 v0 12 then
      bif aok h.1 v0 12 then
        bif aok h.1 v0 12 then
          bif ain h.1 (h.2 v0.toNat 71) 101 (w32 ((w32 (60 * (h.2 v0.toNat 70))) + v1)) then
            bif ain h.1 (h.2 v0.toNat 63) 101 v1 then
              ev xs d mm_275 21 [some (.inr (.inr v0)), some (.inl (w32 (v1 + 1)))] [] (h.1, aup h.2 (h.2 v0.toNat 63).toNat v1.toNat (h.2 (h.2 v0.toNat 71).toNat (w32 ((w32 (60 * (h.2 v0.toNat 70))) + v1)).toNat))
            else none
          else none
        else none
      else none
    else none :=
  (aB gP gX xs stp_275 19 d mm_275 21 _ _ h).trans rfl

def stp_276 : List Nat := [0, 28]
set_option maxRecDepth 100000 in
set_option maxHeartbeats 4000000 in
theorem q_276_0 (xs : List Int) (d : Nat) (v0 : Int) (v1 : Int) (v2 : Int) (h : aH) : ev xs d mm_276 0 [some (.inr (.inr v0)), some (.inl v1), some (.inl v2)] [] h =
  bif aok h.1 v0 12 && true then
    bI (cl xs d 232 [.inr (.inr v0), .inl v1, .inl v2] h) (fun x2 h1 =>
    bif decide (x2 = 0) then
      ev xs d mm_276 28 [some (.inr (.inr v0)), some (.inl v1), some (.inl v2)] [.inl (-1)] h1
    else
      bif aok h1.1 v0 12 then
        bif ain h1.1 (h1.2 v0.toNat 63) 101 (w32 ((w32 (20 + (w32 (8 * v1)))) + v2)) then
          ev xs d mm_276 28 [some (.inr (.inr v0)), some (.inl v1), some (.inl v2)] [.inl (ol2i (h1.2 (h1.2 v0.toNat 63).toNat (w32 ((w32 (20 + (w32 (8 * v1)))) + v2)).toNat))] h1
        else none
      else none)
  else none :=
  (aB gP gX xs stp_276 18 d mm_276 0 _ _ h).trans rfl

set_option maxRecDepth 100000 in
set_option maxHeartbeats 4000000 in
theorem q_276_28 (xs : List Int) (d : Nat) (v0 : Int) (v1 : Int) (v2 : Int) (s0 : Int) (h : aH) : ev xs d mm_276 28 [some (.inr (.inr v0)), some (.inl v1), some (.inl v2)] [.inl s0] h =
  some (some (.inl s0), h) :=
  (aB gP gX xs stp_276 2 d mm_276 28 _ _ h).trans rfl

def stp_277 : List Nat := [0, 19, 27, 84, 99, 149, 191, 218]
set_option maxRecDepth 100000 in
set_option maxHeartbeats 4000000 in
theorem q_277_0 (xs : List Int) (d : Nat) (v0 : Int) (v1 : Int) (v2 : Int) (h : aH) : ev xs d mm_277 0 [some (.inr (.inr v0)), some (.inl v1), some (.inl v2), none, none, none, none, none, none, none, none] [] h =
  bI (cl xs d 226 [.inl v1, .inl 1, .inl 12] h) (fun x2 h1 =>
    bif decide (x2 = 0) then
      ev xs d mm_277 19 [some (.inr (.inr v0)), some (.inl v1), some (.inl v2), none, none, none, none, none, none, none, none] [] h1
    else
      bI (cl xs d 226 [.inl v2, .inl 0, .inl 2] h1) (fun x4 h3 =>
        bif decide (¬ x4 = 0) then
          bif aok h3.1 v0 12 && true then
            bV (cl xs d 248 [.inr (.inr v0)] h3) (fun h5 =>
            ev xs d mm_277 27 [some (.inr (.inr v0)), some (.inl v1), some (.inl v2), some (.inl 0), none, none, none, none, none, none, none] [] h5)
          else none
        else
          ev xs d mm_277 19 [some (.inr (.inr v0)), some (.inl v1), some (.inl v2), none, none, none, none, none, none, none, none] [] h3)) :=
  (aB gP gX xs stp_277 15 d mm_277 0 _ _ h).trans rfl

set_option maxRecDepth 100000 in
set_option maxHeartbeats 4000000 in
theorem q_277_19 (xs : List Int) (d : Nat) (v0 : Int) (v1 : Int) (v2 : Int) (u3 : Option aV) (u4 : Option aV) (u5 : Option aV) (u6 : Option aV) (u7 : Option aV) (u8 : Option aV) (u9 : Option aV) (u10 : Option aV) (h : aH) : ev xs d mm_277 19 [some (.inr (.inr v0)), some (.inl v1), some (.inl v2), u3, u4, u5, u6, u7, u8, u9, u10] [] h =
  some (some (.inl (-1)), h) :=
  (aB gP gX xs stp_277 3 d mm_277 19 _ _ h).trans rfl

set_option maxRecDepth 100000 in
set_option maxHeartbeats 4000000 in
theorem q_277_27 (xs : List Int) (d : Nat) (v0 : Int) (v1 : Int) (v2 : Int) (v3 : Int) (u4 : Option aV) (u5 : Option aV) (u6 : Option aV) (u7 : Option aV) (u8 : Option aV) (u9 : Option aV) (u10 : Option aV) (h : aH) : ev xs d mm_277 27 [some (.inr (.inr v0)), some (.inl v1), some (.inl v2), some (.inl v3), u4, u5, u6, u7, u8, u9, u10] [] h =
  bif aok h.1 v0 12 && true then
    bI (cl xs d 249 [.inr (.inr v0)] h) (fun x2 h1 =>
    bif decide (x2 = 0) then
      ev xs d mm_277 84 [some (.inr (.inr v0)), some (.inl v1), some (.inl v2), some (.inl v3), some (.inl 0), some (.inl 0), some (.inl (-2)), some (.inl 0), u8, u9, u10] [] h1
    else
      bif aok h1.1 v0 12 && true then
        bI (cl xs d 250 [.inr (.inr v0)] h1) (fun x4 h3 =>
        bif decide (x4 = v1) then
          bif aok h3.1 v0 12 then
            bif aok h3.1 v0 12 && true then
              bJ (cl xs d 252 [.inr (.inr v0)] h3) (fun x6 h5 =>
              bif ain h5.1 (h3.2 v0.toNat 72) 101 v3 then
                bif aok h5.1 v0 12 then
                  bif aok h5.1 v0 12 && true then
                    bI (cl xs d 253 [.inr (.inr v0)] (h5.1, aup h5.2 (h3.2 v0.toNat 72).toNat v3.toNat x6)) (fun x8 h7 =>
                    bif ain h7.1 ((aup h5.2 (h3.2 v0.toNat 72).toNat v3.toNat x6) v0.toNat 73) 100 v3 then
                      ev xs d mm_277 27 [some (.inr (.inr v0)), some (.inl v1), some (.inl v2), some (.inl (w32 (v3 + 1))), u4, u5, u6, u7, u8, u9, u10] [] (h7.1, aup h7.2 ((aup h5.2 (h3.2 v0.toNat 72).toNat v3.toNat x6) v0.toNat 73).toNat v3.toNat x8)
                    else none)
                  else none
                else none
              else none)
            else none
          else none
        else
          ev xs d mm_277 27 [some (.inr (.inr v0)), some (.inl v1), some (.inl v2), some (.inl v3), u4, u5, u6, u7, u8, u9, u10] [] h3)
      else none)
  else none :=
  (aB gP gX xs stp_277 22 d mm_277 27 _ _ h).trans rfl

set_option maxRecDepth 100000 in
set_option maxHeartbeats 4000000 in
theorem q_277_84 (xs : List Int) (d : Nat) (v0 : Int) (v1 : Int) (v2 : Int) (v3 : Int) (v4 : Int) (v5 : Int) (v6 : Int) (v7 : Int) (u8 : Option aV) (u9 : Option aV) (u10 : Option aV) (h : aH) : ev xs d mm_277 84 [some (.inr (.inr v0)), some (.inl v1), some (.inl v2), some (.inl v3), some (.inl v4), some (.inl v5), some (.inl v6), some (.inl v7), u8, u9, u10] [] h =
  bif decide (v3 ≤ v7) then
    bif decide (¬ v2 = 0) then
      bif decide (¬ v2 = 1) then
        ev xs d mm_277 218 [some (.inr (.inr v0)), some (.inl v1), some (.inl v2), some (.inl v3), some (.inl v4), some (.inl v5), some (.inl v6), some (.inl v7), u8, u9, u10] [.inl v6] h
      else
        ev xs d mm_277 218 [some (.inr (.inr v0)), some (.inl v1), some (.inl v2), some (.inl v3), some (.inl v4), some (.inl v5), some (.inl v6), some (.inl v7), u8, u9, u10] [.inl v5] h
    else
      ev xs d mm_277 218 [some (.inr (.inr v0)), some (.inl v1), some (.inl v2), some (.inl v3), some (.inl v4), some (.inl v5), some (.inl v6), some (.inl v7), u8, u9, u10] [.inl v4] h
  else
    ev xs d mm_277 99 [some (.inr (.inr v0)), some (.inl v1), some (.inl v2), some (.inl v3), some (.inl v4), some (.inl v5), some (.inl v6), some (.inl v7), some (.inl 0), some (.inl 0), some (.inl 0)] [] h :=
  (aB gP gX xs stp_277 11 d mm_277 84 _ _ h).trans rfl

set_option maxRecDepth 100000 in
set_option maxHeartbeats 4000000 in
theorem q_277_99 (xs : List Int) (d : Nat) (v0 : Int) (v1 : Int) (v2 : Int) (v3 : Int) (v4 : Int) (v5 : Int) (v6 : Int) (v7 : Int) (v8 : Int) (v9 : Int) (v10 : Int) (h : aH) : ev xs d mm_277 99 [some (.inr (.inr v0)), some (.inl v1), some (.inl v2), some (.inl v3), some (.inl v4), some (.inl v5), some (.inl v6), some (.inl v7), some (.inl v8), some (.inl v9), some (.inl v10)] [] h =
  bif decide (v3 ≤ v10) then
    bif decide (v8 = 0) then
      bif decide (¬ v9 = 0) then
        bif decide (0 ≤ v6) then
          ev xs d mm_277 191 [some (.inr (.inr v0)), some (.inl v1), some (.inl v2), some (.inl v3), some (.inl (w32 (v4 + 1))), some (.inl (w32 (v5 + 1))), some (.inl v6), some (.inl v7), some (.inl v8), some (.inl v9), some (.inl v10)] [] h
        else
          bif aok h.1 v0 12 then
            bif ain h.1 (h.2 v0.toNat 73) 100 v7 then
              ev xs d mm_277 191 [some (.inr (.inr v0)), some (.inl v1), some (.inl v2), some (.inl v3), some (.inl (w32 (v4 + 1))), some (.inl (w32 (v5 + 1))), some (.inl (h.2 (h.2 v0.toNat 73).toNat v7.toNat)), some (.inl v7), some (.inl v8), some (.inl v9), some (.inl v10)] [] h
            else none
          else none
      else
        ev xs d mm_277 191 [some (.inr (.inr v0)), some (.inl v1), some (.inl v2), some (.inl v3), some (.inl (w32 (v4 + 1))), some (.inl v5), some (.inl v6), some (.inl v7), some (.inl v8), some (.inl v9), some (.inl v10)] [] h
    else
      ev xs d mm_277 191 [some (.inr (.inr v0)), some (.inl v1), some (.inl v2), some (.inl v3), some (.inl v4), some (.inl v5), some (.inl v6), some (.inl v7), some (.inl v8), some (.inl v9), some (.inl v10)] [] h
  else
    bif decide (v10 = v7) then
      ev xs d mm_277 149 [some (.inr (.inr v0)), some (.inl v1), some (.inl v2), some (.inl v3), some (.inl v4), some (.inl v5), some (.inl v6), some (.inl v7), some (.inl v8), some (.inl v9), some (.inl v10)] [] h
    else
      bif aok h.1 v0 12 then
        bif ain h.1 (h.2 v0.toNat 72) 101 v10 then
          bif aok h.1 v0 12 then
            bif ain h.1 (h.2 v0.toNat 72) 101 v7 then
              bif decide ((olcmp (h.2 (h.2 v0.toNat 72).toNat v10.toNat) (h.2 (h.2 v0.toNat 72).toNat v7.toNat)) = 0) then
                bif decide (v7 ≤ v10) then
                  ev xs d mm_277 149 [some (.inr (.inr v0)), some (.inl v1), some (.inl v2), some (.inl v3), some (.inl v4), some (.inl v5), some (.inl v6), some (.inl v7), some (.inl v8), some (.inl 1), some (.inl v10)] [] h
                else
                  ev xs d mm_277 149 [some (.inr (.inr v0)), some (.inl v1), some (.inl v2), some (.inl v3), some (.inl v4), some (.inl v5), some (.inl v6), some (.inl v7), some (.inl 1), some (.inl v9), some (.inl v10)] [] h
              else
                ev xs d mm_277 149 [some (.inr (.inr v0)), some (.inl v1), some (.inl v2), some (.inl v3), some (.inl v4), some (.inl v5), some (.inl v6), some (.inl v7), some (.inl v8), some (.inl v9), some (.inl v10)] [] h
            else none
          else none
        else none
      else none :=
  (aB gP gX xs stp_277 23 d mm_277 99 _ _ h).trans rfl

set_option maxRecDepth 100000 in
set_option maxHeartbeats 4000000 in
theorem q_277_149 (xs : List Int) (d : Nat) (v0 : Int) (v1 : Int) (v2 : Int) (v3 : Int) (v4 : Int) (v5 : Int) (v6 : Int) (v7 : Int) (v8 : Int) (v9 : Int) (v10 : Int) (h : aH) : ev xs d mm_277 149 [some (.inr (.inr v0)), some (.inl v1), some (.inl v2), some (.inl v3), some (.inl v4), some (.inl v5), some (.inl v6), some (.inl v7), some (.inl v8), some (.inl v9), some (.inl v10)] [] h =
  ev xs d mm_277 99 [some (.inr (.inr v0)), some (.inl v1), some (.inl v2), some (.inl v3), some (.inl v4), some (.inl v5), some (.inl v6), some (.inl v7), some (.inl v8), some (.inl v9), some (.inl (w32 (v10 + 1)))] [] h :=
  (aB gP gX xs stp_277 3 d mm_277 149 _ _ h).trans rfl

set_option maxRecDepth 100000 in
set_option maxHeartbeats 4000000 in
theorem q_277_191 (xs : List Int) (d : Nat) (v0 : Int) (v1 : Int) (v2 : Int) (v3 : Int) (v4 : Int) (v5 : Int) (v6 : Int) (v7 : Int) (v8 : Int) (v9 : Int) (v10 : Int) (h : aH) : ev xs d mm_277 191 [some (.inr (.inr v0)), some (.inl v1), some (.inl v2), some (.inl v3), some (.inl v4), some (.inl v5), some (.inl v6), some (.inl v7), some (.inl v8), some (.inl v9), some (.inl v10)] [] h =
  ev xs d mm_277 84 [some (.inr (.inr v0)), some (.inl v1), some (.inl v2), some (.inl v3), some (.inl v4), some (.inl v5), some (.inl v6), some (.inl (w32 (v7 + 1))), some (.inl v8), some (.inl v9), some (.inl v10)] [] h :=
  (aB gP gX xs stp_277 3 d mm_277 191 _ _ h).trans rfl

set_option maxRecDepth 100000 in
set_option maxHeartbeats 4000000 in
theorem q_277_218 (xs : List Int) (d : Nat) (v0 : Int) (v1 : Int) (v2 : Int) (v3 : Int) (v4 : Int) (v5 : Int) (v6 : Int) (v7 : Int) (u8 : Option aV) (u9 : Option aV) (u10 : Option aV) (s0 : Int) (h : aH) : ev xs d mm_277 218 [some (.inr (.inr v0)), some (.inl v1), some (.inl v2), some (.inl v3), some (.inl v4), some (.inl v5), some (.inl v6), some (.inl v7), u8, u9, u10] [.inl s0] h =
  some (some (.inl s0), h) :=
  (aB gP gX xs stp_277 2 d mm_277 218 _ _ h).trans rfl

def stp_278 : List Nat := [0, 46, 55]
set_option maxRecDepth 100000 in
set_option maxHeartbeats 4000000 in
theorem q_278_0 (xs : List Int) (d : Nat) (v0 : Int) (v1 : Int) (v2 : Int) (v3 : Int) (h : aH) : ev xs d mm_278 0 [some (.inr (.inr v0)), some (.inl v1), some (.inl v2), some (.inl v3), none] [] h =
  bif aok h.1 v0 12 then
    bif aok h.1 v0 12 then
      bif ain h.1 (h.2 v0.toNat 36) 101 (w32 ((w32 (8 * (h.2 v0.toNat 18))) + v1)) then
        bif aok h.1 v0 12 && true then
          bJ (cl xs d 240 [.inr (.inr v0), .inr (.inl (h.2 (h.2 v0.toNat 36).toNat (w32 ((w32 (8 * (h.2 v0.toNat 18))) + v1)).toNat)), .inl v3, .inl 7] h) (fun x2 h1 =>
          bif decide (v2 = 0) then
            bif aok h1.1 v0 12 then
              bif ain h1.1 (h1.2 v0.toNat 37) 101 (w32 ((w32 (8 * (h.2 v0.toNat 18))) + v1)) then
                ev xs d mm_278 46 [some (.inr (.inr v0)), some (.inl v1), some (.inl v2), some (.inl v3), some (.inl (w32 ((w32 (8 * (h.2 v0.toNat 18))) + v1)))] [.inr (.inl (h1.2 (h1.2 v0.toNat 37).toNat (w32 ((w32 (8 * (h.2 v0.toNat 18))) + v1)).toNat)), .inr (.inl x2)] h1
              else none
            else none
          else
            bif aok h1.1 v0 12 then
              bif ain h1.1 (h1.2 v0.toNat 38) 101 (w32 ((w32 (8 * (h.2 v0.toNat 18))) + v1)) then
                ev xs d mm_278 46 [some (.inr (.inr v0)), some (.inl v1), some (.inl v2), some (.inl v3), some (.inl (w32 ((w32 (8 * (h.2 v0.toNat 18))) + v1)))] [.inr (.inl (h1.2 (h1.2 v0.toNat 38).toNat (w32 ((w32 (8 * (h.2 v0.toNat 18))) + v1)).toNat)), .inr (.inl x2)] h1
              else none
            else none)
        else none
      else none
    else none
  else none :=
  (aB gP gX xs stp_278 23 d mm_278 0 _ _ h).trans rfl

set_option maxRecDepth 100000 in
set_option maxHeartbeats 4000000 in
theorem q_278_46 (xs : List Int) (d : Nat) (v0 : Int) (v1 : Int) (v2 : Int) (v3 : Int) (v4 : Int) (s0 : Int) (s1 : Int) (h : aH) : ev xs d mm_278 46 [some (.inr (.inr v0)), some (.inl v1), some (.inl v2), some (.inl v3), some (.inl v4)] [.inr (.inl s1), .inr (.inl s0)] h =
  bif decide (¬ (olcmp s0 s1) = 0) then
    ev xs d mm_278 55 [some (.inr (.inr v0)), some (.inl v1), some (.inl v2), some (.inl v3), some (.inl v4)] [.inl 0] h
  else
    ev xs d mm_278 55 [some (.inr (.inr v0)), some (.inl v1), some (.inl v2), some (.inl v3), some (.inl v4)] [.inl 1] h :=
  (aB gP gX xs stp_278 5 d mm_278 46 _ _ h).trans rfl

set_option maxRecDepth 100000 in
set_option maxHeartbeats 4000000 in
theorem q_278_55 (xs : List Int) (d : Nat) (v0 : Int) (v1 : Int) (v2 : Int) (v3 : Int) (v4 : Int) (s0 : Int) (h : aH) : ev xs d mm_278 55 [some (.inr (.inr v0)), some (.inl v1), some (.inl v2), some (.inl v3), some (.inl v4)] [.inl s0] h =
  bif decide (s0 = 0) || decide (s0 = 1) then some (some (.inl s0), h) else none :=
  (aB gP gX xs stp_278 2 d mm_278 55 _ _ h).trans rfl

def stp_279 : List Nat := [0, 3, 33, 46]
set_option maxRecDepth 100000 in
set_option maxHeartbeats 4000000 in
theorem q_279_0 (xs : List Int) (d : Nat) (v0 : Int) (v1 : Int) (v2 : Int) (v3 : Int) (h : aH) : ev xs d mm_279 0 [some (.inr (.inr v0)), some (.inl v1), some (.inl v2), some (.inl v3), none] [] h =
  ev xs d mm_279 3 [some (.inr (.inr v0)), some (.inl v1), some (.inl v2), some (.inl v3), some (.inl 0)] [] h :=
  (aB gP gX xs stp_279 3 d mm_279 0 _ _ h).trans rfl

set_option maxRecDepth 100000 in
set_option maxHeartbeats 4000000 in
theorem q_279_3 (xs : List Int) (d : Nat) (v0 : Int) (v1 : Int) (v2 : Int) (v3 : Int) (v4 : Int) (h : aH) : ev xs d mm_279 3 [some (.inr (.inr v0)), some (.inl v1), some (.inl v2), some (.inl v3), some (.inl v4)] [] h =
  bif decide (v1 ≤ v4) then
    some (some (.inl 1), h)
  else
    bif decide (v2 = 0) then
      ev xs d mm_279 33 [some (.inr (.inr v0)), some (.inl v1), some (.inl v2), some (.inl v3), some (.inl v4)] [] h
    else
      bif aok h.1 v0 12 then
        bif aok h.1 v0 12 then
          bif ain h.1 (h.2 v0.toNat 38) 101 (w32 ((w32 (8 * (h.2 v0.toNat 18))) + v4)) then
            bif decide ((olcmp (h.2 (h.2 v0.toNat 38).toNat (w32 ((w32 (8 * (h.2 v0.toNat 18))) + v4)).toNat) ((((0 : Fin 2) : Nat) : Nat) : Int)) = 0) then
              ev xs d mm_279 46 [some (.inr (.inr v0)), some (.inl v1), some (.inl v2), some (.inl v3), some (.inl v4)] [] h
            else
              ev xs d mm_279 33 [some (.inr (.inr v0)), some (.inl v1), some (.inl v2), some (.inl v3), some (.inl v4)] [] h
          else none
        else none
      else none :=
  (aB gP gX xs stp_279 18 d mm_279 3 _ _ h).trans rfl

set_option maxRecDepth 100000 in
set_option maxHeartbeats 4000000 in
theorem q_279_33 (xs : List Int) (d : Nat) (v0 : Int) (v1 : Int) (v2 : Int) (v3 : Int) (v4 : Int) (h : aH) : ev xs d mm_279 33 [some (.inr (.inr v0)), some (.inl v1), some (.inl v2), some (.inl v3), some (.inl v4)] [] h =
  bif aok h.1 v0 12 && true then
    bI (cl xs d 278 [.inr (.inr v0), .inl v4, .inl v2, .inl v3] h) (fun x2 h1 =>
    bif decide (¬ x2 = 0) then
      ev xs d mm_279 46 [some (.inr (.inr v0)), some (.inl v1), some (.inl v2), some (.inl v3), some (.inl v4)] [] h1
    else
      some (some (.inl 0), h1))
  else none :=
  (aB gP gX xs stp_279 9 d mm_279 33 _ _ h).trans rfl

set_option maxRecDepth 100000 in
set_option maxHeartbeats 4000000 in
theorem q_279_46 (xs : List Int) (d : Nat) (v0 : Int) (v1 : Int) (v2 : Int) (v3 : Int) (v4 : Int) (h : aH) : ev xs d mm_279 46 [some (.inr (.inr v0)), some (.inl v1), some (.inl v2), some (.inl v3), some (.inl v4)] [] h =
  ev xs d mm_279 3 [some (.inr (.inr v0)), some (.inl v1), some (.inl v2), some (.inl v3), some (.inl (w32 (v4 + 1)))] [] h :=
  (aB gP gX xs stp_279 3 d mm_279 46 _ _ h).trans rfl

def stp_280 : List Nat := [0]
set_option maxRecDepth 100000 in
set_option maxHeartbeats 4000000 in
theorem q_280_0 (xs : List Int) (d : Nat) (v0 : Int) (v1 : Int) (h : aH) : ev xs d mm_280 0 [some (.inr (.inr v0)), some (.inl v1)] [] h =
  bif aok h.1 v0 12 then
    bif aok h.1 v0 12 then
      bif ain h.1 (h.2 v0.toNat 35) 100 (h.2 v0.toNat 18) then
        bI (cl xs d 226 [.inl v1, .inl 0, .inl (h.2 (h.2 v0.toNat 35).toNat (h.2 v0.toNat 18).toNat)] h) (fun x2 h1 =>
          bif decide (x2 = 0) || decide (x2 = 1) then some (some (.inl x2), h1) else none)
      else none
    else none
  else none :=
  (aB gP gX xs stp_280 10 d mm_280 0 _ _ h).trans rfl

def stp_281 : List Nat := [0, 47, 73]
set_option maxRecDepth 100000 in
set_option maxHeartbeats 4000000 in
theorem q_281_0 (xs : List Int) (d : Nat) (v0 : Int) (v1 : Int) (v2 : Int) (h : aH) : ev xs d mm_281 0 [some (.inr (.inr v0)), some (.inl v1), some (.inl v2)] [] h =
  bif aok h.1 v0 12 then
    bif aok h.1 v0 12 then
      bif ain h.1 (h.2 v0.toNat 35) 100 (h.2 v0.toNat 18) then
        bI (cl xs d 226 [.inl v1, .inl 0, .inl (w32 ((h.2 (h.2 v0.toNat 35).toNat (h.2 v0.toNat 18).toNat) - 1))] h) (fun x2 h1 =>
          bif decide (¬ x2 = 0) then
            bif decide (v2 = 0) then
              ev xs d mm_281 47 [some (.inr (.inr v0)), some (.inl v1), some (.inl v2)] [] h1
            else
              bif aok h1.1 v0 12 then
                bif aok h1.1 v0 12 then
                  bif ain h1.1 (h1.2 v0.toNat 38) 101 (w32 ((w32 (8 * (h1.2 v0.toNat 18))) + v1)) then
                    bif decide (¬ (olcmp (h1.2 (h1.2 v0.toNat 38).toNat (w32 ((w32 (8 * (h1.2 v0.toNat 18))) + v1)).toNat) ((((0 : Fin 2) : Nat) : Nat) : Int)) = 0) then
                      ev xs d mm_281 47 [some (.inr (.inr v0)), some (.inl v1), some (.inl v2)] [] h1
                    else
                      some (some (.inl (-2)), h1)
                  else none
                else none
              else none
          else
            some (some (.inl (-1)), h1))
      else none
    else none
  else none :=
  (aB gP gX xs stp_281 28 d mm_281 0 _ _ h).trans rfl

set_option maxRecDepth 100000 in
set_option maxHeartbeats 4000000 in
theorem q_281_47 (xs : List Int) (d : Nat) (v0 : Int) (v1 : Int) (v2 : Int) (h : aH) : ev xs d mm_281 47 [some (.inr (.inr v0)), some (.inl v1), some (.inl v2)] [] h =
  bif aok h.1 v0 12 && true then
    bV (cl xs d 229 [.inr (.inr v0)] h) (fun h1 =>
    bif aok h1.1 v0 12 then
      bif ain h1.1 (h1.2 v0.toNat 64) 101 52 then
        bif aok h1.1 v0 12 && true then
          bI (cl xs d 278 [.inr (.inr v0), .inl v1, .inl v2, .inl (ol2i (h1.2 (h1.2 v0.toNat 64).toNat (52 : Int).toNat))] h1) (fun x3 h2 =>
          bif decide (x3 = 0) then
            ev xs d mm_281 73 [some (.inr (.inr v0)), some (.inl v1), some (.inl v2)] [.inl 0] h2
          else
            ev xs d mm_281 73 [some (.inr (.inr v0)), some (.inl v1), some (.inl v2)] [.inl 1] h2)
        else none
      else none
    else none)
  else none :=
  (aB gP gX xs stp_281 15 d mm_281 47 _ _ h).trans rfl

set_option maxRecDepth 100000 in
set_option maxHeartbeats 4000000 in
theorem q_281_73 (xs : List Int) (d : Nat) (v0 : Int) (v1 : Int) (v2 : Int) (s0 : Int) (h : aH) : ev xs d mm_281 73 [some (.inr (.inr v0)), some (.inl v1), some (.inl v2)] [.inl s0] h =
  some (some (.inl s0), h) :=
  (aB gP gX xs stp_281 2 d mm_281 73 _ _ h).trans rfl

def stp_282 : List Nat := [0, 7, 56]
set_option maxRecDepth 100000 in
set_option maxHeartbeats 4000000 in
theorem q_282_0 (xs : List Int) (d : Nat) (v0 : Int) (h : aH) : ev xs d mm_282 0 [some (.inr (.inr v0)), none] [] h =
  bif aok h.1 v0 12 then
    ev xs d mm_282 7 [some (.inr (.inr v0)), some (.inl 0)] [] (h.1, aup h.2 v0.toNat 74 0)
  else none :=
  (aB gP gX xs stp_282 6 d mm_282 0 _ _ h).trans rfl

set_option maxRecDepth 100000 in
set_option maxHeartbeats 4000000 in
theorem q_282_7 (xs : List Int) (d : Nat) (v0 : Int) (v1 : Int) (h : aH) : ev xs d mm_282 7 [some (.inr (.inr v0)), some (.inl v1)] [] h =
  bif aok h.1 v0 12 then
    bif aok h.1 v0 12 then
      bif ain h.1 (h.2 v0.toNat 23) 100 (h.2 v0.toNat 18) then
        bif decide ((h.2 (h.2 v0.toNat 23).toNat (h.2 v0.toNat 18).toNat) ≤ v1) then
          some (none, h)
        else
          bif aok h.1 v0 12 then
            bif ain h.1 (h.2 v0.toNat 64) 101 52 then
              bif decide (¬ (olcmp (oland (olshr (h.2 (h.2 v0.toNat 64).toNat (52 : Int).toNat) v1) ((((1 : Fin 2) : Nat) : Nat) : Int)) ((((1 : Fin 2) : Nat) : Nat) : Int)) = 0) then
                ev xs d mm_282 56 [some (.inr (.inr v0)), some (.inl v1)] [] h
              else
                bif aok h.1 v0 12 then
                  bif aok h.1 v0 12 then
                    bif ain h.1 (h.2 v0.toNat 75) 100 (h.2 v0.toNat 74) then
                      bif aok h.1 v0 12 then
                        bif aok h.1 v0 12 then
                          ev xs d mm_282 56 [some (.inr (.inr v0)), some (.inl v1)] [] (h.1, aup (aup h.2 (h.2 v0.toNat 75).toNat (h.2 v0.toNat 74).toNat v1) v0.toNat 74 (w32 (((aup h.2 (h.2 v0.toNat 75).toNat (h.2 v0.toNat 74).toNat v1) v0.toNat 74) + 1)))
                        else none
                      else none
                    else none
                  else none
                else none
            else none
          else none
      else none
    else none
  else none :=
  (aB gP gX xs stp_282 31 d mm_282 7 _ _ h).trans rfl

set_option maxRecDepth 100000 in
set_option maxHeartbeats 4000000 in
theorem q_282_56 (xs : List Int) (d : Nat) (v0 : Int) (v1 : Int) (h : aH) : ev xs d mm_282 56 [some (.inr (.inr v0)), some (.inl v1)] [] h =
  bif aok h.1 v0 12 then
    bif aok h.1 v0 12 then
      bif ain h.1 (h.2 v0.toNat 63) 101 (w32 (45 + v1)) then
        bif ain h.1 (h.2 v0.toNat 76) 100 (ol2i (h.2 (h.2 v0.toNat 63).toNat (w32 (45 + v1)).toNat)) then
          ev xs d mm_282 7 [some (.inr (.inr v0)), some (.inl (w32 (v1 + 1)))] [] (h.1, aup h.2 (h.2 v0.toNat 76).toNat (ol2i (h.2 (h.2 v0.toNat 63).toNat (w32 (45 + v1)).toNat)).toNat v1)
        else none
      else none
    else none
  else none :=
  (aB gP gX xs stp_282 14 d mm_282 56 _ _ h).trans rfl

def stp_283 : List Nat := [0, 7, 34, 47, 107]
set_option maxRecDepth 100000 in
set_option maxHeartbeats 4000000 in
theorem q_283_0 (xs : List Int) (d : Nat) (v0 : Int) (h : aH) : ev xs d mm_283 0 [some (.inr (.inr v0)), none, none, none, none, none] [] h =
  bif aok h.1 v0 12 then
    ev xs d mm_283 7 [some (.inr (.inr v0)), some (.inl (w32 ((h.2 v0.toNat 74) - 2))), none, none, none, none] [] h
  else none :=
  (aB gP gX xs stp_283 6 d mm_283 0 _ _ h).trans rfl

set_option maxRecDepth 100000 in
set_option maxHeartbeats 4000000 in
theorem q_283_7 (xs : List Int) (d : Nat) (v0 : Int) (v1 : Int) (u2 : Option aV) (u3 : Option aV) (u4 : Option aV) (u5 : Option aV) (h : aH) : ev xs d mm_283 7 [some (.inr (.inr v0)), some (.inl v1), u2, u3, u4, u5] [] h =
  bif decide (v1 < 0) then
    ev xs d mm_283 34 [some (.inr (.inr v0)), some (.inl v1), u2, u3, u4, u5] [] h
  else
    bif aok h.1 v0 12 then
      bif ain h.1 (h.2 v0.toNat 75) 100 v1 then
        bif aok h.1 v0 12 then
          bif ain h.1 (h.2 v0.toNat 75) 100 (w32 (v1 + 1)) then
            bif decide ((h.2 (h.2 v0.toNat 75).toNat v1.toNat) ≤ (h.2 (h.2 v0.toNat 75).toNat (w32 (v1 + 1)).toNat)) then
              ev xs d mm_283 34 [some (.inr (.inr v0)), some (.inl v1), u2, u3, u4, u5] [] h
            else
              ev xs d mm_283 7 [some (.inr (.inr v0)), some (.inl (w32 (v1 + (-1)))), u2, u3, u4, u5] [] h
          else none
        else none
      else none
    else none :=
  (aB gP gX xs stp_283 16 d mm_283 7 _ _ h).trans rfl

set_option maxRecDepth 100000 in
set_option maxHeartbeats 4000000 in
theorem q_283_34 (xs : List Int) (d : Nat) (v0 : Int) (v1 : Int) (u2 : Option aV) (u3 : Option aV) (u4 : Option aV) (u5 : Option aV) (h : aH) : ev xs d mm_283 34 [some (.inr (.inr v0)), some (.inl v1), u2, u3, u4, u5] [] h =
  bif decide (0 ≤ v1) then
    bif aok h.1 v0 12 then
      ev xs d mm_283 47 [some (.inr (.inr v0)), some (.inl v1), some (.inl (w32 ((h.2 v0.toNat 74) - 1))), u3, u4, u5] [] h
    else none
  else
    some (some (.inl 0), h) :=
  (aB gP gX xs stp_283 8 d mm_283 34 _ _ h).trans rfl

set_option maxRecDepth 100000 in
set_option maxHeartbeats 4000000 in
theorem q_283_47 (xs : List Int) (d : Nat) (v0 : Int) (v1 : Int) (v2 : Int) (u3 : Option aV) (u4 : Option aV) (u5 : Option aV) (h : aH) : ev xs d mm_283 47 [some (.inr (.inr v0)), some (.inl v1), some (.inl v2), u3, u4, u5] [] h =
  bif aok h.1 v0 12 then
    bif ain h.1 (h.2 v0.toNat 75) 100 v2 then
      bif aok h.1 v0 12 then
        bif ain h.1 (h.2 v0.toNat 75) 100 v1 then
          bif decide ((h.2 (h.2 v0.toNat 75).toNat v1.toNat) ≤ (h.2 (h.2 v0.toNat 75).toNat v2.toNat)) then
            bif aok h.1 v0 12 then
              bif ain h.1 (h.2 v0.toNat 75) 100 v1 then
                bif aok h.1 v0 12 then
                  bif aok h.1 v0 12 then
                    bif ain h.1 (h.2 v0.toNat 75) 100 v2 then
                      bif ain h.1 (h.2 v0.toNat 75) 100 v1 then
                        bif aok h.1 v0 12 then
                          bif ain h.1 ((aup h.2 (h.2 v0.toNat 75).toNat v1.toNat (h.2 (h.2 v0.toNat 75).toNat v2.toNat)) v0.toNat 75) 100 v2 then
                            bif aok h.1 v0 12 then
                              ev xs d mm_283 107 [some (.inr (.inr v0)), some (.inl v1), some (.inl v2), some (.inl (h.2 (h.2 v0.toNat 75).toNat v1.toNat)), some (.inl (w32 (v1 + 1))), some (.inl (w32 (((aup (aup h.2 (h.2 v0.toNat 75).toNat v1.toNat (h.2 (h.2 v0.toNat 75).toNat v2.toNat)) ((aup h.2 (h.2 v0.toNat 75).toNat v1.toNat (h.2 (h.2 v0.toNat 75).toNat v2.toNat)) v0.toNat 75).toNat v2.toNat (h.2 (h.2 v0.toNat 75).toNat v1.toNat)) v0.toNat 74) - 1)))] [] (h.1, aup (aup h.2 (h.2 v0.toNat 75).toNat v1.toNat (h.2 (h.2 v0.toNat 75).toNat v2.toNat)) ((aup h.2 (h.2 v0.toNat 75).toNat v1.toNat (h.2 (h.2 v0.toNat 75).toNat v2.toNat)) v0.toNat 75).toNat v2.toNat (h.2 (h.2 v0.toNat 75).toNat v1.toNat))
                            else none
                          else none
                        else none
                      else none
                    else none
                  else none
                else none
              else none
            else none
          else
            ev xs d mm_283 47 [some (.inr (.inr v0)), some (.inl v1), some (.inl (w32 (v2 + (-1)))), u3, u4, u5] [] h
        else none
      else none
    else none
  else none :=
  (aB gP gX xs stp_283 37 d mm_283 47 _ _ h).trans rfl

set_option maxRecDepth 100000 in
set_option maxHeartbeats 4000000 in
theorem q_283_107 (xs : List Int) (d : Nat) (v0 : Int) (v1 : Int) (v2 : Int) (v3 : Int) (v4 : Int) (v5 : Int) (h : aH) : ev xs d mm_283 107 [some (.inr (.inr v0)), some (.inl v1), some (.inl v2), some (.inl v3), some (.inl v4), some (.inl v5)] [] h =
  bif decide (v5 ≤ v4) then
    some (some (.inl 1), h)
  else
    bif aok h.1 v0 12 then
      bif ain h.1 (h.2 v0.toNat 75) 100 v4 then
        bif aok h.1 v0 12 then
          bif aok h.1 v0 12 then
            bif ain h.1 (h.2 v0.toNat 75) 100 v5 then
              bif ain h.1 (h.2 v0.toNat 75) 100 v4 then
                bif aok h.1 v0 12 then
                  bif ain h.1 ((aup h.2 (h.2 v0.toNat 75).toNat v4.toNat (h.2 (h.2 v0.toNat 75).toNat v5.toNat)) v0.toNat 75) 100 v5 then
                    ev xs d mm_283 107 [some (.inr (.inr v0)), some (.inl v1), some (.inl v2), some (.inl (h.2 (h.2 v0.toNat 75).toNat v4.toNat)), some (.inl (w32 (v4 + 1))), some (.inl (w32 (v5 + (-1))))] [] (h.1, aup (aup h.2 (h.2 v0.toNat 75).toNat v4.toNat (h.2 (h.2 v0.toNat 75).toNat v5.toNat)) ((aup h.2 (h.2 v0.toNat 75).toNat v4.toNat (h.2 (h.2 v0.toNat 75).toNat v5.toNat)) v0.toNat 75).toNat v5.toNat (h.2 (h.2 v0.toNat 75).toNat v4.toNat))
                  else none
                else none
              else none
            else none
          else none
        else none
      else none
    else none :=
  (aB gP gX xs stp_283 25 d mm_283 107 _ _ h).trans rfl

def stp_284 : List Nat := [0, 2, 25]
set_option maxRecDepth 100000 in
set_option maxHeartbeats 4000000 in
theorem q_284_0 (xs : List Int) (d : Nat) (v0 : Int) (v1 : Int) (h : aH) : ev xs d mm_284 0 [some (.inr (.inr v0)), some (.inl v1), none, none, none, none] [] h =
  ev xs d mm_284 2 [some (.inr (.inr v0)), some (.inl v1), some (.inl 0), none, none, none] [] h :=
  (aB gP gX xs stp_284 3 d mm_284 0 _ _ h).trans rfl

set_option maxRecDepth 100000 in
set_option maxHeartbeats 4000000 in
theorem q_284_2 (xs : List Int) (d : Nat) (v0 : Int) (v1 : Int) (v2 : Int) (u3 : Option aV) (u4 : Option aV) (u5 : Option aV) (h : aH) : ev xs d mm_284 2 [some (.inr (.inr v0)), some (.inl v1), some (.inl v2), u3, u4, u5] [] h =
  bif decide (v1 ≤ v2) then
    some (some (.inl 1), h)
  else
    bif aok h.1 v0 12 then
      bif aok h.1 v0 12 then
        bif ain h.1 (h.2 v0.toNat 36) 101 (w32 ((w32 (8 * (h.2 v0.toNat 18))) + v2)) then
          ev xs d mm_284 25 [some (.inr (.inr v0)), some (.inl v1), some (.inl v2), some (.inr (.inl (h.2 (h.2 v0.toNat 36).toNat (w32 ((w32 (8 * (h.2 v0.toNat 18))) + v2)).toNat))), none, some (.inl 0)] [] h
        else none
      else none
    else none :=
  (aB gP gX xs stp_284 16 d mm_284 2 _ _ h).trans rfl

set_option maxRecDepth 100000 in
set_option maxHeartbeats 4000000 in
theorem q_284_25 (xs : List Int) (d : Nat) (v0 : Int) (v1 : Int) (v2 : Int) (v3 : Int) (u4 : Option aV) (v5 : Int) (h : aH) : ev xs d mm_284 25 [some (.inr (.inr v0)), some (.inl v1), some (.inl v2), some (.inr (.inl v3)), u4, some (.inl v5)] [] h =
  bif aok h.1 v0 12 then
    bif decide ((h.2 v0.toNat 74) ≤ v5) then
      bif aok h.1 v0 12 then
        bif aok h.1 v0 12 then
          bif ain h.1 (h.2 v0.toNat 37) 101 (w32 ((w32 (8 * (h.2 v0.toNat 18))) + v2)) then
            bif decide ((olcmp v3 (h.2 (h.2 v0.toNat 37).toNat (w32 ((w32 (8 * (h.2 v0.toNat 18))) + v2)).toNat)) = 0) then
              ev xs d mm_284 2 [some (.inr (.inr v0)), some (.inl v1), some (.inl (w32 (v2 + 1))), some (.inr (.inl v3)), u4, some (.inl v5)] [] h
            else
              some (some (.inl 0), h)
          else none
        else none
      else none
    else
      bif aok h.1 v0 12 then
        bif ain h.1 (h.2 v0.toNat 75) 100 v5 then
          bif aok h.1 v0 12 && true then
            bJ (cl xs d 239 [.inr (.inr v0), .inl (h.2 (h.2 v0.toNat 75).toNat v5.toNat), .inr (.inl v3)] h) (fun x2 h1 =>
            ev xs d mm_284 25 [some (.inr (.inr v0)), some (.inl v1), some (.inl v2), some (.inr (.inl x2)), none, some (.inl (w32 (v5 + 1)))] [] h1)
          else none
        else none
      else none
  else none :=
  (aB gP gX xs stp_284 19 d mm_284 25 _ _ h).trans rfl

def stp_285 : List Nat := [0, 21, 42, 68, 83, 98, 137, 164, 169]
set_option maxRecDepth 100000 in
set_option maxHeartbeats 4000000 in
theorem q_285_0 (xs : List Int) (d : Nat) (v0 : Int) (v1 : Int) (h : aH) : ev xs d mm_285 0 [some (.inr (.inr v0)), some (.inl v1), none, none, none, none] [] h =
  bif aok h.1 v0 12 && true then
    bV (cl xs d 229 [.inr (.inr v0)] h) (fun h1 =>
    bif aok h1.1 v0 12 && true then
      bV (cl xs d 282 [.inr (.inr v0)] h1) (fun h2 =>
      bif aok h2.1 v0 12 then
        bif aok h2.1 v0 12 then
          ev xs d mm_285 21 [some (.inr (.inr v0)), some (.inl v1), some (.inl 1), none, none, none] [] (h2.1, aup (aup h2.2 v0.toNat 77 0) v0.toNat 79 (-2))
        else none
      else none)
    else none)
  else none :=
  (aB gP gX xs stp_285 13 d mm_285 0 _ _ h).trans rfl

set_option maxRecDepth 100000 in
set_option maxHeartbeats 4000000 in
theorem q_285_21 (xs : List Int) (d : Nat) (v0 : Int) (v1 : Int) (v2 : Int) (u3 : Option aV) (u4 : Option aV) (u5 : Option aV) (h : aH) : ev xs d mm_285 21 [some (.inr (.inr v0)), some (.inl v1), some (.inl v2), u3, u4, u5] [] h =
  bif decide (v2 = 0) then
    some (none, h)
  else
    bif aok h.1 v0 12 && true then
      bI (cl xs d 284 [.inr (.inr v0), .inl v1] h) (fun x2 h1 =>
      bif decide (x2 = 0) then
        ev xs d mm_285 169 [some (.inr (.inr v0)), some (.inl v1), some (.inl v2), u3, u4, u5] [] h1
      else
        bif aok h1.1 v0 12 then
          bif decide (¬ (h1.2 v0.toNat 77) = 0) then
            ev xs d mm_285 68 [some (.inr (.inr v0)), some (.inl v1), some (.inl v2), u3, u4, u5] [] h1
          else
            ev xs d mm_285 42 [some (.inr (.inr v0)), some (.inl v1), some (.inl v2), some (.inl 0), u4, u5] [] h1
        else none)
    else none :=
  (aB gP gX xs stp_285 12 d mm_285 21 _ _ h).trans rfl

set_option maxRecDepth 100000 in
set_option maxHeartbeats 4000000 in
theorem q_285_42 (xs : List Int) (d : Nat) (v0 : Int) (v1 : Int) (v2 : Int) (v3 : Int) (u4 : Option aV) (u5 : Option aV) (h : aH) : ev xs d mm_285 42 [some (.inr (.inr v0)), some (.inl v1), some (.inl v2), some (.inl v3), u4, u5] [] h =
  bif aok h.1 v0 12 then
    bif decide ((h.2 v0.toNat 74) ≤ v3) then
      ev xs d mm_285 68 [some (.inr (.inr v0)), some (.inl v1), some (.inl v2), some (.inl v3), u4, u5] [] h
    else
      bif aok h.1 v0 12 then
        bif aok h.1 v0 12 then
          bif ain h.1 (h.2 v0.toNat 75) 100 v3 then
            bif ain h.1 (h.2 v0.toNat 78) 100 v3 then
              ev xs d mm_285 42 [some (.inr (.inr v0)), some (.inl v1), some (.inl v2), some (.inl (w32 (v3 + 1))), u4, u5] [] (h.1, aup h.2 (h.2 v0.toNat 78).toNat v3.toNat (h.2 (h.2 v0.toNat 75).toNat v3.toNat))
            else none
          else none
        else none
      else none
  else none :=
  (aB gP gX xs stp_285 15 d mm_285 42 _ _ h).trans rfl

set_option maxRecDepth 100000 in
set_option maxHeartbeats 4000000 in
theorem q_285_68 (xs : List Int) (d : Nat) (v0 : Int) (v1 : Int) (v2 : Int) (u3 : Option aV) (u4 : Option aV) (u5 : Option aV) (h : aH) : ev xs d mm_285 68 [some (.inr (.inr v0)), some (.inl v1), some (.inl v2), u3, u4, u5] [] h =
  bif aok h.1 v0 12 then
    bif aok h.1 v0 12 then
      ev xs d mm_285 83 [some (.inr (.inr v0)), some (.inl v1), some (.inl v2), some (.inl 0), some (.inl 0), u5] [] (h.1, aup h.2 v0.toNat 77 (w32 ((h.2 v0.toNat 77) + 1)))
    else none
  else none :=
  (aB gP gX xs stp_285 11 d mm_285 68 _ _ h).trans rfl

set_option maxRecDepth 100000 in
set_option maxHeartbeats 4000000 in
theorem q_285_83 (xs : List Int) (d : Nat) (v0 : Int) (v1 : Int) (v2 : Int) (v3 : Int) (v4 : Int) (u5 : Option aV) (h : aH) : ev xs d mm_285 83 [some (.inr (.inr v0)), some (.inl v1), some (.inl v2), some (.inl v3), some (.inl v4), u5] [] h =
  bif aok h.1 v0 12 then
    bif decide ((h.2 v0.toNat 74) ≤ v4) then
      bif aok h.1 v0 12 then
        bif decide ((h.2 v0.toNat 79) < 0) then
          ev xs d mm_285 164 [some (.inr (.inr v0)), some (.inl v1), some (.inl v2), some (.inl v3), some (.inl v4), u5] [] h
        else
          bif aok h.1 v0 12 then
            bif decide ((h.2 v0.toNat 79) ≤ v3) then
              ev xs d mm_285 169 [some (.inr (.inr v0)), some (.inl v1), some (.inl v2), some (.inl v3), some (.inl v4), u5] [] h
            else
              ev xs d mm_285 164 [some (.inr (.inr v0)), some (.inl v1), some (.inl v2), some (.inl v3), some (.inl v4), u5] [] h
          else none
      else none
    else
      ev xs d mm_285 98 [some (.inr (.inr v0)), some (.inl v1), some (.inl v2), some (.inl v3), some (.inl v4), some (.inl (w32 (v4 + 1)))] [] h
  else none :=
  (aB gP gX xs stp_285 12 d mm_285 83 _ _ h).trans rfl

set_option maxRecDepth 100000 in
set_option maxHeartbeats 4000000 in
theorem q_285_98 (xs : List Int) (d : Nat) (v0 : Int) (v1 : Int) (v2 : Int) (v3 : Int) (v4 : Int) (v5 : Int) (h : aH) : ev xs d mm_285 98 [some (.inr (.inr v0)), some (.inl v1), some (.inl v2), some (.inl v3), some (.inl v4), some (.inl v5)] [] h =
  bif aok h.1 v0 12 then
    bif decide ((h.2 v0.toNat 74) ≤ v5) then
      ev xs d mm_285 83 [some (.inr (.inr v0)), some (.inl v1), some (.inl v2), some (.inl v3), some (.inl (w32 (v4 + 1))), some (.inl v5)] [] h
    else
      bif aok h.1 v0 12 then
        bif aok h.1 v0 12 then
          bif ain h.1 (h.2 v0.toNat 75) 100 v4 then
            bif ain h.1 (h.2 v0.toNat 76) 100 (h.2 (h.2 v0.toNat 75).toNat v4.toNat) then
              bif aok h.1 v0 12 then
                bif aok h.1 v0 12 then
                  bif ain h.1 (h.2 v0.toNat 75) 100 v5 then
                    bif ain h.1 (h.2 v0.toNat 76) 100 (h.2 (h.2 v0.toNat 75).toNat v5.toNat) then
                      bif decide ((h.2 (h.2 v0.toNat 76).toNat (h.2 (h.2 v0.toNat 75).toNat v4.toNat).toNat) ≤ (h.2 (h.2 v0.toNat 76).toNat (h.2 (h.2 v0.toNat 75).toNat v5.toNat).toNat)) then
                        ev xs d mm_285 137 [some (.inr (.inr v0)), some (.inl v1), some (.inl v2), some (.inl v3), some (.inl v4), some (.inl v5)] [] h
                      else
                        ev xs d mm_285 137 [some (.inr (.inr v0)), some (.inl v1), some (.inl v2), some (.inl (w32 (v3 + 1))), some (.inl v4), some (.inl v5)] [] h
                    else none
                  else none
                else none
              else none
            else none
          else none
        else none
      else none
  else none :=
  (aB gP gX xs stp_285 21 d mm_285 98 _ _ h).trans rfl

set_option maxRecDepth 100000 in
set_option maxHeartbeats 4000000 in
theorem q_285_137 (xs : List Int) (d : Nat) (v0 : Int) (v1 : Int) (v2 : Int) (v3 : Int) (v4 : Int) (v5 : Int) (h : aH) : ev xs d mm_285 137 [some (.inr (.inr v0)), some (.inl v1), some (.inl v2), some (.inl v3), some (.inl v4), some (.inl v5)] [] h =
  ev xs d mm_285 98 [some (.inr (.inr v0)), some (.inl v1), some (.inl v2), some (.inl v3), some (.inl v4), some (.inl (w32 (v5 + 1)))] [] h :=
  (aB gP gX xs stp_285 3 d mm_285 137 _ _ h).trans rfl

set_option maxRecDepth 100000 in
set_option maxHeartbeats 4000000 in
theorem q_285_164 (xs : List Int) (d : Nat) (v0 : Int) (v1 : Int) (v2 : Int) (v3 : Int) (v4 : Int) (u5 : Option aV) (h : aH) : ev xs d mm_285 164 [some (.inr (.inr v0)), some (.inl v1), some (.inl v2), some (.inl v3), some (.inl v4), u5] [] h =
  bif aok h.1 v0 12 then
    ev xs d mm_285 169 [some (.inr (.inr v0)), some (.inl v1), some (.inl v2), some (.inl v3), some (.inl v4), u5] [] (h.1, aup h.2 v0.toNat 79 v3)
  else none :=
  (aB gP gX xs stp_285 4 d mm_285 164 _ _ h).trans rfl

set_option maxRecDepth 100000 in
set_option maxHeartbeats 4000000 in
theorem q_285_169 (xs : List Int) (d : Nat) (v0 : Int) (v1 : Int) (v2 : Int) (u3 : Option aV) (u4 : Option aV) (u5 : Option aV) (h : aH) : ev xs d mm_285 169 [some (.inr (.inr v0)), some (.inl v1), some (.inl v2), u3, u4, u5] [] h =
  bif aok h.1 v0 12 && true then
    bI (cl xs d 283 [.inr (.inr v0)] h) (fun x2 h1 =>
    ev xs d mm_285 21 [some (.inr (.inr v0)), some (.inl v1), some (.inl x2), u3, u4, u5] [] h1)
  else none :=
  (aB gP gX xs stp_285 5 d mm_285 169 _ _ h).trans rfl

def stp_286 : List Nat := [0]
set_option maxRecDepth 100000 in
set_option maxHeartbeats 4000000 in
theorem q_286_0 (xs : List Int) (d : Nat) (v0 : Int) (v1 : Int) (h : aH) : ev xs d mm_286 0 [some (.inr (.inr v0)), some (.inl v1)] [] h =
  bif aok h.1 v0 12 && true then
    bI (cl xs d 280 [.inr (.inr v0), .inl v1] h) (fun x2 h1 =>
    bif decide (¬ x2 = 0) then
      bif aok h1.1 v0 12 && true then
        bV (cl xs d 285 [.inr (.inr v0), .inl v1] h1) (fun h3 =>
        bif aok h3.1 v0 12 then
          some (some (.inl (h3.2 v0.toNat 77)), h3)
        else none)
      else none
    else
      some (some (.inl (-1)), h1))
  else none :=
  (aB gP gX xs stp_286 11 d mm_286 0 _ _ h).trans rfl

def stp_287 : List Nat := [0, 12, 49]
set_option maxRecDepth 100000 in
set_option maxHeartbeats 4000000 in
theorem q_287_0 (xs : List Int) (d : Nat) (v0 : Int) (v1 : Int) (v2 : Int) (h : aH) : ev xs d mm_287 0 [some (.inr (.inr v0)), some (.inl v1), some (.inl v2)] [] h =
  bif aok h.1 v0 12 && true then
    bI (cl xs d 280 [.inr (.inr v0), .inl v1] h) (fun x2 h1 =>
    bif decide (x2 = 0) then
      ev xs d mm_287 12 [some (.inr (.inr v0)), some (.inl v1), some (.inl v2)] [] h1
    else
      bif decide (0 ≤ v2) then
        bif aok h1.1 v0 12 && true then
          bV (cl xs d 285 [.inr (.inr v0), .inl v1] h1) (fun h3 =>
          bif aok h3.1 v0 12 then
            bif decide (¬ (h3.2 v0.toNat 77) = 0) then
              bif aok h3.1 v0 12 then
                bif decide ((h3.2 v0.toNat 74) ≤ v2) then
                  ev xs d mm_287 49 [some (.inr (.inr v0)), some (.inl v1), some (.inl v2)] [.inl (-1)] h3
                else
                  bif aok h3.1 v0 12 then
                    bif ain h3.1 (h3.2 v0.toNat 78) 100 v2 then
                      ev xs d mm_287 49 [some (.inr (.inr v0)), some (.inl v1), some (.inl v2)] [.inl (h3.2 (h3.2 v0.toNat 78).toNat v2.toNat)] h3
                    else none
                  else none
              else none
            else
              ev xs d mm_287 49 [some (.inr (.inr v0)), some (.inl v1), some (.inl v2)] [.inl (-2)] h3
          else none)
        else none
      else
        ev xs d mm_287 12 [some (.inr (.inr v0)), some (.inl v1), some (.inl v2)] [] h1)
  else none :=
  (aB gP gX xs stp_287 22 d mm_287 0 _ _ h).trans rfl

set_option maxRecDepth 100000 in
set_option maxHeartbeats 4000000 in
theorem q_287_12 (xs : List Int) (d : Nat) (v0 : Int) (v1 : Int) (v2 : Int) (h : aH) : ev xs d mm_287 12 [some (.inr (.inr v0)), some (.inl v1), some (.inl v2)] [] h =
  some (some (.inl (-1)), h) :=
  (aB gP gX xs stp_287 3 d mm_287 12 _ _ h).trans rfl

set_option maxRecDepth 100000 in
set_option maxHeartbeats 4000000 in
theorem q_287_49 (xs : List Int) (d : Nat) (v0 : Int) (v1 : Int) (v2 : Int) (s0 : Int) (h : aH) : ev xs d mm_287 49 [some (.inr (.inr v0)), some (.inl v1), some (.inl v2)] [.inl s0] h =
  some (some (.inl s0), h) :=
  (aB gP gX xs stp_287 2 d mm_287 49 _ _ h).trans rfl

def stp_288 : List Nat := [0]
set_option maxRecDepth 100000 in
set_option maxHeartbeats 4000000 in
theorem q_288_0 (xs : List Int) (d : Nat) (v0 : Int) (v1 : Int) (h : aH) : ev xs d mm_288 0 [some (.inr (.inr v0)), some (.inl v1)] [] h =
  bif aok h.1 v0 12 && true then
    bI (cl xs d 280 [.inr (.inr v0), .inl v1] h) (fun x2 h1 =>
    bif decide (¬ x2 = 0) then
      bif aok h1.1 v0 12 && true then
        bV (cl xs d 285 [.inr (.inr v0), .inl v1] h1) (fun h3 =>
        bif aok h3.1 v0 12 then
          some (some (.inl (h3.2 v0.toNat 79)), h3)
        else none)
      else none
    else
      some (some (.inl (-1)), h1))
  else none :=
  (aB gP gX xs stp_288 11 d mm_288 0 _ _ h).trans rfl

def stp_289 : List Nat := [0, 17, 33, 72, 75, 92]
set_option maxRecDepth 100000 in
set_option maxHeartbeats 4000000 in
theorem q_289_0 (xs : List Int) (d : Nat) (v0 : Int) (v1 : Int) (v2 : Int) (v3 : Int) (h : aH) : ev xs d mm_289 0 [some (.inr (.inr v0)), some (.inl v1), some (.inl v2), some (.inl v3), none, none, none] [] h =
  bif aok h.1 v0 12 && true then
    bI (cl xs d 280 [.inr (.inr v0), .inl v1] h) (fun x2 h1 =>
    bif decide (x2 = 0) then
      ev xs d mm_289 17 [some (.inr (.inr v0)), some (.inl v1), some (.inl v2), some (.inl v3), none, none, none] [] h1
    else
      bI (cl xs d 226 [.inl v3, .inl 0, .inl 1] h1) (fun x4 h3 =>
        bif decide (¬ x4 = 0) then
          bif aok h3.1 v0 12 && true then
            bV (cl xs d 229 [.inr (.inr v0)] h3) (fun h5 =>
            ev xs d mm_289 33 [some (.inr (.inr v0)), some (.inl v1), some (.inl v2), some (.inl v3), some (.inl 0), some (.inl (-2)), some (.inl 0)] [] h5)
          else none
        else
          ev xs d mm_289 17 [some (.inr (.inr v0)), some (.inl v1), some (.inl v2), some (.inl v3), none, none, none] [] h3))
  else none :=
  (aB gP gX xs stp_289 18 d mm_289 0 _ _ h).trans rfl

set_option maxRecDepth 100000 in
set_option maxHeartbeats 4000000 in
theorem q_289_17 (xs : List Int) (d : Nat) (v0 : Int) (v1 : Int) (v2 : Int) (v3 : Int) (u4 : Option aV) (u5 : Option aV) (u6 : Option aV) (h : aH) : ev xs d mm_289 17 [some (.inr (.inr v0)), some (.inl v1), some (.inl v2), some (.inl v3), u4, u5, u6] [] h =
  some (some (.inl (-1)), h) :=
  (aB gP gX xs stp_289 3 d mm_289 17 _ _ h).trans rfl

set_option maxRecDepth 100000 in
set_option maxHeartbeats 4000000 in
theorem q_289_33 (xs : List Int) (d : Nat) (v0 : Int) (v1 : Int) (v2 : Int) (v3 : Int) (v4 : Int) (v5 : Int) (v6 : Int) (h : aH) : ev xs d mm_289 33 [some (.inr (.inr v0)), some (.inl v1), some (.inl v2), some (.inl v3), some (.inl v4), some (.inl v5), some (.inl v6)] [] h =
  bif aok h.1 v0 12 then
    bif aok h.1 v0 12 then
      bif ain h.1 (h.2 v0.toNat 23) 100 (h.2 v0.toNat 18) then
        bif decide ((oshl 1 (h.2 (h.2 v0.toNat 23).toNat (h.2 v0.toNat 18).toNat)) ≤ v6) then
          bif decide (¬ v3 = 0) then
            ev xs d mm_289 92 [some (.inr (.inr v0)), some (.inl v1), some (.inl v2), some (.inl v3), some (.inl v4), some (.inl v5), some (.inl v6)] [.inl v5] h
          else
            ev xs d mm_289 92 [some (.inr (.inr v0)), some (.inl v1), some (.inl v2), some (.inl v3), some (.inl v4), some (.inl v5), some (.inl v6)] [.inl v4] h
        else
          bif aok h.1 v0 12 && true then
            bI (cl xs d 279 [.inr (.inr v0), .inl v1, .inl v2, .inl v6] h) (fun x2 h1 =>
            bif decide (¬ x2 = 0) then
              bif decide (¬ v4 = 0) then
                ev xs d mm_289 72 [some (.inr (.inr v0)), some (.inl v1), some (.inl v2), some (.inl v3), some (.inl v4), some (.inl v5), some (.inl v6)] [] h1
              else
                ev xs d mm_289 72 [some (.inr (.inr v0)), some (.inl v1), some (.inl v2), some (.inl v3), some (.inl v4), some (.inl v6), some (.inl v6)] [] h1
            else
              ev xs d mm_289 75 [some (.inr (.inr v0)), some (.inl v1), some (.inl v2), some (.inl v3), some (.inl v4), some (.inl v5), some (.inl v6)] [] h1)
          else none
      else none
    else none
  else none :=
  (aB gP gX xs stp_289 20 d mm_289 33 _ _ h).trans rfl

set_option maxRecDepth 100000 in
set_option maxHeartbeats 4000000 in
theorem q_289_72 (xs : List Int) (d : Nat) (v0 : Int) (v1 : Int) (v2 : Int) (v3 : Int) (v4 : Int) (v5 : Int) (v6 : Int) (h : aH) : ev xs d mm_289 72 [some (.inr (.inr v0)), some (.inl v1), some (.inl v2), some (.inl v3), some (.inl v4), some (.inl v5), some (.inl v6)] [] h =
  ev xs d mm_289 75 [some (.inr (.inr v0)), some (.inl v1), some (.inl v2), some (.inl v3), some (.inl (w32 (v4 + 1))), some (.inl v5), some (.inl v6)] [] h :=
  (aB gP gX xs stp_289 2 d mm_289 72 _ _ h).trans rfl

set_option maxRecDepth 100000 in
set_option maxHeartbeats 4000000 in
theorem q_289_75 (xs : List Int) (d : Nat) (v0 : Int) (v1 : Int) (v2 : Int) (v3 : Int) (v4 : Int) (v5 : Int) (v6 : Int) (h : aH) : ev xs d mm_289 75 [some (.inr (.inr v0)), some (.inl v1), some (.inl v2), some (.inl v3), some (.inl v4), some (.inl v5), some (.inl v6)] [] h =
  ev xs d mm_289 33 [some (.inr (.inr v0)), some (.inl v1), some (.inl v2), some (.inl v3), some (.inl v4), some (.inl v5), some (.inl (w32 (v6 + 1)))] [] h :=
  (aB gP gX xs stp_289 3 d mm_289 75 _ _ h).trans rfl

set_option maxRecDepth 100000 in
set_option maxHeartbeats 4000000 in
theorem q_289_92 (xs : List Int) (d : Nat) (v0 : Int) (v1 : Int) (v2 : Int) (v3 : Int) (v4 : Int) (v5 : Int) (v6 : Int) (s0 : Int) (h : aH) : ev xs d mm_289 92 [some (.inr (.inr v0)), some (.inl v1), some (.inl v2), some (.inl v3), some (.inl v4), some (.inl v5), some (.inl v6)] [.inl s0] h =
  some (some (.inl s0), h) :=
  (aB gP gX xs stp_289 2 d mm_289 92 _ _ h).trans rfl

def stp_290 : List Nat := [0, 4, 33]
set_option maxRecDepth 100000 in
set_option maxHeartbeats 4000000 in
theorem q_290_0 (xs : List Int) (d : Nat) (v0 : Int) (v1 : Int) (h : aH) : ev xs d mm_290 0 [some (.inr (.inr v0)), some (.inl v1), none, none] [] h =
  ev xs d mm_290 4 [some (.inr (.inr v0)), some (.inl v1), some (.inl 0), some (.inl 0)] [] h :=
  (aB gP gX xs stp_290 5 d mm_290 0 _ _ h).trans rfl

set_option maxRecDepth 100000 in
set_option maxHeartbeats 4000000 in
theorem q_290_4 (xs : List Int) (d : Nat) (v0 : Int) (v1 : Int) (v2 : Int) (v3 : Int) (h : aH) : ev xs d mm_290 4 [some (.inr (.inr v0)), some (.inl v1), some (.inl v2), some (.inl v3)] [] h =
  bif aok h.1 v0 12 then
    bif aok h.1 v0 12 then
      bif ain h.1 (h.2 v0.toNat 35) 100 (h.2 v0.toNat 18) then
        bif decide ((h.2 (h.2 v0.toNat 35).toNat (h.2 v0.toNat 18).toNat) ≤ v3) then
          some (some (.inl v2), h)
        else
          bif aok h.1 v0 12 && true then
            bI (cl xs d 278 [.inr (.inr v0), .inl v3, .inl 0, .inl v1] h) (fun x2 h1 =>
            bif decide (¬ x2 = 0) then
              ev xs d mm_290 33 [some (.inr (.inr v0)), some (.inl v1), some (.inl v2), some (.inl v3)] [] h1
            else
              ev xs d mm_290 33 [some (.inr (.inr v0)), some (.inl v1), some (.inl (oor v2 (oshl 1 v3))), some (.inl v3)] [] h1)
          else none
      else none
    else none
  else none :=
  (aB gP gX xs stp_290 20 d mm_290 4 _ _ h).trans rfl

set_option maxRecDepth 100000 in
set_option maxHeartbeats 4000000 in
theorem q_290_33 (xs : List Int) (d : Nat) (v0 : Int) (v1 : Int) (v2 : Int) (v3 : Int) (h : aH) : ev xs d mm_290 33 [some (.inr (.inr v0)), some (.inl v1), some (.inl v2), some (.inl v3)] [] h =
  ev xs d mm_290 4 [some (.inr (.inr v0)), some (.inl v1), some (.inl v2), some (.inl (w32 (v3 + 1)))] [] h :=
  (aB gP gX xs stp_290 3 d mm_290 33 _ _ h).trans rfl

def stp_291 : List Nat := [0, 16, 63]
set_option maxRecDepth 100000 in
set_option maxHeartbeats 4000000 in
theorem q_291_0 (xs : List Int) (d : Nat) (v0 : Int) (v1 : Int) (h : aH) : ev xs d mm_291 0 [some (.inr (.inr v0)), some (.inl v1), none, none, none] [] h =
  bI (cl xs d 235 [.inl v1] h) (fun x2 h1 =>
    bif aok h1.1 v0 12 && true then
      bI (cl xs d 290 [.inr (.inr v0), .inl v1] h1) (fun x4 h3 =>
      ev xs d mm_291 16 [some (.inr (.inr v0)), some (.inl v1), some (.inl (w32 (3 * x2))), some (.inl x4), some (.inl 0)] [] h3)
    else none) :=
  (aB gP gX xs stp_291 12 d mm_291 0 _ _ h).trans rfl

set_option maxRecDepth 100000 in
set_option maxHeartbeats 4000000 in
theorem q_291_16 (xs : List Int) (d : Nat) (v0 : Int) (v1 : Int) (v2 : Int) (v3 : Int) (v4 : Int) (h : aH) : ev xs d mm_291 16 [some (.inr (.inr v0)), some (.inl v1), some (.inl v2), some (.inl v3), some (.inl v4)] [] h =
  bif aok h.1 v0 12 then
    bif aok h.1 v0 12 then
      bif ain h.1 (h.2 v0.toNat 35) 100 (h.2 v0.toNat 18) then
        bif decide ((h.2 (h.2 v0.toNat 35).toNat (h.2 v0.toNat 18).toNat) ≤ v4) then
          some (some (.inl v2), h)
        else
          bif decide (¬ (oand (oshr v3 v4) 1) = 1) then
            ev xs d mm_291 63 [some (.inr (.inr v0)), some (.inl v1), some (.inl v2), some (.inl v3), some (.inl v4)] [] h
          else
            bif aok h.1 v0 12 then
              bif aok h.1 v0 12 then
                bif ain h.1 (h.2 v0.toNat 37) 101 (w32 ((w32 (8 * (h.2 v0.toNat 18))) + v4)) then
                  bI (cl xs d 236 [.inr (.inl (h.2 (h.2 v0.toNat 37).toNat (w32 ((w32 (8 * (h.2 v0.toNat 18))) + v4)).toNat))] h) (fun x2 h1 =>
                    ev xs d mm_291 63 [some (.inr (.inr v0)), some (.inl v1), some (.inl (w32 (v2 + (w32 (1 + x2))))), some (.inl v3), some (.inl v4)] [] h1)
                else none
              else none
            else none
      else none
    else none
  else none :=
  (aB gP gX xs stp_291 30 d mm_291 16 _ _ h).trans rfl

set_option maxRecDepth 100000 in
set_option maxHeartbeats 4000000 in
theorem q_291_63 (xs : List Int) (d : Nat) (v0 : Int) (v1 : Int) (v2 : Int) (v3 : Int) (v4 : Int) (h : aH) : ev xs d mm_291 63 [some (.inr (.inr v0)), some (.inl v1), some (.inl v2), some (.inl v3), some (.inl v4)] [] h =
  ev xs d mm_291 16 [some (.inr (.inr v0)), some (.inl v1), some (.inl v2), some (.inl v3), some (.inl (w32 (v4 + 1)))] [] h :=
  (aB gP gX xs stp_291 3 d mm_291 63 _ _ h).trans rfl

def stp_292 : List Nat := [0, 19, 68, 70, 102]
set_option maxRecDepth 100000 in
set_option maxHeartbeats 4000000 in
theorem q_292_0 (xs : List Int) (d : Nat) (v0 : Int) (v1 : Int) (h : aH) : ev xs d mm_292 0 [some (.inr (.inr v0)), some (.inl v1), none, none, none] [] h =
  bI (cl xs d 226 [.inl v1, .inl 0, .inl 2] h) (fun x2 h1 =>
    bif decide (¬ x2 = 0) then
      bif aok h1.1 v0 12 && true then
        bV (cl xs d 229 [.inr (.inr v0)] h1) (fun h3 =>
        ev xs d mm_292 19 [some (.inr (.inr v0)), some (.inl v1), some (.inl 0), some (.inl 1), none] [] h3)
      else none
    else
      some (some (.inl (-1)), h1)) :=
  (aB gP gX xs stp_292 12 d mm_292 0 _ _ h).trans rfl

set_option maxRecDepth 100000 in
set_option maxHeartbeats 4000000 in
theorem q_292_19 (xs : List Int) (d : Nat) (v0 : Int) (v1 : Int) (v2 : Int) (v3 : Int) (u4 : Option aV) (h : aH) : ev xs d mm_292 19 [some (.inr (.inr v0)), some (.inl v1), some (.inl v2), some (.inl v3), u4] [] h =
  bif aok h.1 v0 12 then
    bif aok h.1 v0 12 then
      bif ain h.1 (h.2 v0.toNat 23) 100 (h.2 v0.toNat 18) then
        bif decide ((oshl 1 (h.2 (h.2 v0.toNat 23).toNat (h.2 v0.toNat 18).toNat)) ≤ v3) then
          bif decide (¬ v1 = 0) then
            bif decide (¬ v1 = 1) then
              bif aok h.1 v0 12 && true then
                bI (cl xs d 290 [.inr (.inr v0), .inl v2] h) (fun x2 h1 =>
                ev xs d mm_292 102 [some (.inr (.inr v0)), some (.inl v1), some (.inl v2), some (.inl v3), u4] [.inl x2] h1)
              else none
            else
              ev xs d mm_292 102 [some (.inr (.inr v0)), some (.inl v1), some (.inl v2), some (.inl v3), u4] [.inl v2] h
          else
            bif aok h.1 v0 12 && true then
              bI (cl xs d 291 [.inr (.inr v0), .inl v2] h) (fun x4 h3 =>
              ev xs d mm_292 102 [some (.inr (.inr v0)), some (.inl v1), some (.inl v2), some (.inl v3), u4] [.inl x4] h3)
            else none
        else
          bif aok h.1 v0 12 && true then
            bI (cl xs d 291 [.inr (.inr v0), .inl v3] h) (fun x6 h5 =>
            bif aok h5.1 v0 12 && true then
              bI (cl xs d 291 [.inr (.inr v0), .inl v2] h5) (fun x8 h7 =>
              bif decide ((w32 (x6 - x8)) < 0) then
                ev xs d mm_292 68 [some (.inr (.inr v0)), some (.inl v1), some (.inl v2), some (.inl v3), some (.inl (w32 (x6 - x8)))] [] h7
              else
                bif decide (¬ (w32 (x6 - x8)) = 0) then
                  ev xs d mm_292 70 [some (.inr (.inr v0)), some (.inl v1), some (.inl v2), some (.inl v3), some (.inl (w32 (x6 - x8)))] [] h7
                else
                  bI (cl xs d 235 [.inl v3] h7) (fun x10 h9 =>
                    bI (cl xs d 235 [.inl v2] h9) (fun x12 h11 =>
                      bif decide (x12 ≤ x10) then
                        ev xs d mm_292 70 [some (.inr (.inr v0)), some (.inl v1), some (.inl v2), some (.inl v3), some (.inl (w32 (x6 - x8)))] [] h11
                      else
                        ev xs d mm_292 68 [some (.inr (.inr v0)), some (.inl v1), some (.inl v2), some (.inl v3), some (.inl (w32 (x6 - x8)))] [] h11)))
            else none)
          else none
      else none
    else none
  else none :=
  (aB gP gX xs stp_292 27 d mm_292 19 _ _ h).trans rfl

set_option maxRecDepth 100000 in
set_option maxHeartbeats 4000000 in
theorem q_292_68 (xs : List Int) (d : Nat) (v0 : Int) (v1 : Int) (v2 : Int) (v3 : Int) (v4 : Int) (h : aH) : ev xs d mm_292 68 [some (.inr (.inr v0)), some (.inl v1), some (.inl v2), some (.inl v3), some (.inl v4)] [] h =
  ev xs d mm_292 70 [some (.inr (.inr v0)), some (.inl v1), some (.inl v3), some (.inl v3), some (.inl v4)] [] h :=
  (aB gP gX xs stp_292 3 d mm_292 68 _ _ h).trans rfl

set_option maxRecDepth 100000 in
set_option maxHeartbeats 4000000 in
theorem q_292_70 (xs : List Int) (d : Nat) (v0 : Int) (v1 : Int) (v2 : Int) (v3 : Int) (v4 : Int) (h : aH) : ev xs d mm_292 70 [some (.inr (.inr v0)), some (.inl v1), some (.inl v2), some (.inl v3), some (.inl v4)] [] h =
  ev xs d mm_292 19 [some (.inr (.inr v0)), some (.inl v1), some (.inl v2), some (.inl (w32 (v3 + 1))), some (.inl v4)] [] h :=
  (aB gP gX xs stp_292 3 d mm_292 70 _ _ h).trans rfl

set_option maxRecDepth 100000 in
set_option maxHeartbeats 4000000 in
theorem q_292_102 (xs : List Int) (d : Nat) (v0 : Int) (v1 : Int) (v2 : Int) (v3 : Int) (u4 : Option aV) (s0 : Int) (h : aH) : ev xs d mm_292 102 [some (.inr (.inr v0)), some (.inl v1), some (.inl v2), some (.inl v3), u4] [.inl s0] h =
  some (some (.inl s0), h) :=
  (aB gP gX xs stp_292 2 d mm_292 102 _ _ h).trans rfl

def stp_293 : List Nat := [0, 5, 65, 87, 112]
set_option maxRecDepth 100000 in
set_option maxHeartbeats 4000000 in
theorem q_293_0 (xs : List Int) (d : Nat) (v0 : Int) (v1 : Int) (v2 : Int) (h : aH) : ev xs d mm_293 0 [some (.inr (.inr v0)), some (.inl v1), some (.inl v2), none, none, none, none, none, none] [] h =
  ev xs d mm_293 5 [some (.inr (.inr v0)), some (.inl v1), some (.inl v2), some (.inl 0), some (.inl 0), none, none, none, none] [] h :=
  (aB gP gX xs stp_293 5 d mm_293 0 _ _ h).trans rfl

set_option maxRecDepth 100000 in
set_option maxHeartbeats 4000000 in
theorem q_293_5 (xs : List Int) (d : Nat) (v0 : Int) (v1 : Int) (v2 : Int) (v3 : Int) (v4 : Int) (u5 : Option aV) (u6 : Option aV) (u7 : Option aV) (u8 : Option aV) (h : aH) : ev xs d mm_293 5 [some (.inr (.inr v0)), some (.inl v1), some (.inl v2), some (.inl v3), some (.inl v4), u5, u6, u7, u8] [] h =
  bif aok h.1 v0 12 then
    bif aok h.1 v0 12 then
      bif ain h.1 (h.2 v0.toNat 23) 100 (h.2 v0.toNat 18) then
        bif decide ((oshl 1 (h.2 (h.2 v0.toNat 23).toNat (h.2 v0.toNat 18).toNat)) ≤ v4) then
          some (some (.inl v3), h)
        else
          bif aok h.1 v0 12 && true then
            bI (cl xs d 279 [.inr (.inr v0), .inl v2, .inl 0, .inl v4] h) (fun x2 h1 =>
            bif decide (¬ x2 = 0) then
              bif aok h1.1 v0 12 then
                bif aok h1.1 v0 12 then
                  bif ain h1.1 (h1.2 v0.toNat 36) 101 (w32 ((w32 (8 * (h1.2 v0.toNat 18))) + v1)) then
                    bif aok h1.1 v0 12 && true then
                      bJ (cl xs d 240 [.inr (.inr v0), .inr (.inl (h1.2 (h1.2 v0.toNat 36).toNat (w32 ((w32 (8 * (h1.2 v0.toNat 18))) + v1)).toNat)), .inl v4, .inl 7] h1) (fun x4 h3 =>
                      ev xs d mm_293 65 [some (.inr (.inr v0)), some (.inl v1), some (.inl v2), some (.inl v3), some (.inl v4), some (.inr (.inl x4)), none, some (.inl 0), some (.inl 0)] [] h3)
                    else none
                  else none
                else none
              else none
            else
              ev xs d mm_293 112 [some (.inr (.inr v0)), some (.inl v1), some (.inl v2), some (.inl v3), some (.inl v4), u5, u6, u7, u8] [] h1)
          else none
      else none
    else none
  else none :=
  (aB gP gX xs stp_293 34 d mm_293 5 _ _ h).trans rfl

set_option maxRecDepth 100000 in
set_option maxHeartbeats 4000000 in
theorem q_293_65 (xs : List Int) (d : Nat) (v0 : Int) (v1 : Int) (v2 : Int) (v3 : Int) (v4 : Int) (v5 : Int) (u6 : Option aV) (v7 : Int) (v8 : Int) (h : aH) : ev xs d mm_293 65 [some (.inr (.inr v0)), some (.inl v1), some (.inl v2), some (.inl v3), some (.inl v4), some (.inr (.inl v5)), u6, some (.inl v7), some (.inl v8)] [] h =
  bif decide (v3 ≤ v8) then
    bif decide (v7 = 0) then
      bif aok h.1 v0 12 then
        bif ain h.1 (h.2 v0.toNat 80) 101 v3 then
          ev xs d mm_293 112 [some (.inr (.inr v0)), some (.inl v1), some (.inl v2), some (.inl (w32 (v3 + 1))), some (.inl v4), some (.inr (.inl v5)), u6, some (.inl v7), some (.inl v8)] [] (h.1, aup h.2 (h.2 v0.toNat 80).toNat v3.toNat v5)
        else none
      else none
    else
      ev xs d mm_293 112 [some (.inr (.inr v0)), some (.inl v1), some (.inl v2), some (.inl v3), some (.inl v4), some (.inr (.inl v5)), u6, some (.inl v7), some (.inl v8)] [] h
  else
    bif aok h.1 v0 12 then
      bif ain h.1 (h.2 v0.toNat 80) 101 v8 then
        bif decide (¬ (olcmp (h.2 (h.2 v0.toNat 80).toNat v8.toNat) v5) = 0) then
          ev xs d mm_293 87 [some (.inr (.inr v0)), some (.inl v1), some (.inl v2), some (.inl v3), some (.inl v4), some (.inr (.inl v5)), u6, some (.inl v7), some (.inl v8)] [] h
        else
          ev xs d mm_293 87 [some (.inr (.inr v0)), some (.inl v1), some (.inl v2), some (.inl v3), some (.inl v4), some (.inr (.inl v5)), acl u6, some (.inl 1), some (.inl v8)] [] h
      else none
    else none :=
  (aB gP gX xs stp_293 13 d mm_293 65 _ _ h).trans rfl

set_option maxRecDepth 100000 in
set_option maxHeartbeats 4000000 in
theorem q_293_87 (xs : List Int) (d : Nat) (v0 : Int) (v1 : Int) (v2 : Int) (v3 : Int) (v4 : Int) (v5 : Int) (u6 : Option aV) (v7 : Int) (v8 : Int) (h : aH) : ev xs d mm_293 87 [some (.inr (.inr v0)), some (.inl v1), some (.inl v2), some (.inl v3), some (.inl v4), some (.inr (.inl v5)), u6, some (.inl v7), some (.inl v8)] [] h =
  ev xs d mm_293 65 [some (.inr (.inr v0)), some (.inl v1), some (.inl v2), some (.inl v3), some (.inl v4), some (.inr (.inl v5)), u6, some (.inl v7), some (.inl (w32 (v8 + 1)))] [] h :=
  (aB gP gX xs stp_293 3 d mm_293 87 _ _ h).trans rfl

set_option maxRecDepth 100000 in
set_option maxHeartbeats 4000000 in
theorem q_293_112 (xs : List Int) (d : Nat) (v0 : Int) (v1 : Int) (v2 : Int) (v3 : Int) (v4 : Int) (u5 : Option aV) (u6 : Option aV) (u7 : Option aV) (u8 : Option aV) (h : aH) : ev xs d mm_293 112 [some (.inr (.inr v0)), some (.inl v1), some (.inl v2), some (.inl v3), some (.inl v4), u5, u6, u7, u8] [] h =
  ev xs d mm_293 5 [some (.inr (.inr v0)), some (.inl v1), some (.inl v2), some (.inl v3), some (.inl (w32 (v4 + 1))), u5, u6, u7, u8] [] h :=
  (aB gP gX xs stp_293 3 d mm_293 112 _ _ h).trans rfl

def stp_294 : List Nat := [0, 17, 32, 72, 86, 92]
set_option maxRecDepth 100000 in
set_option maxHeartbeats 4000000 in
theorem q_294_0 (xs : List Int) (d : Nat) (v0 : Int) (v1 : Int) (v2 : Int) (h : aH) : ev xs d mm_294 0 [some (.inr (.inr v0)), some (.inl v1), some (.inl v2), none, none, none, none] [] h =
  bif aok h.1 v0 12 && true then
    bI (cl xs d 280 [.inr (.inr v0), .inl v1] h) (fun x2 h1 =>
    bif decide (x2 = 0) then
      ev xs d mm_294 17 [some (.inr (.inr v0)), some (.inl v1), some (.inl v2), none, none, none, none] [] h1
    else
      bI (cl xs d 226 [.inl v2, .inl 0, .inl 1] h1) (fun x4 h3 =>
        bif decide (¬ x4 = 0) then
          bif aok h3.1 v0 12 && true then
            bV (cl xs d 229 [.inr (.inr v0)] h3) (fun h5 =>
            ev xs d mm_294 32 [some (.inr (.inr v0)), some (.inl v1), some (.inl v2), some (.inl (-2)), some (.inl 0), some (.inl v1), none] [] h5)
          else none
        else
          ev xs d mm_294 17 [some (.inr (.inr v0)), some (.inl v1), some (.inl v2), none, none, none, none] [] h3))
  else none :=
  (aB gP gX xs stp_294 18 d mm_294 0 _ _ h).trans rfl

set_option maxRecDepth 100000 in
set_option maxHeartbeats 4000000 in
theorem q_294_17 (xs : List Int) (d : Nat) (v0 : Int) (v1 : Int) (v2 : Int) (u3 : Option aV) (u4 : Option aV) (u5 : Option aV) (u6 : Option aV) (h : aH) : ev xs d mm_294 17 [some (.inr (.inr v0)), some (.inl v1), some (.inl v2), u3, u4, u5, u6] [] h =
  some (some (.inl (-1)), h) :=
  (aB gP gX xs stp_294 3 d mm_294 17 _ _ h).trans rfl

set_option maxRecDepth 100000 in
set_option maxHeartbeats 4000000 in
theorem q_294_32 (xs : List Int) (d : Nat) (v0 : Int) (v1 : Int) (v2 : Int) (v3 : Int) (v4 : Int) (v5 : Int) (u6 : Option aV) (h : aH) : ev xs d mm_294 32 [some (.inr (.inr v0)), some (.inl v1), some (.inl v2), some (.inl v3), some (.inl v4), some (.inl v5), u6] [] h =
  bif aok h.1 v0 12 then
    bif aok h.1 v0 12 then
      bif ain h.1 (h.2 v0.toNat 35) 100 (h.2 v0.toNat 18) then
        bif decide ((h.2 (h.2 v0.toNat 35).toNat (h.2 v0.toNat 18).toNat) ≤ v5) then
          bif decide (v3 < 0) then
            ev xs d mm_294 86 [some (.inr (.inr v0)), some (.inl v1), some (.inl v2), some (.inl v3), some (.inl v4), some (.inl v5), u6] [] h
          else
            bif decide (¬ v2 = 0) then
              ev xs d mm_294 92 [some (.inr (.inr v0)), some (.inl v1), some (.inl v2), some (.inl v3), some (.inl v4), some (.inl v5), u6] [.inl v4] h
            else
              ev xs d mm_294 86 [some (.inr (.inr v0)), some (.inl v1), some (.inl v2), some (.inl v3), some (.inl v4), some (.inl v5), u6] [] h
        else
          bif aok h.1 v0 12 && true then
            bI (cl xs d 293 [.inr (.inr v0), .inl v5, .inl v1] h) (fun x2 h1 =>
            bif decide (v4 < x2) then
              ev xs d mm_294 72 [some (.inr (.inr v0)), some (.inl v1), some (.inl v2), some (.inl v5), some (.inl x2), some (.inl v5), some (.inl x2)] [] h1
            else
              ev xs d mm_294 72 [some (.inr (.inr v0)), some (.inl v1), some (.inl v2), some (.inl v3), some (.inl v4), some (.inl v5), some (.inl x2)] [] h1)
          else none
      else none
    else none
  else none :=
  (aB gP gX xs stp_294 20 d mm_294 32 _ _ h).trans rfl

set_option maxRecDepth 100000 in
set_option maxHeartbeats 4000000 in
theorem q_294_72 (xs : List Int) (d : Nat) (v0 : Int) (v1 : Int) (v2 : Int) (v3 : Int) (v4 : Int) (v5 : Int) (v6 : Int) (h : aH) : ev xs d mm_294 72 [some (.inr (.inr v0)), some (.inl v1), some (.inl v2), some (.inl v3), some (.inl v4), some (.inl v5), some (.inl v6)] [] h =
  ev xs d mm_294 32 [some (.inr (.inr v0)), some (.inl v1), some (.inl v2), some (.inl v3), some (.inl v4), some (.inl (w32 (v5 + 1))), some (.inl v6)] [] h :=
  (aB gP gX xs stp_294 3 d mm_294 72 _ _ h).trans rfl

set_option maxRecDepth 100000 in
set_option maxHeartbeats 4000000 in
theorem q_294_86 (xs : List Int) (d : Nat) (v0 : Int) (v1 : Int) (v2 : Int) (v3 : Int) (v4 : Int) (v5 : Int) (u6 : Option aV) (h : aH) : ev xs d mm_294 86 [some (.inr (.inr v0)), some (.inl v1), some (.inl v2), some (.inl v3), some (.inl v4), some (.inl v5), u6] [] h =
  ev xs d mm_294 92 [some (.inr (.inr v0)), some (.inl v1), some (.inl v2), some (.inl v3), some (.inl v4), some (.inl v5), u6] [.inl v3] h :=
  (aB gP gX xs stp_294 3 d mm_294 86 _ _ h).trans rfl

set_option maxRecDepth 100000 in
set_option maxHeartbeats 4000000 in
theorem q_294_92 (xs : List Int) (d : Nat) (v0 : Int) (v1 : Int) (v2 : Int) (v3 : Int) (v4 : Int) (v5 : Int) (u6 : Option aV) (s0 : Int) (h : aH) : ev xs d mm_294 92 [some (.inr (.inr v0)), some (.inl v1), some (.inl v2), some (.inl v3), some (.inl v4), some (.inl v5), u6] [.inl s0] h =
  some (some (.inl s0), h) :=
  (aB gP gX xs stp_294 2 d mm_294 92 _ _ h).trans rfl

def stp_295 : List Nat := [0, 3, 41]
set_option maxRecDepth 100000 in
set_option maxHeartbeats 4000000 in
theorem q_295_0 (xs : List Int) (d : Nat) (v0 : Int) (v1 : Int) (v2 : Int) (v3 : Int) (h : aH) : ev xs d mm_295 0 [some (.inr (.inr v0)), some (.inl v1), some (.inl v2), some (.inl v3), none] [] h =
  ev xs d mm_295 3 [some (.inr (.inr v0)), some (.inl v1), some (.inl v2), some (.inl v3), some (.inl 0)] [] h :=
  (aB gP gX xs stp_295 3 d mm_295 0 _ _ h).trans rfl

set_option maxRecDepth 100000 in
set_option maxHeartbeats 4000000 in
theorem q_295_3 (xs : List Int) (d : Nat) (v0 : Int) (v1 : Int) (v2 : Int) (v3 : Int) (v4 : Int) (h : aH) : ev xs d mm_295 3 [some (.inr (.inr v0)), some (.inl v1), some (.inl v2), some (.inl v3), some (.inl v4)] [] h =
  bif aok h.1 v0 12 then
    bif aok h.1 v0 12 then
      bif ain h.1 (h.2 v0.toNat 23) 100 (h.2 v0.toNat 18) then
        bif decide ((oshl 1 (h.2 (h.2 v0.toNat 23).toNat (h.2 v0.toNat 18).toNat)) ≤ v4) then
          some (some (.inl 0), h)
        else
          bif decide (¬ (oand v3 (oxor v4 (-1))) = 0) then
            ev xs d mm_295 41 [some (.inr (.inr v0)), some (.inl v1), some (.inl v2), some (.inl v3), some (.inl v4)] [] h
          else
            bif aok h.1 v0 12 && true then
              bI (cl xs d 279 [.inr (.inr v0), .inl v1, .inl v2, .inl v4] h) (fun x2 h1 =>
              bif decide (x2 = 0) then
                ev xs d mm_295 41 [some (.inr (.inr v0)), some (.inl v1), some (.inl v2), some (.inl v3), some (.inl v4)] [] h1
              else
                some (some (.inl 1), h1))
            else none
      else none
    else none
  else none :=
  (aB gP gX xs stp_295 24 d mm_295 3 _ _ h).trans rfl

set_option maxRecDepth 100000 in
set_option maxHeartbeats 4000000 in
theorem q_295_41 (xs : List Int) (d : Nat) (v0 : Int) (v1 : Int) (v2 : Int) (v3 : Int) (v4 : Int) (h : aH) : ev xs d mm_295 41 [some (.inr (.inr v0)), some (.inl v1), some (.inl v2), some (.inl v3), some (.inl v4)] [] h =
  ev xs d mm_295 3 [some (.inr (.inr v0)), some (.inl v1), some (.inl v2), some (.inl v3), some (.inl (w32 (v4 + 1)))] [] h :=
  (aB gP gX xs stp_295 3 d mm_295 41 _ _ h).trans rfl

def stp_296 : List Nat := [0, 24, 33, 83]
set_option maxRecDepth 100000 in
set_option maxHeartbeats 4000000 in
theorem q_296_0 (xs : List Int) (d : Nat) (v0 : Int) (v1 : Int) (h : aH) : ev xs d mm_296 0 [some (.inr (.inr v0)), some (.inl v1), none, none, none] [] h =
  bif aok h.1 v0 12 && true then
    bI (cl xs d 280 [.inr (.inr v0), .inl v1] h) (fun x2 h1 =>
    bif decide (¬ x2 = 0) then
      bif aok h1.1 v0 12 && true then
        bV (cl xs d 229 [.inr (.inr v0)] h1) (fun h3 =>
        bif aok h3.1 v0 12 then
          bif aok h3.1 v0 12 then
            bif ain h3.1 (h3.2 v0.toNat 23) 100 (h3.2 v0.toNat 18) then
              ev xs d mm_296 24 [some (.inr (.inr v0)), some (.inl v1), some (.inl (h3.2 (h3.2 v0.toNat 23).toNat (h3.2 v0.toNat 18).toNat)), none, none] [] h3
            else none
          else none
        else none)
      else none
    else
      some (some (.inl (-1)), h1))
  else none :=
  (aB gP gX xs stp_296 13 d mm_296 0 _ _ h).trans rfl

set_option maxRecDepth 100000 in
set_option maxHeartbeats 4000000 in
theorem q_296_24 (xs : List Int) (d : Nat) (v0 : Int) (v1 : Int) (v2 : Int) (u3 : Option aV) (u4 : Option aV) (h : aH) : ev xs d mm_296 24 [some (.inr (.inr v0)), some (.inl v1), some (.inl v2), u3, u4] [] h =
  bif decide (v2 < 0) then
    some (some (.inl (-2)), h)
  else
    ev xs d mm_296 33 [some (.inr (.inr v0)), some (.inl v1), some (.inl v2), some (.inl 0), some (.inl 0)] [] h :=
  (aB gP gX xs stp_296 7 d mm_296 24 _ _ h).trans rfl

set_option maxRecDepth 100000 in
set_option maxHeartbeats 4000000 in
theorem q_296_33 (xs : List Int) (d : Nat) (v0 : Int) (v1 : Int) (v2 : Int) (v3 : Int) (v4 : Int) (h : aH) : ev xs d mm_296 33 [some (.inr (.inr v0)), some (.inl v1), some (.inl v2), some (.inl v3), some (.inl v4)] [] h =
  bif decide (v2 ≤ v4) then
    bif aok h.1 v0 12 && true then
      bI (cl xs d 295 [.inr (.inr v0), .inl v1, .inl 0, .inl v3] h) (fun x2 h1 =>
      bif decide (x2 = 0) then
        ev xs d mm_296 83 [some (.inr (.inr v0)), some (.inl v1), some (.inl v2), some (.inl v3), some (.inl v4)] [] h1
      else
        bif aok h1.1 v0 12 && true then
          bI (cl xs d 295 [.inr (.inr v0), .inl v1, .inl 1, .inl v3] h1) (fun x4 h3 =>
          bif decide (x4 = 0) then
            ev xs d mm_296 83 [some (.inr (.inr v0)), some (.inl v1), some (.inl v2), some (.inl v3), some (.inl v4)] [] h3
          else
            some (some (.inl v2), h3))
        else none)
    else none
  else
    bif aok h.1 v0 12 then
      bif ain h.1 (h.2 v0.toNat 64) 101 (w32 (45 + v4)) then
        ev xs d mm_296 33 [some (.inr (.inr v0)), some (.inl v1), some (.inl v2), some (.inl (oor v3 (oshl 1 (ol2i (h.2 (h.2 v0.toNat 64).toNat (w32 (45 + v4)).toNat))))), some (.inl (w32 (v4 + 1)))] [] h
      else none
    else none :=
  (aB gP gX xs stp_296 18 d mm_296 33 _ _ h).trans rfl

set_option maxRecDepth 100000 in
set_option maxHeartbeats 4000000 in
theorem q_296_83 (xs : List Int) (d : Nat) (v0 : Int) (v1 : Int) (v2 : Int) (v3 : Int) (v4 : Int) (h : aH) : ev xs d mm_296 83 [some (.inr (.inr v0)), some (.inl v1), some (.inl v2), some (.inl v3), some (.inl v4)] [] h =
  ev xs d mm_296 24 [some (.inr (.inr v0)), some (.inl v1), some (.inl (w32 (v2 + (-1)))), some (.inl v3), some (.inl v4)] [] h :=
  (aB gP gX xs stp_296 3 d mm_296 83 _ _ h).trans rfl

def stp_297 : List Nat := [0, 20, 21]
set_option maxRecDepth 100000 in
set_option maxHeartbeats 4000000 in
theorem q_297_0 (xs : List Int) (d : Nat) (v0 : Int) (v1 : Int) (v2 : Int) (h : aH) : ev xs d mm_297 0 [some (.inr (.inr v0)), some (.inl v1), some (.inl v2)] [] h =
  bif aok h.1 v0 12 && true then
    bI (cl xs d 230 [.inr (.inr v0), .inl v1] h) (fun x2 h1 =>
    bif decide (x2 = 0) then
      ev xs d mm_297 20 [some (.inr (.inr v0)), some (.inl v1), some (.inl v2)] [] h1
    else
      bif aok h1.1 v0 12 && true then
        bI (cl xs d 230 [.inr (.inr v0), .inl v2] h1) (fun x4 h3 =>
        bif decide (x4 = 0) then
          ev xs d mm_297 20 [some (.inr (.inr v0)), some (.inl v1), some (.inl v2)] [] h3
        else
          ev xs d mm_297 21 [some (.inr (.inr v0)), some (.inl v1), some (.inl v2)] [.inl 1] h3)
      else none)
  else none :=
  (aB gP gX xs stp_297 11 d mm_297 0 _ _ h).trans rfl

set_option maxRecDepth 100000 in
set_option maxHeartbeats 4000000 in
theorem q_297_20 (xs : List Int) (d : Nat) (v0 : Int) (v1 : Int) (v2 : Int) (h : aH) : ev xs d mm_297 20 [some (.inr (.inr v0)), some (.inl v1), some (.inl v2)] [] h =
  ev xs d mm_297 21 [some (.inr (.inr v0)), some (.inl v1), some (.inl v2)] [.inl 0] h :=
  (aB gP gX xs stp_297 2 d mm_297 20 _ _ h).trans rfl

set_option maxRecDepth 100000 in
set_option maxHeartbeats 4000000 in
theorem q_297_21 (xs : List Int) (d : Nat) (v0 : Int) (v1 : Int) (v2 : Int) (s0 : Int) (h : aH) : ev xs d mm_297 21 [some (.inr (.inr v0)), some (.inl v1), some (.inl v2)] [.inl s0] h =
  bif decide (s0 = 0) || decide (s0 = 1) then some (some (.inl s0), h) else none :=
  (aB gP gX xs stp_297 2 d mm_297 21 _ _ h).trans rfl

def stp_298 : List Nat := [0, 14, 26, 35, 60, 108, 148]
set_option maxRecDepth 100000 in
set_option maxHeartbeats 4000000 in
theorem q_298_0 (xs : List Int) (d : Nat) (v0 : Int) (v1 : Int) (v2 : Int) (v3 : Int) (h : aH) : ev xs d mm_298 0 [some (.inr (.inr v0)), some (.inl v1), some (.inl v2), some (.inl v3), none, none, none, none, none, none, none, none, none] [] h =
  bif aok h.1 v0 12 && true then
    bI (cl xs d 297 [.inr (.inr v0), .inl v1, .inl v2] h) (fun x2 h1 =>
    bif decide (x2 = 0) then
      ev xs d mm_298 14 [some (.inr (.inr v0)), some (.inl v1), some (.inl v2), some (.inl v3), none, none, none, none, none, none, none, none, none] [] h1
    else
      bif decide ((-1) ≤ v3) then
        bif aok h1.1 v0 12 && true then
          bV (cl xs d 229 [.inr (.inr v0)] h1) (fun h3 =>
          ev xs d mm_298 26 [some (.inr (.inr v0)), some (.inl v1), some (.inl v2), some (.inl v3), some (.inl 1), some (.inl 0), none, none, none, none, none, none, none] [] h3)
        else none
      else
        ev xs d mm_298 14 [some (.inr (.inr v0)), some (.inl v1), some (.inl v2), some (.inl v3), none, none, none, none, none, none, none, none, none] [] h1)
  else none :=
  (aB gP gX xs stp_298 15 d mm_298 0 _ _ h).trans rfl

set_option maxRecDepth 100000 in
set_option maxHeartbeats 4000000 in
theorem q_298_14 (xs : List Int) (d : Nat) (v0 : Int) (v1 : Int) (v2 : Int) (v3 : Int) (u4 : Option aV) (u5 : Option aV) (u6 : Option aV) (u7 : Option aV) (u8 : Option aV) (u9 : Option aV) (u10 : Option aV) (u11 : Option aV) (u12 : Option aV) (h : aH) : ev xs d mm_298 14 [some (.inr (.inr v0)), some (.inl v1), some (.inl v2), some (.inl v3), u4, u5, u6, u7, u8, u9, u10, u11, u12] [] h =
  some (some (.inl (-1)), h) :=
  (aB gP gX xs stp_298 3 d mm_298 14 _ _ h).trans rfl

set_option maxRecDepth 100000 in
set_option maxHeartbeats 4000000 in
theorem q_298_26 (xs : List Int) (d : Nat) (v0 : Int) (v1 : Int) (v2 : Int) (v3 : Int) (v4 : Int) (v5 : Int) (u6 : Option aV) (u7 : Option aV) (u8 : Option aV) (u9 : Option aV) (u10 : Option aV) (u11 : Option aV) (u12 : Option aV) (h : aH) : ev xs d mm_298 26 [some (.inr (.inr v0)), some (.inl v1), some (.inl v2), some (.inl v3), some (.inl v4), some (.inl v5), u6, u7, u8, u9, u10, u11, u12] [] h =
  bif decide (5 ≤ v5) then
    some (some (.inl (-2)), h)
  else
    ev xs d mm_298 35 [some (.inr (.inr v0)), some (.inl v1), some (.inl v2), some (.inl v3), some (.inl v4), some (.inl v5), some (.inl 0), u7, u8, u9, u10, u11, u12] [] h :=
  (aB gP gX xs stp_298 6 d mm_298 26 _ _ h).trans rfl

set_option maxRecDepth 100000 in
set_option maxHeartbeats 4000000 in
theorem q_298_35 (xs : List Int) (d : Nat) (v0 : Int) (v1 : Int) (v2 : Int) (v3 : Int) (v4 : Int) (v5 : Int) (v6 : Int) (u7 : Option aV) (u8 : Option aV) (u9 : Option aV) (u10 : Option aV) (u11 : Option aV) (u12 : Option aV) (h : aH) : ev xs d mm_298 35 [some (.inr (.inr v0)), some (.inl v1), some (.inl v2), some (.inl v3), some (.inl v4), some (.inl v5), some (.inl v6), u7, u8, u9, u10, u11, u12] [] h =
  bif decide (v4 ≤ v6) then
    bif aok h.1 v0 12 then
      bif aok h.1 v0 12 then
        bif ain h.1 (h.2 v0.toNat 23) 100 (h.2 v0.toNat 18) then
          ev xs d mm_298 26 [some (.inr (.inr v0)), some (.inl v1), some (.inl v2), some (.inl v3), some (.inl (w32 (v4 * (h.2 (h.2 v0.toNat 23).toNat (h.2 v0.toNat 18).toNat)))), some (.inl (w32 (v5 + 1))), some (.inl v6), u7, u8, u9, u10, u11, u12] [] h
        else none
      else none
    else none
  else
    bif aok h.1 v0 12 then
      bif ain h.1 (h.2 v0.toNat 64) 101 v1 then
        ev xs d mm_298 60 [some (.inr (.inr v0)), some (.inl v1), some (.inl v2), some (.inl v3), some (.inl v4), some (.inl v5), some (.inl v6), some (.inr (.inl (h.2 (h.2 v0.toNat 64).toNat v1.toNat))), none, some (.inl v4), some (.inl (-1)), some (.inl 0), u12] [] h
      else none
    else none :=
  (aB gP gX xs stp_298 15 d mm_298 35 _ _ h).trans rfl

set_option maxRecDepth 100000 in
set_option maxHeartbeats 4000000 in
theorem q_298_60 (xs : List Int) (d : Nat) (v0 : Int) (v1 : Int) (v2 : Int) (v3 : Int) (v4 : Int) (v5 : Int) (v6 : Int) (v7 : Int) (u8 : Option aV) (v9 : Int) (v10 : Int) (v11 : Int) (u12 : Option aV) (h : aH) : ev xs d mm_298 60 [some (.inr (.inr v0)), some (.inl v1), some (.inl v2), some (.inl v3), some (.inl v4), some (.inl v5), some (.inl v6), some (.inr (.inl v7)), u8, some (.inl v9), some (.inl v10), some (.inl v11), u12] [] h =
  bif decide (v5 ≤ v11) then
    bif aok h.1 v0 12 then
      bif ain h.1 (h.2 v0.toNat 64) 101 v2 then
        bif decide (¬ (olcmp v7 (h.2 (h.2 v0.toNat 64).toNat v2.toNat)) = 0) then
          ev xs d mm_298 35 [some (.inr (.inr v0)), some (.inl v1), some (.inl v2), some (.inl v3), some (.inl v4), some (.inl v5), some (.inl (w32 (v6 + 1))), some (.inr (.inl v7)), u8, some (.inl v9), some (.inl v10), some (.inl v11), u12] [] h
        else
          bif decide (¬ v3 = (-1)) then
            ev xs d mm_298 148 [some (.inr (.inr v0)), some (.inl v1), some (.inl v2), some (.inl v3), some (.inl v4), some (.inl v5), some (.inl v6), some (.inr (.inl v7)), u8, some (.inl v9), some (.inl v10), some (.inl v11), u12] [.inl v10] h
          else
            ev xs d mm_298 148 [some (.inr (.inr v0)), some (.inl v1), some (.inl v2), some (.inl v3), some (.inl v4), some (.inl v5), some (.inl v6), some (.inr (.inl v7)), u8, some (.inl v9), some (.inl v10), some (.inl v11), u12] [.inl v5] h
      else none
    else none
  else
    bif aok h.1 v0 12 then
      bif aok h.1 v0 12 then
        bif ain h.1 (h.2 v0.toNat 23) 100 (h.2 v0.toNat 18) then
          bif decide ((h.2 (h.2 v0.toNat 23).toNat (h.2 v0.toNat 18).toNat) = 0) then none else
          bif decide ((odiv v9 (h.2 (h.2 v0.toNat 23).toNat (h.2 v0.toNat 18).toNat)) = 0) then none else
          bif aok h.1 v0 12 then
            bif aok h.1 v0 12 then
              bif ain h.1 (h.2 v0.toNat 23) 100 (h.2 v0.toNat 18) then
                bif decide ((h.2 (h.2 v0.toNat 23).toNat (h.2 v0.toNat 18).toNat) = 0) then none else
                bif decide (¬ v11 = v3) then
                  ev xs d mm_298 108 [some (.inr (.inr v0)), some (.inl v1), some (.inl v2), some (.inl v3), some (.inl v4), some (.inl v5), some (.inl v6), some (.inr (.inl v7)), acl u8, some (.inl (odiv v9 (h.2 (h.2 v0.toNat 23).toNat (h.2 v0.toNat 18).toNat))), some (.inl v10), some (.inl v11), some (.inl (orem (odiv v6 (odiv v9 (h.2 (h.2 v0.toNat 23).toNat (h.2 v0.toNat 18).toNat))) (h.2 (h.2 v0.toNat 23).toNat (h.2 v0.toNat 18).toNat)))] [] h
                else
                  ev xs d mm_298 108 [some (.inr (.inr v0)), some (.inl v1), some (.inl v2), some (.inl v3), some (.inl v4), some (.inl v5), some (.inl v6), some (.inr (.inl v7)), acl u8, some (.inl (odiv v9 (h.2 (h.2 v0.toNat 23).toNat (h.2 v0.toNat 18).toNat))), some (.inl (orem (odiv v6 (odiv v9 (h.2 (h.2 v0.toNat 23).toNat (h.2 v0.toNat 18).toNat))) (h.2 (h.2 v0.toNat 23).toNat (h.2 v0.toNat 18).toNat))), some (.inl v11), some (.inl (orem (odiv v6 (odiv v9 (h.2 (h.2 v0.toNat 23).toNat (h.2 v0.toNat 18).toNat))) (h.2 (h.2 v0.toNat 23).toNat (h.2 v0.toNat 18).toNat)))] [] h
              else none
            else none
          else none
        else none
      else none
    else none :=
  (aB gP gX xs stp_298 27 d mm_298 60 _ _ h).trans rfl

set_option maxRecDepth 100000 in
set_option maxHeartbeats 4000000 in
theorem q_298_108 (xs : List Int) (d : Nat) (v0 : Int) (v1 : Int) (v2 : Int) (v3 : Int) (v4 : Int) (v5 : Int) (v6 : Int) (v7 : Int) (u8 : Option aV) (v9 : Int) (v10 : Int) (v11 : Int) (v12 : Int) (h : aH) : ev xs d mm_298 108 [some (.inr (.inr v0)), some (.inl v1), some (.inl v2), some (.inl v3), some (.inl v4), some (.inl v5), some (.inl v6), some (.inr (.inl v7)), u8, some (.inl v9), some (.inl v10), some (.inl v11), some (.inl v12)] [] h =
  bif aok h.1 v0 12 && true then
    bJ (cl xs d 239 [.inr (.inr v0), .inl v12, .inr (.inl v7)] h) (fun x2 h1 =>
    ev xs d mm_298 60 [some (.inr (.inr v0)), some (.inl v1), some (.inl v2), some (.inl v3), some (.inl v4), some (.inl v5), some (.inl v6), some (.inr (.inl x2)), none, some (.inl v9), some (.inl v10), some (.inl (w32 (v11 + 1))), some (.inl v12)] [] h1)
  else none :=
  (aB gP gX xs stp_298 8 d mm_298 108 _ _ h).trans rfl

set_option maxRecDepth 100000 in
set_option maxHeartbeats 4000000 in
theorem q_298_148 (xs : List Int) (d : Nat) (v0 : Int) (v1 : Int) (v2 : Int) (v3 : Int) (v4 : Int) (v5 : Int) (v6 : Int) (v7 : Int) (u8 : Option aV) (v9 : Int) (v10 : Int) (v11 : Int) (u12 : Option aV) (s0 : Int) (h : aH) : ev xs d mm_298 148 [some (.inr (.inr v0)), some (.inl v1), some (.inl v2), some (.inl v3), some (.inl v4), some (.inl v5), some (.inl v6), some (.inr (.inl v7)), u8, some (.inl v9), some (.inl v10), some (.inl v11), u12] [.inl s0] h =
  some (some (.inl s0), h) :=
  (aB gP gX xs stp_298 2 d mm_298 148 _ _ h).trans rfl

def stp_299 : List Nat := [0, 35, 44, 122, 123, 171, 217]
set_option maxRecDepth 100000 in
set_option maxHeartbeats 4000000 in
theorem q_299_0 (xs : List Int) (d : Nat) (v0 : Int) (v1 : Int) (v2 : Int) (h : aH) : ev xs d mm_299 0 [some (.inr (.inr v0)), some (.inl v1), some (.inl v2), none, none, none, none, none] [] h =
  bif aok h.1 v0 12 && true then
    bI (cl xs d 297 [.inr (.inr v0), .inl v1, .inl v2] h) (fun x2 h1 =>
    bif decide (¬ x2 = 0) then
      bif aok h1.1 v0 12 then
        bif ain h1.1 (h1.2 v0.toNat 63) 101 v1 then
          bI (cl xs d 236 [.inr (.inl (h1.2 (h1.2 v0.toNat 63).toNat v1.toNat))] h1) (fun x4 h3 =>
            bif aok h3.1 v0 12 then
              bif ain h3.1 (h3.2 v0.toNat 63) 101 v2 then
                bI (cl xs d 236 [.inr (.inl (h3.2 (h3.2 v0.toNat 63).toNat v2.toNat))] h3) (fun x6 h5 =>
                  ev xs d mm_299 35 [some (.inr (.inr v0)), some (.inl v1), some (.inl v2), some (.inl x4), some (.inl x6), some (.inl 0), none, none] [] h5)
              else none
            else none)
        else none
      else none
    else
      some (some (.inl (-1)), h1))
  else none :=
  (aB gP gX xs stp_299 20 d mm_299 0 _ _ h).trans rfl

set_option maxRecDepth 100000 in
set_option maxHeartbeats 4000000 in
theorem q_299_35 (xs : List Int) (d : Nat) (v0 : Int) (v1 : Int) (v2 : Int) (v3 : Int) (v4 : Int) (v5 : Int) (u6 : Option aV) (u7 : Option aV) (h : aH) : ev xs d mm_299 35 [some (.inr (.inr v0)), some (.inl v1), some (.inl v2), some (.inl v3), some (.inl v4), some (.inl v5), u6, u7] [] h =
  bif decide (v3 < v5) then
    bif aok h.1 v0 12 then
      bif ain h.1 (h.2 v0.toNat 81) 100 (w32 ((w32 (9 * v3)) + v4)) then
        some (some (.inl (h.2 (h.2 v0.toNat 81).toNat (w32 ((w32 (9 * v3)) + v4)).toNat)), h)
      else none
    else none
  else
    ev xs d mm_299 44 [some (.inr (.inr v0)), some (.inl v1), some (.inl v2), some (.inl v3), some (.inl v4), some (.inl v5), some (.inl 0), u7] [] h :=
  (aB gP gX xs stp_299 13 d mm_299 35 _ _ h).trans rfl

set_option maxRecDepth 100000 in
set_option maxHeartbeats 4000000 in
theorem q_299_44 (xs : List Int) (d : Nat) (v0 : Int) (v1 : Int) (v2 : Int) (v3 : Int) (v4 : Int) (v5 : Int) (v6 : Int) (u7 : Option aV) (h : aH) : ev xs d mm_299 44 [some (.inr (.inr v0)), some (.inl v1), some (.inl v2), some (.inl v3), some (.inl v4), some (.inl v5), some (.inl v6), u7] [] h =
  bif decide (v4 < v6) then
    ev xs d mm_299 35 [some (.inr (.inr v0)), some (.inl v1), some (.inl v2), some (.inl v3), some (.inl v4), some (.inl (w32 (v5 + 1))), some (.inl v6), u7] [] h
  else
    bif decide (¬ v5 = 0) then
      bif decide (¬ v6 = 0) then
        bif aok h.1 v0 12 then
          bif ain h.1 (h.2 v0.toNat 81) 100 (w32 ((w32 ((w32 (9 * (w32 (v5 - 1)))) + v6)) - 1)) then
            bif aok h.1 v0 12 then
              bif ain h.1 (h.2 v0.toNat 63) 101 v1 then
                bI (cl xs d 237 [.inr (.inl (h.2 (h.2 v0.toNat 63).toNat v1.toNat)), .inl (w32 (v5 - 1))] h) (fun x2 h1 =>
                  bif aok h1.1 v0 12 then
                    bif ain h1.1 (h1.2 v0.toNat 63) 101 v2 then
                      bI (cl xs d 237 [.inr (.inl (h1.2 (h1.2 v0.toNat 63).toNat v2.toNat)), .inl (w32 (v6 - 1))] h1) (fun x4 h3 =>
                        bif decide (¬ x2 = x4) then
                          ev xs d mm_299 122 [some (.inr (.inr v0)), some (.inl v1), some (.inl v2), some (.inl v3), some (.inl v4), some (.inl v5), some (.inl v6), u7] [.inl 1, .inl (h.2 (h.2 v0.toNat 81).toNat (w32 ((w32 ((w32 (9 * (w32 (v5 - 1)))) + v6)) - 1)).toNat)] h3
                        else
                          ev xs d mm_299 122 [some (.inr (.inr v0)), some (.inl v1), some (.inl v2), some (.inl v3), some (.inl v4), some (.inl v5), some (.inl v6), u7] [.inl 0, .inl (h.2 (h.2 v0.toNat 81).toNat (w32 ((w32 ((w32 (9 * (w32 (v5 - 1)))) + v6)) - 1)).toNat)] h3)
                    else none
                  else none)
              else none
            else none
          else none
        else none
      else
        ev xs d mm_299 123 [some (.inr (.inr v0)), some (.inl v1), some (.inl v2), some (.inl v3), some (.inl v4), some (.inl v5), some (.inl v6), u7] [.inl v5] h
    else
      ev xs d mm_299 123 [some (.inr (.inr v0)), some (.inl v1), some (.inl v2), some (.inl v3), some (.inl v4), some (.inl v5), some (.inl v6), u7] [.inl v6] h :=
  (aB gP gX xs stp_299 39 d mm_299 44 _ _ h).trans rfl

set_option maxRecDepth 100000 in
set_option maxHeartbeats 4000000 in
theorem q_299_122 (xs : List Int) (d : Nat) (v0 : Int) (v1 : Int) (v2 : Int) (v3 : Int) (v4 : Int) (v5 : Int) (v6 : Int) (u7 : Option aV) (s0 : Int) (s1 : Int) (h : aH) : ev xs d mm_299 122 [some (.inr (.inr v0)), some (.inl v1), some (.inl v2), some (.inl v3), some (.inl v4), some (.inl v5), some (.inl v6), u7] [.inl s1, .inl s0] h =
  ev xs d mm_299 123 [some (.inr (.inr v0)), some (.inl v1), some (.inl v2), some (.inl v3), some (.inl v4), some (.inl v5), some (.inl v6), u7] [.inl (w32 (s0 + s1))] h :=
  (aB gP gX xs stp_299 2 d mm_299 122 _ _ h).trans rfl

set_option maxRecDepth 100000 in
set_option maxHeartbeats 4000000 in
theorem q_299_123 (xs : List Int) (d : Nat) (v0 : Int) (v1 : Int) (v2 : Int) (v3 : Int) (v4 : Int) (v5 : Int) (v6 : Int) (u7 : Option aV) (s0 : Int) (h : aH) : ev xs d mm_299 123 [some (.inr (.inr v0)), some (.inl v1), some (.inl v2), some (.inl v3), some (.inl v4), some (.inl v5), some (.inl v6), u7] [.inl s0] h =
  bif decide (v5 ≤ 0) then
    ev xs d mm_299 171 [some (.inr (.inr v0)), some (.inl v1), some (.inl v2), some (.inl v3), some (.inl v4), some (.inl v5), some (.inl v6), some (.inl s0)] [] h
  else
    bif aok h.1 v0 12 then
      bif ain h.1 (h.2 v0.toNat 81) 100 (w32 ((w32 (9 * (w32 (v5 - 1)))) + v6)) then
        bif decide (s0 ≤ (w32 ((h.2 (h.2 v0.toNat 81).toNat (w32 ((w32 (9 * (w32 (v5 - 1)))) + v6)).toNat) + 1))) then
          ev xs d mm_299 171 [some (.inr (.inr v0)), some (.inl v1), some (.inl v2), some (.inl v3), some (.inl v4), some (.inl v5), some (.inl v6), some (.inl s0)] [] h
        else
          bif aok h.1 v0 12 then
            bif ain h.1 (h.2 v0.toNat 81) 100 (w32 ((w32 (9 * (w32 (v5 - 1)))) + v6)) then
              ev xs d mm_299 171 [some (.inr (.inr v0)), some (.inl v1), some (.inl v2), some (.inl v3), some (.inl v4), some (.inl v5), some (.inl v6), some (.inl (w32 ((h.2 (h.2 v0.toNat 81).toNat (w32 ((w32 (9 * (w32 (v5 - 1)))) + v6)).toNat) + 1)))] [] h
            else none
          else none
      else none
    else none :=
  (aB gP gX xs stp_299 31 d mm_299 123 _ _ h).trans rfl

set_option maxRecDepth 100000 in
set_option maxHeartbeats 4000000 in
theorem q_299_171 (xs : List Int) (d : Nat) (v0 : Int) (v1 : Int) (v2 : Int) (v3 : Int) (v4 : Int) (v5 : Int) (v6 : Int) (v7 : Int) (h : aH) : ev xs d mm_299 171 [some (.inr (.inr v0)), some (.inl v1), some (.inl v2), some (.inl v3), some (.inl v4), some (.inl v5), some (.inl v6), some (.inl v7)] [] h =
  bif decide (v6 ≤ 0) then
    ev xs d mm_299 217 [some (.inr (.inr v0)), some (.inl v1), some (.inl v2), some (.inl v3), some (.inl v4), some (.inl v5), some (.inl v6), some (.inl v7)] [] h
  else
    bif aok h.1 v0 12 then
      bif ain h.1 (h.2 v0.toNat 81) 100 (w32 ((w32 ((w32 (9 * v5)) + v6)) - 1)) then
        bif decide (v7 ≤ (w32 ((h.2 (h.2 v0.toNat 81).toNat (w32 ((w32 ((w32 (9 * v5)) + v6)) - 1)).toNat) + 1))) then
          ev xs d mm_299 217 [some (.inr (.inr v0)), some (.inl v1), some (.inl v2), some (.inl v3), some (.inl v4), some (.inl v5), some (.inl v6), some (.inl v7)] [] h
        else
          bif aok h.1 v0 12 then
            bif ain h.1 (h.2 v0.toNat 81) 100 (w32 ((w32 ((w32 (9 * v5)) + v6)) - 1)) then
              ev xs d mm_299 217 [some (.inr (.inr v0)), some (.inl v1), some (.inl v2), some (.inl v3), some (.inl v4), some (.inl v5), some (.inl v6), some (.inl (w32 ((h.2 (h.2 v0.toNat 81).toNat (w32 ((w32 ((w32 (9 * v5)) + v6)) - 1)).toNat) + 1)))] [] h
            else none
          else none
      else none
    else none :=
  (aB gP gX xs stp_299 30 d mm_299 171 _ _ h).trans rfl

set_option maxRecDepth 100000 in
set_option maxHeartbeats 4000000 in
theorem q_299_217 (xs : List Int) (d : Nat) (v0 : Int) (v1 : Int) (v2 : Int) (v3 : Int) (v4 : Int) (v5 : Int) (v6 : Int) (v7 : Int) (h : aH) : ev xs d mm_299 217 [some (.inr (.inr v0)), some (.inl v1), some (.inl v2), some (.inl v3), some (.inl v4), some (.inl v5), some (.inl v6), some (.inl v7)] [] h =
  bif aok h.1 v0 12 then
    bif ain h.1 (h.2 v0.toNat 81) 100 (w32 ((w32 (9 * v5)) + v6)) then
      ev xs d mm_299 44 [some (.inr (.inr v0)), some (.inl v1), some (.inl v2), some (.inl v3), some (.inl v4), some (.inl v5), some (.inl (w32 (v6 + 1))), some (.inl v7)] [] (h.1, aup h.2 (h.2 v0.toNat 81).toNat (w32 ((w32 (9 * v5)) + v6)).toNat v7)
    else none
  else none :=
  (aB gP gX xs stp_299 12 d mm_299 217 _ _ h).trans rfl

def stp_300 : List Nat := [0, 29, 77]
set_option maxRecDepth 100000 in
set_option maxHeartbeats 4000000 in
theorem q_300_0 (xs : List Int) (d : Nat) (v0 : Int) (v1 : Int) (v2 : Int) (h : aH) : ev xs d mm_300 0 [some (.inr (.inr v0)), some (.inl v1), some (.inl v2), none, none, none, none, none] [] h =
  bif aok h.1 v0 12 && true then
    bI (cl xs d 297 [.inr (.inr v0), .inl v1, .inl v2] h) (fun x2 h1 =>
    bif decide (¬ x2 = 0) then
      bif aok h1.1 v0 12 then
        bif ain h1.1 (h1.2 v0.toNat 63) 101 v1 then
          bif aok h1.1 v0 12 then
            bif ain h1.1 (h1.2 v0.toNat 63) 101 v2 then
              ev xs d mm_300 29 [some (.inr (.inr v0)), some (.inl v1), some (.inl v2), some (.inr (.inl (h1.2 (h1.2 v0.toNat 63).toNat v1.toNat))), none, some (.inr (.inl (h1.2 (h1.2 v0.toNat 63).toNat v2.toNat))), none, some (.inl 0)] [] h1
            else none
          else none
        else none
      else none
    else
      some (some (.inl (-1)), h1))
  else none :=
  (aB gP gX xs stp_300 18 d mm_300 0 _ _ h).trans rfl

set_option maxRecDepth 100000 in
set_option maxHeartbeats 4000000 in
theorem q_300_29 (xs : List Int) (d : Nat) (v0 : Int) (v1 : Int) (v2 : Int) (v3 : Int) (u4 : Option aV) (v5 : Int) (u6 : Option aV) (v7 : Int) (h : aH) : ev xs d mm_300 29 [some (.inr (.inr v0)), some (.inl v1), some (.inl v2), some (.inr (.inl v3)), u4, some (.inr (.inl v5)), u6, some (.inl v7)] [] h =
  bif decide ((olcmp v3 ((((0 : Fin 2) : Nat) : Nat) : Int)) ≤ 0) then
    ev xs d mm_300 77 [some (.inr (.inr v0)), some (.inl v1), some (.inl v2), some (.inr (.inl v3)), u4, some (.inr (.inl v5)), u6, some (.inl v7)] [] h
  else
    bif decide ((olcmp v5 ((((0 : Fin 2) : Nat) : Nat) : Int)) ≤ 0) then
      ev xs d mm_300 77 [some (.inr (.inr v0)), some (.inl v1), some (.inl v2), some (.inr (.inl v3)), u4, some (.inr (.inl v5)), u6, some (.inl v7)] [] h
    else
      bif decide (¬ (olcmp (olrem v3 27) (olrem v5 27)) = 0) then
        ev xs d mm_300 77 [some (.inr (.inr v0)), some (.inl v1), some (.inl v2), some (.inr (.inl v3)), u4, some (.inr (.inl v5)), u6, some (.inl v7)] [] h
      else
        ev xs d mm_300 29 [some (.inr (.inr v0)), some (.inl v1), some (.inl v2), some (.inr (.inl (oldiv v3 27))), none, some (.inr (.inl (oldiv v5 27))), none, some (.inl (w32 (v7 + 1)))] [] h :=
  (aB gP gX xs stp_300 27 d mm_300 29 _ _ h).trans rfl

set_option maxRecDepth 100000 in
set_option maxHeartbeats 4000000 in
theorem q_300_77 (xs : List Int) (d : Nat) (v0 : Int) (v1 : Int) (v2 : Int) (v3 : Int) (u4 : Option aV) (v5 : Int) (u6 : Option aV) (v7 : Int) (h : aH) : ev xs d mm_300 77 [some (.inr (.inr v0)), some (.inl v1), some (.inl v2), some (.inr (.inl v3)), u4, some (.inr (.inl v5)), u6, some (.inl v7)] [] h =
  some (some (.inl v7), h) :=
  (aB gP gX xs stp_300 3 d mm_300 77 _ _ h).trans rfl

def stp_301 : List Nat := [0]
set_option maxRecDepth 100000 in
set_option maxHeartbeats 4000000 in
theorem q_301_0 (xs : List Int) (d : Nat) (v0 : Int) (v1 : Int) (h : aH) : ev xs d mm_301 0 [some (.inr (.inr v0)), some (.inl v1)] [] h =
  bif aok h.1 v0 12 then
    bif aok h.1 v0 12 then
      bif ain h.1 (h.2 v0.toNat 35) 100 (h.2 v0.toNat 18) then
        bif aok h.1 v0 12 && true then
          bI (cl xs d 290 [.inr (.inr v0), .inl v1] h) (fun x2 h1 =>
          bI (cl xs d 235 [.inl x2] h1) (fun x4 h3 =>
            some (some (.inl (w32 ((h.2 (h.2 v0.toNat 35).toNat (h.2 v0.toNat 18).toNat) - x4))), h3)))
        else none
      else none
    else none
  else none :=
  (aB gP gX xs stp_301 12 d mm_301 0 _ _ h).trans rfl

def stp_302 : List Nat := [0, 37, 80, 96]
set_option maxRecDepth 100000 in
set_option maxHeartbeats 4000000 in
theorem q_302_0 (xs : List Int) (d : Nat) (v0 : Int) (v1 : Int) (h : aH) : ev xs d mm_302 0 [some (.inr (.inr v0)), some (.inl v1), none, none, none, none, none] [] h =
  bI (cl xs d 226 [.inl v1, .inl 0, .inl 1] h) (fun x2 h1 =>
    bif decide (¬ x2 = 0) then
      bif aok h1.1 v0 12 && true then
        bV (cl xs d 229 [.inr (.inr v0)] h1) (fun h3 =>
        bif aok h3.1 v0 12 then
          bif ain h3.1 (h3.2 v0.toNat 64) 101 52 then
            bif aok h3.1 v0 12 && true then
              bI (cl xs d 301 [.inr (.inr v0), .inl (ol2i (h3.2 (h3.2 v0.toNat 64).toNat (52 : Int).toNat))] h3) (fun x5 h4 =>
              ev xs d mm_302 37 [some (.inr (.inr v0)), some (.inl v1), some (.inl (ol2i (h3.2 (h3.2 v0.toNat 64).toNat (52 : Int).toNat))), some (.inl (-2)), some (.inl x5), some (.inl 0), none] [] h4)
            else none
          else none
        else none)
      else none
    else
      some (some (.inl (-1)), h1)) :=
  (aB gP gX xs stp_302 22 d mm_302 0 _ _ h).trans rfl

set_option maxRecDepth 100000 in
set_option maxHeartbeats 4000000 in
theorem q_302_37 (xs : List Int) (d : Nat) (v0 : Int) (v1 : Int) (v2 : Int) (v3 : Int) (v4 : Int) (v5 : Int) (u6 : Option aV) (h : aH) : ev xs d mm_302 37 [some (.inr (.inr v0)), some (.inl v1), some (.inl v2), some (.inl v3), some (.inl v4), some (.inl v5), u6] [] h =
  bif aok h.1 v0 12 then
    bif aok h.1 v0 12 then
      bif ain h.1 (h.2 v0.toNat 23) 100 (h.2 v0.toNat 18) then
        bif decide ((h.2 (h.2 v0.toNat 23).toNat (h.2 v0.toNat 18).toNat) ≤ v5) then
          bif decide (¬ v1 = 0) then
            ev xs d mm_302 96 [some (.inr (.inr v0)), some (.inl v1), some (.inl v2), some (.inl v3), some (.inl v4), some (.inl v5), u6] [.inl v4] h
          else
            ev xs d mm_302 96 [some (.inr (.inr v0)), some (.inl v1), some (.inl v2), some (.inl v3), some (.inl v4), some (.inl v5), u6] [.inl v3] h
        else
          bif aok h.1 v0 12 && true then
            bI (cl xs d 301 [.inr (.inr v0), .inl (oxor v2 (oshl 1 v5))] h) (fun x2 h1 =>
            bif decide (v4 < x2) then
              ev xs d mm_302 80 [some (.inr (.inr v0)), some (.inl v1), some (.inl v2), some (.inl v5), some (.inl x2), some (.inl v5), some (.inl x2)] [] h1
            else
              ev xs d mm_302 80 [some (.inr (.inr v0)), some (.inl v1), some (.inl v2), some (.inl v3), some (.inl v4), some (.inl v5), some (.inl x2)] [] h1)
          else none
      else none
    else none
  else none :=
  (aB gP gX xs stp_302 23 d mm_302 37 _ _ h).trans rfl

set_option maxRecDepth 100000 in
set_option maxHeartbeats 4000000 in
theorem q_302_80 (xs : List Int) (d : Nat) (v0 : Int) (v1 : Int) (v2 : Int) (v3 : Int) (v4 : Int) (v5 : Int) (v6 : Int) (h : aH) : ev xs d mm_302 80 [some (.inr (.inr v0)), some (.inl v1), some (.inl v2), some (.inl v3), some (.inl v4), some (.inl v5), some (.inl v6)] [] h =
  ev xs d mm_302 37 [some (.inr (.inr v0)), some (.inl v1), some (.inl v2), some (.inl v3), some (.inl v4), some (.inl (w32 (v5 + 1))), some (.inl v6)] [] h :=
  (aB gP gX xs stp_302 3 d mm_302 80 _ _ h).trans rfl

set_option maxRecDepth 100000 in
set_option maxHeartbeats 4000000 in
theorem q_302_96 (xs : List Int) (d : Nat) (v0 : Int) (v1 : Int) (v2 : Int) (v3 : Int) (v4 : Int) (v5 : Int) (u6 : Option aV) (s0 : Int) (h : aH) : ev xs d mm_302 96 [some (.inr (.inr v0)), some (.inl v1), some (.inl v2), some (.inl v3), some (.inl v4), some (.inl v5), u6] [.inl s0] h =
  some (some (.inl s0), h) :=
  (aB gP gX xs stp_302 2 d mm_302 96 _ _ h).trans rfl

def stp_303 : List Nat := [0, 2, 23, 62, 103, 139, 165]
set_option maxRecDepth 100000 in
set_option maxHeartbeats 4000000 in
theorem q_303_0 (xs : List Int) (d : Nat) (v0 : Int) (h : aH) : ev xs d mm_303 0 [some (.inr (.inr v0)), none, none, none] [] h =
  ev xs d mm_303 2 [some (.inr (.inr v0)), some (.inl 0), none, none] [] h :=
  (aB gP gX xs stp_303 3 d mm_303 0 _ _ h).trans rfl

set_option maxRecDepth 100000 in
set_option maxHeartbeats 4000000 in
theorem q_303_2 (xs : List Int) (d : Nat) (v0 : Int) (v1 : Int) (u2 : Option aV) (u3 : Option aV) (h : aH) : ev xs d mm_303 2 [some (.inr (.inr v0)), some (.inl v1), u2, u3] [] h =
  bif decide (24 ≤ v1) then
    ev xs d mm_303 23 [some (.inr (.inr v0)), some (.inl 0), u2, u3] [] h
  else
    bif aok h.1 v0 12 then
      bif ain h.1 (h.2 v0.toNat 82) 100 v1 then
        ev xs d mm_303 2 [some (.inr (.inr v0)), some (.inl (w32 (v1 + 1))), u2, u3] [] (h.1, aup h.2 (h.2 v0.toNat 82).toNat v1.toNat 0)
      else none
    else none :=
  (aB gP gX xs stp_303 11 d mm_303 2 _ _ h).trans rfl

set_option maxRecDepth 100000 in
set_option maxHeartbeats 4000000 in
theorem q_303_23 (xs : List Int) (d : Nat) (v0 : Int) (v1 : Int) (u2 : Option aV) (u3 : Option aV) (h : aH) : ev xs d mm_303 23 [some (.inr (.inr v0)), some (.inl v1), u2, u3] [] h =
  bif aok h.1 v0 12 then
    bif aok h.1 v0 12 then
      bif ain h.1 (h.2 v0.toNat 33) 100 (h.2 v0.toNat 18) then
        bif decide ((h.2 (h.2 v0.toNat 33).toNat (h.2 v0.toNat 18).toNat) ≤ v1) then
          some (none, h)
        else
          bif aok h.1 v0 12 && true then
            bI (cl xs d 233 [.inr (.inr v0), .inl v1] h) (fun x2 h1 =>
            bif decide (¬ x2 = 0) then
              bif aok h1.1 v0 12 then
                bif ain h1.1 (h1.2 v0.toNat 64) 101 v1 then
                  bif aok h1.1 v0 12 && true then
                    bJ (cl xs d 241 [.inr (.inr v0), .inr (.inl (h1.2 (h1.2 v0.toNat 64).toNat v1.toNat))] h1) (fun x4 h3 =>
                    bif aok h3.1 v0 12 && true then
                      bV (cl xs d 248 [.inr (.inr v0)] h3) (fun h5 =>
                      ev xs d mm_303 62 [some (.inr (.inr v0)), some (.inl v1), some (.inr (.inl x4)), none] [] h5)
                    else none)
                  else none
                else none
              else none
            else
              ev xs d mm_303 165 [some (.inr (.inr v0)), some (.inl v1), u2, u3] [] h1)
          else none
      else none
    else none
  else none :=
  (aB gP gX xs stp_303 21 d mm_303 23 _ _ h).trans rfl

set_option maxRecDepth 100000 in
set_option maxHeartbeats 4000000 in
theorem q_303_62 (xs : List Int) (d : Nat) (v0 : Int) (v1 : Int) (v2 : Int) (u3 : Option aV) (h : aH) : ev xs d mm_303 62 [some (.inr (.inr v0)), some (.inl v1), some (.inr (.inl v2)), u3] [] h =
  bif aok h.1 v0 12 && true then
    bI (cl xs d 249 [.inr (.inr v0)] h) (fun x2 h1 =>
    bif decide (x2 = 0) then
      ev xs d mm_303 165 [some (.inr (.inr v0)), some (.inl v1), some (.inr (.inl v2)), u3] [] h1
    else
      bif aok h1.1 v0 12 && true then
        bI (cl xs d 254 [.inr (.inr v0), .inr (.inl v2)] h1) (fun x4 h3 =>
        bif decide (¬ x4 = 0) then
          bif aok h3.1 v0 12 then
            bif decide ((h3.2 v0.toNat 66) < 0) then
              ev xs d mm_303 103 [some (.inr (.inr v0)), some (.inl v1), some (.inr (.inl v2)), u3] [] h3
            else
              bif aok h3.1 v0 12 then
                bif aok h3.1 v0 12 then
                  bif ain h3.1 (h3.2 v0.toNat 82) 100 (w32 (16 + (h3.2 v0.toNat 66))) then
                    bif ain h3.1 (h3.2 v0.toNat 82) 100 (w32 (16 + (h3.2 v0.toNat 66))) then
                      ev xs d mm_303 103 [some (.inr (.inr v0)), some (.inl v1), some (.inr (.inl v2)), u3] [] (h3.1, aup h3.2 (h3.2 v0.toNat 82).toNat (w32 (16 + (h3.2 v0.toNat 66))).toNat (w32 ((h3.2 (h3.2 v0.toNat 82).toNat (w32 (16 + (h3.2 v0.toNat 66))).toNat) + 1)))
                    else none
                  else none
                else none
              else none
          else none
        else
          ev xs d mm_303 62 [some (.inr (.inr v0)), some (.inl v1), some (.inr (.inl v2)), u3] [] h3)
      else none)
  else none :=
  (aB gP gX xs stp_303 22 d mm_303 62 _ _ h).trans rfl

set_option maxRecDepth 100000 in
set_option maxHeartbeats 4000000 in
theorem q_303_103 (xs : List Int) (d : Nat) (v0 : Int) (v1 : Int) (v2 : Int) (u3 : Option aV) (h : aH) : ev xs d mm_303 103 [some (.inr (.inr v0)), some (.inl v1), some (.inr (.inl v2)), u3] [] h =
  bif aok h.1 v0 12 then
    bif aok h.1 v0 12 then
      bif ain h.1 (h.2 v0.toNat 82) 100 (h.2 v0.toNat 67) then
        bif ain h.1 (h.2 v0.toNat 82) 100 (h.2 v0.toNat 67) then
          bif aok h.1 v0 12 then
            bif decide (((aup h.2 (h.2 v0.toNat 82).toNat (h.2 v0.toNat 67).toNat (w32 ((h.2 (h.2 v0.toNat 82).toNat (h.2 v0.toNat 67).toNat) + 1))) v0.toNat 68) < 0) then
              ev xs d mm_303 139 [some (.inr (.inr v0)), some (.inl v1), some (.inr (.inl v2)), u3] [] (h.1, aup h.2 (h.2 v0.toNat 82).toNat (h.2 v0.toNat 67).toNat (w32 ((h.2 (h.2 v0.toNat 82).toNat (h.2 v0.toNat 67).toNat) + 1)))
            else
              bif aok h.1 v0 12 then
                bif aok h.1 v0 12 then
                  bif ain h.1 ((aup h.2 (h.2 v0.toNat 82).toNat (h.2 v0.toNat 67).toNat (w32 ((h.2 (h.2 v0.toNat 82).toNat (h.2 v0.toNat 67).toNat) + 1))) v0.toNat 82) 100 (w32 (8 + ((aup h.2 (h.2 v0.toNat 82).toNat (h.2 v0.toNat 67).toNat (w32 ((h.2 (h.2 v0.toNat 82).toNat (h.2 v0.toNat 67).toNat) + 1))) v0.toNat 68))) then
                    bif ain h.1 ((aup h.2 (h.2 v0.toNat 82).toNat (h.2 v0.toNat 67).toNat (w32 ((h.2 (h.2 v0.toNat 82).toNat (h.2 v0.toNat 67).toNat) + 1))) v0.toNat 82) 100 (w32 (8 + ((aup h.2 (h.2 v0.toNat 82).toNat (h.2 v0.toNat 67).toNat (w32 ((h.2 (h.2 v0.toNat 82).toNat (h.2 v0.toNat 67).toNat) + 1))) v0.toNat 68))) then
                      ev xs d mm_303 139 [some (.inr (.inr v0)), some (.inl v1), some (.inr (.inl v2)), u3] [] (h.1, aup (aup h.2 (h.2 v0.toNat 82).toNat (h.2 v0.toNat 67).toNat (w32 ((h.2 (h.2 v0.toNat 82).toNat (h.2 v0.toNat 67).toNat) + 1))) ((aup h.2 (h.2 v0.toNat 82).toNat (h.2 v0.toNat 67).toNat (w32 ((h.2 (h.2 v0.toNat 82).toNat (h.2 v0.toNat 67).toNat) + 1))) v0.toNat 82).toNat (w32 (8 + ((aup h.2 (h.2 v0.toNat 82).toNat (h.2 v0.toNat 67).toNat (w32 ((h.2 (h.2 v0.toNat 82).toNat (h.2 v0.toNat 67).toNat) + 1))) v0.toNat 68))).toNat (w32 (((aup h.2 (h.2 v0.toNat 82).toNat (h.2 v0.toNat 67).toNat (w32 ((h.2 (h.2 v0.toNat 82).toNat (h.2 v0.toNat 67).toNat) + 1))) ((aup h.2 (h.2 v0.toNat 82).toNat (h.2 v0.toNat 67).toNat (w32 ((h.2 (h.2 v0.toNat 82).toNat (h.2 v0.toNat 67).toNat) + 1))) v0.toNat 82).toNat (w32 (8 + ((aup h.2 (h.2 v0.toNat 82).toNat (h.2 v0.toNat 67).toNat (w32 ((h.2 (h.2 v0.toNat 82).toNat (h.2 v0.toNat 67).toNat) + 1))) v0.toNat 68))).toNat) + 1)))
                    else none
                  else none
                else none
              else none
          else none
        else none
      else none
    else none
  else none :=
  (aB gP gX xs stp_303 24 d mm_303 103 _ _ h).trans rfl

set_option maxRecDepth 100000 in
set_option maxHeartbeats 4000000 in
theorem q_303_139 (xs : List Int) (d : Nat) (v0 : Int) (v1 : Int) (v2 : Int) (u3 : Option aV) (h : aH) : ev xs d mm_303 139 [some (.inr (.inr v0)), some (.inl v1), some (.inr (.inl v2)), u3] [] h =
  bif aok h.1 v0 12 then
    bif decide ((h.2 v0.toNat 69) < 0) then
      ev xs d mm_303 62 [some (.inr (.inr v0)), some (.inl v1), some (.inr (.inl v2)), u3] [] h
    else
      bif aok h.1 v0 12 then
        bif aok h.1 v0 12 then
          bif ain h.1 (h.2 v0.toNat 82) 100 (w32 (8 + (h.2 v0.toNat 69))) then
            bif ain h.1 (h.2 v0.toNat 82) 100 (w32 (8 + (h.2 v0.toNat 69))) then
              ev xs d mm_303 62 [some (.inr (.inr v0)), some (.inl v1), some (.inr (.inl v2)), u3] [] (h.1, aup h.2 (h.2 v0.toNat 82).toNat (w32 (8 + (h.2 v0.toNat 69))).toNat (w32 ((h.2 (h.2 v0.toNat 82).toNat (w32 (8 + (h.2 v0.toNat 69))).toNat) + 1)))
            else none
          else none
        else none
      else none
  else none :=
  (aB gP gX xs stp_303 16 d mm_303 139 _ _ h).trans rfl

set_option maxRecDepth 100000 in
set_option maxHeartbeats 4000000 in
theorem q_303_165 (xs : List Int) (d : Nat) (v0 : Int) (v1 : Int) (u2 : Option aV) (u3 : Option aV) (h : aH) : ev xs d mm_303 165 [some (.inr (.inr v0)), some (.inl v1), u2, u3] [] h =
  ev xs d mm_303 23 [some (.inr (.inr v0)), some (.inl (w32 (v1 + 1))), u2, u3] [] h :=
  (aB gP gX xs stp_303 3 d mm_303 165 _ _ h).trans rfl

def stp_304 : List Nat := [0, 18, 52, 99, 124]
set_option maxRecDepth 100000 in
set_option maxHeartbeats 4000000 in
theorem q_304_0 (xs : List Int) (d : Nat) (v0 : Int) (v1 : Int) (v2 : Int) (h : aH) : ev xs d mm_304 0 [some (.inr (.inr v0)), some (.inl v1), some (.inl v2), none, none] [] h =
  bI (cl xs d 226 [.inl v1, .inl 0, .inl 2] h) (fun x2 h1 =>
    bif decide (x2 = 0) then
      ev xs d mm_304 18 [some (.inr (.inr v0)), some (.inl v1), some (.inl v2), none, none] [] h1
    else
      bI (cl xs d 226 [.inl v2, .inl 0, .inl 1] h1) (fun x4 h3 =>
        bif decide (¬ x4 = 0) then
          bif aok h3.1 v0 12 then
            bif aok h3.1 v0 12 then
              bif ain h3.1 (h3.2 v0.toNat 30) 100 (w32 ((w32 (3 * (h3.2 v0.toNat 18))) + v1)) then
                bif decide (¬ (h3.2 (h3.2 v0.toNat 30).toNat (w32 ((w32 (3 * (h3.2 v0.toNat 18))) + v1)).toNat) = 0) then
                  bif aok h3.1 v0 12 && true then
                    bV (cl xs d 229 [.inr (.inr v0)] h3) (fun h5 =>
                    bif aok h5.1 v0 12 && true then
                      bV (cl xs d 303 [.inr (.inr v0)] h5) (fun h6 =>
                      ev xs d mm_304 52 [some (.inr (.inr v0)), some (.inl v1), some (.inl v2), some (.inl 0), some (.inl 1)] [] h6)
                    else none)
                  else none
                else
                  some (some (.inl (-2)), h3)
              else none
            else none
          else none
        else
          ev xs d mm_304 18 [some (.inr (.inr v0)), some (.inl v1), some (.inl v2), none, none] [] h3)) :=
  (aB gP gX xs stp_304 29 d mm_304 0 _ _ h).trans rfl

set_option maxRecDepth 100000 in
set_option maxHeartbeats 4000000 in
theorem q_304_18 (xs : List Int) (d : Nat) (v0 : Int) (v1 : Int) (v2 : Int) (u3 : Option aV) (u4 : Option aV) (h : aH) : ev xs d mm_304 18 [some (.inr (.inr v0)), some (.inl v1), some (.inl v2), u3, u4] [] h =
  some (some (.inl (-1)), h) :=
  (aB gP gX xs stp_304 3 d mm_304 18 _ _ h).trans rfl

set_option maxRecDepth 100000 in
set_option maxHeartbeats 4000000 in
theorem q_304_52 (xs : List Int) (d : Nat) (v0 : Int) (v1 : Int) (v2 : Int) (v3 : Int) (v4 : Int) (h : aH) : ev xs d mm_304 52 [some (.inr (.inr v0)), some (.inl v1), some (.inl v2), some (.inl v3), some (.inl v4)] [] h =
  bif aok h.1 v0 12 then
    bif aok h.1 v0 12 then
      bif ain h.1 (h.2 v0.toNat 30) 100 (w32 ((w32 (3 * (h.2 v0.toNat 18))) + v1)) then
        bif decide ((h.2 (h.2 v0.toNat 30).toNat (w32 ((w32 (3 * (h.2 v0.toNat 18))) + v1)).toNat) ≤ v4) then
          bif decide (¬ v2 = 0) then
            bif aok h.1 v0 12 then
              bif ain h.1 (h.2 v0.toNat 82) 100 (w32 ((w32 (8 * v1)) + v3)) then
                ev xs d mm_304 124 [some (.inr (.inr v0)), some (.inl v1), some (.inl v2), some (.inl v3), some (.inl v4)] [.inl (h.2 (h.2 v0.toNat 82).toNat (w32 ((w32 (8 * v1)) + v3)).toNat)] h
              else none
            else none
          else
            ev xs d mm_304 124 [some (.inr (.inr v0)), some (.inl v1), some (.inl v2), some (.inl v3), some (.inl v4)] [.inl v3] h
        else
          bif aok h.1 v0 12 then
            bif ain h.1 (h.2 v0.toNat 82) 100 (w32 ((w32 (8 * v1)) + v4)) then
              bif aok h.1 v0 12 then
                bif ain h.1 (h.2 v0.toNat 82) 100 (w32 ((w32 (8 * v1)) + v3)) then
                  bif decide ((h.2 (h.2 v0.toNat 82).toNat (w32 ((w32 (8 * v1)) + v4)).toNat) ≤ (h.2 (h.2 v0.toNat 82).toNat (w32 ((w32 (8 * v1)) + v3)).toNat)) then
                    ev xs d mm_304 99 [some (.inr (.inr v0)), some (.inl v1), some (.inl v2), some (.inl v3), some (.inl v4)] [] h
                  else
                    ev xs d mm_304 99 [some (.inr (.inr v0)), some (.inl v1), some (.inl v2), some (.inl v4), some (.inl v4)] [] h
                else none
              else none
            else none
          else none
      else none
    else none
  else none :=
  (aB gP gX xs stp_304 31 d mm_304 52 _ _ h).trans rfl

set_option maxRecDepth 100000 in
set_option maxHeartbeats 4000000 in
theorem q_304_99 (xs : List Int) (d : Nat) (v0 : Int) (v1 : Int) (v2 : Int) (v3 : Int) (v4 : Int) (h : aH) : ev xs d mm_304 99 [some (.inr (.inr v0)), some (.inl v1), some (.inl v2), some (.inl v3), some (.inl v4)] [] h =
  ev xs d mm_304 52 [some (.inr (.inr v0)), some (.inl v1), some (.inl v2), some (.inl v3), some (.inl (w32 (v4 + 1)))] [] h :=
  (aB gP gX xs stp_304 3 d mm_304 99 _ _ h).trans rfl

set_option maxRecDepth 100000 in
set_option maxHeartbeats 4000000 in
theorem q_304_124 (xs : List Int) (d : Nat) (v0 : Int) (v1 : Int) (v2 : Int) (v3 : Int) (v4 : Int) (s0 : Int) (h : aH) : ev xs d mm_304 124 [some (.inr (.inr v0)), some (.inl v1), some (.inl v2), some (.inl v3), some (.inl v4)] [.inl s0] h =
  some (some (.inl s0), h) :=
  (aB gP gX xs stp_304 2 d mm_304 124 _ _ h).trans rfl

def stp_305 : List Nat := [0, 12, 42]
set_option maxRecDepth 100000 in
set_option maxHeartbeats 4000000 in
theorem q_305_0 (xs : List Int) (d : Nat) (v0 : Int) (h : aH) : ev xs d mm_305 0 [some (.inr (.inr v0)), none, none] [] h =
  bif aok h.1 v0 12 && true then
    bV (cl xs d 229 [.inr (.inr v0)] h) (fun h1 =>
    bif aok h1.1 v0 12 && true then
      bV (cl xs d 303 [.inr (.inr v0)] h1) (fun h2 =>
      ev xs d mm_305 12 [some (.inr (.inr v0)), some (.inl 0), some (.inl 0)] [] h2)
    else none)
  else none :=
  (aB gP gX xs stp_305 9 d mm_305 0 _ _ h).trans rfl

set_option maxRecDepth 100000 in
set_option maxHeartbeats 4000000 in
theorem q_305_12 (xs : List Int) (d : Nat) (v0 : Int) (v1 : Int) (v2 : Int) (h : aH) : ev xs d mm_305 12 [some (.inr (.inr v0)), some (.inl v1), some (.inl v2)] [] h =
  bif aok h.1 v0 12 then
    bif aok h.1 v0 12 then
      bif ain h.1 (h.2 v0.toNat 30) 100 (w32 (3 * (h.2 v0.toNat 18))) then
        bif decide ((h.2 (h.2 v0.toNat 30).toNat (w32 (3 * (h.2 v0.toNat 18))).toNat) ≤ v2) then
          some (some (.inl v1), h)
        else
          bif aok h.1 v0 12 then
            bif ain h.1 (h.2 v0.toNat 82) 100 v2 then
              bif decide (¬ (h.2 (h.2 v0.toNat 82).toNat v2.toNat) = 0) then
                ev xs d mm_305 42 [some (.inr (.inr v0)), some (.inl v1), some (.inl v2)] [] h
              else
                ev xs d mm_305 42 [some (.inr (.inr v0)), some (.inl (oor v1 (oshl 1 v2))), some (.inl v2)] [] h
            else none
          else none
      else none
    else none
  else none :=
  (aB gP gX xs stp_305 21 d mm_305 12 _ _ h).trans rfl

set_option maxRecDepth 100000 in
set_option maxHeartbeats 4000000 in
theorem q_305_42 (xs : List Int) (d : Nat) (v0 : Int) (v1 : Int) (v2 : Int) (h : aH) : ev xs d mm_305 42 [some (.inr (.inr v0)), some (.inl v1), some (.inl v2)] [] h =
  ev xs d mm_305 12 [some (.inr (.inr v0)), some (.inl v1), some (.inl (w32 (v2 + 1)))] [] h :=
  (aB gP gX xs stp_305 3 d mm_305 42 _ _ h).trans rfl

def stp_306 : List Nat := [0, 55]
set_option maxRecDepth 100000 in
set_option maxHeartbeats 4000000 in
theorem q_306_0 (xs : List Int) (d : Nat) (v0 : Int) (v1 : Int) (v2 : Int) (h : aH) : ev xs d mm_306 0 [some (.inr (.inr v0)), some (.inl v1), some (.inl v2), none] [] h =
  bif aok h.1 v0 12 && true then
    bI (cl xs d 232 [.inr (.inr v0), .inl v1, .inl v2] h) (fun x2 h1 =>
    bif decide (¬ x2 = 0) then
      bif aok h1.1 v0 12 && true then
        bV (cl xs d 229 [.inr (.inr v0)] h1) (fun h3 =>
        bif aok h3.1 v0 12 && true then
          bI (cl xs d 268 [.inr (.inr v0)] h3) (fun x5 h4 =>
          bif aok h4.1 v0 12 && true then
            bI (cl xs d 266 [.inr (.inr v0), .inl x5, .inl (w32 ((w32 (8 * v1)) + v2))] h4) (fun x7 h6 =>
            bif aok h6.1 v0 12 then
              bif ain h6.1 (h6.2 v0.toNat 64) 101 (w32 ((w32 (20 + (w32 (8 * v1)))) + v2)) then
                bif decide (0 ≤ (w32 (x7 - (ol2i (h6.2 (h6.2 v0.toNat 64).toNat (w32 ((w32 (20 + (w32 (8 * v1)))) + v2)).toNat))))) then
                  ev xs d mm_306 55 [some (.inr (.inr v0)), some (.inl v1), some (.inl v2), some (.inl (w32 (x7 - (ol2i (h6.2 (h6.2 v0.toNat 64).toNat (w32 ((w32 (20 + (w32 (8 * v1)))) + v2)).toNat)))))] [.inl (w32 (x7 - (ol2i (h6.2 (h6.2 v0.toNat 64).toNat (w32 ((w32 (20 + (w32 (8 * v1)))) + v2)).toNat))))] h6
                else
                  ev xs d mm_306 55 [some (.inr (.inr v0)), some (.inl v1), some (.inl v2), some (.inl (w32 (x7 - (ol2i (h6.2 (h6.2 v0.toNat 64).toNat (w32 ((w32 (20 + (w32 (8 * v1)))) + v2)).toNat)))))] [.inl 0] h6
              else none
            else none)
          else none)
        else none)
      else none
    else
      some (some (.inl (-1)), h1))
  else none :=
  (aB gP gX xs stp_306 34 d mm_306 0 _ _ h).trans rfl

set_option maxRecDepth 100000 in
set_option maxHeartbeats 4000000 in
theorem q_306_55 (xs : List Int) (d : Nat) (v0 : Int) (v1 : Int) (v2 : Int) (v3 : Int) (s0 : Int) (h : aH) : ev xs d mm_306 55 [some (.inr (.inr v0)), some (.inl v1), some (.inl v2), some (.inl v3)] [.inl s0] h =
  some (some (.inl s0), h) :=
  (aB gP gX xs stp_306 2 d mm_306 55 _ _ h).trans rfl

def stp_307 : List Nat := [0, 4, 42]
set_option maxRecDepth 100000 in
set_option maxHeartbeats 4000000 in
theorem q_307_0 (xs : List Int) (d : Nat) (v0 : Int) (v1 : Int) (h : aH) : ev xs d mm_307 0 [some (.inr (.inr v0)), some (.inl v1), none, none] [] h =
  ev xs d mm_307 4 [some (.inr (.inr v0)), some (.inl v1), some (.inl 0), some (.inl 0)] [] h :=
  (aB gP gX xs stp_307 5 d mm_307 0 _ _ h).trans rfl

set_option maxRecDepth 100000 in
set_option maxHeartbeats 4000000 in
theorem q_307_4 (xs : List Int) (d : Nat) (v0 : Int) (v1 : Int) (v2 : Int) (v3 : Int) (h : aH) : ev xs d mm_307 4 [some (.inr (.inr v0)), some (.inl v1), some (.inl v2), some (.inl v3)] [] h =
  bif aok h.1 v0 12 then
    bif aok h.1 v0 12 then
      bif ain h.1 (h.2 v0.toNat 39) 100 (h.2 v0.toNat 18) then
        bif decide ((h.2 (h.2 v0.toNat 39).toNat (h.2 v0.toNat 18).toNat) ≤ v3) then
          some (some (.inl v2), h)
        else
          bif decide (¬ (oand (oshr v1 v3) 1) = 1) then
            ev xs d mm_307 42 [some (.inr (.inr v0)), some (.inl v1), some (.inl v2), some (.inl v3)] [] h
          else
            bif aok h.1 v0 12 then
              bif aok h.1 v0 12 then
                bif ain h.1 (h.2 v0.toNat 40) 100 (w32 ((w32 (5 * (h.2 v0.toNat 18))) + v3)) then
                  ev xs d mm_307 42 [some (.inr (.inr v0)), some (.inl v1), some (.inl (w32 (v2 + (h.2 (h.2 v0.toNat 40).toNat (w32 ((w32 (5 * (h.2 v0.toNat 18))) + v3)).toNat)))), some (.inl v3)] [] h
                else none
              else none
            else none
      else none
    else none
  else none :=
  (aB gP gX xs stp_307 27 d mm_307 4 _ _ h).trans rfl

set_option maxRecDepth 100000 in
set_option maxHeartbeats 4000000 in
theorem q_307_42 (xs : List Int) (d : Nat) (v0 : Int) (v1 : Int) (v2 : Int) (v3 : Int) (h : aH) : ev xs d mm_307 42 [some (.inr (.inr v0)), some (.inl v1), some (.inl v2), some (.inl v3)] [] h =
  ev xs d mm_307 4 [some (.inr (.inr v0)), some (.inl v1), some (.inl v2), some (.inl (w32 (v3 + 1)))] [] h :=
  (aB gP gX xs stp_307 3 d mm_307 42 _ _ h).trans rfl

def stp_308 : List Nat := [0, 19, 68, 87]
set_option maxRecDepth 100000 in
set_option maxHeartbeats 4000000 in
theorem q_308_0 (xs : List Int) (d : Nat) (v0 : Int) (v1 : Int) (h : aH) : ev xs d mm_308 0 [some (.inr (.inr v0)), some (.inl v1), none, none] [] h =
  bI (cl xs d 226 [.inl v1, .inl 0, .inl 1] h) (fun x2 h1 =>
    bif decide (¬ x2 = 0) then
      bif aok h1.1 v0 12 && true then
        bV (cl xs d 229 [.inr (.inr v0)] h1) (fun h3 =>
        ev xs d mm_308 19 [some (.inr (.inr v0)), some (.inl v1), some (.inl 0), some (.inl 1)] [] h3)
      else none
    else
      some (some (.inl (-1)), h1)) :=
  (aB gP gX xs stp_308 12 d mm_308 0 _ _ h).trans rfl

set_option maxRecDepth 100000 in
set_option maxHeartbeats 4000000 in
theorem q_308_19 (xs : List Int) (d : Nat) (v0 : Int) (v1 : Int) (v2 : Int) (v3 : Int) (h : aH) : ev xs d mm_308 19 [some (.inr (.inr v0)), some (.inl v1), some (.inl v2), some (.inl v3)] [] h =
  bif aok h.1 v0 12 then
    bif aok h.1 v0 12 then
      bif ain h.1 (h.2 v0.toNat 39) 100 (h.2 v0.toNat 18) then
        bif decide ((oshl 1 (h.2 (h.2 v0.toNat 39).toNat (h.2 v0.toNat 18).toNat)) ≤ v3) then
          bif decide (¬ v1 = 0) then
            ev xs d mm_308 87 [some (.inr (.inr v0)), some (.inl v1), some (.inl v2), some (.inl v3)] [.inl v2] h
          else
            bif aok h.1 v0 12 && true then
              bI (cl xs d 307 [.inr (.inr v0), .inl v2] h) (fun x2 h1 =>
              ev xs d mm_308 87 [some (.inr (.inr v0)), some (.inl v1), some (.inl v2), some (.inl v3)] [.inl x2] h1)
            else none
        else
          bif aok h.1 v0 12 && true then
            bI (cl xs d 268 [.inr (.inr v0)] h) (fun x4 h3 =>
            bif decide (¬ (oand v3 (oxor x4 (-1))) = 0) then
              ev xs d mm_308 68 [some (.inr (.inr v0)), some (.inl v1), some (.inl v2), some (.inl v3)] [] h3
            else
              bif aok h3.1 v0 12 && true then
                bI (cl xs d 267 [.inr (.inr v0), .inl v3] h3) (fun x6 h5 =>
                bif decide (x6 = 0) then
                  ev xs d mm_308 68 [some (.inr (.inr v0)), some (.inl v1), some (.inl v2), some (.inl v3)] [] h5
                else
                  bif aok h5.1 v0 12 && true then
                    bI (cl xs d 307 [.inr (.inr v0), .inl v3] h5) (fun x8 h7 =>
                    bif aok h7.1 v0 12 && true then
                      bI (cl xs d 307 [.inr (.inr v0), .inl v2] h7) (fun x10 h9 =>
                      bif decide (x8 ≤ x10) then
                        ev xs d mm_308 68 [some (.inr (.inr v0)), some (.inl v1), some (.inl v2), some (.inl v3)] [] h9
                      else
                        ev xs d mm_308 68 [some (.inr (.inr v0)), some (.inl v1), some (.inl v3), some (.inl v3)] [] h9)
                    else none)
                  else none)
              else none)
          else none
      else none
    else none
  else none :=
  (aB gP gX xs stp_308 30 d mm_308 19 _ _ h).trans rfl

set_option maxRecDepth 100000 in
set_option maxHeartbeats 4000000 in
theorem q_308_68 (xs : List Int) (d : Nat) (v0 : Int) (v1 : Int) (v2 : Int) (v3 : Int) (h : aH) : ev xs d mm_308 68 [some (.inr (.inr v0)), some (.inl v1), some (.inl v2), some (.inl v3)] [] h =
  ev xs d mm_308 19 [some (.inr (.inr v0)), some (.inl v1), some (.inl v2), some (.inl (w32 (v3 + 1)))] [] h :=
  (aB gP gX xs stp_308 3 d mm_308 68 _ _ h).trans rfl

set_option maxRecDepth 100000 in
set_option maxHeartbeats 4000000 in
theorem q_308_87 (xs : List Int) (d : Nat) (v0 : Int) (v1 : Int) (v2 : Int) (v3 : Int) (s0 : Int) (h : aH) : ev xs d mm_308 87 [some (.inr (.inr v0)), some (.inl v1), some (.inl v2), some (.inl v3)] [.inl s0] h =
  some (some (.inl s0), h) :=
  (aB gP gX xs stp_308 2 d mm_308 87 _ _ h).trans rfl

def stp_309 : List Nat := [0, 6]
set_option maxRecDepth 100000 in
set_option maxHeartbeats 4000000 in
theorem q_309_0 (xs : List Int) (d : Nat) (v0 : Int) (v1 : Int) (h : aH) : ev xs d mm_309 0 [some (.inr (.inr v0)), some (.inl v1), none] [] h =
  bif aok h.1 v0 12 && true then
    bV (cl xs d 229 [.inr (.inr v0)] h) (fun h1 =>
    ev xs d mm_309 6 [some (.inr (.inr v0)), some (.inl v1), some (.inl 0)] [] h1)
  else none :=
  (aB gP gX xs stp_309 5 d mm_309 0 _ _ h).trans rfl

set_option maxRecDepth 100000 in
set_option maxHeartbeats 4000000 in
theorem q_309_6 (xs : List Int) (d : Nat) (v0 : Int) (v1 : Int) (v2 : Int) (h : aH) : ev xs d mm_309 6 [some (.inr (.inr v0)), some (.inl v1), some (.inl v2)] [] h =
  bif decide (v1 ≤ v2) then
    some (none, h)
  else
    bif aok h.1 v0 12 && true then
      bV (cl xs d 273 [.inr (.inr v0)] h) (fun h1 =>
      ev xs d mm_309 6 [some (.inr (.inr v0)), some (.inl v1), some (.inl (w32 (v2 + 1)))] [] h1)
    else none :=
  (aB gP gX xs stp_309 8 d mm_309 6 _ _ h).trans rfl

def stp_310 : List Nat := [0, 29, 65]
set_option maxRecDepth 100000 in
set_option maxHeartbeats 4000000 in
theorem q_310_0 (xs : List Int) (d : Nat) (v0 : Int) (v1 : Int) (v2 : Int) (v3 : Int) (h : aH) : ev xs d mm_310 0 [some (.inr (.inr v0)), some (.inl v1), some (.inl v2), some (.inl v3)] [] h =
  bif aok h.1 v0 12 && true then
    bI (cl xs d 230 [.inr (.inr v0), .inl v1] h) (fun x2 h1 =>
    bif decide (x2 = 0) then
      ev xs d mm_310 29 [some (.inr (.inr v0)), some (.inl v1), some (.inl v2), some (.inl v3)] [] h1
    else
      bI (cl xs d 226 [.inl v2, .inl 0, .inl 300] h1) (fun x4 h3 =>
        bif decide (x4 = 0) then
          ev xs d mm_310 29 [some (.inr (.inr v0)), some (.inl v1), some (.inl v2), some (.inl v3)] [] h3
        else
          bI (cl xs d 226 [.inl v3, .inl 0, .inl 9] h3) (fun x6 h5 =>
            bif decide (¬ x6 = 0) then
              bif aok h5.1 v0 12 && true then
                bV (cl xs d 309 [.inr (.inr v0), .inl v2] h5) (fun h7 =>
                bif decide (¬ v3 = 9) then
                  bif aok h7.1 v0 12 then
                    bif ain h7.1 (h7.2 v0.toNat 64) 101 v1 then
                      bI (cl xs d 242 [.inr (.inl (h7.2 (h7.2 v0.toNat 64).toNat v1.toNat)), .inl v3] h7) (fun x9 h8 =>
                        ev xs d mm_310 65 [some (.inr (.inr v0)), some (.inl v1), some (.inl v2), some (.inl v3)] [.inl x9] h8)
                    else none
                  else none
                else
                  bif aok h7.1 v0 12 then
                    bif ain h7.1 (h7.2 v0.toNat 64) 101 (w32 (10 + v1)) then
                      ev xs d mm_310 65 [some (.inr (.inr v0)), some (.inl v1), some (.inl v2), some (.inl v3)] [.inl (ol2i (h7.2 (h7.2 v0.toNat 64).toNat (w32 (10 + v1)).toNat))] h7
                    else none
                  else none)
              else none
            else
              ev xs d mm_310 29 [some (.inr (.inr v0)), some (.inl v1), some (.inl v2), some (.inl v3)] [] h5)))
  else none :=
  (aB gP gX xs stp_310 29 d mm_310 0 _ _ h).trans rfl

set_option maxRecDepth 100000 in
set_option maxHeartbeats 4000000 in
theorem q_310_29 (xs : List Int) (d : Nat) (v0 : Int) (v1 : Int) (v2 : Int) (v3 : Int) (h : aH) : ev xs d mm_310 29 [some (.inr (.inr v0)), some (.inl v1), some (.inl v2), some (.inl v3)] [] h =
  some (some (.inl (-1)), h) :=
  (aB gP gX xs stp_310 3 d mm_310 29 _ _ h).trans rfl

set_option maxRecDepth 100000 in
set_option maxHeartbeats 4000000 in
theorem q_310_65 (xs : List Int) (d : Nat) (v0 : Int) (v1 : Int) (v2 : Int) (v3 : Int) (s0 : Int) (h : aH) : ev xs d mm_310 65 [some (.inr (.inr v0)), some (.inl v1), some (.inl v2), some (.inl v3)] [.inl s0] h =
  some (some (.inl s0), h) :=
  (aB gP gX xs stp_310 2 d mm_310 65 _ _ h).trans rfl

def stp_311 : List Nat := [0]
set_option maxRecDepth 100000 in
set_option maxHeartbeats 4000000 in
theorem q_311_0 (xs : List Int) (d : Nat) (v0 : Int) (v1 : Int) (h : aH) : ev xs d mm_311 0 [some (.inr (.inr v0)), some (.inl v1)] [] h =
  bI (cl xs d 226 [.inl v1, .inl 0, .inl 300] h) (fun x2 h1 =>
    bif decide (¬ x2 = 0) then
      bif aok h1.1 v0 12 && true then
        bV (cl xs d 309 [.inr (.inr v0), .inl v1] h1) (fun h3 =>
        bif aok h3.1 v0 12 && true then
          bI (cl xs d 234 [.inr (.inr v0)] h3) (fun x5 h4 =>
          some (some (.inl x5), h4))
        else none)
      else none
    else
      some (some (.inl (-1)), h1)) :=
  (aB gP gX xs stp_311 12 d mm_311 0 _ _ h).trans rfl

def stp_312 : List Nat := [0, 27]
set_option maxRecDepth 100000 in
set_option maxHeartbeats 4000000 in
theorem q_312_0 (xs : List Int) (d : Nat) (v0 : Int) (v1 : Int) (h : aH) : ev xs d mm_312 0 [some (.inr (.inr v0)), some (.inl v1), none] [] h =
  bif aok h.1 v0 12 && true then
    bI (cl xs d 230 [.inr (.inr v0), .inl v1] h) (fun x2 h1 =>
    bif decide (¬ x2 = 0) then
      bif aok h1.1 v0 12 && true then
        bV (cl xs d 229 [.inr (.inr v0)] h1) (fun h3 =>
        bif aok h3.1 v0 12 && true then
          bI (cl xs d 233 [.inr (.inr v0), .inl v1] h3) (fun x5 h4 =>
          bif decide (¬ x5 = 0) then
            ev xs d mm_312 27 [some (.inr (.inr v0)), some (.inl v1), some (.inl 1)] [] h4
          else
            some (some (.inl (-2)), h4))
        else none)
      else none
    else
      some (some (.inl (-1)), h1))
  else none :=
  (aB gP gX xs stp_312 13 d mm_312 0 _ _ h).trans rfl

set_option maxRecDepth 100000 in
set_option maxHeartbeats 4000000 in
theorem q_312_27 (xs : List Int) (d : Nat) (v0 : Int) (v1 : Int) (v2 : Int) (h : aH) : ev xs d mm_312 27 [some (.inr (.inr v0)), some (.inl v1), some (.inl v2)] [] h =
  bif decide (300 < v2) then
    some (some (.inl (-2)), h)
  else
    bif aok h.1 v0 12 && true then
      bV (cl xs d 273 [.inr (.inr v0)] h) (fun h1 =>
      bif aok h1.1 v0 12 && true then
        bI (cl xs d 233 [.inr (.inr v0), .inl v1] h1) (fun x3 h2 =>
        bif decide (¬ x3 = 0) then
          ev xs d mm_312 27 [some (.inr (.inr v0)), some (.inl v1), some (.inl (w32 (v2 + 1)))] [] h2
        else
          some (some (.inl v2), h2))
      else none)
    else none :=
  (aB gP gX xs stp_312 12 d mm_312 27 _ _ h).trans rfl

def stp_313 : List Nat := [0, 20]
set_option maxRecDepth 100000 in
set_option maxHeartbeats 4000000 in
theorem q_313_0 (xs : List Int) (d : Nat) (v0 : Int) (v1 : Int) (h : aH) : ev xs d mm_313 0 [some (.inr (.inr v0)), some (.inl v1), none] [] h =
  bI (cl xs d 226 [.inl v1, .inl 0, .inl 2] h) (fun x2 h1 =>
    bif decide (¬ x2 = 0) then
      bif aok h1.1 v0 12 then
        bif ain h1.1 (h1.2 v0.toNat 83) 103 v1 && true then
          ev xs d mm_313 20 [some (.inr (.inr v0)), some (.inl v1), some (.inl 0)] [] (h1.1, aup h1.2 (h1.2 v0.toNat 83).toNat v1.toNat 1)
        else none
      else none
    else
      some (some (.inl 0), h1)) :=
  (aB gP gX xs stp_313 13 d mm_313 0 _ _ h).trans rfl

set_option maxRecDepth 100000 in
set_option maxHeartbeats 4000000 in
theorem q_313_20 (xs : List Int) (d : Nat) (v0 : Int) (v1 : Int) (v2 : Int) (h : aH) : ev xs d mm_313 20 [some (.inr (.inr v0)), some (.inl v1), some (.inl v2)] [] h =
  bif decide (60 ≤ v2) then
    some (some (.inl 1), h)
  else
    bif aok h.1 v0 12 then
      bif aok h.1 v0 12 then
        bif ain h.1 (h.2 v0.toNat 63) 101 v2 then
          bif ain h.1 (h.2 v0.toNat 84) 101 (w32 ((w32 (60 * v1)) + v2)) then
            ev xs d mm_313 20 [some (.inr (.inr v0)), some (.inl v1), some (.inl (w32 (v2 + 1)))] [] (h.1, aup h.2 (h.2 v0.toNat 84).toNat (w32 ((w32 (60 * v1)) + v2)).toNat (h.2 (h.2 v0.toNat 63).toNat v2.toNat))
          else none
        else none
      else none
    else none :=
  (aB gP gX xs stp_313 18 d mm_313 20 _ _ h).trans rfl

def stp_314 : List Nat := [0, 18, 22]
set_option maxRecDepth 100000 in
set_option maxHeartbeats 4000000 in
theorem q_314_0 (xs : List Int) (d : Nat) (v0 : Int) (v1 : Int) (h : aH) : ev xs d mm_314 0 [some (.inr (.inr v0)), some (.inl v1), none] [] h =
  bI (cl xs d 226 [.inl v1, .inl 0, .inl 2] h) (fun x2 h1 =>
    bif decide (x2 = 0) then
      ev xs d mm_314 18 [some (.inr (.inr v0)), some (.inl v1), none] [] h1
    else
      bif aok h1.1 v0 12 then
        bif ain h1.1 (h1.2 v0.toNat 83) 103 v1 then
          bif decide (¬ (h1.2 (h1.2 v0.toNat 83).toNat v1.toNat) = 0) then
            ev xs d mm_314 22 [some (.inr (.inr v0)), some (.inl v1), some (.inl 0)] [] h1
          else
            ev xs d mm_314 18 [some (.inr (.inr v0)), some (.inl v1), none] [] h1
        else none
      else none) :=
  (aB gP gX xs stp_314 13 d mm_314 0 _ _ h).trans rfl

set_option maxRecDepth 100000 in
set_option maxHeartbeats 4000000 in
theorem q_314_18 (xs : List Int) (d : Nat) (v0 : Int) (v1 : Int) (u2 : Option aV) (h : aH) : ev xs d mm_314 18 [some (.inr (.inr v0)), some (.inl v1), u2] [] h =
  some (some (.inl 0), h) :=
  (aB gP gX xs stp_314 3 d mm_314 18 _ _ h).trans rfl

set_option maxRecDepth 100000 in
set_option maxHeartbeats 4000000 in
theorem q_314_22 (xs : List Int) (d : Nat) (v0 : Int) (v1 : Int) (v2 : Int) (h : aH) : ev xs d mm_314 22 [some (.inr (.inr v0)), some (.inl v1), some (.inl v2)] [] h =
  bif decide (60 ≤ v2) then
    bif aok h.1 v0 12 then
      some (some (.inl 1), (h.1, aup h.2 v0.toNat 70 0))
    else none
  else
    bif aok h.1 v0 12 then
      bif aok h.1 v0 12 then
        bif ain h.1 (h.2 v0.toNat 84) 101 (w32 ((w32 (60 * v1)) + v2)) then
          bif ain h.1 (h.2 v0.toNat 63) 101 v2 then
            ev xs d mm_314 22 [some (.inr (.inr v0)), some (.inl v1), some (.inl (w32 (v2 + 1)))] [] (h.1, aup h.2 (h.2 v0.toNat 63).toNat v2.toNat (h.2 (h.2 v0.toNat 84).toNat (w32 ((w32 (60 * v1)) + v2)).toNat))
          else none
        else none
      else none
    else none :=
  (aB gP gX xs stp_314 18 d mm_314 22 _ _ h).trans rfl

def stp_315 : List Nat := [0, 88, 98, 108, 124, 134, 144, 153, 162, 171, 179, 188, 193, 198, 212, 226, 241, 243, 247, 255, 314, 324]
set_option maxRecDepth 100000 in
set_option maxHeartbeats 4000000 in
theorem q_315_0 (xs : List Int) (d : Nat) (v0 : Int) (v1 : Int) (h : aH) : ev xs d mm_315 0 [some (.inr (.inr v0)), some (.inl v1), none, none, none] [] h =
  bif aok h.1 v0 12 && true then
    bV (cl xs d 229 [.inr (.inr v0)] h) (fun h1 =>
    ev xs d mm_315 (asw 5 319 0 16 #[83, 93, 103, 103, 103, 119, 129, 139, 148, 157, 166, 174, 183, 188, 193, 238, 309] v1) [some (.inr (.inr v0)), some (.inl v1), none, none, none] [] h1)
  else none :=
  (aB gP gX xs stp_315 5 d mm_315 0 _ _ h).trans rfl

set_option maxRecDepth 100000 in
set_option maxHeartbeats 4000000 in
theorem q_315_88 (xs : List Int) (d : Nat) (v0 : Int) (v1 : Int) (u2 : Option aV) (u3 : Option aV) (u4 : Option aV) (h : aH) : ev xs d mm_315 88 [some (.inr (.inr v0)), some (.inl v1), u2, u3, u4] [] h =
  bif aok h.1 v0 12 then
    bif aok h.1 v0 12 then
      bif ain h.1 (h.2 v0.toNat 33) 100 (h.2 v0.toNat 18) then
        some (some (.inl (h.2 (h.2 v0.toNat 33).toNat (h.2 v0.toNat 18).toNat)), h)
      else none
    else none
  else none :=
  (aB gP gX xs stp_315 7 d mm_315 88 _ _ h).trans rfl

set_option maxRecDepth 100000 in
set_option maxHeartbeats 4000000 in
theorem q_315_98 (xs : List Int) (d : Nat) (v0 : Int) (v1 : Int) (u2 : Option aV) (u3 : Option aV) (u4 : Option aV) (h : aH) : ev xs d mm_315 98 [some (.inr (.inr v0)), some (.inl v1), u2, u3, u4] [] h =
  bif aok h.1 v0 12 then
    bif aok h.1 v0 12 then
      bif ain h.1 (h.2 v0.toNat 23) 100 (h.2 v0.toNat 18) then
        some (some (.inl (h.2 (h.2 v0.toNat 23).toNat (h.2 v0.toNat 18).toNat)), h)
      else none
    else none
  else none :=
  (aB gP gX xs stp_315 7 d mm_315 98 _ _ h).trans rfl

set_option maxRecDepth 100000 in
set_option maxHeartbeats 4000000 in
theorem q_315_108 (xs : List Int) (d : Nat) (v0 : Int) (v1 : Int) (u2 : Option aV) (u3 : Option aV) (u4 : Option aV) (h : aH) : ev xs d mm_315 108 [some (.inr (.inr v0)), some (.inl v1), u2, u3, u4] [] h =
  bif aok h.1 v0 12 then
    bif aok h.1 v0 12 then
      bif ain h.1 (h.2 v0.toNat 30) 100 (w32 ((w32 ((w32 (3 * (h.2 v0.toNat 18))) + v1)) - 2)) then
        some (some (.inl (h.2 (h.2 v0.toNat 30).toNat (w32 ((w32 ((w32 (3 * (h.2 v0.toNat 18))) + v1)) - 2)).toNat)), h)
      else none
    else none
  else none :=
  (aB gP gX xs stp_315 13 d mm_315 108 _ _ h).trans rfl

set_option maxRecDepth 100000 in
set_option maxHeartbeats 4000000 in
theorem q_315_124 (xs : List Int) (d : Nat) (v0 : Int) (v1 : Int) (u2 : Option aV) (u3 : Option aV) (u4 : Option aV) (h : aH) : ev xs d mm_315 124 [some (.inr (.inr v0)), some (.inl v1), u2, u3, u4] [] h =
  bif aok h.1 v0 12 then
    bif aok h.1 v0 12 then
      bif ain h.1 (h.2 v0.toNat 35) 100 (h.2 v0.toNat 18) then
        some (some (.inl (h.2 (h.2 v0.toNat 35).toNat (h.2 v0.toNat 18).toNat)), h)
      else none
    else none
  else none :=
  (aB gP gX xs stp_315 7 d mm_315 124 _ _ h).trans rfl

set_option maxRecDepth 100000 in
set_option maxHeartbeats 4000000 in
theorem q_315_134 (xs : List Int) (d : Nat) (v0 : Int) (v1 : Int) (u2 : Option aV) (u3 : Option aV) (u4 : Option aV) (h : aH) : ev xs d mm_315 134 [some (.inr (.inr v0)), some (.inl v1), u2, u3, u4] [] h =
  bif aok h.1 v0 12 then
    bif aok h.1 v0 12 then
      bif ain h.1 (h.2 v0.toNat 39) 100 (h.2 v0.toNat 18) then
        some (some (.inl (h.2 (h.2 v0.toNat 39).toNat (h.2 v0.toNat 18).toNat)), h)
      else none
    else none
  else none :=
  (aB gP gX xs stp_315 7 d mm_315 134 _ _ h).trans rfl

set_option maxRecDepth 100000 in
set_option maxHeartbeats 4000000 in
theorem q_315_144 (xs : List Int) (d : Nat) (v0 : Int) (v1 : Int) (u2 : Option aV) (u3 : Option aV) (u4 : Option aV) (h : aH) : ev xs d mm_315 144 [some (.inr (.inr v0)), some (.inl v1), u2, u3, u4] [] h =
  bif aok h.1 v0 12 then
    bif ain h.1 (h.2 v0.toNat 64) 101 53 then
      some (some (.inl (ol2i (h.2 (h.2 v0.toNat 64).toNat (53 : Int).toNat))), h)
    else none
  else none :=
  (aB gP gX xs stp_315 7 d mm_315 144 _ _ h).trans rfl

set_option maxRecDepth 100000 in
set_option maxHeartbeats 4000000 in
theorem q_315_153 (xs : List Int) (d : Nat) (v0 : Int) (v1 : Int) (u2 : Option aV) (u3 : Option aV) (u4 : Option aV) (h : aH) : ev xs d mm_315 153 [some (.inr (.inr v0)), some (.inl v1), u2, u3, u4] [] h =
  bif aok h.1 v0 12 then
    bif ain h.1 (h.2 v0.toNat 64) 101 54 then
      some (some (.inl (ol2i (h.2 (h.2 v0.toNat 64).toNat (54 : Int).toNat))), h)
    else none
  else none :=
  (aB gP gX xs stp_315 7 d mm_315 153 _ _ h).trans rfl

set_option maxRecDepth 100000 in
set_option maxHeartbeats 4000000 in
theorem q_315_162 (xs : List Int) (d : Nat) (v0 : Int) (v1 : Int) (u2 : Option aV) (u3 : Option aV) (u4 : Option aV) (h : aH) : ev xs d mm_315 162 [some (.inr (.inr v0)), some (.inl v1), u2, u3, u4] [] h =
  bif aok h.1 v0 12 then
    bif ain h.1 (h.2 v0.toNat 64) 101 55 then
      some (some (.inl (ol2i (h.2 (h.2 v0.toNat 64).toNat (55 : Int).toNat))), h)
    else none
  else none :=
  (aB gP gX xs stp_315 7 d mm_315 162 _ _ h).trans rfl

set_option maxRecDepth 100000 in
set_option maxHeartbeats 4000000 in
theorem q_315_171 (xs : List Int) (d : Nat) (v0 : Int) (v1 : Int) (u2 : Option aV) (u3 : Option aV) (u4 : Option aV) (h : aH) : ev xs d mm_315 171 [some (.inr (.inr v0)), some (.inl v1), u2, u3, u4] [] h =
  bif aok h.1 v0 12 && true then
    bI (cl xs d 234 [.inr (.inr v0)] h) (fun x2 h1 =>
    bI (cl xs d 235 [.inl x2] h1) (fun x4 h3 =>
      some (some (.inl x4), h3)))
  else none :=
  (aB gP gX xs stp_315 5 d mm_315 171 _ _ h).trans rfl

set_option maxRecDepth 100000 in
set_option maxHeartbeats 4000000 in
theorem q_315_179 (xs : List Int) (d : Nat) (v0 : Int) (v1 : Int) (u2 : Option aV) (u3 : Option aV) (u4 : Option aV) (h : aH) : ev xs d mm_315 179 [some (.inr (.inr v0)), some (.inl v1), u2, u3, u4] [] h =
  bif aok h.1 v0 12 then
    bif ain h.1 (h.2 v0.toNat 64) 101 44 then
      some (some (.inl (ol2i (h.2 (h.2 v0.toNat 64).toNat (44 : Int).toNat))), h)
    else none
  else none :=
  (aB gP gX xs stp_315 7 d mm_315 179 _ _ h).trans rfl

set_option maxRecDepth 100000 in
set_option maxHeartbeats 4000000 in
theorem q_315_188 (xs : List Int) (d : Nat) (v0 : Int) (v1 : Int) (u2 : Option aV) (u3 : Option aV) (u4 : Option aV) (h : aH) : ev xs d mm_315 188 [some (.inr (.inr v0)), some (.inl v1), u2, u3, u4] [] h =
  bif aok h.1 v0 12 then
    some (some (.inl (h.2 v0.toNat 2)), h)
  else none :=
  (aB gP gX xs stp_315 4 d mm_315 188 _ _ h).trans rfl

set_option maxRecDepth 100000 in
set_option maxHeartbeats 4000000 in
theorem q_315_193 (xs : List Int) (d : Nat) (v0 : Int) (v1 : Int) (u2 : Option aV) (u3 : Option aV) (u4 : Option aV) (h : aH) : ev xs d mm_315 193 [some (.inr (.inr v0)), some (.inl v1), u2, u3, u4] [] h =
  bif aok h.1 v0 12 then
    some (some (.inl (h.2 v0.toNat 70)), h)
  else none :=
  (aB gP gX xs stp_315 4 d mm_315 193 _ _ h).trans rfl

set_option maxRecDepth 100000 in
set_option maxHeartbeats 4000000 in
theorem q_315_198 (xs : List Int) (d : Nat) (v0 : Int) (v1 : Int) (u2 : Option aV) (u3 : Option aV) (u4 : Option aV) (h : aH) : ev xs d mm_315 198 [some (.inr (.inr v0)), some (.inl v1), u2, u3, u4] [] h =
  bif aok h.1 v0 12 then
    bif ain h.1 (h.2 v0.toNat 83) 103 0 then
      bif decide ((h.2 (h.2 v0.toNat 83).toNat (0 : Int).toNat) = 0) then
        ev xs d mm_315 212 [some (.inr (.inr v0)), some (.inl v1), u2, u3, u4] [.inl 0] h
      else
        ev xs d mm_315 212 [some (.inr (.inr v0)), some (.inl v1), u2, u3, u4] [.inl 1] h
    else none
  else none :=
  (aB gP gX xs stp_315 8 d mm_315 198 _ _ h).trans rfl

set_option maxRecDepth 100000 in
set_option maxHeartbeats 4000000 in
theorem q_315_212 (xs : List Int) (d : Nat) (v0 : Int) (v1 : Int) (u2 : Option aV) (u3 : Option aV) (u4 : Option aV) (s0 : Int) (h : aH) : ev xs d mm_315 212 [some (.inr (.inr v0)), some (.inl v1), u2, u3, u4] [.inl s0] h =
  bif aok h.1 v0 12 then
    bif ain h.1 (h.2 v0.toNat 83) 103 1 then
      bif decide ((h.2 (h.2 v0.toNat 83).toNat (1 : Int).toNat) = 0) then
        ev xs d mm_315 226 [some (.inr (.inr v0)), some (.inl v1), u2, u3, u4] [.inl 0, .inl s0] h
      else
        ev xs d mm_315 226 [some (.inr (.inr v0)), some (.inl v1), u2, u3, u4] [.inl 1, .inl s0] h
    else none
  else none :=
  (aB gP gX xs stp_315 8 d mm_315 212 _ _ h).trans rfl

set_option maxRecDepth 100000 in
set_option maxHeartbeats 4000000 in
theorem q_315_226 (xs : List Int) (d : Nat) (v0 : Int) (v1 : Int) (u2 : Option aV) (u3 : Option aV) (u4 : Option aV) (s0 : Int) (s1 : Int) (h : aH) : ev xs d mm_315 226 [some (.inr (.inr v0)), some (.inl v1), u2, u3, u4] [.inl s1, .inl s0] h =
  bif aok h.1 v0 12 then
    bif ain h.1 (h.2 v0.toNat 83) 103 2 then
      bif decide ((h.2 (h.2 v0.toNat 83).toNat (2 : Int).toNat) = 0) then
        ev xs d mm_315 241 [some (.inr (.inr v0)), some (.inl v1), u2, u3, u4] [.inl 0, .inl (w32 (s0 + s1))] h
      else
        ev xs d mm_315 241 [some (.inr (.inr v0)), some (.inl v1), u2, u3, u4] [.inl 1, .inl (w32 (s0 + s1))] h
    else none
  else none :=
  (aB gP gX xs stp_315 9 d mm_315 226 _ _ h).trans rfl

set_option maxRecDepth 100000 in
set_option maxHeartbeats 4000000 in
theorem q_315_241 (xs : List Int) (d : Nat) (v0 : Int) (v1 : Int) (u2 : Option aV) (u3 : Option aV) (u4 : Option aV) (s0 : Int) (s1 : Int) (h : aH) : ev xs d mm_315 241 [some (.inr (.inr v0)), some (.inl v1), u2, u3, u4] [.inl s1, .inl s0] h =
  some (some (.inl (w32 (s0 + s1))), h) :=
  (aB gP gX xs stp_315 3 d mm_315 241 _ _ h).trans rfl

set_option maxRecDepth 100000 in
set_option maxHeartbeats 4000000 in
theorem q_315_243 (xs : List Int) (d : Nat) (v0 : Int) (v1 : Int) (u2 : Option aV) (u3 : Option aV) (u4 : Option aV) (h : aH) : ev xs d mm_315 243 [some (.inr (.inr v0)), some (.inl v1), u2, u3, u4] [] h =
  ev xs d mm_315 247 [some (.inr (.inr v0)), some (.inl v1), some (.inl 0), some (.inl 0), u4] [] h :=
  (aB gP gX xs stp_315 5 d mm_315 243 _ _ h).trans rfl

set_option maxRecDepth 100000 in
set_option maxHeartbeats 4000000 in
theorem q_315_247 (xs : List Int) (d : Nat) (v0 : Int) (v1 : Int) (v2 : Int) (v3 : Int) (u4 : Option aV) (h : aH) : ev xs d mm_315 247 [some (.inr (.inr v0)), some (.inl v1), some (.inl v2), some (.inl v3), u4] [] h =
  bif decide (3 ≤ v3) then
    some (some (.inl v2), h)
  else
    ev xs d mm_315 255 [some (.inr (.inr v0)), some (.inl v1), some (.inl v2), some (.inl v3), some (.inl 0)] [] h :=
  (aB gP gX xs stp_315 6 d mm_315 247 _ _ h).trans rfl

set_option maxRecDepth 100000 in
set_option maxHeartbeats 4000000 in
theorem q_315_255 (xs : List Int) (d : Nat) (v0 : Int) (v1 : Int) (v2 : Int) (v3 : Int) (v4 : Int) (h : aH) : ev xs d mm_315 255 [some (.inr (.inr v0)), some (.inl v1), some (.inl v2), some (.inl v3), some (.inl v4)] [] h =
  bif aok h.1 v0 12 then
    bif aok h.1 v0 12 then
      bif ain h.1 (h.2 v0.toNat 30) 100 (w32 ((w32 (3 * (h.2 v0.toNat 18))) + v3)) then
        bif decide ((h.2 (h.2 v0.toNat 30).toNat (w32 ((w32 (3 * (h.2 v0.toNat 18))) + v3)).toNat) ≤ v4) then
          ev xs d mm_315 247 [some (.inr (.inr v0)), some (.inl v1), some (.inl v2), some (.inl (w32 (v3 + 1))), some (.inl v4)] [] h
        else
          bif aok h.1 v0 12 then
            bif ain h.1 (h.2 v0.toNat 64) 101 (w32 ((w32 (20 + (w32 (8 * v3)))) + v4)) then
              bif aok h.1 v0 12 && true then
                bI (cl xs d 262 [.inr (.inr v0), .inl v3, .inl v4] h) (fun x2 h1 =>
                ev xs d mm_315 255 [some (.inr (.inr v0)), some (.inl v1), some (.inl (w32 (v2 + (w32 ((ol2i (h.2 (h.2 v0.toNat 64).toNat (w32 ((w32 (20 + (w32 (8 * v3)))) + v4)).toNat)) * x2))))), some (.inl v3), some (.inl (w32 (v4 + 1)))] [] h1)
              else none
            else none
          else none
      else none
    else none
  else none :=
  (aB gP gX xs stp_315 33 d mm_315 255 _ _ h).trans rfl

set_option maxRecDepth 100000 in
set_option maxHeartbeats 4000000 in
theorem q_315_314 (xs : List Int) (d : Nat) (v0 : Int) (v1 : Int) (u2 : Option aV) (u3 : Option aV) (u4 : Option aV) (h : aH) : ev xs d mm_315 314 [some (.inr (.inr v0)), some (.inl v1), u2, u3, u4] [] h =
  bif aok h.1 v0 12 then
    bif aok h.1 v0 12 then
      bif ain h.1 (h.2 v0.toNat 20) 100 (h.2 v0.toNat 18) then
        some (some (.inl (h.2 (h.2 v0.toNat 20).toNat (h.2 v0.toNat 18).toNat)), h)
      else none
    else none
  else none :=
  (aB gP gX xs stp_315 7 d mm_315 314 _ _ h).trans rfl

set_option maxRecDepth 100000 in
set_option maxHeartbeats 4000000 in
theorem q_315_324 (xs : List Int) (d : Nat) (v0 : Int) (v1 : Int) (u2 : Option aV) (u3 : Option aV) (u4 : Option aV) (h : aH) : ev xs d mm_315 324 [some (.inr (.inr v0)), some (.inl v1), u2, u3, u4] [] h =
  some (some (.inl (-1)), h) :=
  (aB gP gX xs stp_315 3 d mm_315 324 _ _ h).trans rfl

def stp_316 : List Nat := [0]
set_option maxRecDepth 100000 in
set_option maxHeartbeats 4000000 in
theorem q_316_0 (xs : List Int) (d : Nat) (v0 : Int) (h : aH) : ev xs d mm_316 0 [some (.inl v0)] [] h =
  some (some (.inl (oand (w32 ((w32 ((oand (w32 ((w32 ((oand (w32 (v0 - (oand (oushr v0 1) 1431655765))) 858993459) + (oand (oushr (w32 (v0 - (oand (oushr v0 1) 1431655765))) 2) 858993459))) + (oushr (w32 ((oand (w32 (v0 - (oand (oushr v0 1) 1431655765))) 858993459) + (oand (oushr (w32 (v0 - (oand (oushr v0 1) 1431655765))) 2) 858993459))) 4))) 252645135) + (oushr (oand (w32 ((w32 ((oand (w32 (v0 - (oand (oushr v0 1) 1431655765))) 858993459) + (oand (oushr (w32 (v0 - (oand (oushr v0 1) 1431655765))) 2) 858993459))) + (oushr (w32 ((oand (w32 (v0 - (oand (oushr v0 1) 1431655765))) 858993459) + (oand (oushr (w32 (v0 - (oand (oushr v0 1) 1431655765))) 2) 858993459))) 4))) 252645135) 8))) + (oushr (w32 ((oand (w32 ((w32 ((oand (w32 (v0 - (oand (oushr v0 1) 1431655765))) 858993459) + (oand (oushr (w32 (v0 - (oand (oushr v0 1) 1431655765))) 2) 858993459))) + (oushr (w32 ((oand (w32 (v0 - (oand (oushr v0 1) 1431655765))) 858993459) + (oand (oushr (w32 (v0 - (oand (oushr v0 1) 1431655765))) 2) 858993459))) 4))) 252645135) + (oushr (oand (w32 ((w32 ((oand (w32 (v0 - (oand (oushr v0 1) 1431655765))) 858993459) + (oand (oushr (w32 (v0 - (oand (oushr v0 1) 1431655765))) 2) 858993459))) + (oushr (w32 ((oand (w32 (v0 - (oand (oushr v0 1) 1431655765))) 858993459) + (oand (oushr (w32 (v0 - (oand (oushr v0 1) 1431655765))) 2) 858993459))) 4))) 252645135) 8))) 16))) 63)), h) :=
  (aB gP gX xs stp_316 43 d mm_316 0 _ _ h).trans rfl

def stp_317 : List Nat := [0, 10]
set_option maxRecDepth 100000 in
set_option maxHeartbeats 4000000 in
theorem q_317_0 (xs : List Int) (d : Nat) (v0 : Int) (v1 : Int) (h : aH) : ev xs d mm_317 0 [some (.inl v0), some (.inl v1)] [] h =
  bif decide (v0 < v1) then
    ev xs d mm_317 10 [some (.inl v0), some (.inl v1)] [.inl v1] h
  else
    ev xs d mm_317 10 [some (.inl v0), some (.inl v1)] [.inl v0] h :=
  (aB gP gX xs stp_317 6 d mm_317 0 _ _ h).trans rfl

set_option maxRecDepth 100000 in
set_option maxHeartbeats 4000000 in
theorem q_317_10 (xs : List Int) (d : Nat) (v0 : Int) (v1 : Int) (s0 : Int) (h : aH) : ev xs d mm_317 10 [some (.inl v0), some (.inl v1)] [.inl s0] h =
  some (some (.inl s0), h) :=
  (aB gP gX xs stp_317 2 d mm_317 10 _ _ h).trans rfl

def stp_318 : List Nat := [0, 10]
set_option maxRecDepth 100000 in
set_option maxHeartbeats 4000000 in
theorem q_318_0 (xs : List Int) (d : Nat) (v0 : Int) (v1 : Int) (h : aH) : ev xs d mm_318 0 [some (.inl v0), some (.inl v1)] [] h =
  bif decide (v1 < v0) then
    ev xs d mm_318 10 [some (.inl v0), some (.inl v1)] [.inl v1] h
  else
    ev xs d mm_318 10 [some (.inl v0), some (.inl v1)] [.inl v0] h :=
  (aB gP gX xs stp_318 6 d mm_318 0 _ _ h).trans rfl

set_option maxRecDepth 100000 in
set_option maxHeartbeats 4000000 in
theorem q_318_10 (xs : List Int) (d : Nat) (v0 : Int) (v1 : Int) (s0 : Int) (h : aH) : ev xs d mm_318 10 [some (.inl v0), some (.inl v1)] [.inl s0] h =
  some (some (.inl s0), h) :=
  (aB gP gX xs stp_318 2 d mm_318 10 _ _ h).trans rfl

def stp_319 : List Nat := [0, 6]
set_option maxRecDepth 100000 in
set_option maxHeartbeats 4000000 in
theorem q_319_0 (xs : List Int) (d : Nat) (v0 : Int) (v1 : Int) (h : aH) : ev xs d mm_319 0 [some (.inr (.inr v0)), some (.inr (.inl v1)), none, none, none] [] h =
  bif aoa h.1 v0 then
    ev xs d mm_319 6 [some (.inr (.inr v0)), some (.inr (.inl v1)), none, some (.inl 0), some (.inl (aln h.1 v0 : Int))] [] h
  else none :=
  (aB gP gX xs stp_319 6 d mm_319 0 _ _ h).trans rfl

set_option maxRecDepth 100000 in
set_option maxHeartbeats 4000000 in
theorem q_319_6 (xs : List Int) (d : Nat) (v0 : Int) (v1 : Int) (u2 : Option aV) (v3 : Int) (v4 : Int) (h : aH) : ev xs d mm_319 6 [some (.inr (.inr v0)), some (.inr (.inl v1)), u2, some (.inl v3), some (.inl v4)] [] h =
  bif decide (v4 ≤ v3) then
    some (none, h)
  else
    bif ain h.1 v0 101 v3 then
      ev xs d mm_319 6 [some (.inr (.inr v0)), some (.inr (.inl v1)), acl u2, some (.inl (w32 (v3 + 1))), some (.inl v4)] [] (h.1, aup h.2 v0.toNat v3.toNat v1)
    else none :=
  (aB gP gX xs stp_319 10 d mm_319 6 _ _ h).trans rfl

def stp_320 : List Nat := [0, 5]
set_option maxRecDepth 100000 in
set_option maxHeartbeats 4000000 in
theorem q_320_0 (xs : List Int) (d : Nat) (v0 : Int) (v1 : Int) (h : aH) : ev xs d mm_320 0 [some (.inr (.inr v0)), some (.inl v1), none, none] [] h =
  bif aoa h.1 v0 then
    ev xs d mm_320 5 [some (.inr (.inr v0)), some (.inl v1), some (.inl 0), some (.inl (aln h.1 v0 : Int))] [] h
  else none :=
  (aB gP gX xs stp_320 6 d mm_320 0 _ _ h).trans rfl

set_option maxRecDepth 100000 in
set_option maxHeartbeats 4000000 in
theorem q_320_5 (xs : List Int) (d : Nat) (v0 : Int) (v1 : Int) (v2 : Int) (v3 : Int) (h : aH) : ev xs d mm_320 5 [some (.inr (.inr v0)), some (.inl v1), some (.inl v2), some (.inl v3)] [] h =
  bif decide (v3 ≤ v2) then
    some (none, h)
  else
    bif ain h.1 v0 100 v2 then
      ev xs d mm_320 5 [some (.inr (.inr v0)), some (.inl v1), some (.inl (w32 (v2 + 1))), some (.inl v3)] [] (h.1, aup h.2 v0.toNat v2.toNat v1)
    else none :=
  (aB gP gX xs stp_320 10 d mm_320 5 _ _ h).trans rfl

def stp_321 : List Nat := [0, 7, 10, 17]
set_option maxRecDepth 100000 in
set_option maxHeartbeats 4000000 in
theorem q_321_0 (xs : List Int) (d : Nat) (v0 : Int) (v1 : Int) (h : aH) : ev xs d mm_321 0 [some (.inr (.inr v0)), some (.inl v1), none] [] h =
  bif aoa h.1 v0 then
    bif decide (¬ v1 = (aln h.1 v0 : Int)) then
      bif decide (0 ≤ v1) && decide (v1 ≤ 1000000) then
        ev xs d mm_321 17 [some (.inr (.inr v0)), some (.inl v1), none] [.inr (.inr (h.1.1 : Int))] ((h.1.1 + 1, h.1.2.1 + v1.toNat, fun q => if q = h.1.1 then (100, v1.toNat) else h.1.2.2 q), fun q j => if q = h.1.1 then 0 else h.2 q j)
      else none
    else
      ev xs d mm_321 7 [some (.inr (.inr v0)), some (.inl v1), none] [.inr (.inr v0)] h
  else none :=
  (aB gP gX xs stp_321 7 d mm_321 0 _ _ h).trans rfl

set_option maxRecDepth 100000 in
set_option maxHeartbeats 4000000 in
theorem q_321_17 (xs : List Int) (d : Nat) (v0 : Int) (v1 : Int) (u2 : Option aV) (s0 : Int) (h : aH) : ev xs d mm_321 17 [some (.inr (.inr v0)), some (.inl v1), u2] [.inr (.inr s0)] h =
  bif aoa h.1 v0 then
    bI (cl xs d 318 [.inl (aln h.1 v0 : Int), .inl v1] h) (fun x2 h1 =>
      bif aok h1.1 v0 100 && (aok h1.1 s0 100 && (decide (0 ≤ 0) && (decide (0 ≤ 0) && (decide (0 ≤ x2) && (decide ((0 : Int).toNat + x2.toNat ≤ aln h1.1 v0) && (decide ((0 : Int).toNat + x2.toNat ≤ aln h1.1 s0) && true)))))) then
        some (some (.inr (.inr s0)), (h1.1, fun q j => if q = s0.toNat then acpy (h1.2 v0.toNat) (h1.2 s0.toNat) (0 : Int).toNat (0 : Int).toNat x2.toNat j else h1.2 q j))
      else none)
  else none :=
  (aB gP gX xs stp_321 13 d mm_321 17 _ _ h).trans rfl

def stp_322 : List Nat := [0, 7, 10, 17]
set_option maxRecDepth 100000 in
set_option maxHeartbeats 4000000 in
theorem q_322_0 (xs : List Int) (d : Nat) (v0 : Int) (v1 : Int) (h : aH) : ev xs d mm_322 0 [some (.inr (.inr v0)), some (.inl v1), none] [] h =
  bif aoa h.1 v0 then
    bif decide (¬ v1 = (aln h.1 v0 : Int)) then
      bif decide (0 ≤ v1) && decide (v1 ≤ 1000000) then
        ev xs d mm_322 17 [some (.inr (.inr v0)), some (.inl v1), none] [.inr (.inr (h.1.1 : Int))] ((h.1.1 + 1, h.1.2.1 + v1.toNat, fun q => if q = h.1.1 then (101, v1.toNat) else h.1.2.2 q), fun q j => if q = h.1.1 then 0 else h.2 q j)
      else none
    else
      ev xs d mm_322 7 [some (.inr (.inr v0)), some (.inl v1), none] [.inr (.inr v0)] h
  else none :=
  (aB gP gX xs stp_322 7 d mm_322 0 _ _ h).trans rfl

set_option maxRecDepth 100000 in
set_option maxHeartbeats 4000000 in
theorem q_322_17 (xs : List Int) (d : Nat) (v0 : Int) (v1 : Int) (u2 : Option aV) (s0 : Int) (h : aH) : ev xs d mm_322 17 [some (.inr (.inr v0)), some (.inl v1), u2] [.inr (.inr s0)] h =
  bif aoa h.1 v0 then
    bI (cl xs d 318 [.inl (aln h.1 v0 : Int), .inl v1] h) (fun x2 h1 =>
      bif aok h1.1 v0 101 && (aok h1.1 s0 101 && (decide (0 ≤ 0) && (decide (0 ≤ 0) && (decide (0 ≤ x2) && (decide ((0 : Int).toNat + x2.toNat ≤ aln h1.1 v0) && (decide ((0 : Int).toNat + x2.toNat ≤ aln h1.1 s0) && true)))))) then
        some (some (.inr (.inr s0)), (h1.1, fun q j => if q = s0.toNat then acpy (h1.2 v0.toNat) (h1.2 s0.toNat) (0 : Int).toNat (0 : Int).toNat x2.toNat j else h1.2 q j))
      else none)
  else none :=
  (aB gP gX xs stp_322 13 d mm_322 17 _ _ h).trans rfl

