def stp_188 : List Nat := [0]
set_option maxRecDepth 100000 in
set_option maxHeartbeats 4000000 in
theorem q_188_0 (xs : List Int) (d : Nat) (v0 : Int) (v1 : Int) (v2 : Int) (v3 : Int) (v4 : Int) (v5 : Int) (h : aH) : ev xs d mm_188 0 [some (.inr (.inr v0)), some (.inl v1), some (.inl v2), some (.inl v3), some (.inl v4), some (.inl v5)] [] h =
  bif aok h.1 v0 12 then
    bif decide ((w32 ((h.2 v0.toNat 2) + 20)) ≤ 2000) then
      bif aok h.1 v0 12 && true then
        bV (cl xs d 189 [.inr (.inr v0), .inl v1] h) (fun h1 =>
        bif aok h1.1 v0 12 && true then
          bV (cl xs d 189 [.inr (.inr v0), .inl v2] h1) (fun h2 =>
          bif aok h2.1 v0 12 && true then
            bV (cl xs d 189 [.inr (.inr v0), .inl v3] h2) (fun h3 =>
            bif aok h3.1 v0 12 && true then
              bV (cl xs d 189 [.inr (.inr v0), .inl v4] h3) (fun h4 =>
              bif aok h4.1 v0 12 && true then
                bV (cl xs d 189 [.inr (.inr v0), .inl v5] h4) (fun h5 =>
                bif aok h5.1 v0 12 then
                  some (some (.inl (h5.2 v0.toNat 2)), h5)
                else none)
              else none)
            else none)
          else none)
        else none)
      else none
    else
      some (some (.inl (-1)), h)
  else none :=
  (aB gP gX xs stp_188 25 d mm_188 0 _ _ h).trans rfl

def stp_189 : List Nat := [0, 3]
set_option maxRecDepth 100000 in
set_option maxHeartbeats 4000000 in
theorem q_189_0 (xs : List Int) (d : Nat) (v0 : Int) (v1 : Int) (h : aH) : ev xs d mm_189 0 [some (.inr (.inr v0)), some (.inl v1), none] [] h =
  ev xs d mm_189 3 [some (.inr (.inr v0)), some (.inl v1), some (.inl 24)] [] h :=
  (aB gP gX xs stp_189 3 d mm_189 0 _ _ h).trans rfl

set_option maxRecDepth 100000 in
set_option maxHeartbeats 4000000 in
theorem q_189_3 (xs : List Int) (d : Nat) (v0 : Int) (v1 : Int) (v2 : Int) (h : aH) : ev xs d mm_189 3 [some (.inr (.inr v0)), some (.inl v1), some (.inl v2)] [] h =
  bif decide (v2 < 0) then
    some (none, h)
  else
    bif aok h.1 v0 12 then
      bif aok h.1 v0 12 then
        bif ain h.1 (h.2 v0.toNat 1) 102 (h.2 v0.toNat 2) then
          bif aok h.1 v0 12 then
            bif aok h.1 v0 12 then
              ev xs d mm_189 3 [some (.inr (.inr v0)), some (.inl v1), some (.inl (w32 (v2 + (-8))))] [] (h.1, aup (aup h.2 (h.2 v0.toNat 1).toNat (h.2 v0.toNat 2).toNat (oi2b (oi2b (oshr v1 v2)))) v0.toNat 2 (w32 (((aup h.2 (h.2 v0.toNat 1).toNat (h.2 v0.toNat 2).toNat (oi2b (oi2b (oshr v1 v2)))) v0.toNat 2) + 1)))
            else none
          else none
        else none
      else none
    else none :=
  (aB gP gX xs stp_189 20 d mm_189 3 _ _ h).trans rfl

def stp_190 : List Nat := [0, 12]
set_option maxRecDepth 100000 in
set_option maxHeartbeats 4000000 in
theorem q_190_0 (xs : List Int) (d : Nat) (v0 : Int) (v1 : Int) (h : aH) : ev xs d mm_190 0 [some (.inr (.inr v0)), some (.inl v1)] [] h =
  bif decide (v1 < 0) then
    ev xs d mm_190 12 [some (.inr (.inr v0)), some (.inl v1)] [] h
  else
    bif aok h.1 v0 12 then
      bif decide (v1 ≤ (h.2 v0.toNat 2)) then
        bif aok h.1 v0 12 then
          bif aok h.1 v0 12 then
            bif aok h.1 v0 12 then
              some (some (.inl ((aup h.2 v0.toNat 2 (w32 ((h.2 v0.toNat 2) - v1))) v0.toNat 2)), (h.1, aup h.2 v0.toNat 2 (w32 ((h.2 v0.toNat 2) - v1))))
            else none
          else none
        else none
      else
        ev xs d mm_190 12 [some (.inr (.inr v0)), some (.inl v1)] [] h
    else none :=
  (aB gP gX xs stp_190 16 d mm_190 0 _ _ h).trans rfl

set_option maxRecDepth 100000 in
set_option maxHeartbeats 4000000 in
theorem q_190_12 (xs : List Int) (d : Nat) (v0 : Int) (v1 : Int) (h : aH) : ev xs d mm_190 12 [some (.inr (.inr v0)), some (.inl v1)] [] h =
  some (some (.inl (-1)), h) :=
  (aB gP gX xs stp_190 3 d mm_190 12 _ _ h).trans rfl

def stp_191 : List Nat := [0, 22]
set_option maxRecDepth 100000 in
set_option maxHeartbeats 4000000 in
theorem q_191_0 (xs : List Int) (d : Nat) (v0 : Int) (v1 : Int) (h : aH) : ev xs d mm_191 0 [some (.inr (.inr v0)), some (.inl v1)] [] h =
  bif aok h.1 v0 12 then
    bif decide ((h.2 v0.toNat 4) ≤ v1) then
      ev xs d mm_191 22 [some (.inr (.inr v0)), some (.inl v1)] [.inl 0] h
    else
      bif aok h.1 v0 12 then
        bif ain h.1 (h.2 v0.toNat 3) 102 v1 then
          ev xs d mm_191 22 [some (.inr (.inr v0)), some (.inl v1)] [.inl (oand (h.2 (h.2 v0.toNat 3).toNat v1.toNat) 255)] h
        else none
      else none
  else none :=
  (aB gP gX xs stp_191 12 d mm_191 0 _ _ h).trans rfl

set_option maxRecDepth 100000 in
set_option maxHeartbeats 4000000 in
theorem q_191_22 (xs : List Int) (d : Nat) (v0 : Int) (v1 : Int) (s0 : Int) (h : aH) : ev xs d mm_191 22 [some (.inr (.inr v0)), some (.inl v1)] [.inl s0] h =
  some (some (.inl s0), h) :=
  (aB gP gX xs stp_191 2 d mm_191 22 _ _ h).trans rfl

def stp_192 : List Nat := [0, 16, 17]
set_option maxRecDepth 100000 in
set_option maxHeartbeats 4000000 in
theorem q_192_0 (xs : List Int) (d : Nat) (v0 : Int) (h : aH) : ev xs d mm_192 0 [some (.inl v0)] [] h =
  bif decide (v0 < 48) then
    ev xs d mm_192 16 [some (.inl v0)] [] h
  else
    bif decide (57 < v0) then
      ev xs d mm_192 16 [some (.inl v0)] [] h
    else
      ev xs d mm_192 17 [some (.inl v0)] [.inl 1] h :=
  (aB gP gX xs stp_192 9 d mm_192 0 _ _ h).trans rfl

set_option maxRecDepth 100000 in
set_option maxHeartbeats 4000000 in
theorem q_192_16 (xs : List Int) (d : Nat) (v0 : Int) (h : aH) : ev xs d mm_192 16 [some (.inl v0)] [] h =
  ev xs d mm_192 17 [some (.inl v0)] [.inl 0] h :=
  (aB gP gX xs stp_192 2 d mm_192 16 _ _ h).trans rfl

set_option maxRecDepth 100000 in
set_option maxHeartbeats 4000000 in
theorem q_192_17 (xs : List Int) (d : Nat) (v0 : Int) (s0 : Int) (h : aH) : ev xs d mm_192 17 [some (.inl v0)] [.inl s0] h =
  bif decide (s0 = 0) || decide (s0 = 1) then some (some (.inl s0), h) else none :=
  (aB gP gX xs stp_192 2 d mm_192 17 _ _ h).trans rfl

def stp_193 : List Nat := [0, 16, 17]
set_option maxRecDepth 100000 in
set_option maxHeartbeats 4000000 in
theorem q_193_0 (xs : List Int) (d : Nat) (v0 : Int) (h : aH) : ev xs d mm_193 0 [some (.inl v0)] [] h =
  bif decide (v0 < 97) then
    ev xs d mm_193 16 [some (.inl v0)] [] h
  else
    bif decide (122 < v0) then
      ev xs d mm_193 16 [some (.inl v0)] [] h
    else
      ev xs d mm_193 17 [some (.inl v0)] [.inl 1] h :=
  (aB gP gX xs stp_193 9 d mm_193 0 _ _ h).trans rfl

set_option maxRecDepth 100000 in
set_option maxHeartbeats 4000000 in
theorem q_193_16 (xs : List Int) (d : Nat) (v0 : Int) (h : aH) : ev xs d mm_193 16 [some (.inl v0)] [] h =
  ev xs d mm_193 17 [some (.inl v0)] [.inl 0] h :=
  (aB gP gX xs stp_193 2 d mm_193 16 _ _ h).trans rfl

set_option maxRecDepth 100000 in
set_option maxHeartbeats 4000000 in
theorem q_193_17 (xs : List Int) (d : Nat) (v0 : Int) (s0 : Int) (h : aH) : ev xs d mm_193 17 [some (.inl v0)] [.inl s0] h =
  bif decide (s0 = 0) || decide (s0 = 1) then some (some (.inl s0), h) else none :=
  (aB gP gX xs stp_193 2 d mm_193 17 _ _ h).trans rfl

def stp_194 : List Nat := [0, 21]
set_option maxRecDepth 100000 in
set_option maxHeartbeats 4000000 in
theorem q_194_0 (xs : List Int) (d : Nat) (v0 : Int) (v2 : Int) (h : aH) : ev xs d mm_194 0 [some (.inr (.inl v0)), none, some (.inl v2)] [] h =
  bif decide (¬ v2 = 0) then
    ev xs d mm_194 21 [some (.inr (.inl v0)), none, some (.inl v2)] [.inr (.inl (w64 ((w64 (27 * v0)) + (w32 ((w32 (v2 - 97)) + 1)))))] h
  else
    ev xs d mm_194 21 [some (.inr (.inl v0)), none, some (.inl v2)] [.inr (.inl v0)] h :=
  (aB gP gX xs stp_194 13 d mm_194 0 _ _ h).trans rfl

set_option maxRecDepth 100000 in
set_option maxHeartbeats 4000000 in
theorem q_194_21 (xs : List Int) (d : Nat) (v0 : Int) (u1 : Option aV) (v2 : Int) (s0 : Int) (h : aH) : ev xs d mm_194 21 [some (.inr (.inl v0)), u1, some (.inl v2)] [.inr (.inl s0)] h =
  some (some (.inr (.inl s0)), h) :=
  (aB gP gX xs stp_194 2 d mm_194 21 _ _ h).trans rfl

def stp_195 : List Nat := [0]
set_option maxRecDepth 100000 in
set_option maxHeartbeats 4000000 in
theorem q_195_0 (xs : List Int) (d : Nat) (v0 : Int) (v1 : Int) (v2 : Int) (v3 : Int) (v4 : Int) (v5 : Int) (v6 : Int) (h : aH) : ev xs d mm_195 0 [some (.inl v0), some (.inl v1), some (.inl v2), some (.inl v3), some (.inl v4), some (.inl v5), some (.inl v6)] [] h =
  bJ (cl xs d 194 [.inr (.inl ((((0 : Fin 2) : Nat) : Nat) : Int)), .inl v0] h) (fun x2 h1 =>
    bJ (cl xs d 194 [.inr (.inl x2), .inl v1] h1) (fun x4 h3 =>
      bJ (cl xs d 194 [.inr (.inl x4), .inl v2] h3) (fun x6 h5 =>
        bJ (cl xs d 194 [.inr (.inl x6), .inl v3] h5) (fun x8 h7 =>
          bJ (cl xs d 194 [.inr (.inl x8), .inl v4] h7) (fun x10 h9 =>
            bJ (cl xs d 194 [.inr (.inl x10), .inl v5] h9) (fun x12 h11 =>
              bJ (cl xs d 194 [.inr (.inl x12), .inl v6] h11) (fun x14 h13 =>
                some (some (.inr (.inl x14)), h13)))))))) :=
  (aB gP gX xs stp_195 17 d mm_195 0 _ _ h).trans rfl

def stp_196 : List Nat := [0, 30]
set_option maxRecDepth 100000 in
set_option maxHeartbeats 4000000 in
theorem q_196_0 (xs : List Int) (d : Nat) (v0 : Int) (v1 : Int) (v2 : Int) (v3 : Int) (v4 : Int) (h : aH) : ev xs d mm_196 0 [some (.inr (.inr v0)), some (.inl v1), some (.inl v2), some (.inl v3), some (.inr (.inl v4)), none] [] h =
  bif aok h.1 v0 12 then
    bif aok h.1 v0 12 then
      bif ain h.1 (h.2 v0.toNat 5) 100 (h.2 v0.toNat 10) then
        bif aok h.1 v0 12 then
          bif aok h.1 v0 12 then
            bif ain h.1 ((aup h.2 (h.2 v0.toNat 5).toNat (h.2 v0.toNat 10).toNat v1) v0.toNat 6) 100 ((aup h.2 (h.2 v0.toNat 5).toNat (h.2 v0.toNat 10).toNat v1) v0.toNat 10) then
              bif aok h.1 v0 12 then
                bif aok h.1 v0 12 then
                  bif ain h.1 ((aup (aup h.2 (h.2 v0.toNat 5).toNat (h.2 v0.toNat 10).toNat v1) ((aup h.2 (h.2 v0.toNat 5).toNat (h.2 v0.toNat 10).toNat v1) v0.toNat 6).toNat ((aup h.2 (h.2 v0.toNat 5).toNat (h.2 v0.toNat 10).toNat v1) v0.toNat 10).toNat v2) v0.toNat 7) 100 ((aup (aup h.2 (h.2 v0.toNat 5).toNat (h.2 v0.toNat 10).toNat v1) ((aup h.2 (h.2 v0.toNat 5).toNat (h.2 v0.toNat 10).toNat v1) v0.toNat 6).toNat ((aup h.2 (h.2 v0.toNat 5).toNat (h.2 v0.toNat 10).toNat v1) v0.toNat 10).toNat v2) v0.toNat 10) then
                    ev xs d mm_196 30 [some (.inr (.inr v0)), some (.inl v1), some (.inl v2), some (.inl v3), some (.inr (.inl v4)), none] [] (h.1, aup (aup (aup h.2 (h.2 v0.toNat 5).toNat (h.2 v0.toNat 10).toNat v1) ((aup h.2 (h.2 v0.toNat 5).toNat (h.2 v0.toNat 10).toNat v1) v0.toNat 6).toNat ((aup h.2 (h.2 v0.toNat 5).toNat (h.2 v0.toNat 10).toNat v1) v0.toNat 10).toNat v2) ((aup (aup h.2 (h.2 v0.toNat 5).toNat (h.2 v0.toNat 10).toNat v1) ((aup h.2 (h.2 v0.toNat 5).toNat (h.2 v0.toNat 10).toNat v1) v0.toNat 6).toNat ((aup h.2 (h.2 v0.toNat 5).toNat (h.2 v0.toNat 10).toNat v1) v0.toNat 10).toNat v2) v0.toNat 7).toNat ((aup (aup h.2 (h.2 v0.toNat 5).toNat (h.2 v0.toNat 10).toNat v1) ((aup h.2 (h.2 v0.toNat 5).toNat (h.2 v0.toNat 10).toNat v1) v0.toNat 6).toNat ((aup h.2 (h.2 v0.toNat 5).toNat (h.2 v0.toNat 10).toNat v1) v0.toNat 10).toNat v2) v0.toNat 10).toNat v3)
                  else none
                else none
              else none
            else none
          else none
        else none
      else none
    else none
  else none :=
  (aB gP gX xs stp_196 19 d mm_196 0 _ _ h).trans rfl

set_option maxRecDepth 100000 in
set_option maxHeartbeats 4000000 in
theorem q_196_30 (xs : List Int) (d : Nat) (v0 : Int) (v1 : Int) (v2 : Int) (v3 : Int) (v4 : Int) (u5 : Option aV) (h : aH) : ev xs d mm_196 30 [some (.inr (.inr v0)), some (.inl v1), some (.inl v2), some (.inl v3), some (.inr (.inl v4)), u5] [] h =
  bif aok h.1 v0 12 then
    bif aok h.1 v0 12 then
      bif ain h.1 (h.2 v0.toNat 8) 101 (h.2 v0.toNat 10) then
        bif aok h.1 v0 12 then
          bif aok h.1 v0 12 then
            some (none, (h.1, aup (aup h.2 (h.2 v0.toNat 8).toNat (h.2 v0.toNat 10).toNat v4) v0.toNat 10 (w32 (((aup h.2 (h.2 v0.toNat 8).toNat (h.2 v0.toNat 10).toNat v4) v0.toNat 10) + 1))))
          else none
        else none
      else none
    else none
  else none :=
  (aB gP gX xs stp_196 14 d mm_196 30 _ _ h).trans rfl

def stp_197 : List Nat := [0, 7, 67, 85, 118, 135, 146, 173, 179, 208, 244, 261, 291]
set_option maxRecDepth 100000 in
set_option maxHeartbeats 4000000 in
theorem q_197_0 (xs : List Int) (d : Nat) (v0 : Int) (h : aH) : ev xs d mm_197 0 [some (.inr (.inr v0)), none, none, none, none, none, none, none] [] h =
  bif aok h.1 v0 12 then
    ev xs d mm_197 7 [some (.inr (.inr v0)), some (.inl 0), none, none, none, none, none, none] [] (h.1, aup h.2 v0.toNat 10 0)
  else none :=
  (aB gP gX xs stp_197 6 d mm_197 0 _ _ h).trans rfl

set_option maxRecDepth 100000 in
set_option maxHeartbeats 4000000 in
theorem q_197_7 (xs : List Int) (d : Nat) (v0 : Int) (v1 : Int) (u2 : Option aV) (u3 : Option aV) (u4 : Option aV) (u5 : Option aV) (u6 : Option aV) (u7 : Option aV) (h : aH) : ev xs d mm_197 7 [some (.inr (.inr v0)), some (.inl v1), u2, u3, u4, u5, u6, u7] [] h =
  bif aok h.1 v0 12 then
    bif decide (400 < (h.2 v0.toNat 10)) then
      some (none, h)
    else
      bif aok h.1 v0 12 && true then
        bI (cl xs d 191 [.inr (.inr v0), .inl v1] h) (fun x2 h1 =>
        bif aok h1.1 v0 12 then
          bif decide (v1 < (h1.2 v0.toNat 4)) then
            bif decide (x2 = 9) then
              ev xs d mm_197 67 [some (.inr (.inr v0)), some (.inl v1), some (.inl x2), u3, u4, u5, u6, u7] [] h1
            else
              bif decide (x2 = 10) then
                ev xs d mm_197 67 [some (.inr (.inr v0)), some (.inl v1), some (.inl x2), u3, u4, u5, u6, u7] [] h1
              else
                bif decide (x2 = 13) then
                  ev xs d mm_197 67 [some (.inr (.inr v0)), some (.inl v1), some (.inl x2), u3, u4, u5, u6, u7] [] h1
                else
                  bif decide (¬ x2 = 32) then
                    bI (cl xs d 193 [.inl x2] h1) (fun x4 h3 =>
                      bif decide (x4 = 0) then
                        bI (cl xs d 192 [.inl x2] h3) (fun x6 h5 =>
                          bif decide (x6 = 0) then
                            bif aok h5.1 v0 12 && true then
                              bI (cl xs d 191 [.inr (.inr v0), .inl (w32 (v1 + 1))] h5) (fun x8 h7 =>
                              bif aok h7.1 v0 12 && true then
                                bI (cl xs d 198 [.inr (.inr v0), .inl v1, .inl x2, .inl x8] h7) (fun x10 h9 =>
                                ev xs d mm_197 291 [some (.inr (.inr v0)), some (.inl (w32 (v1 + x10))), some (.inl x2), u3, u4, u5, u6, u7] [] h9)
                              else none)
                            else none
                          else
                            ev xs d mm_197 208 [some (.inr (.inr v0)), some (.inl v1), some (.inl x2), some (.inl 0), some (.inl 0), u5, u6, u7] [] h5)
                      else
                        ev xs d mm_197 85 [some (.inr (.inr v0)), some (.inl v1), some (.inl x2), some (.inl 0), some (.inr (.inl ((((0 : Fin 2) : Nat) : Nat) : Int))), none, u6, u7] [] h3)
                  else
                    ev xs d mm_197 67 [some (.inr (.inr v0)), some (.inl v1), some (.inl x2), u3, u4, u5, u6, u7] [] h1
          else
            bif aok h1.1 v0 12 then
              bif aok h1.1 v0 12 && true then
                bV (cl xs d 196 [.inr (.inr v0), .inl 0, .inl (h1.2 v0.toNat 4), .inl 0, .inr (.inl ((((0 : Fin 2) : Nat) : Nat) : Int))] h1) (fun h11 =>
                some (none, h11))
              else none
            else none
        else none)
      else none
  else none :=
  (aB gP gX xs stp_197 43 d mm_197 7 _ _ h).trans rfl

set_option maxRecDepth 100000 in
set_option maxHeartbeats 4000000 in
theorem q_197_67 (xs : List Int) (d : Nat) (v0 : Int) (v1 : Int) (v2 : Int) (u3 : Option aV) (u4 : Option aV) (u5 : Option aV) (u6 : Option aV) (u7 : Option aV) (h : aH) : ev xs d mm_197 67 [some (.inr (.inr v0)), some (.inl v1), some (.inl v2), u3, u4, u5, u6, u7] [] h =
  ev xs d mm_197 291 [some (.inr (.inr v0)), some (.inl (w32 (v1 + 1))), some (.inl v2), u3, u4, u5, u6, u7] [] h :=
  (aB gP gX xs stp_197 3 d mm_197 67 _ _ h).trans rfl

set_option maxRecDepth 100000 in
set_option maxHeartbeats 4000000 in
theorem q_197_85 (xs : List Int) (d : Nat) (v0 : Int) (v1 : Int) (v2 : Int) (v3 : Int) (v4 : Int) (u5 : Option aV) (u6 : Option aV) (u7 : Option aV) (h : aH) : ev xs d mm_197 85 [some (.inr (.inr v0)), some (.inl v1), some (.inl v2), some (.inl v3), some (.inr (.inl v4)), u5, u6, u7] [] h =
  bif aok h.1 v0 12 && true then
    bI (cl xs d 191 [.inr (.inr v0), .inl (w32 (v1 + v3))] h) (fun x2 h1 =>
    bI (cl xs d 193 [.inl x2] h1) (fun x4 h3 =>
      bif decide (x4 = 0) then
        bif decide (v3 ≤ 8) then
          ev xs d mm_197 135 [some (.inr (.inr v0)), some (.inl v1), some (.inl v2), some (.inl v3), some (.inr (.inl v4)), u5, u6, u7] [.inl 1] h3
        else
          ev xs d mm_197 135 [some (.inr (.inr v0)), some (.inl v1), some (.inl v2), some (.inl v3), some (.inr (.inl v4)), u5, u6, u7] [.inl 3] h3
      else
        bif decide (8 ≤ v3) then
          ev xs d mm_197 118 [some (.inr (.inr v0)), some (.inl v1), some (.inl v2), some (.inl v3), some (.inr (.inl v4)), u5, u6, u7] [] h3
        else
          bif aok h3.1 v0 12 && true then
            bI (cl xs d 191 [.inr (.inr v0), .inl (w32 (v1 + v3))] h3) (fun x6 h5 =>
            bJ (cl xs d 194 [.inr (.inl v4), .inl x6] h5) (fun x8 h7 =>
              ev xs d mm_197 118 [some (.inr (.inr v0)), some (.inl v1), some (.inl v2), some (.inl v3), some (.inr (.inl x8)), none, u6, u7] [] h7))
          else none))
  else none :=
  (aB gP gX xs stp_197 19 d mm_197 85 _ _ h).trans rfl

set_option maxRecDepth 100000 in
set_option maxHeartbeats 4000000 in
theorem q_197_118 (xs : List Int) (d : Nat) (v0 : Int) (v1 : Int) (v2 : Int) (v3 : Int) (v4 : Int) (u5 : Option aV) (u6 : Option aV) (u7 : Option aV) (h : aH) : ev xs d mm_197 118 [some (.inr (.inr v0)), some (.inl v1), some (.inl v2), some (.inl v3), some (.inr (.inl v4)), u5, u6, u7] [] h =
  ev xs d mm_197 85 [some (.inr (.inr v0)), some (.inl v1), some (.inl v2), some (.inl (w32 (v3 + 1))), some (.inr (.inl v4)), u5, u6, u7] [] h :=
  (aB gP gX xs stp_197 3 d mm_197 118 _ _ h).trans rfl

set_option maxRecDepth 100000 in
set_option maxHeartbeats 4000000 in
theorem q_197_135 (xs : List Int) (d : Nat) (v0 : Int) (v1 : Int) (v2 : Int) (v3 : Int) (v4 : Int) (u5 : Option aV) (u6 : Option aV) (u7 : Option aV) (s0 : Int) (h : aH) : ev xs d mm_197 135 [some (.inr (.inr v0)), some (.inl v1), some (.inl v2), some (.inl v3), some (.inr (.inl v4)), u5, u6, u7] [.inl s0] h =
  bif decide (7 < v3) then
    ev xs d mm_197 179 [some (.inr (.inr v0)), some (.inl v1), some (.inl v2), some (.inl v3), some (.inr (.inl v4)), acl u5, some (.inl s0), u7] [] h
  else
    ev xs d mm_197 146 [some (.inr (.inr v0)), some (.inl v1), some (.inl v2), some (.inl v3), some (.inr (.inl v4)), acl u5, some (.inl s0), some (.inl 0)] [] h :=
  (aB gP gX xs stp_197 7 d mm_197 135 _ _ h).trans rfl

set_option maxRecDepth 100000 in
set_option maxHeartbeats 4000000 in
theorem q_197_146 (xs : List Int) (d : Nat) (v0 : Int) (v1 : Int) (v2 : Int) (v3 : Int) (v4 : Int) (u5 : Option aV) (v6 : Int) (v7 : Int) (h : aH) : ev xs d mm_197 146 [some (.inr (.inr v0)), some (.inl v1), some (.inl v2), some (.inl v3), some (.inr (.inl v4)), u5, some (.inl v6), some (.inl v7)] [] h =
  bif decide (24 ≤ v7) then
    ev xs d mm_197 179 [some (.inr (.inr v0)), some (.inl v1), some (.inl v2), some (.inl v3), some (.inr (.inl v4)), u5, some (.inl v6), some (.inl v7)] [] h
  else
    bif aok h.1 v0 12 then
      bif ain h.1 (h.2 v0.toNat 9) 101 v7 then
        bif decide (¬ (olcmp (h.2 (h.2 v0.toNat 9).toNat v7.toNat) v4) = 0) then
          ev xs d mm_197 173 [some (.inr (.inr v0)), some (.inl v1), some (.inl v2), some (.inl v3), some (.inr (.inl v4)), u5, some (.inl v6), some (.inl v7)] [] h
        else
          ev xs d mm_197 173 [some (.inr (.inr v0)), some (.inl v1), some (.inl v2), some (.inl v3), some (.inr (.inl v4)), acl u5, some (.inl (w32 (20 + v7))), some (.inl v7)] [] h
      else none
    else none :=
  (aB gP gX xs stp_197 15 d mm_197 146 _ _ h).trans rfl

set_option maxRecDepth 100000 in
set_option maxHeartbeats 4000000 in
theorem q_197_173 (xs : List Int) (d : Nat) (v0 : Int) (v1 : Int) (v2 : Int) (v3 : Int) (v4 : Int) (u5 : Option aV) (v6 : Int) (v7 : Int) (h : aH) : ev xs d mm_197 173 [some (.inr (.inr v0)), some (.inl v1), some (.inl v2), some (.inl v3), some (.inr (.inl v4)), u5, some (.inl v6), some (.inl v7)] [] h =
  ev xs d mm_197 146 [some (.inr (.inr v0)), some (.inl v1), some (.inl v2), some (.inl v3), some (.inr (.inl v4)), u5, some (.inl v6), some (.inl (w32 (v7 + 1)))] [] h :=
  (aB gP gX xs stp_197 3 d mm_197 173 _ _ h).trans rfl

set_option maxRecDepth 100000 in
set_option maxHeartbeats 4000000 in
theorem q_197_179 (xs : List Int) (d : Nat) (v0 : Int) (v1 : Int) (v2 : Int) (v3 : Int) (v4 : Int) (u5 : Option aV) (v6 : Int) (u7 : Option aV) (h : aH) : ev xs d mm_197 179 [some (.inr (.inr v0)), some (.inl v1), some (.inl v2), some (.inl v3), some (.inr (.inl v4)), u5, some (.inl v6), u7] [] h =
  bif aok h.1 v0 12 && true then
    bV (cl xs d 196 [.inr (.inr v0), .inl v6, .inl v1, .inl 0, .inr (.inl v4)] h) (fun h1 =>
    ev xs d mm_197 291 [some (.inr (.inr v0)), some (.inl (w32 (v1 + v3))), some (.inl v2), some (.inl v3), some (.inr (.inl v4)), u5, some (.inl v6), u7] [] h1)
  else none :=
  (aB gP gX xs stp_197 12 d mm_197 179 _ _ h).trans rfl

set_option maxRecDepth 100000 in
set_option maxHeartbeats 4000000 in
theorem q_197_208 (xs : List Int) (d : Nat) (v0 : Int) (v1 : Int) (v2 : Int) (v3 : Int) (v4 : Int) (u5 : Option aV) (u6 : Option aV) (u7 : Option aV) (h : aH) : ev xs d mm_197 208 [some (.inr (.inr v0)), some (.inl v1), some (.inl v2), some (.inl v3), some (.inl v4), u5, u6, u7] [] h =
  bif aok h.1 v0 12 && true then
    bI (cl xs d 191 [.inr (.inr v0), .inl (w32 (v1 + v3))] h) (fun x2 h1 =>
    bI (cl xs d 192 [.inl x2] h1) (fun x4 h3 =>
      bif decide (x4 = 0) then
        bif decide (v3 ≤ 4) then
          ev xs d mm_197 261 [some (.inr (.inr v0)), some (.inl v1), some (.inl v2), some (.inl v3), some (.inl v4), u5, u6, u7] [.inl 2, .inr (.inr v0)] h3
        else
          ev xs d mm_197 261 [some (.inr (.inr v0)), some (.inl v1), some (.inl v2), some (.inl v3), some (.inl v4), u5, u6, u7] [.inl 3, .inr (.inr v0)] h3
      else
        bif decide (4 ≤ v3) then
          ev xs d mm_197 244 [some (.inr (.inr v0)), some (.inl v1), some (.inl v2), some (.inl v3), some (.inl v4), u5, u6, u7] [] h3
        else
          bif aok h3.1 v0 12 && true then
            bI (cl xs d 191 [.inr (.inr v0), .inl (w32 (v1 + v3))] h3) (fun x6 h5 =>
            ev xs d mm_197 244 [some (.inr (.inr v0)), some (.inl v1), some (.inl v2), some (.inl v3), some (.inl (w32 ((w32 ((w32 (10 * v4)) + x6)) - 48))), u5, u6, u7] [] h5)
          else none))
  else none :=
  (aB gP gX xs stp_197 23 d mm_197 208 _ _ h).trans rfl

set_option maxRecDepth 100000 in
set_option maxHeartbeats 4000000 in
theorem q_197_244 (xs : List Int) (d : Nat) (v0 : Int) (v1 : Int) (v2 : Int) (v3 : Int) (v4 : Int) (u5 : Option aV) (u6 : Option aV) (u7 : Option aV) (h : aH) : ev xs d mm_197 244 [some (.inr (.inr v0)), some (.inl v1), some (.inl v2), some (.inl v3), some (.inl v4), u5, u6, u7] [] h =
  ev xs d mm_197 208 [some (.inr (.inr v0)), some (.inl v1), some (.inl v2), some (.inl (w32 (v3 + 1))), some (.inl v4), u5, u6, u7] [] h :=
  (aB gP gX xs stp_197 3 d mm_197 244 _ _ h).trans rfl

set_option maxRecDepth 100000 in
set_option maxHeartbeats 4000000 in
theorem q_197_261 (xs : List Int) (d : Nat) (v0 : Int) (v1 : Int) (v2 : Int) (v3 : Int) (v4 : Int) (u5 : Option aV) (u6 : Option aV) (u7 : Option aV) (s0 : Int) (s1 : Int) (h : aH) : ev xs d mm_197 261 [some (.inr (.inr v0)), some (.inl v1), some (.inl v2), some (.inl v3), some (.inl v4), u5, u6, u7] [.inl s1, .inr (.inr s0)] h =
  bif aok h.1 s0 12 && true then
    bV (cl xs d 196 [.inr (.inr s0), .inl s1, .inl v1, .inl v4, .inr (.inl ((((0 : Fin 2) : Nat) : Nat) : Int))] h) (fun h1 =>
    ev xs d mm_197 291 [some (.inr (.inr v0)), some (.inl (w32 (v1 + v3))), some (.inl v2), some (.inl v3), some (.inl v4), u5, u6, u7] [] h1)
  else none :=
  (aB gP gX xs stp_197 10 d mm_197 261 _ _ h).trans rfl

set_option maxRecDepth 100000 in
set_option maxHeartbeats 4000000 in
theorem q_197_291 (xs : List Int) (d : Nat) (v0 : Int) (v1 : Int) (v2 : Int) (u3 : Option aV) (u4 : Option aV) (u5 : Option aV) (u6 : Option aV) (u7 : Option aV) (h : aH) : ev xs d mm_197 291 [some (.inr (.inr v0)), some (.inl v1), some (.inl v2), u3, u4, u5, u6, u7] [] h =
  ev xs d mm_197 7 [some (.inr (.inr v0)), some (.inl v1), some (.inl v2), u3, u4, u5, u6, u7] [] h :=
  (aB gP gX xs stp_197 2 d mm_197 291 _ _ h).trans rfl

def stp_198 : List Nat := [0, 43, 55, 65, 75, 85, 95]
set_option maxRecDepth 100000 in
set_option maxHeartbeats 4000000 in
theorem q_198_0 (xs : List Int) (d : Nat) (v0 : Int) (v1 : Int) (v2 : Int) (v3 : Int) (h : aH) : ev xs d mm_198 0 [some (.inr (.inr v0)), some (.inl v1), some (.inl v2), some (.inl v3), none] [] h =
  bif decide (¬ v2 = 59) then
    bif decide (¬ v2 = 61) then
      bif decide (¬ v2 = 40) then
        bif decide (¬ v2 = 41) then
          ev xs d mm_198 43 [some (.inr (.inr v0)), some (.inl v1), some (.inl v2), some (.inl v3), none] [.inl 3] h
        else
          ev xs d mm_198 43 [some (.inr (.inr v0)), some (.inl v1), some (.inl v2), some (.inl v3), none] [.inl 7] h
      else
        ev xs d mm_198 43 [some (.inr (.inr v0)), some (.inl v1), some (.inl v2), some (.inl v3), none] [.inl 6] h
    else
      ev xs d mm_198 43 [some (.inr (.inr v0)), some (.inl v1), some (.inl v2), some (.inl v3), none] [.inl 5] h
  else
    ev xs d mm_198 43 [some (.inr (.inr v0)), some (.inl v1), some (.inl v2), some (.inl v3), none] [.inl 4] h :=
  (aB gP gX xs stp_198 15 d mm_198 0 _ _ h).trans rfl

set_option maxRecDepth 100000 in
set_option maxHeartbeats 4000000 in
theorem q_198_43 (xs : List Int) (d : Nat) (v0 : Int) (v1 : Int) (v2 : Int) (v3 : Int) (u4 : Option aV) (s0 : Int) (h : aH) : ev xs d mm_198 43 [some (.inr (.inr v0)), some (.inl v1), some (.inl v2), some (.inl v3), u4] [.inl s0] h =
  bif decide (¬ v2 = 43) then
    ev xs d mm_198 55 [some (.inr (.inr v0)), some (.inl v1), some (.inl v2), some (.inl v3), some (.inl s0)] [] h
  else
    ev xs d mm_198 55 [some (.inr (.inr v0)), some (.inl v1), some (.inl v2), some (.inl v3), some (.inl 8)] [] h :=
  (aB gP gX xs stp_198 7 d mm_198 43 _ _ h).trans rfl

set_option maxRecDepth 100000 in
set_option maxHeartbeats 4000000 in
theorem q_198_55 (xs : List Int) (d : Nat) (v0 : Int) (v1 : Int) (v2 : Int) (v3 : Int) (v4 : Int) (h : aH) : ev xs d mm_198 55 [some (.inr (.inr v0)), some (.inl v1), some (.inl v2), some (.inl v3), some (.inl v4)] [] h =
  bif decide (¬ v2 = 45) then
    ev xs d mm_198 65 [some (.inr (.inr v0)), some (.inl v1), some (.inl v2), some (.inl v3), some (.inl v4)] [] h
  else
    ev xs d mm_198 65 [some (.inr (.inr v0)), some (.inl v1), some (.inl v2), some (.inl v3), some (.inl 9)] [] h :=
  (aB gP gX xs stp_198 6 d mm_198 55 _ _ h).trans rfl

set_option maxRecDepth 100000 in
set_option maxHeartbeats 4000000 in
theorem q_198_65 (xs : List Int) (d : Nat) (v0 : Int) (v1 : Int) (v2 : Int) (v3 : Int) (v4 : Int) (h : aH) : ev xs d mm_198 65 [some (.inr (.inr v0)), some (.inl v1), some (.inl v2), some (.inl v3), some (.inl v4)] [] h =
  bif decide (¬ v2 = 42) then
    ev xs d mm_198 75 [some (.inr (.inr v0)), some (.inl v1), some (.inl v2), some (.inl v3), some (.inl v4)] [] h
  else
    ev xs d mm_198 75 [some (.inr (.inr v0)), some (.inl v1), some (.inl v2), some (.inl v3), some (.inl 10)] [] h :=
  (aB gP gX xs stp_198 6 d mm_198 65 _ _ h).trans rfl

set_option maxRecDepth 100000 in
set_option maxHeartbeats 4000000 in
theorem q_198_75 (xs : List Int) (d : Nat) (v0 : Int) (v1 : Int) (v2 : Int) (v3 : Int) (v4 : Int) (h : aH) : ev xs d mm_198 75 [some (.inr (.inr v0)), some (.inl v1), some (.inl v2), some (.inl v3), some (.inl v4)] [] h =
  bif decide (¬ v2 = 47) then
    ev xs d mm_198 85 [some (.inr (.inr v0)), some (.inl v1), some (.inl v2), some (.inl v3), some (.inl v4)] [] h
  else
    ev xs d mm_198 85 [some (.inr (.inr v0)), some (.inl v1), some (.inl v2), some (.inl v3), some (.inl 15)] [] h :=
  (aB gP gX xs stp_198 6 d mm_198 75 _ _ h).trans rfl

set_option maxRecDepth 100000 in
set_option maxHeartbeats 4000000 in
theorem q_198_85 (xs : List Int) (d : Nat) (v0 : Int) (v1 : Int) (v2 : Int) (v3 : Int) (v4 : Int) (h : aH) : ev xs d mm_198 85 [some (.inr (.inr v0)), some (.inl v1), some (.inl v2), some (.inl v3), some (.inl v4)] [] h =
  bif decide (¬ v2 = 60) then
    ev xs d mm_198 95 [some (.inr (.inr v0)), some (.inl v1), some (.inl v2), some (.inl v3), some (.inl v4)] [] h
  else
    ev xs d mm_198 95 [some (.inr (.inr v0)), some (.inl v1), some (.inl v2), some (.inl v3), some (.inl 13)] [] h :=
  (aB gP gX xs stp_198 6 d mm_198 85 _ _ h).trans rfl

set_option maxRecDepth 100000 in
set_option maxHeartbeats 4000000 in
theorem q_198_95 (xs : List Int) (d : Nat) (v0 : Int) (v1 : Int) (v2 : Int) (v3 : Int) (v4 : Int) (h : aH) : ev xs d mm_198 95 [some (.inr (.inr v0)), some (.inl v1), some (.inl v2), some (.inl v3), some (.inl v4)] [] h =
  bif aok h.1 v0 12 && true then
    bV (cl xs d 196 [.inr (.inr v0), .inl v4, .inl v1, .inl 0, .inr (.inl ((((0 : Fin 2) : Nat) : Nat) : Int))] h) (fun h1 =>
    some (some (.inl 1), h1))
  else none :=
  (aB gP gX xs stp_198 9 d mm_198 95 _ _ h).trans rfl

def stp_199 : List Nat := [0, 24, 25]
set_option maxRecDepth 100000 in
set_option maxHeartbeats 4000000 in
theorem q_199_0 (xs : List Int) (d : Nat) (v0 : Int) (v1 : Int) (h : aH) : ev xs d mm_199 0 [some (.inr (.inr v0)), some (.inl v1)] [] h =
  bif aok h.1 v0 12 then
    bif decide (¬ (h.2 v0.toNat 13) = 0) then
      ev xs d mm_199 24 [some (.inr (.inr v0)), some (.inl v1)] [] h
    else
      bif aok h.1 v0 12 then
        bif aok h.1 v0 12 then
          bif ain h.1 (h.2 v0.toNat 5) 100 (h.2 v0.toNat 11) then
            bif decide (¬ (h.2 (h.2 v0.toNat 5).toNat (h.2 v0.toNat 11).toNat) = v1) then
              ev xs d mm_199 24 [some (.inr (.inr v0)), some (.inl v1)] [] h
            else
              ev xs d mm_199 25 [some (.inr (.inr v0)), some (.inl v1)] [.inl 1] h
          else none
        else none
      else none
  else none :=
  (aB gP gX xs stp_199 13 d mm_199 0 _ _ h).trans rfl

set_option maxRecDepth 100000 in
set_option maxHeartbeats 4000000 in
theorem q_199_24 (xs : List Int) (d : Nat) (v0 : Int) (v1 : Int) (h : aH) : ev xs d mm_199 24 [some (.inr (.inr v0)), some (.inl v1)] [] h =
  ev xs d mm_199 25 [some (.inr (.inr v0)), some (.inl v1)] [.inl 0] h :=
  (aB gP gX xs stp_199 2 d mm_199 24 _ _ h).trans rfl

set_option maxRecDepth 100000 in
set_option maxHeartbeats 4000000 in
theorem q_199_25 (xs : List Int) (d : Nat) (v0 : Int) (v1 : Int) (s0 : Int) (h : aH) : ev xs d mm_199 25 [some (.inr (.inr v0)), some (.inl v1)] [.inl s0] h =
  bif decide (s0 = 0) || decide (s0 = 1) then some (some (.inl s0), h) else none :=
  (aB gP gX xs stp_199 2 d mm_199 25 _ _ h).trans rfl

def stp_200 : List Nat := [0]
set_option maxRecDepth 100000 in
set_option maxHeartbeats 4000000 in
theorem q_200_0 (xs : List Int) (d : Nat) (v0 : Int) (v1 : Int) (h : aH) : ev xs d mm_200 0 [some (.inr (.inr v0)), some (.inl v1)] [] h =
  bif aok h.1 v0 12 then
    bif decide ((h.2 v0.toNat 13) ≤ 0) then
      bif aok h.1 v0 12 then
        bif aok h.1 v0 12 then
          bif aok h.1 v0 12 then
            bif ain h.1 ((aup h.2 v0.toNat 13 v1) v0.toNat 6) 100 ((aup h.2 v0.toNat 13 v1) v0.toNat 11) then
              bif aok h.1 v0 12 then
                some (none, (h.1, aup (aup h.2 v0.toNat 13 v1) v0.toNat 14 ((aup h.2 v0.toNat 13 v1) ((aup h.2 v0.toNat 13 v1) v0.toNat 6).toNat ((aup h.2 v0.toNat 13 v1) v0.toNat 11).toNat)))
              else none
            else none
          else none
        else none
      else none
    else
      some (none, h)
  else none :=
  (aB gP gX xs stp_200 15 d mm_200 0 _ _ h).trans rfl

def stp_201 : List Nat := [0, 45, 46]
set_option maxRecDepth 100000 in
set_option maxHeartbeats 4000000 in
theorem q_201_0 (xs : List Int) (d : Nat) (v0 : Int) (v1 : Int) (v2 : Int) (h : aH) : ev xs d mm_201 0 [some (.inr (.inr v0)), some (.inl v1), some (.inl v2), none] [] h =
  bif aok h.1 v0 12 then
    bif ain h.1 (h.2 v0.toNat 6) 100 v2 then
      bif aok h.1 v0 12 then
        bif decide (0 < (h.2 v0.toNat 13)) then
          ev xs d mm_201 45 [some (.inr (.inr v0)), some (.inl v1), some (.inl v2), some (.inl (h.2 (h.2 v0.toNat 6).toNat v2.toNat))] [] h
        else
          bif aok h.1 v0 12 then
            bif decide ((h.2 v0.toNat 15) = 0) then
              ev xs d mm_201 46 [some (.inr (.inr v0)), some (.inl v1), some (.inl v2), some (.inl (h.2 (h.2 v0.toNat 6).toNat v2.toNat))] [] h
            else
              bif aok h.1 v0 12 then
                bif decide ((h.2 v0.toNat 16) < (h.2 (h.2 v0.toNat 6).toNat v2.toNat)) then
                  ev xs d mm_201 45 [some (.inr (.inr v0)), some (.inl v1), some (.inl v2), some (.inl (h.2 (h.2 v0.toNat 6).toNat v2.toNat))] [] h
                else
                  bif aok h.1 v0 12 then
                    bif decide (¬ (h.2 (h.2 v0.toNat 6).toNat v2.toNat) = (h.2 v0.toNat 16)) then
                      ev xs d mm_201 46 [some (.inr (.inr v0)), some (.inl v1), some (.inl v2), some (.inl (h.2 (h.2 v0.toNat 6).toNat v2.toNat))] [] h
                    else
                      bif aok h.1 v0 12 then
                        bif decide (v1 < (h.2 v0.toNat 15)) then
                          ev xs d mm_201 46 [some (.inr (.inr v0)), some (.inl v1), some (.inl v2), some (.inl (h.2 (h.2 v0.toNat 6).toNat v2.toNat))] [] h
                        else
                          ev xs d mm_201 45 [some (.inr (.inr v0)), some (.inl v1), some (.inl v2), some (.inl (h.2 (h.2 v0.toNat 6).toNat v2.toNat))] [] h
                      else none
                  else none
              else none
          else none
      else none
    else none
  else none :=
  (aB gP gX xs stp_201 24 d mm_201 0 _ _ h).trans rfl

set_option maxRecDepth 100000 in
set_option maxHeartbeats 4000000 in
theorem q_201_45 (xs : List Int) (d : Nat) (v0 : Int) (v1 : Int) (v2 : Int) (v3 : Int) (h : aH) : ev xs d mm_201 45 [some (.inr (.inr v0)), some (.inl v1), some (.inl v2), some (.inl v3)] [] h =
  some (none, h) :=
  (aB gP gX xs stp_201 2 d mm_201 45 _ _ h).trans rfl

set_option maxRecDepth 100000 in
set_option maxHeartbeats 4000000 in
theorem q_201_46 (xs : List Int) (d : Nat) (v0 : Int) (v1 : Int) (v2 : Int) (v3 : Int) (h : aH) : ev xs d mm_201 46 [some (.inr (.inr v0)), some (.inl v1), some (.inl v2), some (.inl v3)] [] h =
  bif aok h.1 v0 12 then
    bif aok h.1 v0 12 then
      some (none, (h.1, aup (aup h.2 v0.toNat 15 v1) v0.toNat 16 v3))
    else none
  else none :=
  (aB gP gX xs stp_201 8 d mm_201 46 _ _ h).trans rfl

def stp_202 : List Nat := [0, 28]
set_option maxRecDepth 100000 in
set_option maxHeartbeats 4000000 in
theorem q_202_0 (xs : List Int) (d : Nat) (v0 : Int) (h : aH) : ev xs d mm_202 0 [some (.inr (.inr v0))] [] h =
  bif aok h.1 v0 12 then
    bif decide (¬ (h.2 v0.toNat 11) = 400) then
      bif aok h.1 v0 12 then
        bif aok h.1 v0 12 then
          ev xs d mm_202 28 [some (.inr (.inr v0))] [] (h.1, aup h.2 v0.toNat 11 (w32 ((h.2 v0.toNat 11) + 1)))
        else none
      else none
    else
      bif aok h.1 v0 12 && true then
        bV (cl xs d 200 [.inr (.inr v0), .inl 2] h) (fun h1 =>
        ev xs d mm_202 28 [some (.inr (.inr v0))] [] h1)
      else none
  else none :=
  (aB gP gX xs stp_202 11 d mm_202 0 _ _ h).trans rfl

set_option maxRecDepth 100000 in
set_option maxHeartbeats 4000000 in
theorem q_202_28 (xs : List Int) (d : Nat) (v0 : Int) (h : aH) : ev xs d mm_202 28 [some (.inr (.inr v0))] [] h =
  some (none, h) :=
  (aB gP gX xs stp_202 2 d mm_202 28 _ _ h).trans rfl

def stp_203 : List Nat := [0, 20]
set_option maxRecDepth 100000 in
set_option maxHeartbeats 4000000 in
theorem q_203_0 (xs : List Int) (d : Nat) (v0 : Int) (v1 : Int) (h : aH) : ev xs d mm_203 0 [some (.inr (.inr v0)), some (.inl v1)] [] h =
  bif aok h.1 v0 12 && true then
    bI (cl xs d 199 [.inr (.inr v0), .inl v1] h) (fun x2 h1 =>
    bif decide (x2 = 0) then
      bif aok h1.1 v0 12 && true then
        bV (cl xs d 200 [.inr (.inr v0), .inl 1] h1) (fun h3 =>
        ev xs d mm_203 20 [some (.inr (.inr v0)), some (.inl v1)] [] h3)
      else none
    else
      bif aok h1.1 v0 12 && true then
        bV (cl xs d 202 [.inr (.inr v0)] h1) (fun h4 =>
        ev xs d mm_203 20 [some (.inr (.inr v0)), some (.inl v1)] [] h4)
      else none)
  else none :=
  (aB gP gX xs stp_203 8 d mm_203 0 _ _ h).trans rfl

set_option maxRecDepth 100000 in
set_option maxHeartbeats 4000000 in
theorem q_203_20 (xs : List Int) (d : Nat) (v0 : Int) (v1 : Int) (h : aH) : ev xs d mm_203 20 [some (.inr (.inr v0)), some (.inl v1)] [] h =
  some (none, h) :=
  (aB gP gX xs stp_203 2 d mm_203 20 _ _ h).trans rfl

def stp_204 : List Nat := [0, 10, 50, 65, 95, 97, 142, 174, 206, 228, 258, 306, 308]
set_option maxRecDepth 100000 in
set_option maxHeartbeats 4000000 in
theorem q_204_0 (xs : List Int) (d : Nat) (v0 : Int) (h : aH) : ev xs d mm_204 0 [some (.inr (.inr v0)), none] [] h =
  bif aok h.1 v0 12 then
    bif aok h.1 v0 12 then
      ev xs d mm_204 10 [some (.inr (.inr v0)), some (.inl 0)] [] (h.1, aup h.2 v0.toNat 4 (h.2 v0.toNat 2))
    else none
  else none :=
  (aB gP gX xs stp_204 7 d mm_204 0 _ _ h).trans rfl

set_option maxRecDepth 100000 in
set_option maxHeartbeats 4000000 in
theorem q_204_10 (xs : List Int) (d : Nat) (v0 : Int) (v1 : Int) (h : aH) : ev xs d mm_204 10 [some (.inr (.inr v0)), some (.inl v1)] [] h =
  bif aok h.1 v0 12 then
    bif decide ((h.2 v0.toNat 4) ≤ v1) then
      bif aok h.1 v0 12 then
        bif aok h.1 v0 12 && true then
          bV (cl xs d 197 [.inr (.inr v0)] (h.1, aup h.2 v0.toNat 2 0)) (fun h1 =>
          bif aok h1.1 v0 12 then
            ev xs d mm_204 50 [some (.inr (.inr v0)), some (.inl v1)] [] (h1.1, aup h1.2 v0.toNat 11 0)
          else none)
        else none
      else none
    else
      bif aok h.1 v0 12 then
        bif aok h.1 v0 12 then
          bif ain h.1 (h.2 v0.toNat 1) 102 v1 then
            bif ain h.1 (h.2 v0.toNat 3) 102 v1 then
              ev xs d mm_204 10 [some (.inr (.inr v0)), some (.inl (w32 (v1 + 1)))] [] (h.1, aup h.2 (h.2 v0.toNat 3).toNat v1.toNat (oi2b (h.2 (h.2 v0.toNat 1).toNat v1.toNat)))
            else none
          else none
        else none
      else none
  else none :=
  (aB gP gX xs stp_204 15 d mm_204 10 _ _ h).trans rfl

set_option maxRecDepth 100000 in
set_option maxHeartbeats 4000000 in
theorem q_204_50 (xs : List Int) (d : Nat) (v0 : Int) (v1 : Int) (h : aH) : ev xs d mm_204 50 [some (.inr (.inr v0)), some (.inl v1)] [] h =
  bif aok h.1 v0 12 then
    bif aok h.1 v0 12 then
      bif aok h.1 v0 12 then
        ev xs d mm_204 65 [some (.inr (.inr v0)), some (.inl v1)] [] (h.1, aup (aup (aup h.2 v0.toNat 12 0) v0.toNat 13 0) v0.toNat 15 0)
      else none
    else none
  else none :=
  (aB gP gX xs stp_204 10 d mm_204 50 _ _ h).trans rfl

set_option maxRecDepth 100000 in
set_option maxHeartbeats 4000000 in
theorem q_204_65 (xs : List Int) (d : Nat) (v0 : Int) (v1 : Int) (h : aH) : ev xs d mm_204 65 [some (.inr (.inr v0)), some (.inl v1)] [] h =
  bif aok h.1 v0 12 then
    bif aok h.1 v0 12 then
      bif aok h.1 v0 12 then
        bif aok h.1 v0 12 then
          bif ain h.1 ((aup h.2 v0.toNat 19 (w32 (1 - (h.2 v0.toNat 18)))) v0.toNat 20) 100 ((aup h.2 v0.toNat 19 (w32 (1 - (h.2 v0.toNat 18)))) v0.toNat 19) then
            bif aok h.1 v0 12 then
              bif aok h.1 v0 12 then
                bif ain h.1 ((aup (aup h.2 v0.toNat 19 (w32 (1 - (h.2 v0.toNat 18)))) ((aup h.2 v0.toNat 19 (w32 (1 - (h.2 v0.toNat 18)))) v0.toNat 20).toNat ((aup h.2 v0.toNat 19 (w32 (1 - (h.2 v0.toNat 18)))) v0.toNat 19).toNat 0) v0.toNat 23) 100 ((aup (aup h.2 v0.toNat 19 (w32 (1 - (h.2 v0.toNat 18)))) ((aup h.2 v0.toNat 19 (w32 (1 - (h.2 v0.toNat 18)))) v0.toNat 20).toNat ((aup h.2 v0.toNat 19 (w32 (1 - (h.2 v0.toNat 18)))) v0.toNat 19).toNat 0) v0.toNat 19) then
                  ev xs d mm_204 95 [some (.inr (.inr v0)), some (.inl v1)] [] (h.1, aup (aup (aup h.2 v0.toNat 19 (w32 (1 - (h.2 v0.toNat 18)))) ((aup h.2 v0.toNat 19 (w32 (1 - (h.2 v0.toNat 18)))) v0.toNat 20).toNat ((aup h.2 v0.toNat 19 (w32 (1 - (h.2 v0.toNat 18)))) v0.toNat 19).toNat 0) ((aup (aup h.2 v0.toNat 19 (w32 (1 - (h.2 v0.toNat 18)))) ((aup h.2 v0.toNat 19 (w32 (1 - (h.2 v0.toNat 18)))) v0.toNat 20).toNat ((aup h.2 v0.toNat 19 (w32 (1 - (h.2 v0.toNat 18)))) v0.toNat 19).toNat 0) v0.toNat 23).toNat ((aup (aup h.2 v0.toNat 19 (w32 (1 - (h.2 v0.toNat 18)))) ((aup h.2 v0.toNat 19 (w32 (1 - (h.2 v0.toNat 18)))) v0.toNat 20).toNat ((aup h.2 v0.toNat 19 (w32 (1 - (h.2 v0.toNat 18)))) v0.toNat 19).toNat 0) v0.toNat 19).toNat 0)
                else none
              else none
            else none
          else none
        else none
      else none
    else none
  else none :=
  (aB gP gX xs stp_204 19 d mm_204 65 _ _ h).trans rfl

set_option maxRecDepth 100000 in
set_option maxHeartbeats 4000000 in
theorem q_204_95 (xs : List Int) (d : Nat) (v0 : Int) (v1 : Int) (h : aH) : ev xs d mm_204 95 [some (.inr (.inr v0)), some (.inl v1)] [] h =
  ev xs d mm_204 97 [some (.inr (.inr v0)), some (.inl 0)] [] h :=
  (aB gP gX xs stp_204 3 d mm_204 95 _ _ h).trans rfl

set_option maxRecDepth 100000 in
set_option maxHeartbeats 4000000 in
theorem q_204_97 (xs : List Int) (d : Nat) (v0 : Int) (v1 : Int) (h : aH) : ev xs d mm_204 97 [some (.inr (.inr v0)), some (.inl v1)] [] h =
  bif decide (3 ≤ v1) then
    bif aok h.1 v0 12 then
      bif aok h.1 v0 12 then
        bif ain h.1 (h.2 v0.toNat 33) 100 (h.2 v0.toNat 19) then
          bif aok h.1 v0 12 then
            bif aok h.1 v0 12 then
              bif ain h.1 ((aup h.2 (h.2 v0.toNat 33).toNat (h.2 v0.toNat 19).toNat 0) v0.toNat 35) 100 ((aup h.2 (h.2 v0.toNat 33).toNat (h.2 v0.toNat 19).toNat 0) v0.toNat 19) then
                ev xs d mm_204 142 [some (.inr (.inr v0)), some (.inl v1)] [] (h.1, aup (aup h.2 (h.2 v0.toNat 33).toNat (h.2 v0.toNat 19).toNat 0) ((aup h.2 (h.2 v0.toNat 33).toNat (h.2 v0.toNat 19).toNat 0) v0.toNat 35).toNat ((aup h.2 (h.2 v0.toNat 33).toNat (h.2 v0.toNat 19).toNat 0) v0.toNat 19).toNat 0)
              else none
            else none
          else none
        else none
      else none
    else none
  else
    bif aok h.1 v0 12 then
      bif aok h.1 v0 12 then
        bif ain h.1 (h.2 v0.toNat 30) 100 (w32 ((w32 (3 * (h.2 v0.toNat 19))) + v1)) then
          ev xs d mm_204 97 [some (.inr (.inr v0)), some (.inl (w32 (v1 + 1)))] [] (h.1, aup h.2 (h.2 v0.toNat 30).toNat (w32 ((w32 (3 * (h.2 v0.toNat 19))) + v1)).toNat 0)
        else none
      else none
    else none :=
  (aB gP gX xs stp_204 16 d mm_204 97 _ _ h).trans rfl

set_option maxRecDepth 100000 in
set_option maxHeartbeats 4000000 in
theorem q_204_142 (xs : List Int) (d : Nat) (v0 : Int) (v1 : Int) (h : aH) : ev xs d mm_204 142 [some (.inr (.inr v0)), some (.inl v1)] [] h =
  bif aok h.1 v0 12 then
    bif aok h.1 v0 12 then
      bif ain h.1 (h.2 v0.toNat 39) 100 (h.2 v0.toNat 19) then
        bif aok h.1 v0 12 then
          bif aok h.1 v0 12 then
            bif ain h.1 ((aup h.2 (h.2 v0.toNat 39).toNat (h.2 v0.toNat 19).toNat 0) v0.toNat 44) 100 ((aup h.2 (h.2 v0.toNat 39).toNat (h.2 v0.toNat 19).toNat 0) v0.toNat 19) then
              bif aok h.1 v0 12 then
                bif aok h.1 v0 12 then
                  ev xs d mm_204 174 [some (.inr (.inr v0)), some (.inl v1)] [] (h.1, aup (aup (aup h.2 (h.2 v0.toNat 39).toNat (h.2 v0.toNat 19).toNat 0) ((aup h.2 (h.2 v0.toNat 39).toNat (h.2 v0.toNat 19).toNat 0) v0.toNat 44).toNat ((aup h.2 (h.2 v0.toNat 39).toNat (h.2 v0.toNat 19).toNat 0) v0.toNat 19).toNat 0) v0.toNat 47 (w32 (130 * ((aup (aup h.2 (h.2 v0.toNat 39).toNat (h.2 v0.toNat 19).toNat 0) ((aup h.2 (h.2 v0.toNat 39).toNat (h.2 v0.toNat 19).toNat 0) v0.toNat 44).toNat ((aup h.2 (h.2 v0.toNat 39).toNat (h.2 v0.toNat 19).toNat 0) v0.toNat 19).toNat 0) v0.toNat 19))))
                else none
              else none
            else none
          else none
        else none
      else none
    else none
  else none :=
  (aB gP gX xs stp_204 19 d mm_204 142 _ _ h).trans rfl

set_option maxRecDepth 100000 in
set_option maxHeartbeats 4000000 in
theorem q_204_174 (xs : List Int) (d : Nat) (v0 : Int) (v1 : Int) (h : aH) : ev xs d mm_204 174 [some (.inr (.inr v0)), some (.inl v1)] [] h =
  bif aok h.1 v0 12 then
    bif aok h.1 v0 12 then
      bif aok h.1 v0 12 then
        bif aok h.1 v0 12 then
          bif ain h.1 ((aup h.2 v0.toNat 53 (w32 (420 * (h.2 v0.toNat 19)))) v0.toNat 45) 100 ((aup h.2 v0.toNat 53 (w32 (420 * (h.2 v0.toNat 19)))) v0.toNat 19) then
            bif aok h.1 v0 12 then
              bif aok h.1 v0 12 then
                bif ain h.1 ((aup (aup h.2 v0.toNat 53 (w32 (420 * (h.2 v0.toNat 19)))) ((aup h.2 v0.toNat 53 (w32 (420 * (h.2 v0.toNat 19)))) v0.toNat 45).toNat ((aup h.2 v0.toNat 53 (w32 (420 * (h.2 v0.toNat 19)))) v0.toNat 19).toNat 0) v0.toNat 46) 100 ((aup (aup h.2 v0.toNat 53 (w32 (420 * (h.2 v0.toNat 19)))) ((aup h.2 v0.toNat 53 (w32 (420 * (h.2 v0.toNat 19)))) v0.toNat 45).toNat ((aup h.2 v0.toNat 53 (w32 (420 * (h.2 v0.toNat 19)))) v0.toNat 19).toNat 0) v0.toNat 19) then
                  ev xs d mm_204 206 [some (.inr (.inr v0)), some (.inl v1)] [] (h.1, aup (aup (aup h.2 v0.toNat 53 (w32 (420 * (h.2 v0.toNat 19)))) ((aup h.2 v0.toNat 53 (w32 (420 * (h.2 v0.toNat 19)))) v0.toNat 45).toNat ((aup h.2 v0.toNat 53 (w32 (420 * (h.2 v0.toNat 19)))) v0.toNat 19).toNat 0) ((aup (aup h.2 v0.toNat 53 (w32 (420 * (h.2 v0.toNat 19)))) ((aup h.2 v0.toNat 53 (w32 (420 * (h.2 v0.toNat 19)))) v0.toNat 45).toNat ((aup h.2 v0.toNat 53 (w32 (420 * (h.2 v0.toNat 19)))) v0.toNat 19).toNat 0) v0.toNat 46).toNat ((aup (aup h.2 v0.toNat 53 (w32 (420 * (h.2 v0.toNat 19)))) ((aup h.2 v0.toNat 53 (w32 (420 * (h.2 v0.toNat 19)))) v0.toNat 45).toNat ((aup h.2 v0.toNat 53 (w32 (420 * (h.2 v0.toNat 19)))) v0.toNat 19).toNat 0) v0.toNat 19).toNat 0)
                else none
              else none
            else none
          else none
        else none
      else none
    else none
  else none :=
  (aB gP gX xs stp_204 19 d mm_204 174 _ _ h).trans rfl

set_option maxRecDepth 100000 in
set_option maxHeartbeats 4000000 in
theorem q_204_206 (xs : List Int) (d : Nat) (v0 : Int) (v1 : Int) (h : aH) : ev xs d mm_204 206 [some (.inr (.inr v0)), some (.inl v1)] [] h =
  bif aok h.1 v0 12 then
    bif decide (¬ (h.2 v0.toNat 13) = 0) then
      ev xs d mm_204 228 [some (.inr (.inr v0)), some (.inl v1)] [] h
    else
      bif aok h.1 v0 12 && true then
        bI (cl xs d 199 [.inr (.inr v0), .inl 0] h) (fun x2 h1 =>
        bif decide (¬ x2 = 0) then
          ev xs d mm_204 228 [some (.inr (.inr v0)), some (.inl v1)] [] h1
        else
          bif aok h1.1 v0 12 && true then
            bV (cl xs d 208 [.inr (.inr v0)] h1) (fun h3 =>
            ev xs d mm_204 206 [some (.inr (.inr v0)), some (.inl v1)] [] h3)
          else none)
      else none
  else none :=
  (aB gP gX xs stp_204 11 d mm_204 206 _ _ h).trans rfl

set_option maxRecDepth 100000 in
set_option maxHeartbeats 4000000 in
theorem q_204_228 (xs : List Int) (d : Nat) (v0 : Int) (v1 : Int) (h : aH) : ev xs d mm_204 228 [some (.inr (.inr v0)), some (.inl v1)] [] h =
  bif aok h.1 v0 12 then
    bif decide ((h.2 v0.toNat 13) ≤ 0) then
      bif aok h.1 v0 12 then
        bif decide ((h.2 v0.toNat 15) ≤ 0) then
          ev xs d mm_204 258 [some (.inr (.inr v0)), some (.inl v1)] [.inl (-1), .inr (.inr v0)] h
        else
          bif aok h.1 v0 12 then
            ev xs d mm_204 258 [some (.inr (.inr v0)), some (.inl v1)] [.inl (h.2 v0.toNat 16), .inr (.inr v0)] h
          else none
      else none
    else
      bif aok h.1 v0 12 then
        ev xs d mm_204 258 [some (.inr (.inr v0)), some (.inl v1)] [.inl (h.2 v0.toNat 14), .inr (.inr v0)] h
      else none
  else none :=
  (aB gP gX xs stp_204 11 d mm_204 228 _ _ h).trans rfl

set_option maxRecDepth 100000 in
set_option maxHeartbeats 4000000 in
theorem q_204_258 (xs : List Int) (d : Nat) (v0 : Int) (v1 : Int) (s0 : Int) (s1 : Int) (h : aH) : ev xs d mm_204 258 [some (.inr (.inr v0)), some (.inl v1)] [.inl s1, .inr (.inr s0)] h =
  bif aok h.1 s0 12 then
    bif aok h.1 v0 12 then
      bif decide (((aup h.2 s0.toNat 17 s1) v0.toNat 13) ≤ 0) then
        bif aok h.1 v0 12 then
          bif decide (((aup h.2 s0.toNat 17 s1) v0.toNat 15) ≤ 0) then
            bif aok h.1 v0 12 then
              bif aok h.1 v0 12 then
                bif aok h.1 v0 12 && true then
                  bV (cl xs d 227 [.inr (.inr v0)] (h.1, aup (aup h.2 s0.toNat 17 s1) v0.toNat 18 ((aup h.2 s0.toNat 17 s1) v0.toNat 19))) (fun h1 =>
                  bif aok h1.1 v0 12 && true then
                    bV (cl xs d 228 [.inr (.inr v0)] h1) (fun h2 =>
                    bif aok h2.1 v0 12 then
                      ev xs d mm_204 306 [some (.inr (.inr v0)), some (.inl v1)] [] (h2.1, aup h2.2 v0.toNat 70 0)
                    else none)
                  else none)
                else none
              else none
            else none
          else
            bif aok h.1 v0 12 then
              some (some (.inl ((aup h.2 s0.toNat 17 s1) v0.toNat 15)), (h.1, aup h.2 s0.toNat 17 s1))
            else none
        else none
      else
        bif aok h.1 v0 12 then
          some (some (.inl ((aup h.2 s0.toNat 17 s1) v0.toNat 13)), (h.1, aup h.2 s0.toNat 17 s1))
        else none
    else none
  else none :=
  (aB gP gX xs stp_204 19 d mm_204 258 _ _ h).trans rfl

set_option maxRecDepth 100000 in
set_option maxHeartbeats 4000000 in
theorem q_204_306 (xs : List Int) (d : Nat) (v0 : Int) (v1 : Int) (h : aH) : ev xs d mm_204 306 [some (.inr (.inr v0)), some (.inl v1)] [] h =
  ev xs d mm_204 308 [some (.inr (.inr v0)), some (.inl 0)] [] h :=
  (aB gP gX xs stp_204 3 d mm_204 306 _ _ h).trans rfl

set_option maxRecDepth 100000 in
set_option maxHeartbeats 4000000 in
theorem q_204_308 (xs : List Int) (d : Nat) (v0 : Int) (v1 : Int) (h : aH) : ev xs d mm_204 308 [some (.inr (.inr v0)), some (.inl v1)] [] h =
  bif decide (3 ≤ v1) then
    some (some (.inl 0), h)
  else
    bif aok h.1 v0 12 then
      bif ain h.1 (h.2 v0.toNat 83) 103 v1 && true then
        ev xs d mm_204 308 [some (.inr (.inr v0)), some (.inl (w32 (v1 + 1)))] [] (h.1, aup h.2 (h.2 v0.toNat 83).toNat v1.toNat 0)
      else none
    else none :=
  (aB gP gX xs stp_204 11 d mm_204 308 _ _ h).trans rfl

def stp_205 : List Nat := [0]
set_option maxRecDepth 100000 in
set_option maxHeartbeats 4000000 in
theorem q_205_0 (xs : List Int) (d : Nat) (v0 : Int) (h : aH) : ev xs d mm_205 0 [some (.inr (.inr v0))] [] h =
  bif aok h.1 v0 12 then
    some (some (.inl (h.2 v0.toNat 17)), h)
  else none :=
  (aB gP gX xs stp_205 4 d mm_205 0 _ _ h).trans rfl

def stp_206 : List Nat := [0, 10, 21]
set_option maxRecDepth 100000 in
set_option maxHeartbeats 4000000 in
theorem q_206_0 (xs : List Int) (d : Nat) (v0 : Int) (v1 : Int) (v2 : Int) (h : aH) : ev xs d mm_206 0 [some (.inr (.inr v0)), some (.inl v1), some (.inl v2)] [] h =
  bif decide (¬ v1 = v2) then
    ev xs d mm_206 10 [some (.inr (.inr v0)), some (.inl v1), some (.inl v2)] [] h
  else
    bif aok h.1 v0 12 && true then
      bV (cl xs d 200 [.inr (.inr v0), .inl 2] h) (fun h1 =>
      ev xs d mm_206 10 [some (.inr (.inr v0)), some (.inl v1), some (.inl v2)] [] h1)
    else none :=
  (aB gP gX xs stp_206 7 d mm_206 0 _ _ h).trans rfl

set_option maxRecDepth 100000 in
set_option maxHeartbeats 4000000 in
theorem q_206_10 (xs : List Int) (d : Nat) (v0 : Int) (v1 : Int) (v2 : Int) (h : aH) : ev xs d mm_206 10 [some (.inr (.inr v0)), some (.inl v1), some (.inl v2)] [] h =
  bif aok h.1 v0 12 then
    bif decide (¬ (h.2 v0.toNat 13) = 0) then
      ev xs d mm_206 21 [some (.inr (.inr v0)), some (.inl v1), some (.inl v2)] [] h
    else
      bif aok h.1 v0 12 && true then
        bV (cl xs d 202 [.inr (.inr v0)] h) (fun h1 =>
        ev xs d mm_206 21 [some (.inr (.inr v0)), some (.inl v1), some (.inl v2)] [] h1)
      else none
  else none :=
  (aB gP gX xs stp_206 6 d mm_206 10 _ _ h).trans rfl

set_option maxRecDepth 100000 in
set_option maxHeartbeats 4000000 in
theorem q_206_21 (xs : List Int) (d : Nat) (v0 : Int) (v1 : Int) (v2 : Int) (h : aH) : ev xs d mm_206 21 [some (.inr (.inr v0)), some (.inl v1), some (.inl v2)] [] h =
  some (none, h) :=
  (aB gP gX xs stp_206 2 d mm_206 21 _ _ h).trans rfl

def stp_207 : List Nat := [0, 20]
set_option maxRecDepth 100000 in
set_option maxHeartbeats 4000000 in
theorem q_207_0 (xs : List Int) (d : Nat) (v0 : Int) (h : aH) : ev xs d mm_207 0 [some (.inl v0)] [] h =
  bif decide (¬ v0 = 0) then
    bif decide (¬ v0 = 1) then
      ev xs d mm_207 20 [some (.inl v0)] [.inl 4] h
    else
      ev xs d mm_207 20 [some (.inl v0)] [.inl 6] h
  else
    ev xs d mm_207 20 [some (.inl v0)] [.inl 8] h :=
  (aB gP gX xs stp_207 8 d mm_207 0 _ _ h).trans rfl

set_option maxRecDepth 100000 in
set_option maxHeartbeats 4000000 in
theorem q_207_20 (xs : List Int) (d : Nat) (v0 : Int) (s0 : Int) (h : aH) : ev xs d mm_207 20 [some (.inl v0)] [.inl s0] h =
  some (some (.inl s0), h) :=
  (aB gP gX xs stp_207 2 d mm_207 20 _ _ h).trans rfl

def stp_208 : List Nat := [0, 84, 113, 142, 224, 253, 281, 292, 321, 352, 357, 398]
set_option maxRecDepth 100000 in
set_option maxHeartbeats 4000000 in
theorem q_208_0 (xs : List Int) (d : Nat) (v0 : Int) (h : aH) : ev xs d mm_208 0 [some (.inr (.inr v0)), none] [] h =
  bif aok h.1 v0 12 then
    bif aok h.1 v0 12 then
      bif ain h.1 (h.2 v0.toNat 5) 100 (h.2 v0.toNat 11) then
        ev xs d mm_208 (asw 9 312 20 34 #[75, 104, 312, 312, 312, 312, 312, 312, 312, 312, 133, 215, 244, 272, 283] (h.2 (h.2 v0.toNat 5).toNat (h.2 v0.toNat 11).toNat)) [some (.inr (.inr v0)), none] [] h
      else none
    else none
  else none :=
  (aB gP gX xs stp_208 7 d mm_208 0 _ _ h).trans rfl

set_option maxRecDepth 100000 in
set_option maxHeartbeats 4000000 in
theorem q_208_84 (xs : List Int) (d : Nat) (v0 : Int) (u1 : Option aV) (h : aH) : ev xs d mm_208 84 [some (.inr (.inr v0)), u1] [] h =
  bif aok h.1 v0 12 then
    bif aok h.1 v0 12 then
      bif ain h.1 (h.2 v0.toNat 20) 100 (h.2 v0.toNat 19) then
        bif aok h.1 v0 12 && true then
          bV (cl xs d 206 [.inr (.inr v0), .inl (h.2 (h.2 v0.toNat 20).toNat (h.2 v0.toNat 19).toNat), .inl 6] h) (fun h1 =>
          bif aok h1.1 v0 12 then
            bif decide (¬ (h1.2 v0.toNat 13) = 0) then
              ev xs d mm_208 398 [some (.inr (.inr v0)), u1] [] h1
            else
              bif aok h1.1 v0 12 && true then
                bV (cl xs d 210 [.inr (.inr v0)] h1) (fun h2 =>
                ev xs d mm_208 398 [some (.inr (.inr v0)), u1] [] h2)
              else none
          else none)
        else none
      else none
    else none
  else none :=
  (aB gP gX xs stp_208 15 d mm_208 84 _ _ h).trans rfl

set_option maxRecDepth 100000 in
set_option maxHeartbeats 4000000 in
theorem q_208_113 (xs : List Int) (d : Nat) (v0 : Int) (u1 : Option aV) (h : aH) : ev xs d mm_208 113 [some (.inr (.inr v0)), u1] [] h =
  bif aok h.1 v0 12 then
    bif aok h.1 v0 12 then
      bif ain h.1 (h.2 v0.toNat 23) 100 (h.2 v0.toNat 19) then
        bif aok h.1 v0 12 && true then
          bV (cl xs d 206 [.inr (.inr v0), .inl (h.2 (h.2 v0.toNat 23).toNat (h.2 v0.toNat 19).toNat), .inl 7] h) (fun h1 =>
          bif aok h1.1 v0 12 then
            bif decide (¬ (h1.2 v0.toNat 13) = 0) then
              ev xs d mm_208 398 [some (.inr (.inr v0)), u1] [] h1
            else
              bif aok h1.1 v0 12 && true then
                bV (cl xs d 214 [.inr (.inr v0)] h1) (fun h2 =>
                ev xs d mm_208 398 [some (.inr (.inr v0)), u1] [] h2)
              else none
          else none)
        else none
      else none
    else none
  else none :=
  (aB gP gX xs stp_208 15 d mm_208 113 _ _ h).trans rfl

set_option maxRecDepth 100000 in
set_option maxHeartbeats 4000000 in
theorem q_208_142 (xs : List Int) (d : Nat) (v0 : Int) (u1 : Option aV) (h : aH) : ev xs d mm_208 142 [some (.inr (.inr v0)), u1] [] h =
  bif aok h.1 v0 12 then
    bif aok h.1 v0 12 then
      bif ain h.1 (h.2 v0.toNat 33) 100 (h.2 v0.toNat 19) then
        bif aok h.1 v0 12 && true then
          bV (cl xs d 206 [.inr (.inr v0), .inl (h.2 (h.2 v0.toNat 33).toNat (h.2 v0.toNat 19).toNat), .inl 10] h) (fun h1 =>
          bif aok h1.1 v0 12 then
            bif aok h1.1 v0 12 && true then
              bV (cl xs d 203 [.inr (.inr v0), .inl 1] h1) (fun h2 =>
              bif aok h2.1 v0 12 && true then
                bV (cl xs d 203 [.inr (.inr v0), .inl 4] h2) (fun h3 =>
                bif aok h3.1 v0 12 then
                  bif decide ((h3.2 v0.toNat 13) ≤ 0) then
                    bif aok h3.1 v0 12 then
                      bif aok h3.1 v0 12 then
                        bif aok h3.1 v0 12 then
                          bif aok h3.1 v0 12 then
                            bif ain h3.1 (h3.2 v0.toNat 33) 100 (h3.2 v0.toNat 19) then
                              bif aok h3.1 v0 12 then
                                bif ain h3.1 (h3.2 v0.toNat 8) 101 (h1.2 v0.toNat 11) then
                                  bif ain h3.1 (h3.2 v0.toNat 34) 101 (w32 ((w32 (10 * (h3.2 v0.toNat 19))) + (h3.2 (h3.2 v0.toNat 33).toNat (h3.2 v0.toNat 19).toNat))) then
                                    bif aok h3.1 v0 12 then
                                      bif aok h3.1 v0 12 then
                                        bif ain h3.1 ((aup h3.2 (h3.2 v0.toNat 34).toNat (w32 ((w32 (10 * (h3.2 v0.toNat 19))) + (h3.2 (h3.2 v0.toNat 33).toNat (h3.2 v0.toNat 19).toNat))).toNat (h3.2 (h3.2 v0.toNat 8).toNat (h1.2 v0.toNat 11).toNat)) v0.toNat 33) 100 ((aup h3.2 (h3.2 v0.toNat 34).toNat (w32 ((w32 (10 * (h3.2 v0.toNat 19))) + (h3.2 (h3.2 v0.toNat 33).toNat (h3.2 v0.toNat 19).toNat))).toNat (h3.2 (h3.2 v0.toNat 8).toNat (h1.2 v0.toNat 11).toNat)) v0.toNat 19) then
                                          bif ain h3.1 ((aup h3.2 (h3.2 v0.toNat 34).toNat (w32 ((w32 (10 * (h3.2 v0.toNat 19))) + (h3.2 (h3.2 v0.toNat 33).toNat (h3.2 v0.toNat 19).toNat))).toNat (h3.2 (h3.2 v0.toNat 8).toNat (h1.2 v0.toNat 11).toNat)) v0.toNat 33) 100 ((aup h3.2 (h3.2 v0.toNat 34).toNat (w32 ((w32 (10 * (h3.2 v0.toNat 19))) + (h3.2 (h3.2 v0.toNat 33).toNat (h3.2 v0.toNat 19).toNat))).toNat (h3.2 (h3.2 v0.toNat 8).toNat (h1.2 v0.toNat 11).toNat)) v0.toNat 19) then
                                            ev xs d mm_208 398 [some (.inr (.inr v0)), some (.inl (h1.2 v0.toNat 11))] [] (h3.1, aup (aup h3.2 (h3.2 v0.toNat 34).toNat (w32 ((w32 (10 * (h3.2 v0.toNat 19))) + (h3.2 (h3.2 v0.toNat 33).toNat (h3.2 v0.toNat 19).toNat))).toNat (h3.2 (h3.2 v0.toNat 8).toNat (h1.2 v0.toNat 11).toNat)) ((aup h3.2 (h3.2 v0.toNat 34).toNat (w32 ((w32 (10 * (h3.2 v0.toNat 19))) + (h3.2 (h3.2 v0.toNat 33).toNat (h3.2 v0.toNat 19).toNat))).toNat (h3.2 (h3.2 v0.toNat 8).toNat (h1.2 v0.toNat 11).toNat)) v0.toNat 33).toNat ((aup h3.2 (h3.2 v0.toNat 34).toNat (w32 ((w32 (10 * (h3.2 v0.toNat 19))) + (h3.2 (h3.2 v0.toNat 33).toNat (h3.2 v0.toNat 19).toNat))).toNat (h3.2 (h3.2 v0.toNat 8).toNat (h1.2 v0.toNat 11).toNat)) v0.toNat 19).toNat (w32 (((aup h3.2 (h3.2 v0.toNat 34).toNat (w32 ((w32 (10 * (h3.2 v0.toNat 19))) + (h3.2 (h3.2 v0.toNat 33).toNat (h3.2 v0.toNat 19).toNat))).toNat (h3.2 (h3.2 v0.toNat 8).toNat (h1.2 v0.toNat 11).toNat)) ((aup h3.2 (h3.2 v0.toNat 34).toNat (w32 ((w32 (10 * (h3.2 v0.toNat 19))) + (h3.2 (h3.2 v0.toNat 33).toNat (h3.2 v0.toNat 19).toNat))).toNat (h3.2 (h3.2 v0.toNat 8).toNat (h1.2 v0.toNat 11).toNat)) v0.toNat 33).toNat ((aup h3.2 (h3.2 v0.toNat 34).toNat (w32 ((w32 (10 * (h3.2 v0.toNat 19))) + (h3.2 (h3.2 v0.toNat 33).toNat (h3.2 v0.toNat 19).toNat))).toNat (h3.2 (h3.2 v0.toNat 8).toNat (h1.2 v0.toNat 11).toNat)) v0.toNat 19).toNat) + 1)))
                                          else none
                                        else none
                                      else none
                                    else none
                                  else none
                                else none
                              else none
                            else none
                          else none
                        else none
                      else none
                    else none
                  else
                    some (none, h3)
                else none)
              else none)
            else none
          else none)
        else none
      else none
    else none
  else none :=
  (aB gP gX xs stp_208 48 d mm_208 142 _ _ h).trans rfl

set_option maxRecDepth 100000 in
set_option maxHeartbeats 4000000 in
theorem q_208_224 (xs : List Int) (d : Nat) (v0 : Int) (u1 : Option aV) (h : aH) : ev xs d mm_208 224 [some (.inr (.inr v0)), u1] [] h =
  bif aok h.1 v0 12 then
    bif aok h.1 v0 12 then
      bif ain h.1 (h.2 v0.toNat 35) 100 (h.2 v0.toNat 19) then
        bif aok h.1 v0 12 && true then
          bV (cl xs d 206 [.inr (.inr v0), .inl (h.2 (h.2 v0.toNat 35).toNat (h.2 v0.toNat 19).toNat), .inl 8] h) (fun h1 =>
          bif aok h1.1 v0 12 then
            bif decide (¬ (h1.2 v0.toNat 13) = 0) then
              ev xs d mm_208 398 [some (.inr (.inr v0)), u1] [] h1
            else
              bif aok h1.1 v0 12 && true then
                bV (cl xs d 217 [.inr (.inr v0)] h1) (fun h2 =>
                ev xs d mm_208 398 [some (.inr (.inr v0)), u1] [] h2)
              else none
          else none)
        else none
      else none
    else none
  else none :=
  (aB gP gX xs stp_208 15 d mm_208 224 _ _ h).trans rfl

set_option maxRecDepth 100000 in
set_option maxHeartbeats 4000000 in
theorem q_208_253 (xs : List Int) (d : Nat) (v0 : Int) (u1 : Option aV) (h : aH) : ev xs d mm_208 253 [some (.inr (.inr v0)), u1] [] h =
  bif aok h.1 v0 12 then
    bif aok h.1 v0 12 then
      bif ain h.1 (h.2 v0.toNat 39) 100 (h.2 v0.toNat 19) then
        bif aok h.1 v0 12 && true then
          bV (cl xs d 206 [.inr (.inr v0), .inl (h.2 (h.2 v0.toNat 39).toNat (h.2 v0.toNat 19).toNat), .inl 5] h) (fun h1 =>
          bif aok h1.1 v0 12 then
            bif decide (¬ (h1.2 v0.toNat 13) = 0) then
              ev xs d mm_208 398 [some (.inr (.inr v0)), u1] [] h1
            else
              bif aok h1.1 v0 12 && true then
                bV (cl xs d 218 [.inr (.inr v0)] h1) (fun h2 =>
                ev xs d mm_208 398 [some (.inr (.inr v0)), u1] [] h2)
              else none
          else none)
        else none
      else none
    else none
  else none :=
  (aB gP gX xs stp_208 15 d mm_208 253 _ _ h).trans rfl

set_option maxRecDepth 100000 in
set_option maxHeartbeats 4000000 in
theorem q_208_281 (xs : List Int) (d : Nat) (v0 : Int) (u1 : Option aV) (h : aH) : ev xs d mm_208 281 [some (.inr (.inr v0)), u1] [] h =
  bif aok h.1 v0 12 && true then
    bV (cl xs d 202 [.inr (.inr v0)] h) (fun h1 =>
    bif aok h1.1 v0 12 && true then
      bV (cl xs d 219 [.inr (.inr v0)] h1) (fun h2 =>
      ev xs d mm_208 398 [some (.inr (.inr v0)), u1] [] h2)
    else none)
  else none :=
  (aB gP gX xs stp_208 6 d mm_208 281 _ _ h).trans rfl

set_option maxRecDepth 100000 in
set_option maxHeartbeats 4000000 in
theorem q_208_292 (xs : List Int) (d : Nat) (v0 : Int) (u1 : Option aV) (h : aH) : ev xs d mm_208 292 [some (.inr (.inr v0)), u1] [] h =
  bif aok h.1 v0 12 && true then
    bV (cl xs d 202 [.inr (.inr v0)] h) (fun h1 =>
    bif aok h1.1 v0 12 then
      bif aok h1.1 v0 12 then
        bif aok h1.1 v0 12 && true then
          bI (cl xs d 209 [.inr (.inr v0), .inl 0, .inl 9999] h1) (fun x3 h2 =>
          bif ain h2.1 (h1.2 v0.toNat 44) 100 (h1.2 v0.toNat 19) then
            bif aok h2.1 v0 12 && true then
              bV (cl xs d 203 [.inr (.inr v0), .inl 4] (h2.1, aup h2.2 (h1.2 v0.toNat 44).toNat (h1.2 v0.toNat 19).toNat x3)) (fun h4 =>
              ev xs d mm_208 398 [some (.inr (.inr v0)), u1] [] h4)
            else none
          else none)
        else none
      else none
    else none)
  else none :=
  (aB gP gX xs stp_208 16 d mm_208 292 _ _ h).trans rfl

set_option maxRecDepth 100000 in
set_option maxHeartbeats 4000000 in
theorem q_208_321 (xs : List Int) (d : Nat) (v0 : Int) (u1 : Option aV) (h : aH) : ev xs d mm_208 321 [some (.inr (.inr v0)), u1] [] h =
  bif aok h.1 v0 12 then
    bif aok h.1 v0 12 then
      bif ain h.1 (h.2 v0.toNat 5) 100 (h.2 v0.toNat 11) then
        bif decide ((w32 ((h.2 (h.2 v0.toNat 5).toNat (h.2 v0.toNat 11).toNat) - 27)) < 0) then
          ev xs d mm_208 352 [some (.inr (.inr v0)), some (.inl (w32 ((h.2 (h.2 v0.toNat 5).toNat (h.2 v0.toNat 11).toNat) - 27)))] [] h
        else
          bif aok h.1 v0 12 then
            bif aok h.1 v0 12 then
              bif ain h.1 (h.2 v0.toNat 5) 100 (h.2 v0.toNat 11) then
                bif decide ((h.2 (h.2 v0.toNat 5).toNat (h.2 v0.toNat 11).toNat) ≤ 29) then
                  ev xs d mm_208 357 [some (.inr (.inr v0)), some (.inl (w32 ((h.2 (h.2 v0.toNat 5).toNat (h.2 v0.toNat 11).toNat) - 27)))] [] h
                else
                  ev xs d mm_208 352 [some (.inr (.inr v0)), some (.inl (w32 ((h.2 (h.2 v0.toNat 5).toNat (h.2 v0.toNat 11).toNat) - 27)))] [] h
              else none
            else none
          else none
      else none
    else none
  else none :=
  (aB gP gX xs stp_208 18 d mm_208 321 _ _ h).trans rfl

set_option maxRecDepth 100000 in
set_option maxHeartbeats 4000000 in
theorem q_208_352 (xs : List Int) (d : Nat) (v0 : Int) (v1 : Int) (h : aH) : ev xs d mm_208 352 [some (.inr (.inr v0)), some (.inl v1)] [] h =
  bif aok h.1 v0 12 && true then
    bV (cl xs d 200 [.inr (.inr v0), .inl 1] h) (fun h1 =>
    ev xs d mm_208 357 [some (.inr (.inr v0)), some (.inl v1)] [] h1)
  else none :=
  (aB gP gX xs stp_208 4 d mm_208 352 _ _ h).trans rfl

set_option maxRecDepth 100000 in
set_option maxHeartbeats 4000000 in
theorem q_208_357 (xs : List Int) (d : Nat) (v0 : Int) (v1 : Int) (h : aH) : ev xs d mm_208 357 [some (.inr (.inr v0)), some (.inl v1)] [] h =
  bif aok h.1 v0 12 then
    bif decide ((h.2 v0.toNat 13) ≤ 0) then
      bif aok h.1 v0 12 then
        bif aok h.1 v0 12 then
          bif ain h.1 (h.2 v0.toNat 30) 100 (w32 ((w32 (3 * (h.2 v0.toNat 19))) + v1)) then
            bI (cl xs d 207 [.inl v1] h) (fun x2 h1 =>
              bif aok h1.1 v0 12 && true then
                bV (cl xs d 206 [.inr (.inr v0), .inl (h.2 (h.2 v0.toNat 30).toNat (w32 ((w32 (3 * (h.2 v0.toNat 19))) + v1)).toNat), .inl x2] h1) (fun h3 =>
                bif aok h3.1 v0 12 then
                  bif decide (¬ (h3.2 v0.toNat 13) = 0) then
                    ev xs d mm_208 398 [some (.inr (.inr v0)), some (.inl v1)] [] h3
                  else
                    bif aok h3.1 v0 12 && true then
                      bV (cl xs d 216 [.inr (.inr v0), .inl v1] h3) (fun h4 =>
                      ev xs d mm_208 398 [some (.inr (.inr v0)), some (.inl v1)] [] h4)
                    else none
                else none)
              else none)
          else none
        else none
      else none
    else
      some (none, h)
  else none :=
  (aB gP gX xs stp_208 23 d mm_208 357 _ _ h).trans rfl

set_option maxRecDepth 100000 in
set_option maxHeartbeats 4000000 in
theorem q_208_398 (xs : List Int) (d : Nat) (v0 : Int) (u1 : Option aV) (h : aH) : ev xs d mm_208 398 [some (.inr (.inr v0)), u1] [] h =
  some (none, h) :=
  (aB gP gX xs stp_208 2 d mm_208 398 _ _ h).trans rfl

def stp_209 : List Nat := [0, 15, 42, 51]
set_option maxRecDepth 100000 in
set_option maxHeartbeats 4000000 in
theorem q_209_0 (xs : List Int) (d : Nat) (v0 : Int) (v1 : Int) (v2 : Int) (h : aH) : ev xs d mm_209 0 [some (.inr (.inr v0)), some (.inl v1), some (.inl v2), none] [] h =
  bif aok h.1 v0 12 then
    bif decide (0 < (h.2 v0.toNat 13)) then
      ev xs d mm_209 15 [some (.inr (.inr v0)), some (.inl v1), some (.inl v2), none] [] h
    else
      bif aok h.1 v0 12 && true then
        bI (cl xs d 199 [.inr (.inr v0), .inl 2] h) (fun x2 h1 =>
        bif decide (¬ x2 = 0) then
          bif aok h1.1 v0 12 then
            bif aok h1.1 v0 12 then
              bif ain h1.1 (h1.2 v0.toNat 7) 100 (h1.2 v0.toNat 11) then
                bif decide ((h1.2 (h1.2 v0.toNat 7).toNat (h1.2 v0.toNat 11).toNat) < v1) then
                  ev xs d mm_209 42 [some (.inr (.inr v0)), some (.inl v1), some (.inl v2), some (.inl (h1.2 (h1.2 v0.toNat 7).toNat (h1.2 v0.toNat 11).toNat))] [] h1
                else
                  bif decide ((h1.2 (h1.2 v0.toNat 7).toNat (h1.2 v0.toNat 11).toNat) ≤ v2) then
                    ev xs d mm_209 51 [some (.inr (.inr v0)), some (.inl v1), some (.inl v2), some (.inl (h1.2 (h1.2 v0.toNat 7).toNat (h1.2 v0.toNat 11).toNat))] [] h1
                  else
                    ev xs d mm_209 42 [some (.inr (.inr v0)), some (.inl v1), some (.inl v2), some (.inl (h1.2 (h1.2 v0.toNat 7).toNat (h1.2 v0.toNat 11).toNat))] [] h1
              else none
            else none
          else none
        else
          ev xs d mm_209 15 [some (.inr (.inr v0)), some (.inl v1), some (.inl v2), none] [] h1)
      else none
  else none :=
  (aB gP gX xs stp_209 20 d mm_209 0 _ _ h).trans rfl

set_option maxRecDepth 100000 in
set_option maxHeartbeats 4000000 in
theorem q_209_15 (xs : List Int) (d : Nat) (v0 : Int) (v1 : Int) (v2 : Int) (u3 : Option aV) (h : aH) : ev xs d mm_209 15 [some (.inr (.inr v0)), some (.inl v1), some (.inl v2), u3] [] h =
  bif aok h.1 v0 12 && true then
    bV (cl xs d 200 [.inr (.inr v0), .inl 1] h) (fun h1 =>
    some (some (.inl v1), h1))
  else none :=
  (aB gP gX xs stp_209 6 d mm_209 15 _ _ h).trans rfl

set_option maxRecDepth 100000 in
set_option maxHeartbeats 4000000 in
theorem q_209_42 (xs : List Int) (d : Nat) (v0 : Int) (v1 : Int) (v2 : Int) (v3 : Int) (h : aH) : ev xs d mm_209 42 [some (.inr (.inr v0)), some (.inl v1), some (.inl v2), some (.inl v3)] [] h =
  bif aok h.1 v0 12 then
    bif aok h.1 v0 12 && true then
      bV (cl xs d 201 [.inr (.inr v0), .inl 5, .inl (h.2 v0.toNat 11)] h) (fun h1 =>
      ev xs d mm_209 51 [some (.inr (.inr v0)), some (.inl v1), some (.inl v2), some (.inl v3)] [] h1)
    else none
  else none :=
  (aB gP gX xs stp_209 6 d mm_209 42 _ _ h).trans rfl

set_option maxRecDepth 100000 in
set_option maxHeartbeats 4000000 in
theorem q_209_51 (xs : List Int) (d : Nat) (v0 : Int) (v1 : Int) (v2 : Int) (v3 : Int) (h : aH) : ev xs d mm_209 51 [some (.inr (.inr v0)), some (.inl v1), some (.inl v2), some (.inl v3)] [] h =
  bif aok h.1 v0 12 && true then
    bV (cl xs d 202 [.inr (.inr v0)] h) (fun h1 =>
    some (some (.inl v3), h1))
  else none :=
  (aB gP gX xs stp_209 5 d mm_209 51 _ _ h).trans rfl

def stp_210 : List Nat := [0, 54, 80, 130]
set_option maxRecDepth 100000 in
set_option maxHeartbeats 4000000 in
theorem q_210_0 (xs : List Int) (d : Nat) (v0 : Int) (h : aH) : ev xs d mm_210 0 [some (.inr (.inr v0)), none, none, none, none, none] [] h =
  bif aok h.1 v0 12 then
    bif aok h.1 v0 12 then
      bif aok h.1 v0 12 then
        bif ain h.1 (h.2 v0.toNat 20) 100 (h.2 v0.toNat 19) then
          bif aok h.1 v0 12 then
            bif aok h.1 v0 12 && true then
              bV (cl xs d 203 [.inr (.inr v0), .inl 1] h) (fun h1 =>
              bif aok h1.1 v0 12 then
                bif decide (¬ (h1.2 v0.toNat 13) = 0) then
                  ev xs d mm_210 54 [some (.inr (.inr v0)), some (.inl (w32 ((w32 (6 * (h.2 v0.toNat 19))) + (h.2 (h.2 v0.toNat 20).toNat (h.2 v0.toNat 19).toNat)))), some (.inl (h.2 v0.toNat 11)), none, none, none] [] h1
                else
                  bif aok h1.1 v0 12 then
                    bif ain h1.1 (h1.2 v0.toNat 8) 101 (h.2 v0.toNat 11) then
                      bif aok h1.1 v0 12 && true then
                        bI (cl xs d 211 [.inr (.inr v0), .inr (.inl (h1.2 (h1.2 v0.toNat 8).toNat (h.2 v0.toNat 11).toNat))] h1) (fun x3 h2 =>
                        bif decide (x3 < 0) then
                          ev xs d mm_210 54 [some (.inr (.inr v0)), some (.inl (w32 ((w32 (6 * (h.2 v0.toNat 19))) + (h.2 (h.2 v0.toNat 20).toNat (h.2 v0.toNat 19).toNat)))), some (.inl (h.2 v0.toNat 11)), none, none, none] [] h2
                        else
                          bif aok h2.1 v0 12 && true then
                            bV (cl xs d 201 [.inr (.inr v0), .inl 3, .inl (h.2 v0.toNat 11)] h2) (fun h4 =>
                            ev xs d mm_210 54 [some (.inr (.inr v0)), some (.inl (w32 ((w32 (6 * (h.2 v0.toNat 19))) + (h.2 (h.2 v0.toNat 20).toNat (h.2 v0.toNat 19).toNat)))), some (.inl (h.2 v0.toNat 11)), none, none, none] [] h4)
                          else none)
                      else none
                    else none
                  else none
              else none)
            else none
          else none
        else none
      else none
    else none
  else none :=
  (aB gP gX xs stp_210 32 d mm_210 0 _ _ h).trans rfl

set_option maxRecDepth 100000 in
set_option maxHeartbeats 4000000 in
theorem q_210_54 (xs : List Int) (d : Nat) (v0 : Int) (v1 : Int) (v2 : Int) (u3 : Option aV) (u4 : Option aV) (u5 : Option aV) (h : aH) : ev xs d mm_210 54 [some (.inr (.inr v0)), some (.inl v1), some (.inl v2), u3, u4, u5] [] h =
  bif aok h.1 v0 12 then
    bif decide (¬ (h.2 v0.toNat 13) = 0) then
      ev xs d mm_210 80 [some (.inr (.inr v0)), some (.inl v1), some (.inl v2), u3, u4, u5] [] h
    else
      bif aok h.1 v0 12 then
        bif ain h.1 (h.2 v0.toNat 8) 101 v2 then
          bif decide (0 ≤ (olcmp (h.2 (h.2 v0.toNat 8).toNat v2.toNat) 27)) then
            ev xs d mm_210 80 [some (.inr (.inr v0)), some (.inl v1), some (.inl v2), u3, u4, u5] [] h
          else
            bif aok h.1 v0 12 && true then
              bV (cl xs d 201 [.inr (.inr v0), .inl 5, .inl v2] h) (fun h1 =>
              ev xs d mm_210 80 [some (.inr (.inr v0)), some (.inl v1), some (.inl v2), u3, u4, u5] [] h1)
            else none
        else none
      else none
  else none :=
  (aB gP gX xs stp_210 15 d mm_210 54 _ _ h).trans rfl

set_option maxRecDepth 100000 in
set_option maxHeartbeats 4000000 in
theorem q_210_80 (xs : List Int) (d : Nat) (v0 : Int) (v1 : Int) (v2 : Int) (u3 : Option aV) (u4 : Option aV) (u5 : Option aV) (h : aH) : ev xs d mm_210 80 [some (.inr (.inr v0)), some (.inl v1), some (.inl v2), u3, u4, u5] [] h =
  bif aok h.1 v0 12 then
    bif aok h.1 v0 12 && true then
      bV (cl xs d 203 [.inr (.inr v0), .inl 1] h) (fun h1 =>
      bif aok h1.1 v0 12 && true then
        bV (cl xs d 203 [.inr (.inr v0), .inl 4] h1) (fun h2 =>
        bif aok h2.1 v0 12 then
          bif decide ((h2.2 v0.toNat 13) ≤ 0) then
            bif aok h2.1 v0 12 then
              bif aok h2.1 v0 12 then
                bif ain h2.1 (h2.2 v0.toNat 8) 101 v2 then
                  bif ain h2.1 (h2.2 v0.toNat 21) 101 v1 then
                    bif aok h2.1 v0 12 then
                      bif ain h2.1 ((aup h2.2 (h2.2 v0.toNat 21).toNat v1.toNat (h2.2 (h2.2 v0.toNat 8).toNat v2.toNat)) v0.toNat 22) 100 v1 then
                        bif aok h2.1 v0 12 then
                          bif ain h2.1 ((aup (aup h2.2 (h2.2 v0.toNat 21).toNat v1.toNat (h2.2 (h2.2 v0.toNat 8).toNat v2.toNat)) ((aup h2.2 (h2.2 v0.toNat 21).toNat v1.toNat (h2.2 (h2.2 v0.toNat 8).toNat v2.toNat)) v0.toNat 22).toNat v1.toNat 0) v0.toNat 8) 101 (h.2 v0.toNat 11) then
                            ev xs d mm_210 130 [some (.inr (.inr v0)), some (.inl v1), some (.inl v2), some (.inl (h.2 v0.toNat 11)), some (.inr (.inl ((aup (aup h2.2 (h2.2 v0.toNat 21).toNat v1.toNat (h2.2 (h2.2 v0.toNat 8).toNat v2.toNat)) ((aup h2.2 (h2.2 v0.toNat 21).toNat v1.toNat (h2.2 (h2.2 v0.toNat 8).toNat v2.toNat)) v0.toNat 22).toNat v1.toNat 0) ((aup (aup h2.2 (h2.2 v0.toNat 21).toNat v1.toNat (h2.2 (h2.2 v0.toNat 8).toNat v2.toNat)) ((aup h2.2 (h2.2 v0.toNat 21).toNat v1.toNat (h2.2 (h2.2 v0.toNat 8).toNat v2.toNat)) v0.toNat 22).toNat v1.toNat 0) v0.toNat 8).toNat (h.2 v0.toNat 11).toNat))), none] [] (h2.1, aup (aup h2.2 (h2.2 v0.toNat 21).toNat v1.toNat (h2.2 (h2.2 v0.toNat 8).toNat v2.toNat)) ((aup h2.2 (h2.2 v0.toNat 21).toNat v1.toNat (h2.2 (h2.2 v0.toNat 8).toNat v2.toNat)) v0.toNat 22).toNat v1.toNat 0)
                          else none
                        else none
                      else none
                    else none
                  else none
                else none
              else none
            else none
          else
            some (none, h2)
        else none)
      else none)
    else none
  else none :=
  (aB gP gX xs stp_210 31 d mm_210 80 _ _ h).trans rfl

set_option maxRecDepth 100000 in
set_option maxHeartbeats 4000000 in
theorem q_210_130 (xs : List Int) (d : Nat) (v0 : Int) (v1 : Int) (v2 : Int) (v3 : Int) (v4 : Int) (u5 : Option aV) (h : aH) : ev xs d mm_210 130 [some (.inr (.inr v0)), some (.inl v1), some (.inl v2), some (.inl v3), some (.inr (.inl v4)), u5] [] h =
  bif decide ((olcmp v4 ((((0 : Fin 2) : Nat) : Nat) : Int)) ≤ 0) then
    bif aok h.1 v0 12 then
      bif aok h.1 v0 12 then
        bif ain h.1 (h.2 v0.toNat 20) 100 (h.2 v0.toNat 19) then
          bif ain h.1 (h.2 v0.toNat 20) 100 (h.2 v0.toNat 19) then
            some (none, (h.1, aup h.2 (h.2 v0.toNat 20).toNat (h.2 v0.toNat 19).toNat (w32 ((h.2 (h.2 v0.toNat 20).toNat (h.2 v0.toNat 19).toNat) + 1))))
          else none
        else none
      else none
    else none
  else
    bif aok h.1 v0 12 then
      bif ain h.1 (h.2 v0.toNat 22) 100 v1 then
        bif ain h.1 (h.2 v0.toNat 22) 100 v1 then
          ev xs d mm_210 130 [some (.inr (.inr v0)), some (.inl v1), some (.inl v2), some (.inl v3), some (.inr (.inl (oldiv v4 27))), none] [] (h.1, aup h.2 (h.2 v0.toNat 22).toNat v1.toNat (oor (h.2 (h.2 v0.toNat 22).toNat v1.toNat) (oshl 1 (ol2i (olrem v4 27)))))
        else none
      else none
    else none :=
  (aB gP gX xs stp_210 23 d mm_210 130 _ _ h).trans rfl

def stp_211 : List Nat := [0, 2]
set_option maxRecDepth 100000 in
set_option maxHeartbeats 4000000 in
theorem q_211_0 (xs : List Int) (d : Nat) (v0 : Int) (v1 : Int) (h : aH) : ev xs d mm_211 0 [some (.inr (.inr v0)), some (.inr (.inl v1)), none, none] [] h =
  ev xs d mm_211 2 [some (.inr (.inr v0)), some (.inr (.inl v1)), none, some (.inl 0)] [] h :=
  (aB gP gX xs stp_211 3 d mm_211 0 _ _ h).trans rfl

set_option maxRecDepth 100000 in
set_option maxHeartbeats 4000000 in
theorem q_211_2 (xs : List Int) (d : Nat) (v0 : Int) (v1 : Int) (u2 : Option aV) (v3 : Int) (h : aH) : ev xs d mm_211 2 [some (.inr (.inr v0)), some (.inr (.inl v1)), u2, some (.inl v3)] [] h =
  bif aok h.1 v0 12 then
    bif aok h.1 v0 12 then
      bif ain h.1 (h.2 v0.toNat 20) 100 (h.2 v0.toNat 19) then
        bif decide ((h.2 (h.2 v0.toNat 20).toNat (h.2 v0.toNat 19).toNat) ≤ v3) then
          some (some (.inl (-1)), h)
        else
          bif aok h.1 v0 12 then
            bif aok h.1 v0 12 then
              bif ain h.1 (h.2 v0.toNat 21) 101 (w32 ((w32 (6 * (h.2 v0.toNat 19))) + v3)) then
                bif decide (¬ (olcmp (h.2 (h.2 v0.toNat 21).toNat (w32 ((w32 (6 * (h.2 v0.toNat 19))) + v3)).toNat) v1) = 0) then
                  ev xs d mm_211 2 [some (.inr (.inr v0)), some (.inr (.inl v1)), acl u2, some (.inl (w32 (v3 + 1)))] [] h
                else
                  some (some (.inl v3), h)
              else none
            else none
          else none
      else none
    else none
  else none :=
  (aB gP gX xs stp_211 22 d mm_211 2 _ _ h).trans rfl

def stp_212 : List Nat := [0, 36]
set_option maxRecDepth 100000 in
set_option maxHeartbeats 4000000 in
theorem q_212_0 (xs : List Int) (d : Nat) (v0 : Int) (h : aH) : ev xs d mm_212 0 [some (.inr (.inr v0)), none] [] h =
  bif aok h.1 v0 12 then
    bif aok h.1 v0 12 && true then
      bV (cl xs d 203 [.inr (.inr v0), .inl 1] h) (fun h1 =>
      bif aok h1.1 v0 12 then
        bif decide (¬ (h1.2 v0.toNat 13) = 0) then
          ev xs d mm_212 36 [some (.inr (.inr v0)), some (.inl (h.2 v0.toNat 11))] [] h1
        else
          bif aok h1.1 v0 12 then
            bif ain h1.1 (h1.2 v0.toNat 8) 101 (h.2 v0.toNat 11) then
              bif decide ((olcmp (h1.2 (h1.2 v0.toNat 8).toNat (h.2 v0.toNat 11).toNat) 26) ≤ 0) then
                ev xs d mm_212 36 [some (.inr (.inr v0)), some (.inl (h.2 v0.toNat 11))] [] h1
              else
                bif aok h1.1 v0 12 && true then
                  bV (cl xs d 201 [.inr (.inr v0), .inl 5, .inl (h.2 v0.toNat 11)] h1) (fun h2 =>
                  ev xs d mm_212 36 [some (.inr (.inr v0)), some (.inl (h.2 v0.toNat 11))] [] h2)
                else none
            else none
          else none
      else none)
    else none
  else none :=
  (aB gP gX xs stp_212 21 d mm_212 0 _ _ h).trans rfl

set_option maxRecDepth 100000 in
set_option maxHeartbeats 4000000 in
theorem q_212_36 (xs : List Int) (d : Nat) (v0 : Int) (v1 : Int) (h : aH) : ev xs d mm_212 36 [some (.inr (.inr v0)), some (.inl v1)] [] h =
  bif aok h.1 v0 12 then
    bif ain h.1 (h.2 v0.toNat 8) 101 v1 then
      some (some (.inl (ol2i (olrem (h.2 (h.2 v0.toNat 8).toNat v1.toNat) 27))), h)
    else none
  else none :=
  (aB gP gX xs stp_212 9 d mm_212 36 _ _ h).trans rfl

def stp_213 : List Nat := [0, 40, 72, 104, 120]
set_option maxRecDepth 100000 in
set_option maxHeartbeats 4000000 in
theorem q_213_0 (xs : List Int) (d : Nat) (v0 : Int) (h : aH) : ev xs d mm_213 0 [some (.inr (.inr v0)), none] [] h =
  bif aok h.1 v0 12 && true then
    bV (cl xs d 202 [.inr (.inr v0)] h) (fun h1 =>
    bif aok h1.1 v0 12 then
      bif aok h1.1 v0 12 then
        bif aok h1.1 v0 12 then
          bif decide (¬ ((aup h1.2 v0.toNat 57 0) v0.toNat 13) = 0) then
            ev xs d mm_213 40 [some (.inr (.inr v0)), some (.inl (h1.2 v0.toNat 11))] [] (h1.1, aup h1.2 v0.toNat 57 0)
          else
            bif aok h1.1 v0 12 && true then
              bI (cl xs d 199 [.inr (.inr v0), .inl 26] (h1.1, aup h1.2 v0.toNat 57 0)) (fun x3 h2 =>
              bif decide (x3 = 0) then
                ev xs d mm_213 40 [some (.inr (.inr v0)), some (.inl (h1.2 v0.toNat 11))] [] h2
              else
                bif aok h2.1 v0 12 then
                  bif aok h2.1 v0 12 && true then
                    bV (cl xs d 202 [.inr (.inr v0)] (h2.1, aup h2.2 v0.toNat 56 3)) (fun h4 =>
                    some (none, h4))
                  else none
                else none)
            else none
        else none
      else none
    else none)
  else none :=
  (aB gP gX xs stp_213 22 d mm_213 0 _ _ h).trans rfl

set_option maxRecDepth 100000 in
set_option maxHeartbeats 4000000 in
theorem q_213_40 (xs : List Int) (d : Nat) (v0 : Int) (v1 : Int) (h : aH) : ev xs d mm_213 40 [some (.inr (.inr v0)), some (.inl v1)] [] h =
  bif aok h.1 v0 12 && true then
    bV (cl xs d 203 [.inr (.inr v0), .inl 1] h) (fun h1 =>
    bif aok h1.1 v0 12 then
      bif decide ((h1.2 v0.toNat 13) ≤ 0) then
        bif aok h1.1 v0 12 then
          bif ain h1.1 (h1.2 v0.toNat 8) 101 v1 then
            bif decide (0 ≤ (olcmp (h1.2 (h1.2 v0.toNat 8).toNat v1.toNat) 27)) then
              ev xs d mm_213 72 [some (.inr (.inr v0)), some (.inl v1)] [.inl 2, .inr (.inr v0)] h1
            else
              ev xs d mm_213 72 [some (.inr (.inr v0)), some (.inl v1)] [.inl 1, .inr (.inr v0)] h1
          else none
        else none
      else
        some (none, h1)
    else none)
  else none :=
  (aB gP gX xs stp_213 17 d mm_213 40 _ _ h).trans rfl

set_option maxRecDepth 100000 in
set_option maxHeartbeats 4000000 in
theorem q_213_72 (xs : List Int) (d : Nat) (v0 : Int) (v1 : Int) (s0 : Int) (s1 : Int) (h : aH) : ev xs d mm_213 72 [some (.inr (.inr v0)), some (.inl v1)] [.inl s1, .inr (.inr s0)] h =
  bif aok h.1 s0 12 then
    bif aok h.1 v0 12 then
      bif decide (¬ ((aup h.2 s0.toNat 56 s1) v0.toNat 56) = 1) then
        bif aok h.1 v0 12 then
          bif ain h.1 ((aup h.2 s0.toNat 56 s1) v0.toNat 8) 101 v1 then
            bif aok h.1 v0 12 && true then
              bI (cl xs d 211 [.inr (.inr v0), .inr (.inl ((aup h.2 s0.toNat 56 s1) ((aup h.2 s0.toNat 56 s1) v0.toNat 8).toNat v1.toNat))] (h.1, aup h.2 s0.toNat 56 s1)) (fun x2 h1 =>
              ev xs d mm_213 104 [some (.inr (.inr v0)), some (.inl v1)] [.inl x2, .inr (.inr v0)] h1)
            else none
          else none
        else none
      else
        bif aok h.1 v0 12 then
          bif ain h.1 ((aup h.2 s0.toNat 56 s1) v0.toNat 8) 101 v1 then
            ev xs d mm_213 104 [some (.inr (.inr v0)), some (.inl v1)] [.inl (ol2i ((aup h.2 s0.toNat 56 s1) ((aup h.2 s0.toNat 56 s1) v0.toNat 8).toNat v1.toNat)), .inr (.inr v0)] (h.1, aup h.2 s0.toNat 56 s1)
          else none
        else none
    else none
  else none :=
  (aB gP gX xs stp_213 13 d mm_213 72 _ _ h).trans rfl

set_option maxRecDepth 100000 in
set_option maxHeartbeats 4000000 in
theorem q_213_104 (xs : List Int) (d : Nat) (v0 : Int) (v1 : Int) (s0 : Int) (s1 : Int) (h : aH) : ev xs d mm_213 104 [some (.inr (.inr v0)), some (.inl v1)] [.inl s1, .inr (.inr s0)] h =
  bif aok h.1 s0 12 then
    bif aok h.1 v0 12 then
      bif decide (0 ≤ ((aup h.2 s0.toNat 57 s1) v0.toNat 57)) then
        ev xs d mm_213 120 [some (.inr (.inr v0)), some (.inl v1)] [] (h.1, aup h.2 s0.toNat 57 s1)
      else
        bif aok h.1 v0 12 && true then
          bV (cl xs d 201 [.inr (.inr v0), .inl 4, .inl v1] (h.1, aup h.2 s0.toNat 57 s1)) (fun h1 =>
          ev xs d mm_213 120 [some (.inr (.inr v0)), some (.inl v1)] [] h1)
        else none
    else none
  else none :=
  (aB gP gX xs stp_213 9 d mm_213 104 _ _ h).trans rfl

set_option maxRecDepth 100000 in
set_option maxHeartbeats 4000000 in
theorem q_213_120 (xs : List Int) (d : Nat) (v0 : Int) (v1 : Int) (h : aH) : ev xs d mm_213 120 [some (.inr (.inr v0)), some (.inl v1)] [] h =
  some (none, h) :=
  (aB gP gX xs stp_213 2 d mm_213 120 _ _ h).trans rfl

def stp_214 : List Nat := [0, 54, 55, 84, 128, 138, 178, 203]
set_option maxRecDepth 100000 in
set_option maxHeartbeats 4000000 in
theorem q_214_0 (xs : List Int) (d : Nat) (v0 : Int) (h : aH) : ev xs d mm_214 0 [some (.inr (.inr v0)), none, none] [] h =
  bif aok h.1 v0 12 then
    bif aok h.1 v0 12 then
      bif aok h.1 v0 12 then
        bif ain h.1 (h.2 v0.toNat 23) 100 (h.2 v0.toNat 19) then
          bif aok h.1 v0 12 then
            bif aok h.1 v0 12 && true then
              bI (cl xs d 212 [.inr (.inr v0)] h) (fun x2 h1 =>
              bif ain h1.1 (h.2 v0.toNat 24) 100 (w32 ((w32 (7 * (h.2 v0.toNat 19))) + (h.2 (h.2 v0.toNat 23).toNat (h.2 v0.toNat 19).toNat))) then
                bif aok h1.1 v0 12 && true then
                  bV (cl xs d 203 [.inr (.inr v0), .inl 22] (h1.1, aup h1.2 (h.2 v0.toNat 24).toNat (w32 ((w32 (7 * (h.2 v0.toNat 19))) + (h.2 (h.2 v0.toNat 23).toNat (h.2 v0.toNat 19).toNat))).toNat x2)) (fun h3 =>
                  bif aok h3.1 v0 12 then
                    bif decide (¬ (h3.2 v0.toNat 13) = 0) then
                      ev xs d mm_214 54 [some (.inr (.inr v0)), some (.inl (w32 ((w32 (7 * (h.2 v0.toNat 19))) + (h.2 (h.2 v0.toNat 23).toNat (h.2 v0.toNat 19).toNat)))), none] [] h3
                    else
                      bif aok h3.1 v0 12 && true then
                        bI (cl xs d 199 [.inr (.inr v0), .inl 23] h3) (fun x5 h4 =>
                        bif decide (x5 = 0) then
                          ev xs d mm_214 54 [some (.inr (.inr v0)), some (.inl (w32 ((w32 (7 * (h.2 v0.toNat 19))) + (h.2 (h.2 v0.toNat 23).toNat (h.2 v0.toNat 19).toNat)))), none] [] h4
                        else
                          ev xs d mm_214 55 [some (.inr (.inr v0)), some (.inl (w32 ((w32 (7 * (h.2 v0.toNat 19))) + (h.2 (h.2 v0.toNat 23).toNat (h.2 v0.toNat 19).toNat)))), none] [.inl 1] h4)
                      else none
                  else none)
                else none
              else none)
            else none
          else none
        else none
      else none
    else none
  else none :=
  (aB gP gX xs stp_214 30 d mm_214 0 _ _ h).trans rfl

set_option maxRecDepth 100000 in
set_option maxHeartbeats 4000000 in
theorem q_214_54 (xs : List Int) (d : Nat) (v0 : Int) (v1 : Int) (u2 : Option aV) (h : aH) : ev xs d mm_214 54 [some (.inr (.inr v0)), some (.inl v1), u2] [] h =
  ev xs d mm_214 55 [some (.inr (.inr v0)), some (.inl v1), u2] [.inl 0] h :=
  (aB gP gX xs stp_214 2 d mm_214 54 _ _ h).trans rfl

set_option maxRecDepth 100000 in
set_option maxHeartbeats 4000000 in
theorem q_214_55 (xs : List Int) (d : Nat) (v0 : Int) (v1 : Int) (u2 : Option aV) (s0 : Int) (h : aH) : ev xs d mm_214 55 [some (.inr (.inr v0)), some (.inl v1), u2] [.inl s0] h =
  bif aok h.1 v0 12 then
    bif ain h.1 (h.2 v0.toNat 25) 100 v1 then
      bif decide (s0 = 0) then
        bif aok h.1 v0 12 then
          bif aok h.1 v0 12 && true then
            bI (cl xs d 212 [.inr (.inr v0)] (h.1, aup h.2 (h.2 v0.toNat 25).toNat v1.toNat 0)) (fun x2 h1 =>
            bif ain h1.1 ((aup h.2 (h.2 v0.toNat 25).toNat v1.toNat 0) v0.toNat 25) 100 v1 then
              ev xs d mm_214 84 [some (.inr (.inr v0)), some (.inl v1), some (.inl s0)] [] (h1.1, aup h1.2 ((aup h.2 (h.2 v0.toNat 25).toNat v1.toNat 0) v0.toNat 25).toNat v1.toNat x2)
            else none)
          else none
        else none
      else
        bif aok h.1 v0 12 && true then
          bV (cl xs d 202 [.inr (.inr v0)] (h.1, aup h.2 (h.2 v0.toNat 25).toNat v1.toNat 0)) (fun h3 =>
          ev xs d mm_214 84 [some (.inr (.inr v0)), some (.inl v1), some (.inl s0)] [] h3)
        else none
    else none
  else none :=
  (aB gP gX xs stp_214 15 d mm_214 55 _ _ h).trans rfl

set_option maxRecDepth 100000 in
set_option maxHeartbeats 4000000 in
theorem q_214_84 (xs : List Int) (d : Nat) (v0 : Int) (v1 : Int) (v2 : Int) (h : aH) : ev xs d mm_214 84 [some (.inr (.inr v0)), some (.inl v1), some (.inl v2)] [] h =
  bif aok h.1 v0 12 then
    bif ain h.1 (h.2 v0.toNat 26) 100 v1 then
      bif aok h.1 v0 12 then
        bif ain h.1 ((aup h.2 (h.2 v0.toNat 26).toNat v1.toNat 0) v0.toNat 28) 100 v1 then
          bif aok h.1 v0 12 then
            bif decide (¬ ((aup (aup h.2 (h.2 v0.toNat 26).toNat v1.toNat 0) ((aup h.2 (h.2 v0.toNat 26).toNat v1.toNat 0) v0.toNat 28).toNat v1.toNat 0) v0.toNat 13) = 0) then
              ev xs d mm_214 138 [some (.inr (.inr v0)), some (.inl v1), some (.inl v2)] [] (h.1, aup (aup h.2 (h.2 v0.toNat 26).toNat v1.toNat 0) ((aup h.2 (h.2 v0.toNat 26).toNat v1.toNat 0) v0.toNat 28).toNat v1.toNat 0)
            else
              bif aok h.1 v0 12 && true then
                bI (cl xs d 199 [.inr (.inr v0), .inl 24] (h.1, aup (aup h.2 (h.2 v0.toNat 26).toNat v1.toNat 0) ((aup h.2 (h.2 v0.toNat 26).toNat v1.toNat 0) v0.toNat 28).toNat v1.toNat 0)) (fun x2 h1 =>
                bif decide (x2 = 0) then
                  ev xs d mm_214 138 [some (.inr (.inr v0)), some (.inl v1), some (.inl v2)] [] h1
                else
                  bif aok h1.1 v0 12 && true then
                    bV (cl xs d 213 [.inr (.inr v0)] h1) (fun h3 =>
                    bif aok h3.1 v0 12 then
                      bif aok h3.1 v0 12 then
                        bif ain h3.1 (h3.2 v0.toNat 26) 100 v1 then
                          ev xs d mm_214 128 [some (.inr (.inr v0)), some (.inl v1), some (.inl v2)] [] (h3.1, aup h3.2 (h3.2 v0.toNat 26).toNat v1.toNat (h3.2 v0.toNat 56))
                        else none
                      else none
                    else none)
                  else none)
              else none
          else none
        else none
      else none
    else none
  else none :=
  (aB gP gX xs stp_214 26 d mm_214 84 _ _ h).trans rfl

set_option maxRecDepth 100000 in
set_option maxHeartbeats 4000000 in
theorem q_214_128 (xs : List Int) (d : Nat) (v0 : Int) (v1 : Int) (v2 : Int) (h : aH) : ev xs d mm_214 128 [some (.inr (.inr v0)), some (.inl v1), some (.inl v2)] [] h =
  bif aok h.1 v0 12 then
    bif aok h.1 v0 12 then
      bif ain h.1 (h.2 v0.toNat 27) 100 v1 then
        ev xs d mm_214 138 [some (.inr (.inr v0)), some (.inl v1), some (.inl v2)] [] (h.1, aup h.2 (h.2 v0.toNat 27).toNat v1.toNat (h.2 v0.toNat 57))
      else none
    else none
  else none :=
  (aB gP gX xs stp_214 7 d mm_214 128 _ _ h).trans rfl

set_option maxRecDepth 100000 in
set_option maxHeartbeats 4000000 in
theorem q_214_138 (xs : List Int) (d : Nat) (v0 : Int) (v1 : Int) (v2 : Int) (h : aH) : ev xs d mm_214 138 [some (.inr (.inr v0)), some (.inl v1), some (.inl v2)] [] h =
  bif aok h.1 v0 12 then
    bif decide (¬ (h.2 v0.toNat 13) = 0) then
      ev xs d mm_214 178 [some (.inr (.inr v0)), some (.inl v1), some (.inl v2)] [] h
    else
      bif aok h.1 v0 12 && true then
        bI (cl xs d 199 [.inr (.inr v0), .inl 25] h) (fun x2 h1 =>
        bif decide (x2 = 0) then
          ev xs d mm_214 178 [some (.inr (.inr v0)), some (.inl v1), some (.inl v2)] [] h1
        else
          bif aok h1.1 v0 12 && true then
            bV (cl xs d 213 [.inr (.inr v0)] h1) (fun h3 =>
            bif aok h3.1 v0 12 then
              bif aok h3.1 v0 12 then
                bif ain h3.1 (h3.2 v0.toNat 28) 100 v1 then
                  bif aok h3.1 v0 12 then
                    bif aok h3.1 v0 12 then
                      bif ain h3.1 ((aup h3.2 (h3.2 v0.toNat 28).toNat v1.toNat (h3.2 v0.toNat 56)) v0.toNat 29) 100 v1 then
                        ev xs d mm_214 178 [some (.inr (.inr v0)), some (.inl v1), some (.inl v2)] [] (h3.1, aup (aup h3.2 (h3.2 v0.toNat 28).toNat v1.toNat (h3.2 v0.toNat 56)) ((aup h3.2 (h3.2 v0.toNat 28).toNat v1.toNat (h3.2 v0.toNat 56)) v0.toNat 29).toNat v1.toNat ((aup h3.2 (h3.2 v0.toNat 28).toNat v1.toNat (h3.2 v0.toNat 56)) v0.toNat 57))
                      else none
                    else none
                  else none
                else none
              else none
            else none)
          else none)
      else none
  else none :=
  (aB gP gX xs stp_214 22 d mm_214 138 _ _ h).trans rfl

set_option maxRecDepth 100000 in
set_option maxHeartbeats 4000000 in
theorem q_214_178 (xs : List Int) (d : Nat) (v0 : Int) (v1 : Int) (v2 : Int) (h : aH) : ev xs d mm_214 178 [some (.inr (.inr v0)), some (.inl v1), some (.inl v2)] [] h =
  bif aok h.1 v0 12 && true then
    bV (cl xs d 203 [.inr (.inr v0), .inl 4] h) (fun h1 =>
    bif aok h1.1 v0 12 then
      bif decide (¬ (h1.2 v0.toNat 13) = 0) then
        ev xs d mm_214 203 [some (.inr (.inr v0)), some (.inl v1), some (.inl v2)] [] h1
      else
        bif aok h1.1 v0 12 then
          bif aok h1.1 v0 12 then
            bif ain h1.1 (h1.2 v0.toNat 23) 100 (h1.2 v0.toNat 19) then
              bif ain h1.1 (h1.2 v0.toNat 23) 100 (h1.2 v0.toNat 19) then
                ev xs d mm_214 203 [some (.inr (.inr v0)), some (.inl v1), some (.inl v2)] [] (h1.1, aup h1.2 (h1.2 v0.toNat 23).toNat (h1.2 v0.toNat 19).toNat (w32 ((h1.2 (h1.2 v0.toNat 23).toNat (h1.2 v0.toNat 19).toNat) + 1)))
              else none
            else none
          else none
        else none
    else none)
  else none :=
  (aB gP gX xs stp_214 16 d mm_214 178 _ _ h).trans rfl

set_option maxRecDepth 100000 in
set_option maxHeartbeats 4000000 in
theorem q_214_203 (xs : List Int) (d : Nat) (v0 : Int) (v1 : Int) (v2 : Int) (h : aH) : ev xs d mm_214 203 [some (.inr (.inr v0)), some (.inl v1), some (.inl v2)] [] h =
  some (none, h) :=
  (aB gP gX xs stp_214 2 d mm_214 203 _ _ h).trans rfl

def stp_215 : List Nat := [0, 3]
set_option maxRecDepth 100000 in
set_option maxHeartbeats 4000000 in
theorem q_215_0 (xs : List Int) (d : Nat) (v0 : Int) (v1 : Int) (v2 : Int) (h : aH) : ev xs d mm_215 0 [some (.inr (.inr v0)), some (.inl v1), some (.inr (.inl v2)), none, none] [] h =
  ev xs d mm_215 3 [some (.inr (.inr v0)), some (.inl v1), some (.inr (.inl v2)), none, some (.inl 0)] [] h :=
  (aB gP gX xs stp_215 3 d mm_215 0 _ _ h).trans rfl

set_option maxRecDepth 100000 in
set_option maxHeartbeats 4000000 in
theorem q_215_3 (xs : List Int) (d : Nat) (v0 : Int) (v1 : Int) (v2 : Int) (u3 : Option aV) (v4 : Int) (h : aH) : ev xs d mm_215 3 [some (.inr (.inr v0)), some (.inl v1), some (.inr (.inl v2)), u3, some (.inl v4)] [] h =
  bif aok h.1 v0 12 then
    bif aok h.1 v0 12 then
      bif ain h.1 (h.2 v0.toNat 30) 100 (w32 ((w32 (3 * (h.2 v0.toNat 19))) + v1)) then
        bif decide ((h.2 (h.2 v0.toNat 30).toNat (w32 ((w32 (3 * (h.2 v0.toNat 19))) + v1)).toNat) ≤ v4) then
          some (some (.inl (-1)), h)
        else
          bif aok h.1 v0 12 then
            bif aok h.1 v0 12 then
              bif ain h.1 (h.2 v0.toNat 31) 101 (w32 ((w32 ((w32 (24 * (h.2 v0.toNat 19))) + (w32 (8 * v1)))) + v4)) then
                bif decide (¬ (olcmp (h.2 (h.2 v0.toNat 31).toNat (w32 ((w32 ((w32 (24 * (h.2 v0.toNat 19))) + (w32 (8 * v1)))) + v4)).toNat) v2) = 0) then
                  ev xs d mm_215 3 [some (.inr (.inr v0)), some (.inl v1), some (.inr (.inl v2)), acl u3, some (.inl (w32 (v4 + 1)))] [] h
                else
                  some (some (.inl v4), h)
              else none
            else none
          else none
      else none
    else none
  else none :=
  (aB gP gX xs stp_215 30 d mm_215 3 _ _ h).trans rfl

def stp_216 : List Nat := [0, 64, 119]
set_option maxRecDepth 100000 in
set_option maxHeartbeats 4000000 in
theorem q_216_0 (xs : List Int) (d : Nat) (v0 : Int) (v1 : Int) (h : aH) : ev xs d mm_216 0 [some (.inr (.inr v0)), some (.inl v1), none, none] [] h =
  bif aok h.1 v0 12 then
    bif aok h.1 v0 12 then
      bif aok h.1 v0 12 then
        bif ain h.1 (h.2 v0.toNat 30) 100 (w32 ((w32 (3 * (h.2 v0.toNat 19))) + v1)) then
          bif aok h.1 v0 12 then
            bif aok h.1 v0 12 && true then
              bV (cl xs d 203 [.inr (.inr v0), .inl 1] h) (fun h1 =>
              bif aok h1.1 v0 12 then
                bif decide (¬ (h1.2 v0.toNat 13) = 0) then
                  ev xs d mm_216 64 [some (.inr (.inr v0)), some (.inl v1), some (.inl (w32 ((w32 ((w32 (24 * (h.2 v0.toNat 19))) + (w32 (8 * v1)))) + (h.2 (h.2 v0.toNat 30).toNat (w32 ((w32 (3 * (h.2 v0.toNat 19))) + v1)).toNat)))), some (.inl (h.2 v0.toNat 11))] [] h1
                else
                  bif aok h1.1 v0 12 then
                    bif ain h1.1 (h1.2 v0.toNat 8) 101 (h.2 v0.toNat 11) then
                      bif aok h1.1 v0 12 && true then
                        bI (cl xs d 215 [.inr (.inr v0), .inl v1, .inr (.inl (h1.2 (h1.2 v0.toNat 8).toNat (h.2 v0.toNat 11).toNat))] h1) (fun x3 h2 =>
                        bif decide (x3 < 0) then
                          ev xs d mm_216 64 [some (.inr (.inr v0)), some (.inl v1), some (.inl (w32 ((w32 ((w32 (24 * (h.2 v0.toNat 19))) + (w32 (8 * v1)))) + (h.2 (h.2 v0.toNat 30).toNat (w32 ((w32 (3 * (h.2 v0.toNat 19))) + v1)).toNat)))), some (.inl (h.2 v0.toNat 11))] [] h2
                        else
                          bif aok h2.1 v0 12 && true then
                            bV (cl xs d 201 [.inr (.inr v0), .inl 3, .inl (h.2 v0.toNat 11)] h2) (fun h4 =>
                            ev xs d mm_216 64 [some (.inr (.inr v0)), some (.inl v1), some (.inl (w32 ((w32 ((w32 (24 * (h.2 v0.toNat 19))) + (w32 (8 * v1)))) + (h.2 (h.2 v0.toNat 30).toNat (w32 ((w32 (3 * (h.2 v0.toNat 19))) + v1)).toNat)))), some (.inl (h.2 v0.toNat 11))] [] h4)
                          else none)
                      else none
                    else none
                  else none
              else none)
            else none
          else none
        else none
      else none
    else none
  else none :=
  (aB gP gX xs stp_216 41 d mm_216 0 _ _ h).trans rfl

set_option maxRecDepth 100000 in
set_option maxHeartbeats 4000000 in
theorem q_216_64 (xs : List Int) (d : Nat) (v0 : Int) (v1 : Int) (v2 : Int) (v3 : Int) (h : aH) : ev xs d mm_216 64 [some (.inr (.inr v0)), some (.inl v1), some (.inl v2), some (.inl v3)] [] h =
  bif aok h.1 v0 12 then
    bif aok h.1 v0 12 && true then
      bI (cl xs d 209 [.inr (.inr v0), .inl 1, .inl 9] h) (fun x2 h1 =>
      bif ain h1.1 (h.2 v0.toNat 32) 100 v2 then
        bif aok h1.1 v0 12 && true then
          bV (cl xs d 203 [.inr (.inr v0), .inl 4] (h1.1, aup h1.2 (h.2 v0.toNat 32).toNat v2.toNat x2)) (fun h3 =>
          bif aok h3.1 v0 12 then
            bif decide ((h3.2 v0.toNat 13) ≤ 0) then
              bif aok h3.1 v0 12 then
                bif aok h3.1 v0 12 then
                  bif ain h3.1 (h3.2 v0.toNat 8) 101 v3 then
                    bif ain h3.1 (h3.2 v0.toNat 31) 101 v2 then
                      bif aok h3.1 v0 12 then
                        bif aok h3.1 v0 12 then
                          bif ain h3.1 ((aup h3.2 (h3.2 v0.toNat 31).toNat v2.toNat (h3.2 (h3.2 v0.toNat 8).toNat v3.toNat)) v0.toNat 30) 100 (w32 ((w32 (3 * ((aup h3.2 (h3.2 v0.toNat 31).toNat v2.toNat (h3.2 (h3.2 v0.toNat 8).toNat v3.toNat)) v0.toNat 19))) + v1)) then
                            bif ain h3.1 ((aup h3.2 (h3.2 v0.toNat 31).toNat v2.toNat (h3.2 (h3.2 v0.toNat 8).toNat v3.toNat)) v0.toNat 30) 100 (w32 ((w32 (3 * ((aup h3.2 (h3.2 v0.toNat 31).toNat v2.toNat (h3.2 (h3.2 v0.toNat 8).toNat v3.toNat)) v0.toNat 19))) + v1)) then
                              ev xs d mm_216 119 [some (.inr (.inr v0)), some (.inl v1), some (.inl v2), some (.inl v3)] [] (h3.1, aup (aup h3.2 (h3.2 v0.toNat 31).toNat v2.toNat (h3.2 (h3.2 v0.toNat 8).toNat v3.toNat)) ((aup h3.2 (h3.2 v0.toNat 31).toNat v2.toNat (h3.2 (h3.2 v0.toNat 8).toNat v3.toNat)) v0.toNat 30).toNat (w32 ((w32 (3 * ((aup h3.2 (h3.2 v0.toNat 31).toNat v2.toNat (h3.2 (h3.2 v0.toNat 8).toNat v3.toNat)) v0.toNat 19))) + v1)).toNat (w32 (((aup h3.2 (h3.2 v0.toNat 31).toNat v2.toNat (h3.2 (h3.2 v0.toNat 8).toNat v3.toNat)) ((aup h3.2 (h3.2 v0.toNat 31).toNat v2.toNat (h3.2 (h3.2 v0.toNat 8).toNat v3.toNat)) v0.toNat 30).toNat (w32 ((w32 (3 * ((aup h3.2 (h3.2 v0.toNat 31).toNat v2.toNat (h3.2 (h3.2 v0.toNat 8).toNat v3.toNat)) v0.toNat 19))) + v1)).toNat) + 1)))
                            else none
                          else none
                        else none
                      else none
                    else none
                  else none
                else none
              else none
            else
              some (none, h3)
          else none)
        else none
      else none)
    else none
  else none :=
  (aB gP gX xs stp_216 36 d mm_216 64 _ _ h).trans rfl

set_option maxRecDepth 100000 in
set_option maxHeartbeats 4000000 in
theorem q_216_119 (xs : List Int) (d : Nat) (v0 : Int) (v1 : Int) (v2 : Int) (v3 : Int) (h : aH) : ev xs d mm_216 119 [some (.inr (.inr v0)), some (.inl v1), some (.inl v2), some (.inl v3)] [] h =
  some (none, h) :=
  (aB gP gX xs stp_216 2 d mm_216 119 _ _ h).trans rfl

def stp_217 : List Nat := [0, 52, 53, 62, 122]
set_option maxRecDepth 100000 in
set_option maxHeartbeats 4000000 in
theorem q_217_0 (xs : List Int) (d : Nat) (v0 : Int) (h : aH) : ev xs d mm_217 0 [some (.inr (.inr v0)), none, none, none] [] h =
  bif aok h.1 v0 12 then
    bif aok h.1 v0 12 then
      bif aok h.1 v0 12 then
        bif ain h.1 (h.2 v0.toNat 35) 100 (h.2 v0.toNat 19) then
          bif aok h.1 v0 12 then
            bif aok h.1 v0 12 && true then
              bV (cl xs d 203 [.inr (.inr v0), .inl 1] h) (fun h1 =>
              bif aok h1.1 v0 12 && true then
                bV (cl xs d 203 [.inr (.inr v0), .inl 1] h1) (fun h2 =>
                bif aok h2.1 v0 12 then
                  bif decide (¬ (h2.2 v0.toNat 13) = 0) then
                    ev xs d mm_217 52 [some (.inr (.inr v0)), some (.inl (w32 ((w32 (8 * (h.2 v0.toNat 19))) + (h.2 (h.2 v0.toNat 35).toNat (h.2 v0.toNat 19).toNat)))), some (.inl (h.2 v0.toNat 11)), none] [] h2
                  else
                    bif aok h2.1 v0 12 && true then
                      bI (cl xs d 199 [.inr (.inr v0), .inl 1] h2) (fun x4 h3 =>
                      bif decide (x4 = 0) then
                        ev xs d mm_217 52 [some (.inr (.inr v0)), some (.inl (w32 ((w32 (8 * (h.2 v0.toNat 19))) + (h.2 (h.2 v0.toNat 35).toNat (h.2 v0.toNat 19).toNat)))), some (.inl (h.2 v0.toNat 11)), none] [] h3
                      else
                        ev xs d mm_217 53 [some (.inr (.inr v0)), some (.inl (w32 ((w32 (8 * (h.2 v0.toNat 19))) + (h.2 (h.2 v0.toNat 35).toNat (h.2 v0.toNat 19).toNat)))), some (.inl (h.2 v0.toNat 11)), none] [.inl 1] h3)
                    else none
                else none)
              else none)
            else none
          else none
        else none
      else none
    else none
  else none :=
  (aB gP gX xs stp_217 30 d mm_217 0 _ _ h).trans rfl

set_option maxRecDepth 100000 in
set_option maxHeartbeats 4000000 in
theorem q_217_52 (xs : List Int) (d : Nat) (v0 : Int) (v1 : Int) (v2 : Int) (u3 : Option aV) (h : aH) : ev xs d mm_217 52 [some (.inr (.inr v0)), some (.inl v1), some (.inl v2), u3] [] h =
  ev xs d mm_217 53 [some (.inr (.inr v0)), some (.inl v1), some (.inl v2), u3] [.inl 0] h :=
  (aB gP gX xs stp_217 2 d mm_217 52 _ _ h).trans rfl

set_option maxRecDepth 100000 in
set_option maxHeartbeats 4000000 in
theorem q_217_53 (xs : List Int) (d : Nat) (v0 : Int) (v1 : Int) (v2 : Int) (u3 : Option aV) (s0 : Int) (h : aH) : ev xs d mm_217 53 [some (.inr (.inr v0)), some (.inl v1), some (.inl v2), u3] [.inl s0] h =
  bif decide (s0 = 0) then
    ev xs d mm_217 62 [some (.inr (.inr v0)), some (.inl v1), some (.inl v2), some (.inl s0)] [] h
  else
    bif aok h.1 v0 12 && true then
      bV (cl xs d 202 [.inr (.inr v0)] h) (fun h1 =>
      ev xs d mm_217 62 [some (.inr (.inr v0)), some (.inl v1), some (.inl v2), some (.inl s0)] [] h1)
    else none :=
  (aB gP gX xs stp_217 6 d mm_217 53 _ _ h).trans rfl

set_option maxRecDepth 100000 in
set_option maxHeartbeats 4000000 in
theorem q_217_62 (xs : List Int) (d : Nat) (v0 : Int) (v1 : Int) (v2 : Int) (v3 : Int) (h : aH) : ev xs d mm_217 62 [some (.inr (.inr v0)), some (.inl v1), some (.inl v2), some (.inl v3)] [] h =
  bif aok h.1 v0 12 && true then
    bV (cl xs d 203 [.inr (.inr v0), .inl 4] h) (fun h1 =>
    bif aok h1.1 v0 12 then
      bif decide ((h1.2 v0.toNat 13) ≤ 0) then
        bif aok h1.1 v0 12 then
          bif aok h1.1 v0 12 then
            bif ain h1.1 (h1.2 v0.toNat 8) 101 v2 then
              bif ain h1.1 (h1.2 v0.toNat 36) 101 v1 then
                bif aok h1.1 v0 12 then
                  bif aok h1.1 v0 12 then
                    bif ain h1.1 ((aup h1.2 (h1.2 v0.toNat 36).toNat v1.toNat (h1.2 (h1.2 v0.toNat 8).toNat v2.toNat)) v0.toNat 8) 101 (w32 (v2 + 1)) then
                      bif ain h1.1 ((aup h1.2 (h1.2 v0.toNat 36).toNat v1.toNat (h1.2 (h1.2 v0.toNat 8).toNat v2.toNat)) v0.toNat 37) 101 v1 then
                        bif aok h1.1 v0 12 then
                          bif decide (v3 = 0) then
                            ev xs d mm_217 122 [some (.inr (.inr v0)), some (.inl v1), some (.inl v2), some (.inl v3)] [.inr (.inl ((((0 : Fin 2) : Nat) : Nat) : Int)), .inl v1, .inr (.inr ((aup (aup h1.2 (h1.2 v0.toNat 36).toNat v1.toNat (h1.2 (h1.2 v0.toNat 8).toNat v2.toNat)) ((aup h1.2 (h1.2 v0.toNat 36).toNat v1.toNat (h1.2 (h1.2 v0.toNat 8).toNat v2.toNat)) v0.toNat 37).toNat v1.toNat ((aup h1.2 (h1.2 v0.toNat 36).toNat v1.toNat (h1.2 (h1.2 v0.toNat 8).toNat v2.toNat)) ((aup h1.2 (h1.2 v0.toNat 36).toNat v1.toNat (h1.2 (h1.2 v0.toNat 8).toNat v2.toNat)) v0.toNat 8).toNat (w32 (v2 + 1)).toNat)) v0.toNat 38))] (h1.1, aup (aup h1.2 (h1.2 v0.toNat 36).toNat v1.toNat (h1.2 (h1.2 v0.toNat 8).toNat v2.toNat)) ((aup h1.2 (h1.2 v0.toNat 36).toNat v1.toNat (h1.2 (h1.2 v0.toNat 8).toNat v2.toNat)) v0.toNat 37).toNat v1.toNat ((aup h1.2 (h1.2 v0.toNat 36).toNat v1.toNat (h1.2 (h1.2 v0.toNat 8).toNat v2.toNat)) ((aup h1.2 (h1.2 v0.toNat 36).toNat v1.toNat (h1.2 (h1.2 v0.toNat 8).toNat v2.toNat)) v0.toNat 8).toNat (w32 (v2 + 1)).toNat))
                          else
                            bif aok h1.1 v0 12 then
                              bif ain h1.1 ((aup (aup h1.2 (h1.2 v0.toNat 36).toNat v1.toNat (h1.2 (h1.2 v0.toNat 8).toNat v2.toNat)) ((aup h1.2 (h1.2 v0.toNat 36).toNat v1.toNat (h1.2 (h1.2 v0.toNat 8).toNat v2.toNat)) v0.toNat 37).toNat v1.toNat ((aup h1.2 (h1.2 v0.toNat 36).toNat v1.toNat (h1.2 (h1.2 v0.toNat 8).toNat v2.toNat)) ((aup h1.2 (h1.2 v0.toNat 36).toNat v1.toNat (h1.2 (h1.2 v0.toNat 8).toNat v2.toNat)) v0.toNat 8).toNat (w32 (v2 + 1)).toNat)) v0.toNat 8) 101 (w32 (v2 + 2)) then
                                ev xs d mm_217 122 [some (.inr (.inr v0)), some (.inl v1), some (.inl v2), some (.inl v3)] [.inr (.inl ((aup (aup h1.2 (h1.2 v0.toNat 36).toNat v1.toNat (h1.2 (h1.2 v0.toNat 8).toNat v2.toNat)) ((aup h1.2 (h1.2 v0.toNat 36).toNat v1.toNat (h1.2 (h1.2 v0.toNat 8).toNat v2.toNat)) v0.toNat 37).toNat v1.toNat ((aup h1.2 (h1.2 v0.toNat 36).toNat v1.toNat (h1.2 (h1.2 v0.toNat 8).toNat v2.toNat)) ((aup h1.2 (h1.2 v0.toNat 36).toNat v1.toNat (h1.2 (h1.2 v0.toNat 8).toNat v2.toNat)) v0.toNat 8).toNat (w32 (v2 + 1)).toNat)) ((aup (aup h1.2 (h1.2 v0.toNat 36).toNat v1.toNat (h1.2 (h1.2 v0.toNat 8).toNat v2.toNat)) ((aup h1.2 (h1.2 v0.toNat 36).toNat v1.toNat (h1.2 (h1.2 v0.toNat 8).toNat v2.toNat)) v0.toNat 37).toNat v1.toNat ((aup h1.2 (h1.2 v0.toNat 36).toNat v1.toNat (h1.2 (h1.2 v0.toNat 8).toNat v2.toNat)) ((aup h1.2 (h1.2 v0.toNat 36).toNat v1.toNat (h1.2 (h1.2 v0.toNat 8).toNat v2.toNat)) v0.toNat 8).toNat (w32 (v2 + 1)).toNat)) v0.toNat 8).toNat (w32 (v2 + 2)).toNat)), .inl v1, .inr (.inr ((aup (aup h1.2 (h1.2 v0.toNat 36).toNat v1.toNat (h1.2 (h1.2 v0.toNat 8).toNat v2.toNat)) ((aup h1.2 (h1.2 v0.toNat 36).toNat v1.toNat (h1.2 (h1.2 v0.toNat 8).toNat v2.toNat)) v0.toNat 37).toNat v1.toNat ((aup h1.2 (h1.2 v0.toNat 36).toNat v1.toNat (h1.2 (h1.2 v0.toNat 8).toNat v2.toNat)) ((aup h1.2 (h1.2 v0.toNat 36).toNat v1.toNat (h1.2 (h1.2 v0.toNat 8).toNat v2.toNat)) v0.toNat 8).toNat (w32 (v2 + 1)).toNat)) v0.toNat 38))] (h1.1, aup (aup h1.2 (h1.2 v0.toNat 36).toNat v1.toNat (h1.2 (h1.2 v0.toNat 8).toNat v2.toNat)) ((aup h1.2 (h1.2 v0.toNat 36).toNat v1.toNat (h1.2 (h1.2 v0.toNat 8).toNat v2.toNat)) v0.toNat 37).toNat v1.toNat ((aup h1.2 (h1.2 v0.toNat 36).toNat v1.toNat (h1.2 (h1.2 v0.toNat 8).toNat v2.toNat)) ((aup h1.2 (h1.2 v0.toNat 36).toNat v1.toNat (h1.2 (h1.2 v0.toNat 8).toNat v2.toNat)) v0.toNat 8).toNat (w32 (v2 + 1)).toNat))
                              else none
                            else none
                        else none
                      else none
                    else none
                  else none
                else none
              else none
            else none
          else none
        else none
      else
        some (none, h1)
    else none)
  else none :=
  (aB gP gX xs stp_217 37 d mm_217 62 _ _ h).trans rfl

set_option maxRecDepth 100000 in
set_option maxHeartbeats 4000000 in
theorem q_217_122 (xs : List Int) (d : Nat) (v0 : Int) (v1 : Int) (v2 : Int) (v3 : Int) (s0 : Int) (s1 : Int) (s2 : Int) (h : aH) : ev xs d mm_217 122 [some (.inr (.inr v0)), some (.inl v1), some (.inl v2), some (.inl v3)] [.inr (.inl s2), .inl s1, .inr (.inr s0)] h =
  bif ain h.1 s0 101 s1 then
    bif aok h.1 v0 12 then
      bif aok h.1 v0 12 then
        bif ain h.1 ((aup h.2 s0.toNat s1.toNat s2) v0.toNat 35) 100 ((aup h.2 s0.toNat s1.toNat s2) v0.toNat 19) then
          bif ain h.1 ((aup h.2 s0.toNat s1.toNat s2) v0.toNat 35) 100 ((aup h.2 s0.toNat s1.toNat s2) v0.toNat 19) then
            some (none, (h.1, aup (aup h.2 s0.toNat s1.toNat s2) ((aup h.2 s0.toNat s1.toNat s2) v0.toNat 35).toNat ((aup h.2 s0.toNat s1.toNat s2) v0.toNat 19).toNat (w32 (((aup h.2 s0.toNat s1.toNat s2) ((aup h.2 s0.toNat s1.toNat s2) v0.toNat 35).toNat ((aup h.2 s0.toNat s1.toNat s2) v0.toNat 19).toNat) + 1))))
          else none
        else none
      else none
    else none
  else none :=
  (aB gP gX xs stp_217 12 d mm_217 122 _ _ h).trans rfl

def stp_218 : List Nat := [0, 33, 58, 77, 117, 134, 137, 170, 215, 247]
set_option maxRecDepth 100000 in
set_option maxHeartbeats 4000000 in
theorem q_218_0 (xs : List Int) (d : Nat) (v0 : Int) (h : aH) : ev xs d mm_218 0 [some (.inr (.inr v0)), none, none, none, none, none] [] h =
  bif aok h.1 v0 12 then
    bif aok h.1 v0 12 then
      bif aok h.1 v0 12 then
        bif ain h.1 (h.2 v0.toNat 39) 100 (h.2 v0.toNat 19) then
          bif aok h.1 v0 12 then
            bif aok h.1 v0 12 && true then
              bI (cl xs d 209 [.inr (.inr v0), .inl 0, .inl 999] h) (fun x2 h1 =>
              bif ain h1.1 (h.2 v0.toNat 40) 100 (w32 ((w32 (5 * (h.2 v0.toNat 19))) + (h.2 (h.2 v0.toNat 39).toNat (h.2 v0.toNat 19).toNat))) then
                ev xs d mm_218 33 [some (.inr (.inr v0)), some (.inl (w32 ((w32 (5 * (h.2 v0.toNat 19))) + (h.2 (h.2 v0.toNat 39).toNat (h.2 v0.toNat 19).toNat)))), some (.inl 0), none, none, none] [] (h1.1, aup h1.2 (h.2 v0.toNat 40).toNat (w32 ((w32 (5 * (h.2 v0.toNat 19))) + (h.2 (h.2 v0.toNat 39).toNat (h.2 v0.toNat 19).toNat))).toNat x2)
              else none)
            else none
          else none
        else none
      else none
    else none
  else none :=
  (aB gP gX xs stp_218 22 d mm_218 0 _ _ h).trans rfl

set_option maxRecDepth 100000 in
set_option maxHeartbeats 4000000 in
theorem q_218_33 (xs : List Int) (d : Nat) (v0 : Int) (v1 : Int) (v2 : Int) (u3 : Option aV) (u4 : Option aV) (u5 : Option aV) (h : aH) : ev xs d mm_218 33 [some (.inr (.inr v0)), some (.inl v1), some (.inl v2), u3, u4, u5] [] h =
  bif aok h.1 v0 12 then
    bif decide (¬ (h.2 v0.toNat 13) = 0) then
      ev xs d mm_218 215 [some (.inr (.inr v0)), some (.inl v1), some (.inl v2), u3, u4, u5] [] h
    else
      bif aok h.1 v0 12 && true then
        bI (cl xs d 199 [.inr (.inr v0), .inl 1] h) (fun x2 h1 =>
        bif decide (x2 = 0) then
          ev xs d mm_218 215 [some (.inr (.inr v0)), some (.inl v1), some (.inl v2), u3, u4, u5] [] h1
        else
          bif decide (¬ v2 = 4) then
            ev xs d mm_218 58 [some (.inr (.inr v0)), some (.inl v1), some (.inl v2), u3, u4, u5] [] h1
          else
            bif aok h1.1 v0 12 && true then
              bV (cl xs d 200 [.inr (.inr v0), .inl 2] h1) (fun h3 =>
              ev xs d mm_218 58 [some (.inr (.inr v0)), some (.inl v1), some (.inl v2), u3, u4, u5] [] h3)
            else none)
      else none
  else none :=
  (aB gP gX xs stp_218 14 d mm_218 33 _ _ h).trans rfl

set_option maxRecDepth 100000 in
set_option maxHeartbeats 4000000 in
theorem q_218_58 (xs : List Int) (d : Nat) (v0 : Int) (v1 : Int) (v2 : Int) (u3 : Option aV) (u4 : Option aV) (u5 : Option aV) (h : aH) : ev xs d mm_218 58 [some (.inr (.inr v0)), some (.inl v1), some (.inl v2), u3, u4, u5] [] h =
  bif aok h.1 v0 12 then
    bif decide ((h.2 v0.toNat 13) ≤ 0) then
      bif aok h.1 v0 12 then
        ev xs d mm_218 77 [some (.inr (.inr v0)), some (.inl v1), some (.inl v2), some (.inl (h.2 v0.toNat 11)), some (.inl (-1)), some (.inl 2)] [] h
      else none
    else
      some (none, h)
  else none :=
  (aB gP gX xs stp_218 11 d mm_218 58 _ _ h).trans rfl

set_option maxRecDepth 100000 in
set_option maxHeartbeats 4000000 in
theorem q_218_77 (xs : List Int) (d : Nat) (v0 : Int) (v1 : Int) (v2 : Int) (v3 : Int) (v4 : Int) (v5 : Int) (h : aH) : ev xs d mm_218 77 [some (.inr (.inr v0)), some (.inl v1), some (.inl v2), some (.inl v3), some (.inl v4), some (.inl v5)] [] h =
  bif decide (v5 < 0) then
    bif decide (0 ≤ v4) then
      ev xs d mm_218 134 [some (.inr (.inr v0)), some (.inl v1), some (.inl v2), some (.inl v3), some (.inl v4), some (.inl v5)] [] h
    else
      bif aok h.1 v0 12 && true then
        bV (cl xs d 201 [.inr (.inr v0), .inl 4, .inl v3] h) (fun h1 =>
        ev xs d mm_218 134 [some (.inr (.inr v0)), some (.inl v1), some (.inl v2), some (.inl v3), some (.inl v4), some (.inl v5)] [] h1)
      else none
  else
    bif aok h.1 v0 12 then
      bif ain h.1 (h.2 v0.toNat 8) 101 v3 then
        bif aok h.1 v0 12 && true then
          bI (cl xs d 215 [.inr (.inr v0), .inl v5, .inr (.inl (h.2 (h.2 v0.toNat 8).toNat v3.toNat))] h) (fun x3 h2 =>
          bif decide (x3 < 0) then
            ev xs d mm_218 117 [some (.inr (.inr v0)), some (.inl v1), some (.inl v2), some (.inl v3), some (.inl v4), some (.inl v5)] [] h2
          else
            bif aok h2.1 v0 12 then
              bif ain h2.1 (h2.2 v0.toNat 8) 101 v3 then
                bif aok h2.1 v0 12 && true then
                  bI (cl xs d 215 [.inr (.inr v0), .inl v5, .inr (.inl (h2.2 (h2.2 v0.toNat 8).toNat v3.toNat))] h2) (fun x5 h4 =>
                  ev xs d mm_218 117 [some (.inr (.inr v0)), some (.inl v1), some (.inl v2), some (.inl v3), some (.inl (w32 ((w32 (8 * v5)) + x5))), some (.inl v5)] [] h4)
                else none
              else none
            else none)
        else none
      else none
    else none :=
  (aB gP gX xs stp_218 23 d mm_218 77 _ _ h).trans rfl

set_option maxRecDepth 100000 in
set_option maxHeartbeats 4000000 in
theorem q_218_117 (xs : List Int) (d : Nat) (v0 : Int) (v1 : Int) (v2 : Int) (v3 : Int) (v4 : Int) (v5 : Int) (h : aH) : ev xs d mm_218 117 [some (.inr (.inr v0)), some (.inl v1), some (.inl v2), some (.inl v3), some (.inl v4), some (.inl v5)] [] h =
  ev xs d mm_218 77 [some (.inr (.inr v0)), some (.inl v1), some (.inl v2), some (.inl v3), some (.inl v4), some (.inl (w32 (v5 + (-1))))] [] h :=
  (aB gP gX xs stp_218 3 d mm_218 117 _ _ h).trans rfl

set_option maxRecDepth 100000 in
set_option maxHeartbeats 4000000 in
theorem q_218_134 (xs : List Int) (d : Nat) (v0 : Int) (v1 : Int) (v2 : Int) (v3 : Int) (v4 : Int) (v5 : Int) (h : aH) : ev xs d mm_218 134 [some (.inr (.inr v0)), some (.inl v1), some (.inl v2), some (.inl v3), some (.inl v4), some (.inl v5)] [] h =
  ev xs d mm_218 137 [some (.inr (.inr v0)), some (.inl v1), some (.inl v2), some (.inl v3), some (.inl v4), some (.inl 0)] [] h :=
  (aB gP gX xs stp_218 3 d mm_218 134 _ _ h).trans rfl

set_option maxRecDepth 100000 in
set_option maxHeartbeats 4000000 in
theorem q_218_137 (xs : List Int) (d : Nat) (v0 : Int) (v1 : Int) (v2 : Int) (v3 : Int) (v4 : Int) (v5 : Int) (h : aH) : ev xs d mm_218 137 [some (.inr (.inr v0)), some (.inl v1), some (.inl v2), some (.inl v3), some (.inl v4), some (.inl v5)] [] h =
  bif decide (v2 ≤ v5) then
    bif aok h.1 v0 12 && true then
      bV (cl xs d 202 [.inr (.inr v0)] h) (fun h1 =>
      bif aok h1.1 v0 12 then
        bif ain h1.1 (h1.2 v0.toNat 42) 100 (w32 ((w32 (4 * v1)) + v2)) then
          bif aok h1.1 v0 12 then
            bif aok h1.1 v0 12 && true then
              bI (cl xs d 209 [.inr (.inr v0), .inl 1, .inl 99] (h1.1, aup h1.2 (h1.2 v0.toNat 42).toNat (w32 ((w32 (4 * v1)) + v2)).toNat v4)) (fun x3 h2 =>
              bif ain h2.1 ((aup h1.2 (h1.2 v0.toNat 42).toNat (w32 ((w32 (4 * v1)) + v2)).toNat v4) v0.toNat 43) 100 (w32 ((w32 (4 * v1)) + v2)) then
                ev xs d mm_218 33 [some (.inr (.inr v0)), some (.inl v1), some (.inl (w32 (v2 + 1))), some (.inl v3), some (.inl v4), some (.inl v5)] [] (h2.1, aup h2.2 ((aup h1.2 (h1.2 v0.toNat 42).toNat (w32 ((w32 (4 * v1)) + v2)).toNat v4) v0.toNat 43).toNat (w32 ((w32 (4 * v1)) + v2)).toNat x3)
              else none)
            else none
          else none
        else none
      else none)
    else none
  else
    bif decide (v4 < 0) then
      ev xs d mm_218 170 [some (.inr (.inr v0)), some (.inl v1), some (.inl v2), some (.inl v3), some (.inl v4), some (.inl v5)] [] h
    else
      bif aok h.1 v0 12 then
        bif ain h.1 (h.2 v0.toNat 42) 100 (w32 ((w32 (4 * v1)) + v5)) then
          bif decide (¬ (h.2 (h.2 v0.toNat 42).toNat (w32 ((w32 (4 * v1)) + v5)).toNat) = v4) then
            ev xs d mm_218 170 [some (.inr (.inr v0)), some (.inl v1), some (.inl v2), some (.inl v3), some (.inl v4), some (.inl v5)] [] h
          else
            bif aok h.1 v0 12 && true then
              bV (cl xs d 201 [.inr (.inr v0), .inl 3, .inl v3] h) (fun h4 =>
              ev xs d mm_218 170 [some (.inr (.inr v0)), some (.inl v1), some (.inl v2), some (.inl v3), some (.inl v4), some (.inl v5)] [] h4)
            else none
        else none
      else none :=
  (aB gP gX xs stp_218 29 d mm_218 137 _ _ h).trans rfl

set_option maxRecDepth 100000 in
set_option maxHeartbeats 4000000 in
theorem q_218_170 (xs : List Int) (d : Nat) (v0 : Int) (v1 : Int) (v2 : Int) (v3 : Int) (v4 : Int) (v5 : Int) (h : aH) : ev xs d mm_218 170 [some (.inr (.inr v0)), some (.inl v1), some (.inl v2), some (.inl v3), some (.inl v4), some (.inl v5)] [] h =
  ev xs d mm_218 137 [some (.inr (.inr v0)), some (.inl v1), some (.inl v2), some (.inl v3), some (.inl v4), some (.inl (w32 (v5 + 1)))] [] h :=
  (aB gP gX xs stp_218 3 d mm_218 170 _ _ h).trans rfl

set_option maxRecDepth 100000 in
set_option maxHeartbeats 4000000 in
theorem q_218_215 (xs : List Int) (d : Nat) (v0 : Int) (v1 : Int) (v2 : Int) (u3 : Option aV) (u4 : Option aV) (u5 : Option aV) (h : aH) : ev xs d mm_218 215 [some (.inr (.inr v0)), some (.inl v1), some (.inl v2), u3, u4, u5] [] h =
  bif aok h.1 v0 12 && true then
    bV (cl xs d 203 [.inr (.inr v0), .inl 4] h) (fun h1 =>
    bif aok h1.1 v0 12 then
      bif ain h1.1 (h1.2 v0.toNat 41) 100 v1 then
        bif aok h1.1 v0 12 then
          bif decide (¬ ((aup h1.2 (h1.2 v0.toNat 41).toNat v1.toNat v2) v0.toNat 13) = 0) then
            ev xs d mm_218 247 [some (.inr (.inr v0)), some (.inl v1), some (.inl v2), u3, u4, u5] [] (h1.1, aup h1.2 (h1.2 v0.toNat 41).toNat v1.toNat v2)
          else
            bif aok h1.1 v0 12 then
              bif aok h1.1 v0 12 then
                bif ain h1.1 ((aup h1.2 (h1.2 v0.toNat 41).toNat v1.toNat v2) v0.toNat 39) 100 ((aup h1.2 (h1.2 v0.toNat 41).toNat v1.toNat v2) v0.toNat 19) then
                  bif ain h1.1 ((aup h1.2 (h1.2 v0.toNat 41).toNat v1.toNat v2) v0.toNat 39) 100 ((aup h1.2 (h1.2 v0.toNat 41).toNat v1.toNat v2) v0.toNat 19) then
                    ev xs d mm_218 247 [some (.inr (.inr v0)), some (.inl v1), some (.inl v2), u3, u4, u5] [] (h1.1, aup (aup h1.2 (h1.2 v0.toNat 41).toNat v1.toNat v2) ((aup h1.2 (h1.2 v0.toNat 41).toNat v1.toNat v2) v0.toNat 39).toNat ((aup h1.2 (h1.2 v0.toNat 41).toNat v1.toNat v2) v0.toNat 19).toNat (w32 (((aup h1.2 (h1.2 v0.toNat 41).toNat v1.toNat v2) ((aup h1.2 (h1.2 v0.toNat 41).toNat v1.toNat v2) v0.toNat 39).toNat ((aup h1.2 (h1.2 v0.toNat 41).toNat v1.toNat v2) v0.toNat 19).toNat) + 1)))
                  else none
                else none
              else none
            else none
        else none
      else none
    else none)
  else none :=
  (aB gP gX xs stp_218 21 d mm_218 215 _ _ h).trans rfl

set_option maxRecDepth 100000 in
set_option maxHeartbeats 4000000 in
theorem q_218_247 (xs : List Int) (d : Nat) (v0 : Int) (v1 : Int) (v2 : Int) (u3 : Option aV) (u4 : Option aV) (u5 : Option aV) (h : aH) : ev xs d mm_218 247 [some (.inr (.inr v0)), some (.inl v1), some (.inl v2), u3, u4, u5] [] h =
  some (none, h) :=
  (aB gP gX xs stp_218 2 d mm_218 247 _ _ h).trans rfl

def stp_219 : List Nat := [0, 12, 38, 99, 110, 129, 179]
set_option maxRecDepth 100000 in
set_option maxHeartbeats 4000000 in
theorem q_219_0 (xs : List Int) (d : Nat) (v0 : Int) (h : aH) : ev xs d mm_219 0 [some (.inr (.inr v0)), none, none] [] h =
  bif aok h.1 v0 12 && true then
    bV (cl xs d 203 [.inr (.inr v0), .inl 5] h) (fun h1 =>
    bif aok h1.1 v0 12 then
      ev xs d mm_219 12 [some (.inr (.inr v0)), some (.inl (h1.2 v0.toNat 47)), some (.inl 0)] [] h1
    else none)
  else none :=
  (aB gP gX xs stp_219 9 d mm_219 0 _ _ h).trans rfl

set_option maxRecDepth 100000 in
set_option maxHeartbeats 4000000 in
theorem q_219_12 (xs : List Int) (d : Nat) (v0 : Int) (v1 : Int) (v2 : Int) (h : aH) : ev xs d mm_219 12 [some (.inr (.inr v0)), some (.inl v1), some (.inl v2)] [] h =
  bif aok h.1 v0 12 then
    bif decide (¬ (h.2 v0.toNat 13) = 0) then
      ev xs d mm_219 129 [some (.inr (.inr v0)), some (.inl v1), some (.inl v2)] [] h
    else
      bif aok h.1 v0 12 && true then
        bI (cl xs d 199 [.inr (.inr v0), .inl 35] h) (fun x2 h1 =>
        bif decide (x2 = 0) then
          ev xs d mm_219 129 [some (.inr (.inr v0)), some (.inl v1), some (.inl v2)] [] h1
        else
          bif decide (¬ v2 = 4) then
            ev xs d mm_219 38 [some (.inr (.inr v0)), some (.inl v1), some (.inl v2)] [] h1
          else
            bif aok h1.1 v0 12 && true then
              bV (cl xs d 200 [.inr (.inr v0), .inl 2] h1) (fun h3 =>
              ev xs d mm_219 38 [some (.inr (.inr v0)), some (.inl v1), some (.inl v2)] [] h3)
            else none)
      else none
  else none :=
  (aB gP gX xs stp_219 14 d mm_219 12 _ _ h).trans rfl

set_option maxRecDepth 100000 in
set_option maxHeartbeats 4000000 in
theorem q_219_38 (xs : List Int) (d : Nat) (v0 : Int) (v1 : Int) (v2 : Int) (h : aH) : ev xs d mm_219 38 [some (.inr (.inr v0)), some (.inl v1), some (.inl v2)] [] h =
  bif aok h.1 v0 12 then
    bif decide ((h.2 v0.toNat 13) ≤ 0) then
      bif aok h.1 v0 12 && true then
        bV (cl xs d 202 [.inr (.inr v0)] h) (fun h1 =>
        bif aok h1.1 v0 12 then
          bif aok h1.1 v0 12 then
            bif ain h1.1 (h1.2 v0.toNat 48) 103 (h1.2 v0.toNat 47) && true then
              bif aok h1.1 v0 12 then
                bif aok h1.1 v0 12 then
                  bif aok h1.1 v0 12 then
                    bif ain h1.1 ((aup h1.2 (h1.2 v0.toNat 48).toNat (h1.2 v0.toNat 47).toNat 1) v0.toNat 49) 100 ((aup h1.2 (h1.2 v0.toNat 48).toNat (h1.2 v0.toNat 47).toNat 1) v0.toNat 47) then
                      bif aok h1.1 v0 12 && true then
                        bV (cl xs d 223 [.inr (.inr v0)] (h1.1, aup (aup h1.2 (h1.2 v0.toNat 48).toNat (h1.2 v0.toNat 47).toNat 1) ((aup h1.2 (h1.2 v0.toNat 48).toNat (h1.2 v0.toNat 47).toNat 1) v0.toNat 49).toNat ((aup h1.2 (h1.2 v0.toNat 48).toNat (h1.2 v0.toNat 47).toNat 1) v0.toNat 47).toNat ((aup h1.2 (h1.2 v0.toNat 48).toNat (h1.2 v0.toNat 47).toNat 1) v0.toNat 53))) (fun h2 =>
                        bif aok h2.1 v0 12 && true then
                          bV (cl xs d 203 [.inr (.inr v0), .inl 13] h2) (fun h3 =>
                          bif aok h3.1 v0 12 then
                            bif aok h3.1 v0 12 then
                              bif aok h3.1 v0 12 then
                                bif ain h3.1 (h3.2 v0.toNat 50) 100 (h3.2 v0.toNat 47) then
                                  ev xs d mm_219 99 [some (.inr (.inr v0)), some (.inl v1), some (.inl (w32 (v2 + 1)))] [] (h3.1, aup h3.2 (h3.2 v0.toNat 50).toNat (h3.2 v0.toNat 47).toNat (h3.2 v0.toNat 53))
                                else none
                              else none
                            else none
                          else none)
                        else none)
                      else none
                    else none
                  else none
                else none
              else none
            else none
          else none
        else none)
      else none
    else
      some (none, h)
  else none :=
  (aB gP gX xs stp_219 32 d mm_219 38 _ _ h).trans rfl

set_option maxRecDepth 100000 in
set_option maxHeartbeats 4000000 in
theorem q_219_99 (xs : List Int) (d : Nat) (v0 : Int) (v1 : Int) (v2 : Int) (h : aH) : ev xs d mm_219 99 [some (.inr (.inr v0)), some (.inl v1), some (.inl v2)] [] h =
  bif aok h.1 v0 12 then
    bif decide (¬ (h.2 v0.toNat 13) = 0) then
      ev xs d mm_219 110 [some (.inr (.inr v0)), some (.inl v1), some (.inl v2)] [] h
    else
      bif aok h.1 v0 12 && true then
        bV (cl xs d 223 [.inr (.inr v0)] h) (fun h1 =>
        ev xs d mm_219 110 [some (.inr (.inr v0)), some (.inl v1), some (.inl v2)] [] h1)
      else none
  else none :=
  (aB gP gX xs stp_219 6 d mm_219 99 _ _ h).trans rfl

set_option maxRecDepth 100000 in
set_option maxHeartbeats 4000000 in
theorem q_219_110 (xs : List Int) (d : Nat) (v0 : Int) (v1 : Int) (v2 : Int) (h : aH) : ev xs d mm_219 110 [some (.inr (.inr v0)), some (.inl v1), some (.inl v2)] [] h =
  bif aok h.1 v0 12 && true then
    bV (cl xs d 203 [.inr (.inr v0), .inl 36] h) (fun h1 =>
    bif aok h1.1 v0 12 && true then
      bV (cl xs d 220 [.inr (.inr v0)] h1) (fun h2 =>
      bif aok h2.1 v0 12 && true then
        bV (cl xs d 203 [.inr (.inr v0), .inl 37] h2) (fun h3 =>
        ev xs d mm_219 12 [some (.inr (.inr v0)), some (.inl v1), some (.inl v2)] [] h3)
      else none)
    else none)
  else none :=
  (aB gP gX xs stp_219 10 d mm_219 110 _ _ h).trans rfl

set_option maxRecDepth 100000 in
set_option maxHeartbeats 4000000 in
theorem q_219_129 (xs : List Int) (d : Nat) (v0 : Int) (v1 : Int) (v2 : Int) (h : aH) : ev xs d mm_219 129 [some (.inr (.inr v0)), some (.inl v1), some (.inl v2)] [] h =
  bif aok h.1 v0 12 then
    bif aok h.1 v0 12 then
      bif ain h.1 (h.2 v0.toNat 48) 103 (h.2 v0.toNat 47) && true then
        bif aok h.1 v0 12 && true then
          bV (cl xs d 220 [.inr (.inr v0)] (h.1, aup h.2 (h.2 v0.toNat 48).toNat (h.2 v0.toNat 47).toNat 0)) (fun h1 =>
          bif aok h1.1 v0 12 && true then
            bV (cl xs d 203 [.inr (.inr v0), .inl 4] h1) (fun h2 =>
            bif aok h2.1 v0 12 then
              bif decide ((h2.2 v0.toNat 13) ≤ 0) then
                bif aok h2.1 v0 12 then
                  bif aok h2.1 v0 12 then
                    bif ain h2.1 (h2.2 v0.toNat 45) 100 (h2.2 v0.toNat 19) then
                      bif aok h2.1 v0 12 then
                        bif aok h2.1 v0 12 then
                          bif aok h2.1 v0 12 then
                            bif ain h2.1 ((aup h2.2 (h2.2 v0.toNat 45).toNat (h2.2 v0.toNat 19).toNat v1) v0.toNat 46) 100 ((aup h2.2 (h2.2 v0.toNat 45).toNat (h2.2 v0.toNat 19).toNat v1) v0.toNat 19) then
                              ev xs d mm_219 179 [some (.inr (.inr v0)), some (.inl v1), some (.inl v2)] [] (h2.1, aup (aup h2.2 (h2.2 v0.toNat 45).toNat (h2.2 v0.toNat 19).toNat v1) ((aup h2.2 (h2.2 v0.toNat 45).toNat (h2.2 v0.toNat 19).toNat v1) v0.toNat 46).toNat ((aup h2.2 (h2.2 v0.toNat 45).toNat (h2.2 v0.toNat 19).toNat v1) v0.toNat 19).toNat ((aup h2.2 (h2.2 v0.toNat 45).toNat (h2.2 v0.toNat 19).toNat v1) v0.toNat 47))
                            else none
                          else none
                        else none
                      else none
                    else none
                  else none
                else none
              else
                some (none, h2)
            else none)
          else none)
        else none
      else none
    else none
  else none :=
  (aB gP gX xs stp_219 28 d mm_219 129 _ _ h).trans rfl

set_option maxRecDepth 100000 in
set_option maxHeartbeats 4000000 in
theorem q_219_179 (xs : List Int) (d : Nat) (v0 : Int) (v1 : Int) (v2 : Int) (h : aH) : ev xs d mm_219 179 [some (.inr (.inr v0)), some (.inl v1), some (.inl v2)] [] h =
  some (none, h) :=
  (aB gP gX xs stp_219 2 d mm_219 179 _ _ h).trans rfl

def stp_220 : List Nat := [0, 24]
set_option maxRecDepth 100000 in
set_option maxHeartbeats 4000000 in
theorem q_220_0 (xs : List Int) (d : Nat) (v0 : Int) (h : aH) : ev xs d mm_220 0 [some (.inr (.inr v0))] [] h =
  bif aok h.1 v0 12 then
    bif aok h.1 v0 12 then
      bif aok h.1 v0 12 then
        bif ain h.1 (h.2 v0.toNat 51) 100 (h.2 v0.toNat 47) then
          bif aok h.1 v0 12 then
            bif decide (¬ ((aup h.2 (h.2 v0.toNat 51).toNat (h.2 v0.toNat 47).toNat (h.2 v0.toNat 53)) v0.toNat 13) = 0) then
              ev xs d mm_220 24 [some (.inr (.inr v0))] [] (h.1, aup h.2 (h.2 v0.toNat 51).toNat (h.2 v0.toNat 47).toNat (h.2 v0.toNat 53))
            else
              bif aok h.1 v0 12 && true then
                bV (cl xs d 223 [.inr (.inr v0)] (h.1, aup h.2 (h.2 v0.toNat 51).toNat (h.2 v0.toNat 47).toNat (h.2 v0.toNat 53))) (fun h1 =>
                ev xs d mm_220 24 [some (.inr (.inr v0))] [] h1)
              else none
          else none
        else none
      else none
    else none
  else none :=
  (aB gP gX xs stp_220 13 d mm_220 0 _ _ h).trans rfl

set_option maxRecDepth 100000 in
set_option maxHeartbeats 4000000 in
theorem q_220_24 (xs : List Int) (d : Nat) (v0 : Int) (h : aH) : ev xs d mm_220 24 [some (.inr (.inr v0))] [] h =
  bif aok h.1 v0 12 then
    bif aok h.1 v0 12 then
      bif aok h.1 v0 12 then
        bif ain h.1 (h.2 v0.toNat 52) 100 (h.2 v0.toNat 47) then
          bif aok h.1 v0 12 then
            bif aok h.1 v0 12 then
              some (none, (h.1, aup (aup h.2 (h.2 v0.toNat 52).toNat (h.2 v0.toNat 47).toNat (h.2 v0.toNat 53)) v0.toNat 47 (w32 (((aup h.2 (h.2 v0.toNat 52).toNat (h.2 v0.toNat 47).toNat (h.2 v0.toNat 53)) v0.toNat 47) + 1))))
            else none
          else none
        else none
      else none
    else none
  else none :=
  (aB gP gX xs stp_220 15 d mm_220 24 _ _ h).trans rfl

def stp_221 : List Nat := [0, 30]
set_option maxRecDepth 100000 in
set_option maxHeartbeats 4000000 in
theorem q_221_0 (xs : List Int) (d : Nat) (v0 : Int) (v1 : Int) (v2 : Int) (h : aH) : ev xs d mm_221 0 [some (.inr (.inr v0)), some (.inl v1), some (.inl v2)] [] h =
  bif aok h.1 v0 12 then
    bif aok h.1 v0 12 then
      bif ain h.1 (h.2 v0.toNat 54) 100 (h.2 v0.toNat 53) then
        bif aok h.1 v0 12 then
          bif aok h.1 v0 12 then
            bif ain h.1 ((aup h.2 (h.2 v0.toNat 54).toNat (h.2 v0.toNat 53).toNat v1) v0.toNat 55) 100 ((aup h.2 (h.2 v0.toNat 54).toNat (h.2 v0.toNat 53).toNat v1) v0.toNat 53) then
              bif aok h.1 v0 12 then
                bif aok h.1 v0 12 then
                  ev xs d mm_221 30 [some (.inr (.inr v0)), some (.inl v1), some (.inl v2)] [] (h.1, aup (aup (aup h.2 (h.2 v0.toNat 54).toNat (h.2 v0.toNat 53).toNat v1) ((aup h.2 (h.2 v0.toNat 54).toNat (h.2 v0.toNat 53).toNat v1) v0.toNat 55).toNat ((aup h.2 (h.2 v0.toNat 54).toNat (h.2 v0.toNat 53).toNat v1) v0.toNat 53).toNat v2) v0.toNat 53 (w32 (((aup (aup h.2 (h.2 v0.toNat 54).toNat (h.2 v0.toNat 53).toNat v1) ((aup h.2 (h.2 v0.toNat 54).toNat (h.2 v0.toNat 53).toNat v1) v0.toNat 55).toNat ((aup h.2 (h.2 v0.toNat 54).toNat (h.2 v0.toNat 53).toNat v1) v0.toNat 53).toNat v2) v0.toNat 53) + 1)))
                else none
              else none
            else none
          else none
        else none
      else none
    else none
  else none :=
  (aB gP gX xs stp_221 19 d mm_221 0 _ _ h).trans rfl

set_option maxRecDepth 100000 in
set_option maxHeartbeats 4000000 in
theorem q_221_30 (xs : List Int) (d : Nat) (v0 : Int) (v1 : Int) (v2 : Int) (h : aH) : ev xs d mm_221 30 [some (.inr (.inr v0)), some (.inl v1), some (.inl v2)] [] h =
  some (none, h) :=
  (aB gP gX xs stp_221 2 d mm_221 30 _ _ h).trans rfl

def stp_222 : List Nat := [0, 41, 42, 84]
set_option maxRecDepth 100000 in
set_option maxHeartbeats 4000000 in
theorem q_222_0 (xs : List Int) (d : Nat) (v0 : Int) (v1 : Int) (h : aH) : ev xs d mm_222 0 [some (.inr (.inr v0)), some (.inl v1), none] [] h =
  bif aok h.1 v0 12 then
    bif decide ((h.2 v0.toNat 59) ≤ 0) then
      some (none, h)
    else
      bif aok h.1 v0 12 then
        bif aok h.1 v0 12 then
          bif ain h.1 (h.2 v0.toNat 58) 100 (w32 ((h.2 v0.toNat 59) - 1)) then
            bif decide ((h.2 (h.2 v0.toNat 58).toNat (w32 ((h.2 v0.toNat 59) - 1)).toNat) = 6) then
              ev xs d mm_222 41 [some (.inr (.inr v0)), some (.inl v1), some (.inl (h.2 (h.2 v0.toNat 58).toNat (w32 ((h.2 v0.toNat 59) - 1)).toNat))] [] h
            else
              bif decide (v1 = 0) then
                ev xs d mm_222 42 [some (.inr (.inr v0)), some (.inl v1), some (.inl (h.2 (h.2 v0.toNat 58).toNat (w32 ((h.2 v0.toNat 59) - 1)).toNat))] [] h
              else
                bif decide ((h.2 (h.2 v0.toNat 58).toNat (w32 ((h.2 v0.toNat 59) - 1)).toNat) = 8) then
                  ev xs d mm_222 41 [some (.inr (.inr v0)), some (.inl v1), some (.inl (h.2 (h.2 v0.toNat 58).toNat (w32 ((h.2 v0.toNat 59) - 1)).toNat))] [] h
                else
                  bif decide (¬ (h.2 (h.2 v0.toNat 58).toNat (w32 ((h.2 v0.toNat 59) - 1)).toNat) = 9) then
                    ev xs d mm_222 42 [some (.inr (.inr v0)), some (.inl v1), some (.inl (h.2 (h.2 v0.toNat 58).toNat (w32 ((h.2 v0.toNat 59) - 1)).toNat))] [] h
                  else
                    ev xs d mm_222 41 [some (.inr (.inr v0)), some (.inl v1), some (.inl (h.2 (h.2 v0.toNat 58).toNat (w32 ((h.2 v0.toNat 59) - 1)).toNat))] [] h
          else none
        else none
      else none
  else none :=
  (aB gP gX xs stp_222 23 d mm_222 0 _ _ h).trans rfl

set_option maxRecDepth 100000 in
set_option maxHeartbeats 4000000 in
theorem q_222_41 (xs : List Int) (d : Nat) (v0 : Int) (v1 : Int) (v2 : Int) (h : aH) : ev xs d mm_222 41 [some (.inr (.inr v0)), some (.inl v1), some (.inl v2)] [] h =
  some (none, h) :=
  (aB gP gX xs stp_222 2 d mm_222 41 _ _ h).trans rfl

set_option maxRecDepth 100000 in
set_option maxHeartbeats 4000000 in
theorem q_222_42 (xs : List Int) (d : Nat) (v0 : Int) (v1 : Int) (v2 : Int) (h : aH) : ev xs d mm_222 42 [some (.inr (.inr v0)), some (.inl v1), some (.inl v2)] [] h =
  bif aok h.1 v0 12 then
    bif aok h.1 v0 12 then
      bif decide (¬ v2 = 8) then
        bif decide (¬ v2 = 9) then
          bif decide (¬ v2 = 10) then
            ev xs d mm_222 84 [some (.inr (.inr v0)), some (.inl v1), some (.inl v2)] [.inl 5, .inr (.inr v0)] (h.1, aup h.2 v0.toNat 59 (w32 ((h.2 v0.toNat 59) - 1)))
          else
            ev xs d mm_222 84 [some (.inr (.inr v0)), some (.inl v1), some (.inl v2)] [.inl 4, .inr (.inr v0)] (h.1, aup h.2 v0.toNat 59 (w32 ((h.2 v0.toNat 59) - 1)))
        else
          ev xs d mm_222 84 [some (.inr (.inr v0)), some (.inl v1), some (.inl v2)] [.inl 3, .inr (.inr v0)] (h.1, aup h.2 v0.toNat 59 (w32 ((h.2 v0.toNat 59) - 1)))
      else
        ev xs d mm_222 84 [some (.inr (.inr v0)), some (.inl v1), some (.inl v2)] [.inl 2, .inr (.inr v0)] (h.1, aup h.2 v0.toNat 59 (w32 ((h.2 v0.toNat 59) - 1)))
    else none
  else none :=
  (aB gP gX xs stp_222 19 d mm_222 42 _ _ h).trans rfl

set_option maxRecDepth 100000 in
set_option maxHeartbeats 4000000 in
theorem q_222_84 (xs : List Int) (d : Nat) (v0 : Int) (v1 : Int) (v2 : Int) (s0 : Int) (s1 : Int) (h : aH) : ev xs d mm_222 84 [some (.inr (.inr v0)), some (.inl v1), some (.inl v2)] [.inl s1, .inr (.inr s0)] h =
  bif aok h.1 s0 12 && true then
    bV (cl xs d 221 [.inr (.inr s0), .inl s1, .inl 0] h) (fun h1 =>
    ev xs d mm_222 0 [some (.inr (.inr v0)), some (.inl v1), some (.inl v2)] [] h1)
  else none :=
  (aB gP gX xs stp_222 4 d mm_222 84 _ _ h).trans rfl

def stp_223 : List Nat := [0, 12, 23, 46, 81, 96, 145, 181, 186, 204, 229, 234, 272]
set_option maxRecDepth 100000 in
set_option maxHeartbeats 4000000 in
theorem q_223_0 (xs : List Int) (d : Nat) (v0 : Int) (h : aH) : ev xs d mm_223 0 [some (.inr (.inr v0)), none, none] [] h =
  bif aok h.1 v0 12 then
    bif aok h.1 v0 12 then
      ev xs d mm_223 12 [some (.inr (.inr v0)), some (.inl ((aup h.2 v0.toNat 59 0) v0.toNat 12)), some (.inl 1)] [] (h.1, aup h.2 v0.toNat 59 0)
    else none
  else none :=
  (aB gP gX xs stp_223 9 d mm_223 0 _ _ h).trans rfl

set_option maxRecDepth 100000 in
set_option maxHeartbeats 4000000 in
theorem q_223_12 (xs : List Int) (d : Nat) (v0 : Int) (v1 : Int) (v2 : Int) (h : aH) : ev xs d mm_223 12 [some (.inr (.inr v0)), some (.inl v1), some (.inl v2)] [] h =
  bif decide (v2 = 0) then
    ev xs d mm_223 272 [some (.inr (.inr v0)), some (.inl v1), some (.inl v2)] [] h
  else
    bif aok h.1 v0 12 then
      bif decide (¬ (h.2 v0.toNat 13) = 0) then
        ev xs d mm_223 272 [some (.inr (.inr v0)), some (.inl v1), some (.inl v2)] [] h
      else
        ev xs d mm_223 23 [some (.inr (.inr v0)), some (.inl v1), some (.inl v2)] [] h
    else none :=
  (aB gP gX xs stp_223 6 d mm_223 12 _ _ h).trans rfl

set_option maxRecDepth 100000 in
set_option maxHeartbeats 4000000 in
theorem q_223_23 (xs : List Int) (d : Nat) (v0 : Int) (v1 : Int) (v2 : Int) (h : aH) : ev xs d mm_223 23 [some (.inr (.inr v0)), some (.inl v1), some (.inl v2)] [] h =
  bif aok h.1 v0 12 && true then
    bI (cl xs d 199 [.inr (.inr v0), .inl 6] h) (fun x2 h1 =>
    bif decide (x2 = 0) then
      bif aok h1.1 v0 12 && true then
        bV (cl xs d 224 [.inr (.inr v0)] h1) (fun h3 =>
        bif aok h3.1 v0 12 then
          bif decide ((h3.2 v0.toNat 13) ≤ 0) then
            ev xs d mm_223 96 [some (.inr (.inr v0)), some (.inl v1), some (.inl v2)] [] h3
          else
            some (none, h3)
        else none)
      else none
    else
      bif aok h1.1 v0 12 then
        bif decide (¬ (h1.2 v0.toNat 12) = 6) then
          ev xs d mm_223 46 [some (.inr (.inr v0)), some (.inl v1), some (.inl v2)] [] h1
        else
          bif aok h1.1 v0 12 && true then
            bV (cl xs d 200 [.inr (.inr v0), .inl 2] h1) (fun h4 =>
            ev xs d mm_223 46 [some (.inr (.inr v0)), some (.inl v1), some (.inl v2)] [] h4)
          else none
      else none)
  else none :=
  (aB gP gX xs stp_223 12 d mm_223 23 _ _ h).trans rfl

set_option maxRecDepth 100000 in
set_option maxHeartbeats 4000000 in
theorem q_223_46 (xs : List Int) (d : Nat) (v0 : Int) (v1 : Int) (v2 : Int) (h : aH) : ev xs d mm_223 46 [some (.inr (.inr v0)), some (.inl v1), some (.inl v2)] [] h =
  bif aok h.1 v0 12 then
    bif aok h.1 v0 12 then
      bif aok h.1 v0 12 && true then
        bV (cl xs d 202 [.inr (.inr v0)] (h.1, aup h.2 v0.toNat 12 (w32 ((h.2 v0.toNat 12) + 1)))) (fun h1 =>
        bif aok h1.1 v0 12 then
          bif aok h1.1 v0 12 then
            bif ain h1.1 (h1.2 v0.toNat 58) 100 (h1.2 v0.toNat 59) then
              bif aok h1.1 v0 12 then
                bif aok h1.1 v0 12 then
                  ev xs d mm_223 81 [some (.inr (.inr v0)), some (.inl v1), some (.inl v2)] [] (h1.1, aup (aup h1.2 (h1.2 v0.toNat 58).toNat (h1.2 v0.toNat 59).toNat 6) v0.toNat 59 (w32 (((aup h1.2 (h1.2 v0.toNat 58).toNat (h1.2 v0.toNat 59).toNat 6) v0.toNat 59) + 1)))
                else none
              else none
            else none
          else none
        else none)
      else none
    else none
  else none :=
  (aB gP gX xs stp_223 21 d mm_223 46 _ _ h).trans rfl

set_option maxRecDepth 100000 in
set_option maxHeartbeats 4000000 in
theorem q_223_81 (xs : List Int) (d : Nat) (v0 : Int) (v1 : Int) (v2 : Int) (h : aH) : ev xs d mm_223 81 [some (.inr (.inr v0)), some (.inl v1), some (.inl v2)] [] h =
  ev xs d mm_223 23 [some (.inr (.inr v0)), some (.inl v1), some (.inl v2)] [] h :=
  (aB gP gX xs stp_223 2 d mm_223 81 _ _ h).trans rfl

set_option maxRecDepth 100000 in
set_option maxHeartbeats 4000000 in
theorem q_223_96 (xs : List Int) (d : Nat) (v0 : Int) (v1 : Int) (v2 : Int) (h : aH) : ev xs d mm_223 96 [some (.inr (.inr v0)), some (.inl v1), some (.inl v2)] [] h =
  bif aok h.1 v0 12 && true then
    bI (cl xs d 199 [.inr (.inr v0), .inl 7] h) (fun x2 h1 =>
    bif decide (x2 = 0) then
      ev xs d mm_223 145 [some (.inr (.inr v0)), some (.inl v1), some (.inl v2)] [] h1
    else
      bif aok h1.1 v0 12 then
        bif decide ((h1.2 v0.toNat 12) ≤ v1) then
          ev xs d mm_223 145 [some (.inr (.inr v0)), some (.inl v1), some (.inl v2)] [] h1
        else
          bif aok h1.1 v0 12 && true then
            bV (cl xs d 222 [.inr (.inr v0), .inl 0] h1) (fun h3 =>
            bif aok h3.1 v0 12 then
              bif aok h3.1 v0 12 then
                bif aok h3.1 v0 12 then
                  bif aok h3.1 v0 12 then
                    bif aok h3.1 v0 12 && true then
                      bV (cl xs d 202 [.inr (.inr v0)] (h3.1, aup (aup h3.2 v0.toNat 59 (w32 ((h3.2 v0.toNat 59) - 1))) v0.toNat 12 (w32 (((aup h3.2 v0.toNat 59 (w32 ((h3.2 v0.toNat 59) - 1))) v0.toNat 12) - 1)))) (fun h4 =>
                      ev xs d mm_223 96 [some (.inr (.inr v0)), some (.inl v1), some (.inl v2)] [] h4)
                    else none
                  else none
                else none
              else none
            else none)
          else none
      else none)
  else none :=
  (aB gP gX xs stp_223 27 d mm_223 96 _ _ h).trans rfl

set_option maxRecDepth 100000 in
set_option maxHeartbeats 4000000 in
theorem q_223_145 (xs : List Int) (d : Nat) (v0 : Int) (v1 : Int) (v2 : Int) (h : aH) : ev xs d mm_223 145 [some (.inr (.inr v0)), some (.inl v1), some (.inl v2)] [] h =
  bif aok h.1 v0 12 && true then
    bI (cl xs d 199 [.inr (.inr v0), .inl 8] h) (fun x2 h1 =>
    bif decide (¬ x2 = 0) then
      ev xs d mm_223 181 [some (.inr (.inr v0)), some (.inl v1), some (.inl v2)] [] h1
    else
      bif aok h1.1 v0 12 && true then
        bI (cl xs d 199 [.inr (.inr v0), .inl 9] h1) (fun x4 h3 =>
        bif decide (¬ x4 = 0) then
          ev xs d mm_223 181 [some (.inr (.inr v0)), some (.inl v1), some (.inl v2)] [] h3
        else
          bif aok h3.1 v0 12 && true then
            bI (cl xs d 199 [.inr (.inr v0), .inl 10] h3) (fun x6 h5 =>
            bif decide (¬ x6 = 0) then
              ev xs d mm_223 181 [some (.inr (.inr v0)), some (.inl v1), some (.inl v2)] [] h5
            else
              bif aok h5.1 v0 12 && true then
                bI (cl xs d 199 [.inr (.inr v0), .inl 15] h5) (fun x8 h7 =>
                bif decide (x8 = 0) then
                  ev xs d mm_223 186 [some (.inr (.inr v0)), some (.inl v1), some (.inl v2)] [.inl 0] h7
                else
                  ev xs d mm_223 181 [some (.inr (.inr v0)), some (.inl v1), some (.inl v2)] [] h7)
              else none)
          else none)
      else none)
  else none :=
  (aB gP gX xs stp_223 18 d mm_223 145 _ _ h).trans rfl

set_option maxRecDepth 100000 in
set_option maxHeartbeats 4000000 in
theorem q_223_181 (xs : List Int) (d : Nat) (v0 : Int) (v1 : Int) (v2 : Int) (h : aH) : ev xs d mm_223 181 [some (.inr (.inr v0)), some (.inl v1), some (.inl v2)] [] h =
  ev xs d mm_223 186 [some (.inr (.inr v0)), some (.inl v1), some (.inl v2)] [.inl 1] h :=
  (aB gP gX xs stp_223 3 d mm_223 181 _ _ h).trans rfl

set_option maxRecDepth 100000 in
set_option maxHeartbeats 4000000 in
theorem q_223_186 (xs : List Int) (d : Nat) (v0 : Int) (v1 : Int) (v2 : Int) (s0 : Int) (h : aH) : ev xs d mm_223 186 [some (.inr (.inr v0)), some (.inl v1), some (.inl v2)] [.inl s0] h =
  bif decide (¬ s0 = 0) then
    bif aok h.1 v0 12 && true then
      bI (cl xs d 199 [.inr (.inr v0), .inl 10] h) (fun x2 h1 =>
      bif decide (¬ x2 = 0) then
        ev xs d mm_223 229 [some (.inr (.inr v0)), some (.inl v1), some (.inl s0)] [.inr (.inr v0)] h1
      else
        bif aok h1.1 v0 12 && true then
          bI (cl xs d 199 [.inr (.inr v0), .inl 15] h1) (fun x4 h3 =>
          bif decide (x4 = 0) then
            ev xs d mm_223 234 [some (.inr (.inr v0)), some (.inl v1), some (.inl s0)] [.inl 0, .inr (.inr v0)] h3
          else
            ev xs d mm_223 229 [some (.inr (.inr v0)), some (.inl v1), some (.inl s0)] [.inr (.inr v0)] h3)
        else none)
    else none
  else
    bif aok h.1 v0 12 then
      bif decide ((h.2 v0.toNat 12) ≤ v1) then
        ev xs d mm_223 204 [some (.inr (.inr v0)), some (.inl v1), some (.inl s0)] [] h
      else
        bif aok h.1 v0 12 && true then
          bV (cl xs d 200 [.inr (.inr v0), .inl 1] h) (fun h5 =>
          ev xs d mm_223 204 [some (.inr (.inr v0)), some (.inl v1), some (.inl s0)] [] h5)
        else none
    else none :=
  (aB gP gX xs stp_223 14 d mm_223 186 _ _ h).trans rfl

set_option maxRecDepth 100000 in
set_option maxHeartbeats 4000000 in
theorem q_223_204 (xs : List Int) (d : Nat) (v0 : Int) (v1 : Int) (v2 : Int) (h : aH) : ev xs d mm_223 204 [some (.inr (.inr v0)), some (.inl v1), some (.inl v2)] [] h =
  bif aok h.1 v0 12 && true then
    bV (cl xs d 222 [.inr (.inr v0), .inl 0] h) (fun h1 =>
    some (none, h1))
  else none :=
  (aB gP gX xs stp_223 5 d mm_223 204 _ _ h).trans rfl

set_option maxRecDepth 100000 in
set_option maxHeartbeats 4000000 in
theorem q_223_229 (xs : List Int) (d : Nat) (v0 : Int) (v1 : Int) (v2 : Int) (s0 : Int) (h : aH) : ev xs d mm_223 229 [some (.inr (.inr v0)), some (.inl v1), some (.inl v2)] [.inr (.inr s0)] h =
  ev xs d mm_223 234 [some (.inr (.inr v0)), some (.inl v1), some (.inl v2)] [.inl 1, .inr (.inr s0)] h :=
  (aB gP gX xs stp_223 3 d mm_223 229 _ _ h).trans rfl

set_option maxRecDepth 100000 in
set_option maxHeartbeats 4000000 in
theorem q_223_234 (xs : List Int) (d : Nat) (v0 : Int) (v1 : Int) (v2 : Int) (s0 : Int) (s1 : Int) (h : aH) : ev xs d mm_223 234 [some (.inr (.inr v0)), some (.inl v1), some (.inl v2)] [.inl s1, .inr (.inr s0)] h =
  bif aok h.1 s0 12 && true then
    bV (cl xs d 222 [.inr (.inr s0), .inl s1] h) (fun h1 =>
    bif aok h1.1 v0 12 then
      bif aok h1.1 v0 12 then
        bif aok h1.1 v0 12 then
          bif aok h1.1 v0 12 then
            bif ain h1.1 (h1.2 v0.toNat 5) 100 (h1.2 v0.toNat 11) then
              bif ain h1.1 (h1.2 v0.toNat 58) 100 (h1.2 v0.toNat 59) then
                bif aok h1.1 v0 12 then
                  bif aok h1.1 v0 12 then
                    bif aok h1.1 v0 12 && true then
                      bV (cl xs d 202 [.inr (.inr v0)] (h1.1, aup (aup h1.2 (h1.2 v0.toNat 58).toNat (h1.2 v0.toNat 59).toNat (h1.2 (h1.2 v0.toNat 5).toNat (h1.2 v0.toNat 11).toNat)) v0.toNat 59 (w32 (((aup h1.2 (h1.2 v0.toNat 58).toNat (h1.2 v0.toNat 59).toNat (h1.2 (h1.2 v0.toNat 5).toNat (h1.2 v0.toNat 11).toNat)) v0.toNat 59) + 1)))) (fun h2 =>
                      ev xs d mm_223 12 [some (.inr (.inr v0)), some (.inl v1), some (.inl v2)] [] h2)
                    else none
                  else none
                else none
              else none
            else none
          else none
        else none
      else none
    else none)
  else none :=
  (aB gP gX xs stp_223 21 d mm_223 234 _ _ h).trans rfl

set_option maxRecDepth 100000 in
set_option maxHeartbeats 4000000 in
theorem q_223_272 (xs : List Int) (d : Nat) (v0 : Int) (v1 : Int) (v2 : Int) (h : aH) : ev xs d mm_223 272 [some (.inr (.inr v0)), some (.inl v1), some (.inl v2)] [] h =
  some (none, h) :=
  (aB gP gX xs stp_223 2 d mm_223 272 _ _ h).trans rfl

def stp_224 : List Nat := [0, 88, 93]
set_option maxRecDepth 100000 in
set_option maxHeartbeats 4000000 in
theorem q_224_0 (xs : List Int) (d : Nat) (v0 : Int) (h : aH) : ev xs d mm_224 0 [some (.inr (.inr v0))] [] h =
  bif aok h.1 v0 12 && true then
    bI (cl xs d 199 [.inr (.inr v0), .inl 2] h) (fun x2 h1 =>
    bif decide (x2 = 0) then
      bif aok h1.1 v0 12 then
        bif decide (¬ (h1.2 v0.toNat 13) = 0) then
          ev xs d mm_224 88 [some (.inr (.inr v0))] [] h1
        else
          bif aok h1.1 v0 12 then
            bif aok h1.1 v0 12 then
              bif ain h1.1 (h1.2 v0.toNat 5) 100 (h1.2 v0.toNat 11) then
                bif decide ((h1.2 (h1.2 v0.toNat 5).toNat (h1.2 v0.toNat 11).toNat) < 38) then
                  ev xs d mm_224 88 [some (.inr (.inr v0))] [] h1
                else
                  bif aok h1.1 v0 12 then
                    bif aok h1.1 v0 12 then
                      bif ain h1.1 (h1.2 v0.toNat 5) 100 (h1.2 v0.toNat 11) then
                        bif decide (43 < (h1.2 (h1.2 v0.toNat 5).toNat (h1.2 v0.toNat 11).toNat)) then
                          ev xs d mm_224 88 [some (.inr (.inr v0))] [] h1
                        else
                          bif aok h1.1 v0 12 then
                            bif aok h1.1 v0 12 then
                              bif ain h1.1 (h1.2 v0.toNat 5) 100 (h1.2 v0.toNat 11) then
                                bif aok h1.1 v0 12 && true then
                                  bV (cl xs d 221 [.inr (.inr v0), .inl 1, .inl (w32 ((h1.2 (h1.2 v0.toNat 5).toNat (h1.2 v0.toNat 11).toNat) - 38))] h1) (fun h3 =>
                                  bif aok h3.1 v0 12 && true then
                                    bV (cl xs d 202 [.inr (.inr v0)] h3) (fun h4 =>
                                    ev xs d mm_224 93 [some (.inr (.inr v0))] [] h4)
                                  else none)
                                else none
                              else none
                            else none
                          else none
                      else none
                    else none
                  else none
              else none
            else none
          else none
      else none
    else
      bif aok h1.1 v0 12 then
        bif aok h1.1 v0 12 then
          bif ain h1.1 (h1.2 v0.toNat 7) 100 (h1.2 v0.toNat 11) then
            bif aok h1.1 v0 12 && true then
              bV (cl xs d 221 [.inr (.inr v0), .inl 0, .inl (h1.2 (h1.2 v0.toNat 7).toNat (h1.2 v0.toNat 11).toNat)] h1) (fun h5 =>
              bif aok h5.1 v0 12 && true then
                bV (cl xs d 202 [.inr (.inr v0)] h5) (fun h6 =>
                ev xs d mm_224 93 [some (.inr (.inr v0))] [] h6)
              else none)
            else none
          else none
        else none
      else none)
  else none :=
  (aB gP gX xs stp_224 35 d mm_224 0 _ _ h).trans rfl

set_option maxRecDepth 100000 in
set_option maxHeartbeats 4000000 in
theorem q_224_88 (xs : List Int) (d : Nat) (v0 : Int) (h : aH) : ev xs d mm_224 88 [some (.inr (.inr v0))] [] h =
  bif aok h.1 v0 12 && true then
    bV (cl xs d 200 [.inr (.inr v0), .inl 1] h) (fun h1 =>
    ev xs d mm_224 93 [some (.inr (.inr v0))] [] h1)
  else none :=
  (aB gP gX xs stp_224 4 d mm_224 88 _ _ h).trans rfl

set_option maxRecDepth 100000 in
set_option maxHeartbeats 4000000 in
theorem q_224_93 (xs : List Int) (d : Nat) (v0 : Int) (h : aH) : ev xs d mm_224 93 [some (.inr (.inr v0))] [] h =
  some (none, h) :=
  (aB gP gX xs stp_224 2 d mm_224 93 _ _ h).trans rfl

def stp_225 : List Nat := [0, 5, 58, 104, 158, 159]
set_option maxRecDepth 100000 in
set_option maxHeartbeats 4000000 in
theorem q_225_0 (xs : List Int) (d : Nat) (v0 : Int) (v1 : Int) (v2 : Int) (h : aH) : ev xs d mm_225 0 [some (.inr (.inr v0)), some (.inl v1), some (.inl v2), none, none, none, none, none] [] h =
  ev xs d mm_225 5 [some (.inr (.inr v0)), some (.inl v1), some (.inl v2), some (.inl 0), some (.inl v1), none, none, none] [] h :=
  (aB gP gX xs stp_225 5 d mm_225 0 _ _ h).trans rfl

set_option maxRecDepth 100000 in
set_option maxHeartbeats 4000000 in
theorem q_225_5 (xs : List Int) (d : Nat) (v0 : Int) (v1 : Int) (v2 : Int) (v3 : Int) (v4 : Int) (u5 : Option aV) (u6 : Option aV) (u7 : Option aV) (h : aH) : ev xs d mm_225 5 [some (.inr (.inr v0)), some (.inl v1), some (.inl v2), some (.inl v3), some (.inl v4), u5, u6, u7] [] h =
  bif decide (v2 ≤ v4) then
    bif aok h.1 v0 12 then
      bif ain h.1 (h.2 v0.toNat 61) 100 0 then
        some (some (.inl (h.2 (h.2 v0.toNat 61).toNat (0 : Int).toNat)), h)
      else none
    else none
  else
    bif aok h.1 v0 12 then
      bif ain h.1 (h.2 v0.toNat 54) 100 v4 then
        bif decide (2 ≤ (h.2 (h.2 v0.toNat 54).toNat v4.toNat)) then
          bif aok h.1 v0 12 then
            bif ain h.1 (h.2 v0.toNat 61) 100 (w32 ((w32 (v3 + (-1))) - 1)) then
              bif aok h.1 v0 12 then
                bif ain h.1 (h.2 v0.toNat 61) 100 (w32 (v3 + (-1))) then
                  bif decide (¬ (h.2 (h.2 v0.toNat 54).toNat v4.toNat) = 5) then
                    ev xs d mm_225 104 [some (.inr (.inr v0)), some (.inl v1), some (.inl v2), some (.inl (w32 (v3 + (-1)))), some (.inl v4), some (.inl (h.2 (h.2 v0.toNat 54).toNat v4.toNat)), some (.inl (h.2 (h.2 v0.toNat 61).toNat (w32 ((w32 (v3 + (-1))) - 1)).toNat)), some (.inl (h.2 (h.2 v0.toNat 61).toNat (w32 (v3 + (-1))).toNat))] [] h
                  else
                    bif decide (¬ (h.2 (h.2 v0.toNat 61).toNat (w32 (v3 + (-1))).toNat) = 0) then
                      ev xs d mm_225 104 [some (.inr (.inr v0)), some (.inl v1), some (.inl v2), some (.inl (w32 (v3 + (-1)))), some (.inl v4), some (.inl (h.2 (h.2 v0.toNat 54).toNat v4.toNat)), some (.inl (h.2 (h.2 v0.toNat 61).toNat (w32 ((w32 (v3 + (-1))) - 1)).toNat)), some (.inl (h.2 (h.2 v0.toNat 61).toNat (w32 (v3 + (-1))).toNat))] [] h
                    else
                      bif aok h.1 v0 12 && true then
                        some (some (.inl 0), (h.1, aup h.2 v0.toNat 62 1))
                      else none
                else none
              else none
            else none
          else none
        else
          bif aok h.1 v0 12 then
            bif decide (¬ (h.2 (h.2 v0.toNat 54).toNat v4.toNat) = 0) then
              bif aok h.1 v0 12 then
                bif aok h.1 v0 12 then
                  bif ain h.1 (h.2 v0.toNat 55) 100 v4 then
                    bif ain h.1 (h.2 v0.toNat 60) 100 (h.2 (h.2 v0.toNat 55).toNat v4.toNat) then
                      ev xs d mm_225 58 [some (.inr (.inr v0)), some (.inl v1), some (.inl v2), some (.inl v3), some (.inl v4), some (.inl (h.2 (h.2 v0.toNat 54).toNat v4.toNat)), u6, u7] [.inl (h.2 (h.2 v0.toNat 60).toNat (h.2 (h.2 v0.toNat 55).toNat v4.toNat).toNat), .inl v3, .inr (.inr (h.2 v0.toNat 61))] h
                    else none
                  else none
                else none
              else none
            else
              bif aok h.1 v0 12 then
                bif ain h.1 (h.2 v0.toNat 55) 100 v4 then
                  ev xs d mm_225 58 [some (.inr (.inr v0)), some (.inl v1), some (.inl v2), some (.inl v3), some (.inl v4), some (.inl (h.2 (h.2 v0.toNat 54).toNat v4.toNat)), u6, u7] [.inl (h.2 (h.2 v0.toNat 55).toNat v4.toNat), .inl v3, .inr (.inr (h.2 v0.toNat 61))] h
                else none
              else none
          else none
      else none
    else none :=
  (aB gP gX xs stp_225 35 d mm_225 5 _ _ h).trans rfl

set_option maxRecDepth 100000 in
set_option maxHeartbeats 4000000 in
theorem q_225_58 (xs : List Int) (d : Nat) (v0 : Int) (v1 : Int) (v2 : Int) (v3 : Int) (v4 : Int) (v5 : Int) (u6 : Option aV) (u7 : Option aV) (s0 : Int) (s1 : Int) (s2 : Int) (h : aH) : ev xs d mm_225 58 [some (.inr (.inr v0)), some (.inl v1), some (.inl v2), some (.inl v3), some (.inl v4), some (.inl v5), u6, u7] [.inl s2, .inl s1, .inr (.inr s0)] h =
  bif ain h.1 s0 100 s1 then
    ev xs d mm_225 159 [some (.inr (.inr v0)), some (.inl v1), some (.inl v2), some (.inl (w32 (v3 + 1))), some (.inl v4), some (.inl v5), u6, u7] [] (h.1, aup h.2 s0.toNat s1.toNat s2)
  else none :=
  (aB gP gX xs stp_225 4 d mm_225 58 _ _ h).trans rfl

set_option maxRecDepth 100000 in
set_option maxHeartbeats 4000000 in
theorem q_225_104 (xs : List Int) (d : Nat) (v0 : Int) (v1 : Int) (v2 : Int) (v3 : Int) (v4 : Int) (v5 : Int) (v6 : Int) (v7 : Int) (h : aH) : ev xs d mm_225 104 [some (.inr (.inr v0)), some (.inl v1), some (.inl v2), some (.inl v3), some (.inl v4), some (.inl v5), some (.inl v6), some (.inl v7)] [] h =
  bif aok h.1 v0 12 then
    bif decide (¬ v5 = 2) then
      bif decide (¬ v5 = 3) then
        bif decide (¬ v5 = 4) then
          bif decide (v7 = 0) then none else
          ev xs d mm_225 158 [some (.inr (.inr v0)), some (.inl v1), some (.inl v2), some (.inl v3), some (.inl v4), some (.inl v5), some (.inl v6), some (.inl v7)] [.inl (odiv v6 v7), .inl (w32 (v3 - 1)), .inr (.inr (h.2 v0.toNat 61))] h
        else
          ev xs d mm_225 158 [some (.inr (.inr v0)), some (.inl v1), some (.inl v2), some (.inl v3), some (.inl v4), some (.inl v5), some (.inl v6), some (.inl v7)] [.inl (w32 (v6 * v7)), .inl (w32 (v3 - 1)), .inr (.inr (h.2 v0.toNat 61))] h
      else
        ev xs d mm_225 158 [some (.inr (.inr v0)), some (.inl v1), some (.inl v2), some (.inl v3), some (.inl v4), some (.inl v5), some (.inl v6), some (.inl v7)] [.inl (w32 (v6 - v7)), .inl (w32 (v3 - 1)), .inr (.inr (h.2 v0.toNat 61))] h
    else
      ev xs d mm_225 158 [some (.inr (.inr v0)), some (.inl v1), some (.inl v2), some (.inl v3), some (.inl v4), some (.inl v5), some (.inl v6), some (.inl v7)] [.inl (w32 (v6 + v7)), .inl (w32 (v3 - 1)), .inr (.inr (h.2 v0.toNat 61))] h
  else none :=
  (aB gP gX xs stp_225 19 d mm_225 104 _ _ h).trans rfl

set_option maxRecDepth 100000 in
set_option maxHeartbeats 4000000 in
theorem q_225_158 (xs : List Int) (d : Nat) (v0 : Int) (v1 : Int) (v2 : Int) (v3 : Int) (v4 : Int) (v5 : Int) (v6 : Int) (v7 : Int) (s0 : Int) (s1 : Int) (s2 : Int) (h : aH) : ev xs d mm_225 158 [some (.inr (.inr v0)), some (.inl v1), some (.inl v2), some (.inl v3), some (.inl v4), some (.inl v5), some (.inl v6), some (.inl v7)] [.inl s2, .inl s1, .inr (.inr s0)] h =
  bif ain h.1 s0 100 s1 then
    ev xs d mm_225 159 [some (.inr (.inr v0)), some (.inl v1), some (.inl v2), some (.inl v3), some (.inl v4), some (.inl v5), some (.inl v6), some (.inl v7)] [] (h.1, aup h.2 s0.toNat s1.toNat s2)
  else none :=
  (aB gP gX xs stp_225 2 d mm_225 158 _ _ h).trans rfl

set_option maxRecDepth 100000 in
set_option maxHeartbeats 4000000 in
theorem q_225_159 (xs : List Int) (d : Nat) (v0 : Int) (v1 : Int) (v2 : Int) (v3 : Int) (v4 : Int) (v5 : Int) (u6 : Option aV) (u7 : Option aV) (h : aH) : ev xs d mm_225 159 [some (.inr (.inr v0)), some (.inl v1), some (.inl v2), some (.inl v3), some (.inl v4), some (.inl v5), u6, u7] [] h =
  ev xs d mm_225 5 [some (.inr (.inr v0)), some (.inl v1), some (.inl v2), some (.inl v3), some (.inl (w32 (v4 + 1))), some (.inl v5), u6, u7] [] h :=
  (aB gP gX xs stp_225 3 d mm_225 159 _ _ h).trans rfl

def stp_226 : List Nat := [0, 14, 15]
set_option maxRecDepth 100000 in
set_option maxHeartbeats 4000000 in
theorem q_226_0 (xs : List Int) (d : Nat) (v0 : Int) (v1 : Int) (v2 : Int) (h : aH) : ev xs d mm_226 0 [some (.inl v0), some (.inl v1), some (.inl v2)] [] h =
  bif decide (v0 < v1) then
    ev xs d mm_226 14 [some (.inl v0), some (.inl v1), some (.inl v2)] [] h
  else
    bif decide (v2 < v0) then
      ev xs d mm_226 14 [some (.inl v0), some (.inl v1), some (.inl v2)] [] h
    else
      ev xs d mm_226 15 [some (.inl v0), some (.inl v1), some (.inl v2)] [.inl 1] h :=
  (aB gP gX xs stp_226 9 d mm_226 0 _ _ h).trans rfl

set_option maxRecDepth 100000 in
set_option maxHeartbeats 4000000 in
theorem q_226_14 (xs : List Int) (d : Nat) (v0 : Int) (v1 : Int) (v2 : Int) (h : aH) : ev xs d mm_226 14 [some (.inl v0), some (.inl v1), some (.inl v2)] [] h =
  ev xs d mm_226 15 [some (.inl v0), some (.inl v1), some (.inl v2)] [.inl 0] h :=
  (aB gP gX xs stp_226 2 d mm_226 14 _ _ h).trans rfl

set_option maxRecDepth 100000 in
set_option maxHeartbeats 4000000 in
theorem q_226_15 (xs : List Int) (d : Nat) (v0 : Int) (v1 : Int) (v2 : Int) (s0 : Int) (h : aH) : ev xs d mm_226 15 [some (.inl v0), some (.inl v1), some (.inl v2)] [.inl s0] h =
  bif decide (s0 = 0) || decide (s0 = 1) then some (some (.inl s0), h) else none :=
  (aB gP gX xs stp_226 2 d mm_226 15 _ _ h).trans rfl

def stp_227 : List Nat := [0, 2, 23, 64]
set_option maxRecDepth 100000 in
set_option maxHeartbeats 4000000 in
theorem q_227_0 (xs : List Int) (d : Nat) (v0 : Int) (h : aH) : ev xs d mm_227 0 [some (.inr (.inr v0)), none] [] h =
  ev xs d mm_227 2 [some (.inr (.inr v0)), some (.inl 0)] [] h :=
  (aB gP gX xs stp_227 3 d mm_227 0 _ _ h).trans rfl

set_option maxRecDepth 100000 in
set_option maxHeartbeats 4000000 in
theorem q_227_2 (xs : List Int) (d : Nat) (v0 : Int) (v1 : Int) (h : aH) : ev xs d mm_227 2 [some (.inr (.inr v0)), some (.inl v1)] [] h =
  bif decide (60 ≤ v1) then
    ev xs d mm_227 23 [some (.inr (.inr v0)), some (.inl 0)] [] h
  else
    bif aok h.1 v0 12 then
      bif ain h.1 (h.2 v0.toNat 64) 101 v1 then
        ev xs d mm_227 2 [some (.inr (.inr v0)), some (.inl (w32 (v1 + 1)))] [] (h.1, aup h.2 (h.2 v0.toNat 64).toNat v1.toNat ((((0 : Fin 2) : Nat) : Nat) : Int))
      else none
    else none :=
  (aB gP gX xs stp_227 11 d mm_227 2 _ _ h).trans rfl

set_option maxRecDepth 100000 in
set_option maxHeartbeats 4000000 in
theorem q_227_23 (xs : List Int) (d : Nat) (v0 : Int) (v1 : Int) (h : aH) : ev xs d mm_227 23 [some (.inr (.inr v0)), some (.inl v1)] [] h =
  bif aok h.1 v0 12 then
    bif aok h.1 v0 12 then
      bif ain h.1 (h.2 v0.toNat 33) 100 (h.2 v0.toNat 18) then
        bif decide ((h.2 (h.2 v0.toNat 33).toNat (h.2 v0.toNat 18).toNat) ≤ v1) then
          ev xs d mm_227 64 [some (.inr (.inr v0)), some (.inl 0)] [] h
        else
          bif aok h.1 v0 12 then
            bif aok h.1 v0 12 then
              bif aok h.1 v0 12 then
                bif ain h.1 (h.2 v0.toNat 34) 101 (w32 ((w32 (10 * (h.2 v0.toNat 18))) + v1)) then
                  bif ain h.1 (h.2 v0.toNat 64) 101 v1 then
                    ev xs d mm_227 23 [some (.inr (.inr v0)), some (.inl (w32 (v1 + 1)))] [] (h.1, aup h.2 (h.2 v0.toNat 64).toNat v1.toNat (h.2 (h.2 v0.toNat 34).toNat (w32 ((w32 (10 * (h.2 v0.toNat 18))) + v1)).toNat))
                  else none
                else none
              else none
            else none
          else none
      else none
    else none
  else none :=
  (aB gP gX xs stp_227 23 d mm_227 23 _ _ h).trans rfl

set_option maxRecDepth 100000 in
set_option maxHeartbeats 4000000 in
theorem q_227_64 (xs : List Int) (d : Nat) (v0 : Int) (v1 : Int) (h : aH) : ev xs d mm_227 64 [some (.inr (.inr v0)), some (.inl v1)] [] h =
  bif decide (7 ≤ v1) then
    bif aok h.1 v0 12 then
      bif aok h.1 v0 12 then
        bif aok h.1 v0 12 then
          bif ain h.1 (h.2 v0.toNat 23) 100 (h.2 v0.toNat 18) then
            bif ain h.1 (h.2 v0.toNat 64) 101 52 then
              some (none, (h.1, aup h.2 (h.2 v0.toNat 64).toNat (52 : Int).toNat (w32 ((oshl 1 (h.2 (h.2 v0.toNat 23).toNat (h.2 v0.toNat 18).toNat)) - 1))))
            else none
          else none
        else none
      else none
    else none
  else
    bif aok h.1 v0 12 then
      bif ain h.1 (h.2 v0.toNat 64) 101 (w32 (45 + v1)) then
        ev xs d mm_227 64 [some (.inr (.inr v0)), some (.inl (w32 (v1 + 1)))] [] (h.1, aup h.2 (h.2 v0.toNat 64).toNat (w32 (45 + v1)).toNat v1)
      else none
    else none :=
  (aB gP gX xs stp_227 19 d mm_227 64 _ _ h).trans rfl

def stp_228 : List Nat := [0, 2]
set_option maxRecDepth 100000 in
set_option maxHeartbeats 4000000 in
theorem q_228_0 (xs : List Int) (d : Nat) (v0 : Int) (h : aH) : ev xs d mm_228 0 [some (.inr (.inr v0)), none] [] h =
  ev xs d mm_228 2 [some (.inr (.inr v0)), some (.inl 0)] [] h :=
  (aB gP gX xs stp_228 3 d mm_228 0 _ _ h).trans rfl

set_option maxRecDepth 100000 in
set_option maxHeartbeats 4000000 in
theorem q_228_2 (xs : List Int) (d : Nat) (v0 : Int) (v1 : Int) (h : aH) : ev xs d mm_228 2 [some (.inr (.inr v0)), some (.inl v1)] [] h =
  bif decide (60 ≤ v1) then
    some (none, h)
  else
    bif aok h.1 v0 12 then
      bif aok h.1 v0 12 then
        bif ain h.1 (h.2 v0.toNat 64) 101 v1 then
          bif ain h.1 (h.2 v0.toNat 63) 101 v1 then
            ev xs d mm_228 2 [some (.inr (.inr v0)), some (.inl (w32 (v1 + 1)))] [] (h.1, aup h.2 (h.2 v0.toNat 63).toNat v1.toNat (h.2 (h.2 v0.toNat 64).toNat v1.toNat))
          else none
        else none
      else none
    else none :=
  (aB gP gX xs stp_228 14 d mm_228 2 _ _ h).trans rfl

def stp_229 : List Nat := [0, 2]
set_option maxRecDepth 100000 in
set_option maxHeartbeats 4000000 in
theorem q_229_0 (xs : List Int) (d : Nat) (v0 : Int) (h : aH) : ev xs d mm_229 0 [some (.inr (.inr v0)), none] [] h =
  ev xs d mm_229 2 [some (.inr (.inr v0)), some (.inl 0)] [] h :=
  (aB gP gX xs stp_229 3 d mm_229 0 _ _ h).trans rfl

set_option maxRecDepth 100000 in
set_option maxHeartbeats 4000000 in
theorem q_229_2 (xs : List Int) (d : Nat) (v0 : Int) (v1 : Int) (h : aH) : ev xs d mm_229 2 [some (.inr (.inr v0)), some (.inl v1)] [] h =
  bif decide (60 ≤ v1) then
    some (none, h)
  else
    bif aok h.1 v0 12 then
      bif aok h.1 v0 12 then
        bif ain h.1 (h.2 v0.toNat 63) 101 v1 then
          bif ain h.1 (h.2 v0.toNat 64) 101 v1 then
            ev xs d mm_229 2 [some (.inr (.inr v0)), some (.inl (w32 (v1 + 1)))] [] (h.1, aup h.2 (h.2 v0.toNat 64).toNat v1.toNat (h.2 (h.2 v0.toNat 63).toNat v1.toNat))
          else none
        else none
      else none
    else none :=
  (aB gP gX xs stp_229 14 d mm_229 2 _ _ h).trans rfl

def stp_230 : List Nat := [0]
set_option maxRecDepth 100000 in
set_option maxHeartbeats 4000000 in
theorem q_230_0 (xs : List Int) (d : Nat) (v0 : Int) (v1 : Int) (h : aH) : ev xs d mm_230 0 [some (.inr (.inr v0)), some (.inl v1)] [] h =
  bif aok h.1 v0 12 then
    bif aok h.1 v0 12 then
      bif ain h.1 (h.2 v0.toNat 33) 100 (h.2 v0.toNat 18) then
        bI (cl xs d 226 [.inl v1, .inl 0, .inl (w32 ((h.2 (h.2 v0.toNat 33).toNat (h.2 v0.toNat 18).toNat) - 1))] h) (fun x2 h1 =>
          bif decide (x2 = 0) || decide (x2 = 1) then some (some (.inl x2), h1) else none)
      else none
    else none
  else none :=
  (aB gP gX xs stp_230 12 d mm_230 0 _ _ h).trans rfl

def stp_231 : List Nat := [0]
set_option maxRecDepth 100000 in
set_option maxHeartbeats 4000000 in
theorem q_231_0 (xs : List Int) (d : Nat) (v0 : Int) (v1 : Int) (h : aH) : ev xs d mm_231 0 [some (.inr (.inr v0)), some (.inl v1)] [] h =
  bif aok h.1 v0 12 then
    bif aok h.1 v0 12 then
      bif ain h.1 (h.2 v0.toNat 23) 100 (h.2 v0.toNat 18) then
        bI (cl xs d 226 [.inl v1, .inl 0, .inl (w32 ((h.2 (h.2 v0.toNat 23).toNat (h.2 v0.toNat 18).toNat) - 1))] h) (fun x2 h1 =>
          bif decide (x2 = 0) || decide (x2 = 1) then some (some (.inl x2), h1) else none)
      else none
    else none
  else none :=
  (aB gP gX xs stp_231 12 d mm_231 0 _ _ h).trans rfl

def stp_232 : List Nat := [0, 36, 37]
set_option maxRecDepth 100000 in
set_option maxHeartbeats 4000000 in
theorem q_232_0 (xs : List Int) (d : Nat) (v0 : Int) (v1 : Int) (v2 : Int) (h : aH) : ev xs d mm_232 0 [some (.inr (.inr v0)), some (.inl v1), some (.inl v2)] [] h =
  bI (cl xs d 226 [.inl v1, .inl 0, .inl 2] h) (fun x2 h1 =>
    bif decide (x2 = 0) then
      ev xs d mm_232 36 [some (.inr (.inr v0)), some (.inl v1), some (.inl v2)] [] h1
    else
      bif aok h1.1 v0 12 then
        bif aok h1.1 v0 12 then
          bif ain h1.1 (h1.2 v0.toNat 30) 100 (w32 ((w32 (3 * (h1.2 v0.toNat 18))) + v1)) then
            bI (cl xs d 226 [.inl v2, .inl 0, .inl (w32 ((h1.2 (h1.2 v0.toNat 30).toNat (w32 ((w32 (3 * (h1.2 v0.toNat 18))) + v1)).toNat) - 1))] h1) (fun x4 h3 =>
              bif decide (x4 = 0) then
                ev xs d mm_232 36 [some (.inr (.inr v0)), some (.inl v1), some (.inl v2)] [] h3
              else
                ev xs d mm_232 37 [some (.inr (.inr v0)), some (.inl v1), some (.inl v2)] [.inl 1] h3)
          else none
        else none
      else none) :=
  (aB gP gX xs stp_232 23 d mm_232 0 _ _ h).trans rfl

set_option maxRecDepth 100000 in
set_option maxHeartbeats 4000000 in
theorem q_232_36 (xs : List Int) (d : Nat) (v0 : Int) (v1 : Int) (v2 : Int) (h : aH) : ev xs d mm_232 36 [some (.inr (.inr v0)), some (.inl v1), some (.inl v2)] [] h =
  ev xs d mm_232 37 [some (.inr (.inr v0)), some (.inl v1), some (.inl v2)] [.inl 0] h :=
  (aB gP gX xs stp_232 2 d mm_232 36 _ _ h).trans rfl

set_option maxRecDepth 100000 in
set_option maxHeartbeats 4000000 in
theorem q_232_37 (xs : List Int) (d : Nat) (v0 : Int) (v1 : Int) (v2 : Int) (s0 : Int) (h : aH) : ev xs d mm_232 37 [some (.inr (.inr v0)), some (.inl v1), some (.inl v2)] [.inl s0] h =
  bif decide (s0 = 0) || decide (s0 = 1) then some (some (.inl s0), h) else none :=
  (aB gP gX xs stp_232 2 d mm_232 37 _ _ h).trans rfl

def stp_233 : List Nat := [0, 19]
set_option maxRecDepth 100000 in
set_option maxHeartbeats 4000000 in
theorem q_233_0 (xs : List Int) (d : Nat) (v0 : Int) (v1 : Int) (h : aH) : ev xs d mm_233 0 [some (.inr (.inr v0)), some (.inl v1)] [] h =
  bif aok h.1 v0 12 then
    bif ain h.1 (h.2 v0.toNat 64) 101 (w32 (10 + v1)) then
      bif decide (¬ (olcmp (h.2 (h.2 v0.toNat 64).toNat (w32 (10 + v1)).toNat) ((((0 : Fin 2) : Nat) : Nat) : Int)) = 0) then
        ev xs d mm_233 19 [some (.inr (.inr v0)), some (.inl v1)] [.inl 0] h
      else
        ev xs d mm_233 19 [some (.inr (.inr v0)), some (.inl v1)] [.inl 1] h
    else none
  else none :=
  (aB gP gX xs stp_233 12 d mm_233 0 _ _ h).trans rfl

set_option maxRecDepth 100000 in
set_option maxHeartbeats 4000000 in
theorem q_233_19 (xs : List Int) (d : Nat) (v0 : Int) (v1 : Int) (s0 : Int) (h : aH) : ev xs d mm_233 19 [some (.inr (.inr v0)), some (.inl v1)] [.inl s0] h =
  bif decide (s0 = 0) || decide (s0 = 1) then some (some (.inl s0), h) else none :=
  (aB gP gX xs stp_233 2 d mm_233 19 _ _ h).trans rfl

def stp_234 : List Nat := [0, 4, 31]
set_option maxRecDepth 100000 in
set_option maxHeartbeats 4000000 in
theorem q_234_0 (xs : List Int) (d : Nat) (v0 : Int) (h : aH) : ev xs d mm_234 0 [some (.inr (.inr v0)), none, none] [] h =
  ev xs d mm_234 4 [some (.inr (.inr v0)), some (.inl 0), some (.inl 0)] [] h :=
  (aB gP gX xs stp_234 5 d mm_234 0 _ _ h).trans rfl

set_option maxRecDepth 100000 in
set_option maxHeartbeats 4000000 in
theorem q_234_4 (xs : List Int) (d : Nat) (v0 : Int) (v1 : Int) (v2 : Int) (h : aH) : ev xs d mm_234 4 [some (.inr (.inr v0)), some (.inl v1), some (.inl v2)] [] h =
  bif aok h.1 v0 12 then
    bif aok h.1 v0 12 then
      bif ain h.1 (h.2 v0.toNat 33) 100 (h.2 v0.toNat 18) then
        bif decide ((h.2 (h.2 v0.toNat 33).toNat (h.2 v0.toNat 18).toNat) ≤ v2) then
          some (some (.inl v1), h)
        else
          bif aok h.1 v0 12 && true then
            bI (cl xs d 233 [.inr (.inr v0), .inl v2] h) (fun x2 h1 =>
            bif decide (x2 = 0) then
              ev xs d mm_234 31 [some (.inr (.inr v0)), some (.inl v1), some (.inl v2)] [] h1
            else
              ev xs d mm_234 31 [some (.inr (.inr v0)), some (.inl (oor v1 (oshl 1 v2))), some (.inl v2)] [] h1)
          else none
      else none
    else none
  else none :=
  (aB gP gX xs stp_234 18 d mm_234 4 _ _ h).trans rfl

set_option maxRecDepth 100000 in
set_option maxHeartbeats 4000000 in
theorem q_234_31 (xs : List Int) (d : Nat) (v0 : Int) (v1 : Int) (v2 : Int) (h : aH) : ev xs d mm_234 31 [some (.inr (.inr v0)), some (.inl v1), some (.inl v2)] [] h =
  ev xs d mm_234 4 [some (.inr (.inr v0)), some (.inl v1), some (.inl (w32 (v2 + 1)))] [] h :=
  (aB gP gX xs stp_234 3 d mm_234 31 _ _ h).trans rfl

def stp_235 : List Nat := [0, 4]
set_option maxRecDepth 100000 in
set_option maxHeartbeats 4000000 in
theorem q_235_0 (xs : List Int) (d : Nat) (v0 : Int) (h : aH) : ev xs d mm_235 0 [some (.inl v0), none, none] [] h =
  ev xs d mm_235 4 [some (.inl v0), some (.inl 0), some (.inl 0)] [] h :=
  (aB gP gX xs stp_235 5 d mm_235 0 _ _ h).trans rfl

set_option maxRecDepth 100000 in
set_option maxHeartbeats 4000000 in
theorem q_235_4 (xs : List Int) (d : Nat) (v0 : Int) (v1 : Int) (v2 : Int) (h : aH) : ev xs d mm_235 4 [some (.inl v0), some (.inl v1), some (.inl v2)] [] h =
  bif decide (10 ≤ v2) then
    some (some (.inl v1), h)
  else
    ev xs d mm_235 4 [some (.inl v0), some (.inl (w32 (v1 + (oand (oshr v0 v2) 1)))), some (.inl (w32 (v2 + 1)))] [] h :=
  (aB gP gX xs stp_235 14 d mm_235 4 _ _ h).trans rfl

def stp_236 : List Nat := [0, 4]
set_option maxRecDepth 100000 in
set_option maxHeartbeats 4000000 in
theorem q_236_0 (xs : List Int) (d : Nat) (v0 : Int) (h : aH) : ev xs d mm_236 0 [some (.inr (.inl v0)), none, none, none, none] [] h =
  ev xs d mm_236 4 [some (.inr (.inl v0)), none, some (.inl 0), some (.inr (.inl v0)), none] [] h :=
  (aB gP gX xs stp_236 5 d mm_236 0 _ _ h).trans rfl

set_option maxRecDepth 100000 in
set_option maxHeartbeats 4000000 in
theorem q_236_4 (xs : List Int) (d : Nat) (v0 : Int) (u1 : Option aV) (v2 : Int) (v3 : Int) (u4 : Option aV) (h : aH) : ev xs d mm_236 4 [some (.inr (.inl v0)), u1, some (.inl v2), some (.inr (.inl v3)), u4] [] h =
  bif decide ((olcmp v3 ((((0 : Fin 2) : Nat) : Nat) : Int)) ≤ 0) then
    some (some (.inl v2), h)
  else
    ev xs d mm_236 4 [some (.inr (.inl v0)), acl u1, some (.inl (w32 (v2 + 1))), some (.inr (.inl (oldiv v3 27))), none] [] h :=
  (aB gP gX xs stp_236 11 d mm_236 4 _ _ h).trans rfl

def stp_237 : List Nat := [0, 12, 47]
set_option maxRecDepth 100000 in
set_option maxHeartbeats 4000000 in
theorem q_237_0 (xs : List Int) (d : Nat) (v0 : Int) (v2 : Int) (h : aH) : ev xs d mm_237 0 [some (.inr (.inl v0)), none, some (.inl v2), none, none, none] [] h =
  bI (cl xs d 236 [.inr (.inl v0)] h) (fun x2 h1 =>
    ev xs d mm_237 12 [some (.inr (.inl v0)), none, some (.inl v2), some (.inr (.inl v0)), none, some (.inl (w32 ((w32 (x2 - 1)) - v2)))] [] h1) :=
  (aB gP gX xs stp_237 10 d mm_237 0 _ _ h).trans rfl

set_option maxRecDepth 100000 in
set_option maxHeartbeats 4000000 in
theorem q_237_12 (xs : List Int) (d : Nat) (v0 : Int) (u1 : Option aV) (v2 : Int) (v3 : Int) (u4 : Option aV) (v5 : Int) (h : aH) : ev xs d mm_237 12 [some (.inr (.inl v0)), u1, some (.inl v2), some (.inr (.inl v3)), u4, some (.inl v5)] [] h =
  bif decide (v5 ≤ 0) then
    bI (cl xs d 236 [.inr (.inl v0)] h) (fun x2 h1 =>
      bif decide (x2 ≤ v2) then
        ev xs d mm_237 47 [some (.inr (.inl v0)), u1, some (.inl v2), some (.inr (.inl v3)), u4, some (.inl v5)] [.inl 0] h1
      else
        ev xs d mm_237 47 [some (.inr (.inl v0)), u1, some (.inl v2), some (.inr (.inl v3)), u4, some (.inl v5)] [.inl (ol2i (olrem v3 27))] h1)
  else
    ev xs d mm_237 12 [some (.inr (.inl v0)), u1, some (.inl v2), some (.inr (.inl (oldiv v3 27))), none, some (.inl (w32 (v5 + (-1))))] [] h :=
  (aB gP gX xs stp_237 12 d mm_237 12 _ _ h).trans rfl

set_option maxRecDepth 100000 in
set_option maxHeartbeats 4000000 in
theorem q_237_47 (xs : List Int) (d : Nat) (v0 : Int) (u1 : Option aV) (v2 : Int) (v3 : Int) (u4 : Option aV) (v5 : Int) (s0 : Int) (h : aH) : ev xs d mm_237 47 [some (.inr (.inl v0)), u1, some (.inl v2), some (.inr (.inl v3)), u4, some (.inl v5)] [.inl s0] h =
  some (some (.inl s0), h) :=
  (aB gP gX xs stp_237 2 d mm_237 47 _ _ h).trans rfl

def stp_238 : List Nat := [0, 20, 60, 64, 65]
set_option maxRecDepth 100000 in
set_option maxHeartbeats 4000000 in
theorem q_238_0 (xs : List Int) (d : Nat) (v0 : Int) (v1 : Int) (v2 : Int) (v3 : Int) (h : aH) : ev xs d mm_238 0 [some (.inr (.inr v0)), some (.inl v1), some (.inl v2), some (.inl v3)] [] h =
  bif decide (¬ v1 = 0) then
    bif decide (¬ v1 = 3) then
      bif decide (v3 ≤ 0) then
        ev xs d mm_238 64 [some (.inr (.inr v0)), some (.inl v1), some (.inl v2), some (.inl v3)] [] h
      else
        bif decide (¬ v1 = 1) then
          bif aok h.1 v0 12 then
            bif aok h.1 v0 12 then
              bif ain h.1 (h.2 v0.toNat 22) 100 (w32 ((w32 (6 * (h.2 v0.toNat 18))) + v2)) then
                bif decide (¬ (oand (oshr (h.2 (h.2 v0.toNat 22).toNat (w32 ((w32 (6 * (h.2 v0.toNat 18))) + v2)).toNat) v3) 1) = 1) then
                  ev xs d mm_238 64 [some (.inr (.inr v0)), some (.inl v1), some (.inl v2), some (.inl v3)] [] h
                else
                  ev xs d mm_238 60 [some (.inr (.inr v0)), some (.inl v1), some (.inl v2), some (.inl v3)] [] h
              else none
            else none
          else none
        else
          bif decide (¬ v3 = v2) then
            ev xs d mm_238 64 [some (.inr (.inr v0)), some (.inl v1), some (.inl v2), some (.inl v3)] [] h
          else
            ev xs d mm_238 60 [some (.inr (.inr v0)), some (.inl v1), some (.inl v2), some (.inl v3)] [] h
    else
      bif decide (¬ v3 = 0) then
        ev xs d mm_238 20 [some (.inr (.inr v0)), some (.inl v1), some (.inl v2), some (.inl v3)] [.inl 0] h
      else
        ev xs d mm_238 20 [some (.inr (.inr v0)), some (.inl v1), some (.inl v2), some (.inl v3)] [.inl 1] h
  else
    some (some (.inl 1), h) :=
  (aB gP gX xs stp_238 26 d mm_238 0 _ _ h).trans rfl

set_option maxRecDepth 100000 in
set_option maxHeartbeats 4000000 in
theorem q_238_20 (xs : List Int) (d : Nat) (v0 : Int) (v1 : Int) (v2 : Int) (v3 : Int) (s0 : Int) (h : aH) : ev xs d mm_238 20 [some (.inr (.inr v0)), some (.inl v1), some (.inl v2), some (.inl v3)] [.inl s0] h =
  bif decide (s0 = 0) || decide (s0 = 1) then some (some (.inl s0), h) else none :=
  (aB gP gX xs stp_238 2 d mm_238 20 _ _ h).trans rfl

set_option maxRecDepth 100000 in
set_option maxHeartbeats 4000000 in
theorem q_238_60 (xs : List Int) (d : Nat) (v0 : Int) (v1 : Int) (v2 : Int) (v3 : Int) (h : aH) : ev xs d mm_238 60 [some (.inr (.inr v0)), some (.inl v1), some (.inl v2), some (.inl v3)] [] h =
  ev xs d mm_238 65 [some (.inr (.inr v0)), some (.inl v1), some (.inl v2), some (.inl v3)] [.inl 1] h :=
  (aB gP gX xs stp_238 3 d mm_238 60 _ _ h).trans rfl

set_option maxRecDepth 100000 in
set_option maxHeartbeats 4000000 in
theorem q_238_64 (xs : List Int) (d : Nat) (v0 : Int) (v1 : Int) (v2 : Int) (v3 : Int) (h : aH) : ev xs d mm_238 64 [some (.inr (.inr v0)), some (.inl v1), some (.inl v2), some (.inl v3)] [] h =
  ev xs d mm_238 65 [some (.inr (.inr v0)), some (.inl v1), some (.inl v2), some (.inl v3)] [.inl 0] h :=
  (aB gP gX xs stp_238 2 d mm_238 64 _ _ h).trans rfl

set_option maxRecDepth 100000 in
set_option maxHeartbeats 4000000 in
theorem q_238_65 (xs : List Int) (d : Nat) (v0 : Int) (v1 : Int) (v2 : Int) (v3 : Int) (s0 : Int) (h : aH) : ev xs d mm_238 65 [some (.inr (.inr v0)), some (.inl v1), some (.inl v2), some (.inl v3)] [.inl s0] h =
  bif decide (s0 = 0) || decide (s0 = 1) then some (some (.inl s0), h) else none :=
  (aB gP gX xs stp_238 2 d mm_238 65 _ _ h).trans rfl

def stp_239 : List Nat := [0, 24, 73, 170, 187]
set_option maxRecDepth 100000 in
set_option maxHeartbeats 4000000 in
theorem q_239_0 (xs : List Int) (d : Nat) (v0 : Int) (v1 : Int) (v2 : Int) (h : aH) : ev xs d mm_239 0 [some (.inr (.inr v0)), some (.inl v1), some (.inr (.inl v2)), none, none, none, none, none, none, none, none, none] [] h =
  bif aok h.1 v0 12 then
    bI (cl xs d 236 [.inr (.inl v2)] h) (fun x2 h1 =>
      ev xs d mm_239 24 [some (.inr (.inr v0)), some (.inl v1), some (.inr (.inl v2)), none, some (.inl (w32 ((w32 (7 * (h.2 v0.toNat 18))) + v1))), some (.inl x2), some (.inr (.inl v2)), none, some (.inl x2), none, none, none] [] h1)
  else none :=
  (aB gP gX xs stp_239 15 d mm_239 0 _ _ h).trans rfl

set_option maxRecDepth 100000 in
set_option maxHeartbeats 4000000 in
theorem q_239_24 (xs : List Int) (d : Nat) (v0 : Int) (v1 : Int) (v2 : Int) (u3 : Option aV) (v4 : Int) (v5 : Int) (v6 : Int) (u7 : Option aV) (v8 : Int) (u9 : Option aV) (u10 : Option aV) (u11 : Option aV) (h : aH) : ev xs d mm_239 24 [some (.inr (.inr v0)), some (.inl v1), some (.inr (.inl v2)), u3, some (.inl v4), some (.inl v5), some (.inr (.inl v6)), u7, some (.inl v8), u9, u10, u11] [] h =
  bif decide (v8 ≤ 0) then
    bif aok h.1 v0 12 then
      bif ain h.1 (h.2 v0.toNat 65) 100 (w32 (v5 + 1)) then
        ev xs d mm_239 73 [some (.inr (.inr v0)), some (.inl v1), some (.inr (.inl v2)), u3, some (.inl v4), some (.inl v5), some (.inr (.inl v6)), acl u7, some (.inr (.inl ((((0 : Fin 2) : Nat) : Nat) : Int))), none, some (.inl 1), u11] [] (h.1, aup h.2 (h.2 v0.toNat 65).toNat (w32 (v5 + 1)).toNat 0)
      else none
    else none
  else
    bif aok h.1 v0 12 then
      bif ain h.1 (h.2 v0.toNat 65) 100 v8 then
        ev xs d mm_239 24 [some (.inr (.inr v0)), some (.inl v1), some (.inr (.inl v2)), u3, some (.inl v4), some (.inl v5), some (.inr (.inl (oldiv v6 27))), none, some (.inl (w32 (v8 + (-1)))), u9, u10, u11] [] (h.1, aup h.2 (h.2 v0.toNat 65).toNat v8.toNat (ol2i (olrem v6 27)))
      else none
    else none :=
  (aB gP gX xs stp_239 17 d mm_239 24 _ _ h).trans rfl

set_option maxRecDepth 100000 in
set_option maxHeartbeats 4000000 in
theorem q_239_73 (xs : List Int) (d : Nat) (v0 : Int) (v1 : Int) (v2 : Int) (u3 : Option aV) (v4 : Int) (v5 : Int) (v6 : Int) (u7 : Option aV) (v8 : Int) (u9 : Option aV) (v10 : Int) (u11 : Option aV) (h : aH) : ev xs d mm_239 73 [some (.inr (.inr v0)), some (.inl v1), some (.inr (.inl v2)), u3, some (.inl v4), some (.inl v5), some (.inr (.inl v6)), u7, some (.inr (.inl v8)), u9, some (.inl v10), u11] [] h =
  bif decide (v5 < v10) then
    some (some (.inr (.inl v8)), h)
  else
    bif aok h.1 v0 12 then
      bif ain h.1 (h.2 v0.toNat 65) 100 v10 then
        bif aok h.1 v0 12 then
          bif ain h.1 (h.2 v0.toNat 24) 100 v4 then
            bif decide (¬ (h.2 (h.2 v0.toNat 65).toNat v10.toNat) = (h.2 (h.2 v0.toNat 24).toNat v4.toNat)) then
              ev xs d mm_239 170 [some (.inr (.inr v0)), some (.inl v1), some (.inr (.inl v2)), u3, some (.inl v4), some (.inl v5), some (.inr (.inl v6)), u7, some (.inr (.inl v8)), u9, some (.inl v10), some (.inl (h.2 (h.2 v0.toNat 65).toNat v10.toNat))] [] h
            else
              bif aok h.1 v0 12 then
                bif ain h.1 (h.2 v0.toNat 26) 100 v4 then
                  bif aok h.1 v0 12 then
                    bif ain h.1 (h.2 v0.toNat 27) 100 v4 then
                      bif aok h.1 v0 12 then
                        bif ain h.1 (h.2 v0.toNat 65) 100 (w32 (v10 - 1)) then
                          bif aok h.1 v0 12 && true then
                            bI (cl xs d 238 [.inr (.inr v0), .inl (h.2 (h.2 v0.toNat 26).toNat v4.toNat), .inl (h.2 (h.2 v0.toNat 27).toNat v4.toNat), .inl (h.2 (h.2 v0.toNat 65).toNat (w32 (v10 - 1)).toNat)] h) (fun x2 h1 =>
                            bif decide (x2 = 0) then
                              ev xs d mm_239 170 [some (.inr (.inr v0)), some (.inl v1), some (.inr (.inl v2)), u3, some (.inl v4), some (.inl v5), some (.inr (.inl v6)), u7, some (.inr (.inl v8)), u9, some (.inl v10), some (.inl (h.2 (h.2 v0.toNat 65).toNat v10.toNat))] [] h1
                            else
                              bif aok h1.1 v0 12 then
                                bif ain h1.1 (h1.2 v0.toNat 28) 100 v4 then
                                  bif aok h1.1 v0 12 then
                                    bif ain h1.1 (h1.2 v0.toNat 29) 100 v4 then
                                      bif aok h1.1 v0 12 then
                                        bif ain h1.1 (h1.2 v0.toNat 65) 100 (w32 (v10 + 1)) then
                                          bif aok h1.1 v0 12 && true then
                                            bI (cl xs d 238 [.inr (.inr v0), .inl (h1.2 (h1.2 v0.toNat 28).toNat v4.toNat), .inl (h1.2 (h1.2 v0.toNat 29).toNat v4.toNat), .inl (h1.2 (h1.2 v0.toNat 65).toNat (w32 (v10 + 1)).toNat)] h1) (fun x4 h3 =>
                                            bif decide (x4 = 0) then
                                              ev xs d mm_239 170 [some (.inr (.inr v0)), some (.inl v1), some (.inr (.inl v2)), u3, some (.inl v4), some (.inl v5), some (.inr (.inl v6)), u7, some (.inr (.inl v8)), u9, some (.inl v10), some (.inl (h.2 (h.2 v0.toNat 65).toNat v10.toNat))] [] h3
                                            else
                                              bif aok h3.1 v0 12 then
                                                bif ain h3.1 (h3.2 v0.toNat 25) 100 v4 then
                                                  ev xs d mm_239 170 [some (.inr (.inr v0)), some (.inl v1), some (.inr (.inl v2)), u3, some (.inl v4), some (.inl v5), some (.inr (.inl v6)), u7, some (.inr (.inl v8)), u9, some (.inl v10), some (.inl (h3.2 (h3.2 v0.toNat 25).toNat v4.toNat))] [] h3
                                                else none
                                              else none)
                                          else none
                                        else none
                                      else none
                                    else none
                                  else none
                                else none
                              else none)
                          else none
                        else none
                      else none
                    else none
                  else none
                else none
              else none
          else none
        else none
      else none
    else none :=
  (aB gP gX xs stp_239 54 d mm_239 73 _ _ h).trans rfl

set_option maxRecDepth 100000 in
set_option maxHeartbeats 4000000 in
theorem q_239_170 (xs : List Int) (d : Nat) (v0 : Int) (v1 : Int) (v2 : Int) (u3 : Option aV) (v4 : Int) (v5 : Int) (v6 : Int) (u7 : Option aV) (v8 : Int) (u9 : Option aV) (v10 : Int) (v11 : Int) (h : aH) : ev xs d mm_239 170 [some (.inr (.inr v0)), some (.inl v1), some (.inr (.inl v2)), u3, some (.inl v4), some (.inl v5), some (.inr (.inl v6)), u7, some (.inr (.inl v8)), u9, some (.inl v10), some (.inl v11)] [] h =
  bif decide (v11 ≤ 0) then
    ev xs d mm_239 187 [some (.inr (.inr v0)), some (.inl v1), some (.inr (.inl v2)), u3, some (.inl v4), some (.inl v5), some (.inr (.inl v6)), u7, some (.inr (.inl v8)), u9, some (.inl v10), some (.inl v11)] [] h
  else
    ev xs d mm_239 187 [some (.inr (.inr v0)), some (.inl v1), some (.inr (.inl v2)), u3, some (.inl v4), some (.inl v5), some (.inr (.inl v6)), acl u7, some (.inr (.inl (w64 ((w64 (27 * v8)) + v11)))), none, some (.inl v10), some (.inl v11)] [] h :=
  (aB gP gX xs stp_239 10 d mm_239 170 _ _ h).trans rfl

set_option maxRecDepth 100000 in
set_option maxHeartbeats 4000000 in
theorem q_239_187 (xs : List Int) (d : Nat) (v0 : Int) (v1 : Int) (v2 : Int) (u3 : Option aV) (v4 : Int) (v5 : Int) (v6 : Int) (u7 : Option aV) (v8 : Int) (u9 : Option aV) (v10 : Int) (v11 : Int) (h : aH) : ev xs d mm_239 187 [some (.inr (.inr v0)), some (.inl v1), some (.inr (.inl v2)), u3, some (.inl v4), some (.inl v5), some (.inr (.inl v6)), u7, some (.inr (.inl v8)), u9, some (.inl v10), some (.inl v11)] [] h =
  ev xs d mm_239 73 [some (.inr (.inr v0)), some (.inl v1), some (.inr (.inl v2)), u3, some (.inl v4), some (.inl v5), some (.inr (.inl v6)), u7, some (.inr (.inl v8)), acl u9, some (.inl (w32 (v10 + 1))), some (.inl v11)] [] h :=
  (aB gP gX xs stp_239 3 d mm_239 187 _ _ h).trans rfl

def stp_240 : List Nat := [0, 9, 68, 74]
set_option maxRecDepth 100000 in
set_option maxHeartbeats 4000000 in
theorem q_240_0 (xs : List Int) (d : Nat) (v0 : Int) (v1 : Int) (v3 : Int) (v4 : Int) (h : aH) : ev xs d mm_240 0 [some (.inr (.inr v0)), some (.inr (.inl v1)), none, some (.inl v3), some (.inl v4), none, none, none, none, none] [] h =
  ev xs d mm_240 9 [some (.inr (.inr v0)), some (.inr (.inl v1)), none, some (.inl v3), some (.inl v4), some (.inr (.inl v1)), none, some (.inl 0), some (.inl 0), none] [] h :=
  (aB gP gX xs stp_240 7 d mm_240 0 _ _ h).trans rfl

set_option maxRecDepth 100000 in
set_option maxHeartbeats 4000000 in
theorem q_240_9 (xs : List Int) (d : Nat) (v0 : Int) (v1 : Int) (u2 : Option aV) (v3 : Int) (v4 : Int) (v5 : Int) (u6 : Option aV) (v7 : Int) (v8 : Int) (u9 : Option aV) (h : aH) : ev xs d mm_240 9 [some (.inr (.inr v0)), some (.inr (.inl v1)), u2, some (.inl v3), some (.inl v4), some (.inr (.inl v5)), u6, some (.inl v7), some (.inl v8), u9] [] h =
  bif aok h.1 v0 12 then
    bif aok h.1 v0 12 then
      bif ain h.1 (h.2 v0.toNat 23) 100 (h.2 v0.toNat 18) then
        bif decide ((h.2 (h.2 v0.toNat 23).toNat (h.2 v0.toNat 18).toNat) ≤ v8) then
          ev xs d mm_240 74 [some (.inr (.inr v0)), some (.inr (.inl v1)), u2, some (.inl v3), some (.inl v4), some (.inr (.inl v5)), u6, some (.inl v7), some (.inl v8), u9] [] h
        else
          bif decide (v4 ≤ v7) then
            ev xs d mm_240 74 [some (.inr (.inr v0)), some (.inr (.inl v1)), u2, some (.inl v3), some (.inl v4), some (.inr (.inl v5)), u6, some (.inl v7), some (.inl v8), u9] [] h
          else
            bif aok h.1 v0 12 then
              bif ain h.1 (h.2 v0.toNat 64) 101 (w32 (45 + v8)) then
                bif decide (¬ (oand (oshr v3 (ol2i (h.2 (h.2 v0.toNat 64).toNat (w32 (45 + v8)).toNat))) 1) = 0) then
                  bif aok h.1 v0 12 && true then
                    bJ (cl xs d 239 [.inr (.inr v0), .inl (ol2i (h.2 (h.2 v0.toNat 64).toNat (w32 (45 + v8)).toNat)), .inr (.inl v5)] h) (fun x2 h1 =>
                    ev xs d mm_240 68 [some (.inr (.inr v0)), some (.inr (.inl v1)), u2, some (.inl v3), some (.inl v4), some (.inr (.inl x2)), none, some (.inl (w32 (v7 + 1))), some (.inl v8), some (.inl (ol2i (h.2 (h.2 v0.toNat 64).toNat (w32 (45 + v8)).toNat)))] [] h1)
                  else none
                else
                  ev xs d mm_240 68 [some (.inr (.inr v0)), some (.inr (.inl v1)), u2, some (.inl v3), some (.inl v4), some (.inr (.inl v5)), u6, some (.inl v7), some (.inl v8), some (.inl (ol2i (h.2 (h.2 v0.toNat 64).toNat (w32 (45 + v8)).toNat)))] [] h
              else none
            else none
      else none
    else none
  else none :=
  (aB gP gX xs stp_240 31 d mm_240 9 _ _ h).trans rfl

set_option maxRecDepth 100000 in
set_option maxHeartbeats 4000000 in
theorem q_240_68 (xs : List Int) (d : Nat) (v0 : Int) (v1 : Int) (u2 : Option aV) (v3 : Int) (v4 : Int) (v5 : Int) (u6 : Option aV) (v7 : Int) (v8 : Int) (v9 : Int) (h : aH) : ev xs d mm_240 68 [some (.inr (.inr v0)), some (.inr (.inl v1)), u2, some (.inl v3), some (.inl v4), some (.inr (.inl v5)), u6, some (.inl v7), some (.inl v8), some (.inl v9)] [] h =
  ev xs d mm_240 9 [some (.inr (.inr v0)), some (.inr (.inl v1)), u2, some (.inl v3), some (.inl v4), some (.inr (.inl v5)), u6, some (.inl v7), some (.inl (w32 (v8 + 1))), some (.inl v9)] [] h :=
  (aB gP gX xs stp_240 3 d mm_240 68 _ _ h).trans rfl

set_option maxRecDepth 100000 in
set_option maxHeartbeats 4000000 in
theorem q_240_74 (xs : List Int) (d : Nat) (v0 : Int) (v1 : Int) (u2 : Option aV) (v3 : Int) (v4 : Int) (v5 : Int) (u6 : Option aV) (v7 : Int) (v8 : Int) (u9 : Option aV) (h : aH) : ev xs d mm_240 74 [some (.inr (.inr v0)), some (.inr (.inl v1)), u2, some (.inl v3), some (.inl v4), some (.inr (.inl v5)), u6, some (.inl v7), some (.inl v8), u9] [] h =
  some (some (.inr (.inl v5)), h) :=
  (aB gP gX xs stp_240 3 d mm_240 74 _ _ h).trans rfl

def stp_241 : List Nat := [0]
set_option maxRecDepth 100000 in
set_option maxHeartbeats 4000000 in
theorem q_241_0 (xs : List Int) (d : Nat) (v0 : Int) (v1 : Int) (h : aH) : ev xs d mm_241 0 [some (.inr (.inr v0)), some (.inr (.inl v1)), none] [] h =
  bif aok h.1 v0 12 then
    bif ain h.1 (h.2 v0.toNat 64) 101 52 then
      bif aok h.1 v0 12 && true then
        bJ (cl xs d 240 [.inr (.inr v0), .inr (.inl v1), .inl (ol2i (h.2 (h.2 v0.toNat 64).toNat (52 : Int).toNat)), .inl 7] h) (fun x2 h1 =>
        some (some (.inr (.inl x2)), h1))
      else none
    else none
  else none :=
  (aB gP gX xs stp_241 11 d mm_241 0 _ _ h).trans rfl

def stp_242 : List Nat := [0, 18]
set_option maxRecDepth 100000 in
set_option maxHeartbeats 4000000 in
theorem q_242_0 (xs : List Int) (d : Nat) (v0 : Int) (v2 : Int) (h : aH) : ev xs d mm_242 0 [some (.inr (.inl v0)), none, some (.inl v2)] [] h =
  bif decide (¬ v2 = 8) then
    bI (cl xs d 237 [.inr (.inl v0), .inl v2] h) (fun x2 h1 =>
      ev xs d mm_242 18 [some (.inr (.inl v0)), none, some (.inl v2)] [.inl x2] h1)
  else
    bI (cl xs d 236 [.inr (.inl v0)] h) (fun x4 h3 =>
      ev xs d mm_242 18 [some (.inr (.inl v0)), none, some (.inl v2)] [.inl x4] h3) :=
  (aB gP gX xs stp_242 7 d mm_242 0 _ _ h).trans rfl

set_option maxRecDepth 100000 in
set_option maxHeartbeats 4000000 in
theorem q_242_18 (xs : List Int) (d : Nat) (v0 : Int) (u1 : Option aV) (v2 : Int) (s0 : Int) (h : aH) : ev xs d mm_242 18 [some (.inr (.inl v0)), u1, some (.inl v2)] [.inl s0] h =
  some (some (.inl s0), h) :=
  (aB gP gX xs stp_242 2 d mm_242 18 _ _ h).trans rfl

def stp_243 : List Nat := [0, 18, 49]
set_option maxRecDepth 100000 in
set_option maxHeartbeats 4000000 in
theorem q_243_0 (xs : List Int) (d : Nat) (v0 : Int) (v1 : Int) (v2 : Int) (h : aH) : ev xs d mm_243 0 [some (.inr (.inr v0)), some (.inl v1), some (.inl v2)] [] h =
  bif aok h.1 v0 12 && true then
    bI (cl xs d 230 [.inr (.inr v0), .inl v1] h) (fun x2 h1 =>
    bif decide (x2 = 0) then
      ev xs d mm_243 18 [some (.inr (.inr v0)), some (.inl v1), some (.inl v2)] [] h1
    else
      bI (cl xs d 226 [.inl v2, .inl 0, .inl 9] h1) (fun x4 h3 =>
        bif decide (¬ x4 = 0) then
          bif decide (¬ v2 = 9) then
            bif aok h3.1 v0 12 then
              bif ain h3.1 (h3.2 v0.toNat 63) 101 v1 then
                bI (cl xs d 242 [.inr (.inl (h3.2 (h3.2 v0.toNat 63).toNat v1.toNat)), .inl v2] h3) (fun x6 h5 =>
                  ev xs d mm_243 49 [some (.inr (.inr v0)), some (.inl v1), some (.inl v2)] [.inl x6] h5)
              else none
            else none
          else
            bif aok h3.1 v0 12 then
              bif ain h3.1 (h3.2 v0.toNat 63) 101 (w32 (10 + v1)) then
                ev xs d mm_243 49 [some (.inr (.inr v0)), some (.inl v1), some (.inl v2)] [.inl (ol2i (h3.2 (h3.2 v0.toNat 63).toNat (w32 (10 + v1)).toNat))] h3
              else none
            else none
        else
          ev xs d mm_243 18 [some (.inr (.inr v0)), some (.inl v1), some (.inl v2)] [] h3))
  else none :=
  (aB gP gX xs stp_243 21 d mm_243 0 _ _ h).trans rfl

set_option maxRecDepth 100000 in
set_option maxHeartbeats 4000000 in
theorem q_243_18 (xs : List Int) (d : Nat) (v0 : Int) (v1 : Int) (v2 : Int) (h : aH) : ev xs d mm_243 18 [some (.inr (.inr v0)), some (.inl v1), some (.inl v2)] [] h =
  some (some (.inl (-1)), h) :=
  (aB gP gX xs stp_243 3 d mm_243 18 _ _ h).trans rfl

set_option maxRecDepth 100000 in
set_option maxHeartbeats 4000000 in
theorem q_243_49 (xs : List Int) (d : Nat) (v0 : Int) (v1 : Int) (v2 : Int) (s0 : Int) (h : aH) : ev xs d mm_243 49 [some (.inr (.inr v0)), some (.inl v1), some (.inl v2)] [.inl s0] h =
  some (some (.inl s0), h) :=
  (aB gP gX xs stp_243 2 d mm_243 49 _ _ h).trans rfl

def stp_244 : List Nat := [0, 18]
set_option maxRecDepth 100000 in
set_option maxHeartbeats 4000000 in
theorem q_244_0 (xs : List Int) (d : Nat) (v0 : Int) (v1 : Int) (v2 : Int) (h : aH) : ev xs d mm_244 0 [some (.inr (.inr v0)), some (.inl v1), some (.inl v2)] [] h =
  bif aok h.1 v0 12 && true then
    bI (cl xs d 230 [.inr (.inr v0), .inl v1] h) (fun x2 h1 =>
    bif decide (x2 = 0) then
      ev xs d mm_244 18 [some (.inr (.inr v0)), some (.inl v1), some (.inl v2)] [] h1
    else
      bI (cl xs d 226 [.inl v2, .inl 0, .inl 8] h1) (fun x4 h3 =>
        bif decide (¬ x4 = 0) then
          bif aok h3.1 v0 12 && true then
            bV (cl xs d 229 [.inr (.inr v0)] h3) (fun h5 =>
            bif aok h5.1 v0 12 then
              bif ain h5.1 (h5.2 v0.toNat 64) 101 v1 then
                bif aok h5.1 v0 12 && true then
                  bJ (cl xs d 241 [.inr (.inr v0), .inr (.inl (h5.2 (h5.2 v0.toNat 64).toNat v1.toNat))] h5) (fun x7 h6 =>
                  bI (cl xs d 242 [.inr (.inl x7), .inl v2] h6) (fun x9 h8 =>
                    some (some (.inl x9), h8)))
                else none
              else none
            else none)
          else none
        else
          ev xs d mm_244 18 [some (.inr (.inr v0)), some (.inl v1), some (.inl v2)] [] h3))
  else none :=
  (aB gP gX xs stp_244 21 d mm_244 0 _ _ h).trans rfl

set_option maxRecDepth 100000 in
set_option maxHeartbeats 4000000 in
theorem q_244_18 (xs : List Int) (d : Nat) (v0 : Int) (v1 : Int) (v2 : Int) (h : aH) : ev xs d mm_244 18 [some (.inr (.inr v0)), some (.inl v1), some (.inl v2)] [] h =
  some (some (.inl (-1)), h) :=
  (aB gP gX xs stp_244 3 d mm_244 18 _ _ h).trans rfl

def stp_245 : List Nat := [0, 37]
set_option maxRecDepth 100000 in
set_option maxHeartbeats 4000000 in
theorem q_245_0 (xs : List Int) (d : Nat) (v0 : Int) (v1 : Int) (v2 : Int) (v3 : Int) (h : aH) : ev xs d mm_245 0 [some (.inr (.inr v0)), some (.inl v1), some (.inl v2), some (.inl v3)] [] h =
  bif aok h.1 v0 12 && true then
    bI (cl xs d 230 [.inr (.inr v0), .inl v1] h) (fun x2 h1 =>
    bif decide (x2 = 0) then
      ev xs d mm_245 37 [some (.inr (.inr v0)), some (.inl v1), some (.inl v2), some (.inl v3)] [] h1
    else
      bI (cl xs d 226 [.inl v3, .inl 0, .inl 8] h1) (fun x4 h3 =>
        bif decide (x4 = 0) then
          ev xs d mm_245 37 [some (.inr (.inr v0)), some (.inl v1), some (.inl v2), some (.inl v3)] [] h3
        else
          bif aok h3.1 v0 12 then
            bif ain h3.1 (h3.2 v0.toNat 63) 101 52 then
              bI (cl xs d 235 [.inl (ol2i (h3.2 (h3.2 v0.toNat 63).toNat (52 : Int).toNat))] h3) (fun x6 h5 =>
                bI (cl xs d 226 [.inl v2, .inl 0, .inl x6] h5) (fun x8 h7 =>
                  bif decide (¬ x8 = 0) then
                    bif aok h7.1 v0 12 && true then
                      bV (cl xs d 229 [.inr (.inr v0)] h7) (fun h9 =>
                      bif aok h9.1 v0 12 then
                        bif ain h9.1 (h9.2 v0.toNat 64) 101 v1 then
                          bif aok h9.1 v0 12 then
                            bif ain h9.1 (h9.2 v0.toNat 64) 101 52 then
                              bif aok h9.1 v0 12 && true then
                                bJ (cl xs d 240 [.inr (.inr v0), .inr (.inl (h9.2 (h9.2 v0.toNat 64).toNat v1.toNat)), .inl (ol2i (h9.2 (h9.2 v0.toNat 64).toNat (52 : Int).toNat)), .inl v2] h9) (fun x11 h10 =>
                                bI (cl xs d 242 [.inr (.inl x11), .inl v3] h10) (fun x13 h12 =>
                                  some (some (.inl x13), h12)))
                              else none
                            else none
                          else none
                        else none
                      else none)
                    else none
                  else
                    ev xs d mm_245 37 [some (.inr (.inr v0)), some (.inl v1), some (.inl v2), some (.inl v3)] [] h7))
            else none
          else none))
  else none :=
  (aB gP gX xs stp_245 37 d mm_245 0 _ _ h).trans rfl

set_option maxRecDepth 100000 in
set_option maxHeartbeats 4000000 in
theorem q_245_37 (xs : List Int) (d : Nat) (v0 : Int) (v1 : Int) (v2 : Int) (v3 : Int) (h : aH) : ev xs d mm_245 37 [some (.inr (.inr v0)), some (.inl v1), some (.inl v2), some (.inl v3)] [] h =
  some (some (.inl (-1)), h) :=
  (aB gP gX xs stp_245 3 d mm_245 37 _ _ h).trans rfl

def stp_246 : List Nat := [0, 24, 96, 99]
set_option maxRecDepth 100000 in
set_option maxHeartbeats 4000000 in
theorem q_246_0 (xs : List Int) (d : Nat) (v0 : Int) (v1 : Int) (h : aH) : ev xs d mm_246 0 [some (.inr (.inr v0)), some (.inl v1), none, none, none, none, none, none] [] h =
  bif aok h.1 v0 12 && true then
    bI (cl xs d 230 [.inr (.inr v0), .inl v1] h) (fun x2 h1 =>
    bif decide (¬ x2 = 0) then
      bif aok h1.1 v0 12 && true then
        bV (cl xs d 229 [.inr (.inr v0)] h1) (fun h3 =>
        bif aok h3.1 v0 12 then
          bif ain h3.1 (h3.2 v0.toNat 64) 101 v1 then
            ev xs d mm_246 24 [some (.inr (.inr v0)), some (.inl v1), some (.inr (.inl (h3.2 (h3.2 v0.toNat 64).toNat v1.toNat))), none, some (.inl 0), none, none, none] [] h3
          else none
        else none)
      else none
    else
      some (some (.inl (-1)), h1))
  else none :=
  (aB gP gX xs stp_246 14 d mm_246 0 _ _ h).trans rfl

set_option maxRecDepth 100000 in
set_option maxHeartbeats 4000000 in
theorem q_246_24 (xs : List Int) (d : Nat) (v0 : Int) (v1 : Int) (v2 : Int) (u3 : Option aV) (v4 : Int) (u5 : Option aV) (u6 : Option aV) (u7 : Option aV) (h : aH) : ev xs d mm_246 24 [some (.inr (.inr v0)), some (.inl v1), some (.inr (.inl v2)), u3, some (.inl v4), u5, u6, u7] [] h =
  bif aok h.1 v0 12 then
    bif aok h.1 v0 12 then
      bif ain h.1 (h.2 v0.toNat 23) 100 (h.2 v0.toNat 18) then
        bif decide ((h.2 (h.2 v0.toNat 23).toNat (h.2 v0.toNat 18).toNat) ≤ v4) then
          some (some (.inl (-2)), h)
        else
          bif aok h.1 v0 12 then
            bif ain h.1 (h.2 v0.toNat 64) 101 (w32 (45 + v4)) then
              bif aok h.1 v0 12 then
                bif ain h.1 (h.2 v0.toNat 64) 101 52 then
                  bif decide (¬ (olcmp (oland (olshr (h.2 (h.2 v0.toNat 64).toNat (52 : Int).toNat) (ol2i (h.2 (h.2 v0.toNat 64).toNat (w32 (45 + v4)).toNat))) ((((1 : Fin 2) : Nat) : Nat) : Int)) ((((0 : Fin 2) : Nat) : Nat) : Int)) = 0) then
                    bif aok h.1 v0 12 && true then
                      bJ (cl xs d 239 [.inr (.inr v0), .inl (ol2i (h.2 (h.2 v0.toNat 64).toNat (w32 (45 + v4)).toNat)), .inr (.inl v2)] h) (fun x2 h1 =>
                      bif decide ((olcmp v2 ((((0 : Fin 2) : Nat) : Nat) : Int)) ≤ 0) then
                        ev xs d mm_246 96 [some (.inr (.inr v0)), some (.inl v1), some (.inr (.inl v2)), u3, some (.inl v4), some (.inl (ol2i (h.2 (h.2 v0.toNat 64).toNat (w32 (45 + v4)).toNat))), some (.inr (.inl x2)), none] [] h1
                      else
                        bif decide (¬ (olcmp x2 ((((0 : Fin 2) : Nat) : Nat) : Int)) = 0) then
                          ev xs d mm_246 96 [some (.inr (.inr v0)), some (.inl v1), some (.inr (.inl v2)), u3, some (.inl v4), some (.inl (ol2i (h.2 (h.2 v0.toNat 64).toNat (w32 (45 + v4)).toNat))), some (.inr (.inl x2)), none] [] h1
                        else
                          some (some (.inl (ol2i (h.2 (h.2 v0.toNat 64).toNat (w32 (45 + v4)).toNat))), h1))
                    else none
                  else
                    ev xs d mm_246 99 [some (.inr (.inr v0)), some (.inl v1), some (.inr (.inl v2)), u3, some (.inl v4), some (.inl (ol2i (h.2 (h.2 v0.toNat 64).toNat (w32 (45 + v4)).toNat))), u6, u7] [] h
                else none
              else none
            else none
          else none
      else none
    else none
  else none :=
  (aB gP gX xs stp_246 42 d mm_246 24 _ _ h).trans rfl

set_option maxRecDepth 100000 in
set_option maxHeartbeats 4000000 in
theorem q_246_96 (xs : List Int) (d : Nat) (v0 : Int) (v1 : Int) (v2 : Int) (u3 : Option aV) (v4 : Int) (v5 : Int) (v6 : Int) (u7 : Option aV) (h : aH) : ev xs d mm_246 96 [some (.inr (.inr v0)), some (.inl v1), some (.inr (.inl v2)), u3, some (.inl v4), some (.inl v5), some (.inr (.inl v6)), u7] [] h =
  ev xs d mm_246 99 [some (.inr (.inr v0)), some (.inl v1), some (.inr (.inl v6)), none, some (.inl v4), some (.inl v5), some (.inr (.inl v6)), u7] [] h :=
  (aB gP gX xs stp_246 3 d mm_246 96 _ _ h).trans rfl

set_option maxRecDepth 100000 in
set_option maxHeartbeats 4000000 in
theorem q_246_99 (xs : List Int) (d : Nat) (v0 : Int) (v1 : Int) (v2 : Int) (u3 : Option aV) (v4 : Int) (v5 : Int) (u6 : Option aV) (u7 : Option aV) (h : aH) : ev xs d mm_246 99 [some (.inr (.inr v0)), some (.inl v1), some (.inr (.inl v2)), u3, some (.inl v4), some (.inl v5), u6, u7] [] h =
  ev xs d mm_246 24 [some (.inr (.inr v0)), some (.inl v1), some (.inr (.inl v2)), acl u3, some (.inl (w32 (v4 + 1))), some (.inl v5), u6, u7] [] h :=
  (aB gP gX xs stp_246 3 d mm_246 99 _ _ h).trans rfl

def stp_247 : List Nat := [0, 27]
set_option maxRecDepth 100000 in
set_option maxHeartbeats 4000000 in
theorem q_247_0 (xs : List Int) (d : Nat) (v0 : Int) (v1 : Int) (v2 : Int) (h : aH) : ev xs d mm_247 0 [some (.inr (.inr v0)), some (.inl v1), some (.inl v2)] [] h =
  bif decide (0 ≤ v2) then
    bif aok h.1 v0 12 then
      bif aok h.1 v0 12 then
        bif ain h.1 (h.2 v0.toNat 31) 101 (w32 ((w32 ((w32 (24 * (h.2 v0.toNat 18))) + (w32 (8 * v1)))) + v2)) then
          ev xs d mm_247 27 [some (.inr (.inr v0)), some (.inl v1), some (.inl v2)] [.inr (.inl (h.2 (h.2 v0.toNat 31).toNat (w32 ((w32 ((w32 (24 * (h.2 v0.toNat 18))) + (w32 (8 * v1)))) + v2)).toNat))] h
        else none
      else none
    else none
  else
    ev xs d mm_247 27 [some (.inr (.inr v0)), some (.inl v1), some (.inl v2)] [.inr (.inl ((((0 : Fin 2) : Nat) : Nat) : Int))] h :=
  (aB gP gX xs stp_247 16 d mm_247 0 _ _ h).trans rfl

set_option maxRecDepth 100000 in
set_option maxHeartbeats 4000000 in
theorem q_247_27 (xs : List Int) (d : Nat) (v0 : Int) (v1 : Int) (v2 : Int) (s0 : Int) (h : aH) : ev xs d mm_247 27 [some (.inr (.inr v0)), some (.inl v1), some (.inl v2)] [.inr (.inl s0)] h =
  some (some (.inr (.inl s0)), h) :=
  (aB gP gX xs stp_247 2 d mm_247 27 _ _ h).trans rfl

def stp_248 : List Nat := [0, 16]
set_option maxRecDepth 100000 in
set_option maxHeartbeats 4000000 in
theorem q_248_0 (xs : List Int) (d : Nat) (v0 : Int) (h : aH) : ev xs d mm_248 0 [some (.inr (.inr v0))] [] h =
  bif aok h.1 v0 12 then
    bif aok h.1 v0 12 then
      bif aok h.1 v0 12 then
        ev xs d mm_248 16 [some (.inr (.inr v0))] [] (h.1, aup (aup (aup h.2 v0.toNat 66 (-1)) v0.toNat 67 (-1)) v0.toNat 68 (-9))
      else none
    else none
  else none :=
  (aB gP gX xs stp_248 10 d mm_248 0 _ _ h).trans rfl

set_option maxRecDepth 100000 in
set_option maxHeartbeats 4000000 in
theorem q_248_16 (xs : List Int) (d : Nat) (v0 : Int) (h : aH) : ev xs d mm_248 16 [some (.inr (.inr v0))] [] h =
  some (none, h) :=
  (aB gP gX xs stp_248 2 d mm_248 16 _ _ h).trans rfl

def stp_249 : List Nat := [0, 43, 79, 121, 169, 170]
set_option maxRecDepth 100000 in
set_option maxHeartbeats 4000000 in
theorem q_249_0 (xs : List Int) (d : Nat) (v0 : Int) (h : aH) : ev xs d mm_249 0 [some (.inr (.inr v0)), none] [] h =
  bif aok h.1 v0 12 then
    bif aok h.1 v0 12 then
      bif ain h.1 (h.2 v0.toNat 30) 100 (w32 ((w32 (3 * (h.2 v0.toNat 18))) + 1)) then
        bif aok h.1 v0 12 then
          bif decide ((h.2 v0.toNat 68) < 0) then
            ev xs d mm_249 43 [some (.inr (.inr v0)), some (.inl (h.2 (h.2 v0.toNat 30).toNat (w32 ((w32 (3 * (h.2 v0.toNat 18))) + 1)).toNat))] [] h
          else
            bif aok h.1 v0 12 then
              bif decide ((h.2 (h.2 v0.toNat 30).toNat (w32 ((w32 (3 * (h.2 v0.toNat 18))) + 1)).toNat) ≤ (w32 ((h.2 v0.toNat 69) + 1))) then
                ev xs d mm_249 43 [some (.inr (.inr v0)), some (.inl (h.2 (h.2 v0.toNat 30).toNat (w32 ((w32 (3 * (h.2 v0.toNat 18))) + 1)).toNat))] [] h
              else
                bif aok h.1 v0 12 then
                  bif aok h.1 v0 12 then
                    some (some (.inl 1), (h.1, aup h.2 v0.toNat 69 (w32 ((h.2 v0.toNat 69) + 1))))
                  else none
                else none
            else none
        else none
      else none
    else none
  else none :=
  (aB gP gX xs stp_249 28 d mm_249 0 _ _ h).trans rfl

set_option maxRecDepth 100000 in
set_option maxHeartbeats 4000000 in
theorem q_249_43 (xs : List Int) (d : Nat) (v0 : Int) (v1 : Int) (h : aH) : ev xs d mm_249 43 [some (.inr (.inr v0)), some (.inl v1)] [] h =
  bif aok h.1 v0 12 then
    bif aok h.1 v0 12 then
      bif decide (((aup h.2 v0.toNat 69 (-1)) v0.toNat 68) = (-9)) then
        ev xs d mm_249 79 [some (.inr (.inr v0)), some (.inl v1)] [] (h.1, aup h.2 v0.toNat 69 (-1))
      else
        bif aok h.1 v0 12 then
          bif decide (v1 ≤ (w32 (((aup h.2 v0.toNat 69 (-1)) v0.toNat 68) + 1))) then
            ev xs d mm_249 79 [some (.inr (.inr v0)), some (.inl v1)] [] (h.1, aup h.2 v0.toNat 69 (-1))
          else
            bif aok h.1 v0 12 then
              bif aok h.1 v0 12 then
                some (some (.inl 1), (h.1, aup (aup h.2 v0.toNat 69 (-1)) v0.toNat 68 (w32 (((aup h.2 v0.toNat 69 (-1)) v0.toNat 68) + 1))))
              else none
            else none
        else none
    else none
  else none :=
  (aB gP gX xs stp_249 22 d mm_249 43 _ _ h).trans rfl

set_option maxRecDepth 100000 in
set_option maxHeartbeats 4000000 in
theorem q_249_79 (xs : List Int) (d : Nat) (v0 : Int) (v1 : Int) (h : aH) : ev xs d mm_249 79 [some (.inr (.inr v0)), some (.inl v1)] [] h =
  bif aok h.1 v0 12 then
    bif aok h.1 v0 12 then
      bif aok h.1 v0 12 then
        bif aok h.1 v0 12 then
          bif ain h.1 ((aup h.2 v0.toNat 68 (-1)) v0.toNat 30) 100 (w32 (3 * ((aup h.2 v0.toNat 68 (-1)) v0.toNat 18))) then
            bif decide (((aup h.2 v0.toNat 68 (-1)) ((aup h.2 v0.toNat 68 (-1)) v0.toNat 30).toNat (w32 (3 * ((aup h.2 v0.toNat 68 (-1)) v0.toNat 18))).toNat) ≤ (w32 (((aup h.2 v0.toNat 68 (-1)) v0.toNat 67) + 1))) then
              bif aok h.1 v0 12 then
                ev xs d mm_249 121 [some (.inr (.inr v0)), some (.inl v1)] [] (h.1, aup (aup h.2 v0.toNat 68 (-1)) v0.toNat 67 0)
              else none
            else
              bif aok h.1 v0 12 then
                bif aok h.1 v0 12 then
                  some (some (.inl 1), (h.1, aup (aup h.2 v0.toNat 68 (-1)) v0.toNat 67 (w32 (((aup h.2 v0.toNat 68 (-1)) v0.toNat 67) + 1))))
                else none
              else none
          else none
        else none
      else none
    else none
  else none :=
  (aB gP gX xs stp_249 24 d mm_249 79 _ _ h).trans rfl

set_option maxRecDepth 100000 in
set_option maxHeartbeats 4000000 in
theorem q_249_121 (xs : List Int) (d : Nat) (v0 : Int) (v1 : Int) (h : aH) : ev xs d mm_249 121 [some (.inr (.inr v0)), some (.inl v1)] [] h =
  bif aok h.1 v0 12 then
    bif aok h.1 v0 12 then
      bif aok h.1 v0 12 then
        bif aok h.1 v0 12 then
          bif aok h.1 v0 12 then
            bif ain h.1 ((aup h.2 v0.toNat 66 (w32 ((h.2 v0.toNat 66) + 1))) v0.toNat 30) 100 (w32 ((w32 (3 * ((aup h.2 v0.toNat 66 (w32 ((h.2 v0.toNat 66) + 1))) v0.toNat 18))) + 2)) then
              bif decide (((aup h.2 v0.toNat 66 (w32 ((h.2 v0.toNat 66) + 1))) ((aup h.2 v0.toNat 66 (w32 ((h.2 v0.toNat 66) + 1))) v0.toNat 30).toNat (w32 ((w32 (3 * ((aup h.2 v0.toNat 66 (w32 ((h.2 v0.toNat 66) + 1))) v0.toNat 18))) + 2)).toNat) ≤ ((aup h.2 v0.toNat 66 (w32 ((h.2 v0.toNat 66) + 1))) v0.toNat 66)) then
                ev xs d mm_249 169 [some (.inr (.inr v0)), some (.inl v1)] [] (h.1, aup h.2 v0.toNat 66 (w32 ((h.2 v0.toNat 66) + 1)))
              else
                bif aok h.1 v0 12 then
                  bif aok h.1 v0 12 then
                    bif ain h.1 ((aup h.2 v0.toNat 66 (w32 ((h.2 v0.toNat 66) + 1))) v0.toNat 30) 100 (w32 (3 * ((aup h.2 v0.toNat 66 (w32 ((h.2 v0.toNat 66) + 1))) v0.toNat 18))) then
                      bif decide (((aup h.2 v0.toNat 66 (w32 ((h.2 v0.toNat 66) + 1))) ((aup h.2 v0.toNat 66 (w32 ((h.2 v0.toNat 66) + 1))) v0.toNat 30).toNat (w32 (3 * ((aup h.2 v0.toNat 66 (w32 ((h.2 v0.toNat 66) + 1))) v0.toNat 18))).toNat) ≤ 0) then
                        ev xs d mm_249 169 [some (.inr (.inr v0)), some (.inl v1)] [] (h.1, aup h.2 v0.toNat 66 (w32 ((h.2 v0.toNat 66) + 1)))
                      else
                        ev xs d mm_249 170 [some (.inr (.inr v0)), some (.inl v1)] [.inl 1] (h.1, aup h.2 v0.toNat 66 (w32 ((h.2 v0.toNat 66) + 1)))
                    else none
                  else none
                else none
            else none
          else none
        else none
      else none
    else none
  else none :=
  (aB gP gX xs stp_249 29 d mm_249 121 _ _ h).trans rfl

set_option maxRecDepth 100000 in
set_option maxHeartbeats 4000000 in
theorem q_249_169 (xs : List Int) (d : Nat) (v0 : Int) (v1 : Int) (h : aH) : ev xs d mm_249 169 [some (.inr (.inr v0)), some (.inl v1)] [] h =
  ev xs d mm_249 170 [some (.inr (.inr v0)), some (.inl v1)] [.inl 0] h :=
  (aB gP gX xs stp_249 2 d mm_249 169 _ _ h).trans rfl

set_option maxRecDepth 100000 in
set_option maxHeartbeats 4000000 in
theorem q_249_170 (xs : List Int) (d : Nat) (v0 : Int) (v1 : Int) (s0 : Int) (h : aH) : ev xs d mm_249 170 [some (.inr (.inr v0)), some (.inl v1)] [.inl s0] h =
  bif decide (s0 = 0) || decide (s0 = 1) then some (some (.inl s0), h) else none :=
  (aB gP gX xs stp_249 2 d mm_249 170 _ _ h).trans rfl

def stp_250 : List Nat := [0]
set_option maxRecDepth 100000 in
set_option maxHeartbeats 4000000 in
theorem q_250_0 (xs : List Int) (d : Nat) (v0 : Int) (h : aH) : ev xs d mm_250 0 [some (.inr (.inr v0))] [] h =
  bif aok h.1 v0 12 then
    bif aok h.1 v0 12 && true then
      bJ (cl xs d 247 [.inr (.inr v0), .inl 2, .inl (h.2 v0.toNat 66)] h) (fun x2 h1 =>
      bI (cl xs d 236 [.inr (.inl x2)] h1) (fun x4 h3 =>
        bif aok h3.1 v0 12 then
          bif aok h3.1 v0 12 && true then
            bJ (cl xs d 247 [.inr (.inr v0), .inl 0, .inl (h3.2 v0.toNat 67)] h3) (fun x6 h5 =>
            bI (cl xs d 236 [.inr (.inl x6)] h5) (fun x8 h7 =>
              bif aok h7.1 v0 12 then
                bif aok h7.1 v0 12 && true then
                  bJ (cl xs d 247 [.inr (.inr v0), .inl 1, .inl (h7.2 v0.toNat 68)] h7) (fun x10 h9 =>
                  bI (cl xs d 236 [.inr (.inl x10)] h9) (fun x12 h11 =>
                    bif aok h11.1 v0 12 then
                      bif aok h11.1 v0 12 && true then
                        bJ (cl xs d 247 [.inr (.inr v0), .inl 1, .inl (h11.2 v0.toNat 69)] h11) (fun x14 h13 =>
                        bI (cl xs d 236 [.inr (.inl x14)] h13) (fun x16 h15 =>
                          some (some (.inl (w32 ((w32 ((w32 (x4 + x8)) + x12)) + x16))), h15)))
                      else none
                    else none))
                else none
              else none))
          else none
        else none))
    else none
  else none :=
  (aB gP gX xs stp_250 29 d mm_250 0 _ _ h).trans rfl

def stp_251 : List Nat := [0, 9]
set_option maxRecDepth 100000 in
set_option maxHeartbeats 4000000 in
theorem q_251_0 (xs : List Int) (d : Nat) (v0 : Int) (v2 : Int) (h : aH) : ev xs d mm_251 0 [some (.inr (.inl v0)), none, some (.inr (.inl v2)), none, none, none, none] [] h =
  bI (cl xs d 236 [.inr (.inl v2)] h) (fun x2 h1 =>
    ev xs d mm_251 9 [some (.inr (.inl v0)), none, some (.inr (.inl v2)), none, some (.inr (.inl v0)), none, some (.inl x2)] [] h1) :=
  (aB gP gX xs stp_251 6 d mm_251 0 _ _ h).trans rfl

set_option maxRecDepth 100000 in
set_option maxHeartbeats 4000000 in
theorem q_251_9 (xs : List Int) (d : Nat) (v0 : Int) (u1 : Option aV) (v2 : Int) (u3 : Option aV) (v4 : Int) (u5 : Option aV) (v6 : Int) (h : aH) : ev xs d mm_251 9 [some (.inr (.inl v0)), u1, some (.inr (.inl v2)), u3, some (.inr (.inl v4)), u5, some (.inl v6)] [] h =
  bif decide (v6 ≤ 0) then
    some (some (.inr (.inl (w64 (v4 + v2)))), h)
  else
    ev xs d mm_251 9 [some (.inr (.inl v0)), u1, some (.inr (.inl v2)), acl u3, some (.inr (.inl (w64 (v4 * 27)))), none, some (.inl (w32 (v6 + (-1))))] [] h :=
  (aB gP gX xs stp_251 9 d mm_251 9 _ _ h).trans rfl

def stp_252 : List Nat := [0]
set_option maxRecDepth 100000 in
set_option maxHeartbeats 4000000 in
theorem q_252_0 (xs : List Int) (d : Nat) (v0 : Int) (h : aH) : ev xs d mm_252 0 [some (.inr (.inr v0))] [] h =
  bif aok h.1 v0 12 then
    bif aok h.1 v0 12 && true then
      bJ (cl xs d 247 [.inr (.inr v0), .inl 2, .inl (h.2 v0.toNat 66)] h) (fun x2 h1 =>
      bif aok h1.1 v0 12 then
        bif aok h1.1 v0 12 && true then
          bJ (cl xs d 247 [.inr (.inr v0), .inl 0, .inl (h1.2 v0.toNat 67)] h1) (fun x4 h3 =>
          bJ (cl xs d 251 [.inr (.inl x2), .inr (.inl x4)] h3) (fun x6 h5 =>
            bif aok h5.1 v0 12 then
              bif aok h5.1 v0 12 && true then
                bJ (cl xs d 247 [.inr (.inr v0), .inl 1, .inl (h5.2 v0.toNat 68)] h5) (fun x8 h7 =>
                bJ (cl xs d 251 [.inr (.inl x6), .inr (.inl x8)] h7) (fun x10 h9 =>
                  bif aok h9.1 v0 12 then
                    bif aok h9.1 v0 12 && true then
                      bJ (cl xs d 247 [.inr (.inr v0), .inl 1, .inl (h9.2 v0.toNat 69)] h9) (fun x12 h11 =>
                      bJ (cl xs d 251 [.inr (.inl x10), .inr (.inl x12)] h11) (fun x14 h13 =>
                        some (some (.inr (.inl x14)), h13)))
                    else none
                  else none))
              else none
            else none))
        else none
      else none)
    else none
  else none :=
  (aB gP gX xs stp_252 25 d mm_252 0 _ _ h).trans rfl

def stp_253 : List Nat := [0]
set_option maxRecDepth 100000 in
set_option maxHeartbeats 4000000 in
theorem q_253_0 (xs : List Int) (d : Nat) (v0 : Int) (h : aH) : ev xs d mm_253 0 [some (.inr (.inr v0))] [] h =
  bif aok h.1 v0 12 then
    bif aok h.1 v0 12 then
      bif aok h.1 v0 12 then
        bif aok h.1 v0 12 then
          some (some (.inl (w32 ((w32 ((w32 ((w32 ((w32 (1000 * (w32 ((h.2 v0.toNat 66) + 1)))) + (w32 (100 * (w32 ((h.2 v0.toNat 67) + 1)))))) + (w32 (10 * (w32 ((h.2 v0.toNat 68) + 1)))))) + (h.2 v0.toNat 69))) + 1))), h)
        else none
      else none
    else none
  else none :=
  (aB gP gX xs stp_253 27 d mm_253 0 _ _ h).trans rfl

def stp_254 : List Nat := [0, 24, 25]
set_option maxRecDepth 100000 in
set_option maxHeartbeats 4000000 in
theorem q_254_0 (xs : List Int) (d : Nat) (v0 : Int) (v1 : Int) (h : aH) : ev xs d mm_254 0 [some (.inr (.inr v0)), some (.inr (.inl v1)), none] [] h =
  bif aok h.1 v0 12 && true then
    bI (cl xs d 250 [.inr (.inr v0)] h) (fun x2 h1 =>
    bI (cl xs d 236 [.inr (.inl v1)] h1) (fun x4 h3 =>
      bif decide (¬ x2 = x4) then
        ev xs d mm_254 24 [some (.inr (.inr v0)), some (.inr (.inl v1)), none] [] h3
      else
        bif aok h3.1 v0 12 && true then
          bJ (cl xs d 252 [.inr (.inr v0)] h3) (fun x6 h5 =>
          bif decide (¬ (olcmp x6 v1) = 0) then
            ev xs d mm_254 24 [some (.inr (.inr v0)), some (.inr (.inl v1)), none] [] h5
          else
            ev xs d mm_254 25 [some (.inr (.inr v0)), some (.inr (.inl v1)), none] [.inl 1] h5)
        else none))
  else none :=
  (aB gP gX xs stp_254 13 d mm_254 0 _ _ h).trans rfl

set_option maxRecDepth 100000 in
set_option maxHeartbeats 4000000 in
theorem q_254_24 (xs : List Int) (d : Nat) (v0 : Int) (v1 : Int) (u2 : Option aV) (h : aH) : ev xs d mm_254 24 [some (.inr (.inr v0)), some (.inr (.inl v1)), u2] [] h =
  ev xs d mm_254 25 [some (.inr (.inr v0)), some (.inr (.inl v1)), u2] [.inl 0] h :=
  (aB gP gX xs stp_254 2 d mm_254 24 _ _ h).trans rfl

set_option maxRecDepth 100000 in
set_option maxHeartbeats 4000000 in
theorem q_254_25 (xs : List Int) (d : Nat) (v0 : Int) (v1 : Int) (u2 : Option aV) (s0 : Int) (h : aH) : ev xs d mm_254 25 [some (.inr (.inr v0)), some (.inr (.inl v1)), u2] [.inl s0] h =
  bif decide (s0 = 0) || decide (s0 = 1) then some (some (.inl s0), h) else none :=
  (aB gP gX xs stp_254 2 d mm_254 25 _ _ h).trans rfl

def stp_255 : List Nat := [0, 13, 37, 83]
set_option maxRecDepth 100000 in
set_option maxHeartbeats 4000000 in
theorem q_255_0 (xs : List Int) (d : Nat) (v0 : Int) (v1 : Int) (v2 : Int) (h : aH) : ev xs d mm_255 0 [some (.inr (.inr v0)), some (.inl v1), some (.inl v2), none, none, none] [] h =
  bif aok h.1 v0 12 && true then
    bI (cl xs d 230 [.inr (.inr v0), .inl v1] h) (fun x2 h1 =>
    bif decide (x2 = 0) then
      ev xs d mm_255 13 [some (.inr (.inr v0)), some (.inl v1), some (.inl v2), none, none, none] [] h1
    else
      bif decide ((-1) ≤ v2) then
        bif aok h1.1 v0 12 && true then
          bV (cl xs d 229 [.inr (.inr v0)] h1) (fun h3 =>
          bif aok h3.1 v0 12 then
            bif ain h3.1 (h3.2 v0.toNat 64) 101 v1 then
              bif aok h3.1 v0 12 && true then
                bJ (cl xs d 241 [.inr (.inr v0), .inr (.inl (h3.2 (h3.2 v0.toNat 64).toNat v1.toNat))] h3) (fun x5 h4 =>
                bif aok h4.1 v0 12 && true then
                  bV (cl xs d 248 [.inr (.inr v0)] h4) (fun h6 =>
                  ev xs d mm_255 37 [some (.inr (.inr v0)), some (.inl v1), some (.inl v2), some (.inr (.inl x5)), none, some (.inl 0)] [] h6)
                else none)
              else none
            else none
          else none)
        else none
      else
        ev xs d mm_255 13 [some (.inr (.inr v0)), some (.inl v1), some (.inl v2), none, none, none] [] h1)
  else none :=
  (aB gP gX xs stp_255 21 d mm_255 0 _ _ h).trans rfl

set_option maxRecDepth 100000 in
set_option maxHeartbeats 4000000 in
theorem q_255_13 (xs : List Int) (d : Nat) (v0 : Int) (v1 : Int) (v2 : Int) (u3 : Option aV) (u4 : Option aV) (u5 : Option aV) (h : aH) : ev xs d mm_255 13 [some (.inr (.inr v0)), some (.inl v1), some (.inl v2), u3, u4, u5] [] h =
  some (some (.inl (-1)), h) :=
  (aB gP gX xs stp_255 3 d mm_255 13 _ _ h).trans rfl

set_option maxRecDepth 100000 in
set_option maxHeartbeats 4000000 in
theorem q_255_37 (xs : List Int) (d : Nat) (v0 : Int) (v1 : Int) (v2 : Int) (v3 : Int) (u4 : Option aV) (v5 : Int) (h : aH) : ev xs d mm_255 37 [some (.inr (.inr v0)), some (.inl v1), some (.inl v2), some (.inr (.inl v3)), u4, some (.inl v5)] [] h =
  bif aok h.1 v0 12 && true then
    bI (cl xs d 249 [.inr (.inr v0)] h) (fun x2 h1 =>
    bif decide (x2 = 0) then
      bif decide (¬ v2 = (-1)) then
        ev xs d mm_255 83 [some (.inr (.inr v0)), some (.inl v1), some (.inl v2), some (.inr (.inl v3)), u4, some (.inl v5)] [.inl (-1)] h1
      else
        ev xs d mm_255 83 [some (.inr (.inr v0)), some (.inl v1), some (.inl v2), some (.inr (.inl v3)), u4, some (.inl v5)] [.inl v5] h1
    else
      bif aok h1.1 v0 12 && true then
        bI (cl xs d 254 [.inr (.inr v0), .inr (.inl v3)] h1) (fun x4 h3 =>
        bif decide (¬ x4 = 0) then
          bif decide (¬ v5 = v2) then
            ev xs d mm_255 37 [some (.inr (.inr v0)), some (.inl v1), some (.inl v2), some (.inr (.inl v3)), acl u4, some (.inl (w32 (v5 + 1)))] [] h3
          else
            bif aok h3.1 v0 12 && true then
              bI (cl xs d 253 [.inr (.inr v0)] h3) (fun x6 h5 =>
              some (some (.inl x6), h5))
            else none
        else
          ev xs d mm_255 37 [some (.inr (.inr v0)), some (.inl v1), some (.inl v2), some (.inr (.inl v3)), u4, some (.inl v5)] [] h3)
      else none)
  else none :=
  (aB gP gX xs stp_255 14 d mm_255 37 _ _ h).trans rfl

set_option maxRecDepth 100000 in
set_option maxHeartbeats 4000000 in
theorem q_255_83 (xs : List Int) (d : Nat) (v0 : Int) (v1 : Int) (v2 : Int) (v3 : Int) (u4 : Option aV) (v5 : Int) (s0 : Int) (h : aH) : ev xs d mm_255 83 [some (.inr (.inr v0)), some (.inl v1), some (.inl v2), some (.inr (.inl v3)), u4, some (.inl v5)] [.inl s0] h =
  some (some (.inl s0), h) :=
  (aB gP gX xs stp_255 2 d mm_255 83 _ _ h).trans rfl

def stp_256 : List Nat := [0, 22]
set_option maxRecDepth 100000 in
set_option maxHeartbeats 4000000 in
theorem q_256_0 (xs : List Int) (d : Nat) (v0 : Int) (v1 : Int) (h : aH) : ev xs d mm_256 0 [some (.inr (.inr v0)), some (.inl v1)] [] h =
  bif aok h.1 v0 12 && true then
    bI (cl xs d 231 [.inr (.inr v0), .inl v1] h) (fun x2 h1 =>
    bif decide (x2 = 0) then
      ev xs d mm_256 22 [some (.inr (.inr v0)), some (.inl v1)] [.inl (-1)] h1
    else
      bif aok h1.1 v0 12 then
        bif ain h1.1 (h1.2 v0.toNat 63) 101 (w32 (45 + v1)) then
          ev xs d mm_256 22 [some (.inr (.inr v0)), some (.inl v1)] [.inl (ol2i (h1.2 (h1.2 v0.toNat 63).toNat (w32 (45 + v1)).toNat))] h1
        else none
      else none)
  else none :=
  (aB gP gX xs stp_256 13 d mm_256 0 _ _ h).trans rfl

set_option maxRecDepth 100000 in
set_option maxHeartbeats 4000000 in
theorem q_256_22 (xs : List Int) (d : Nat) (v0 : Int) (v1 : Int) (s0 : Int) (h : aH) : ev xs d mm_256 22 [some (.inr (.inr v0)), some (.inl v1)] [.inl s0] h =
  some (some (.inl s0), h) :=
  (aB gP gX xs stp_256 2 d mm_256 22 _ _ h).trans rfl

def stp_257 : List Nat := [0, 24]
set_option maxRecDepth 100000 in
set_option maxHeartbeats 4000000 in
theorem q_257_0 (xs : List Int) (d : Nat) (v0 : Int) (v1 : Int) (h : aH) : ev xs d mm_257 0 [some (.inr (.inr v0)), some (.inl v1)] [] h =
  bif aok h.1 v0 12 && true then
    bI (cl xs d 231 [.inr (.inr v0), .inl v1] h) (fun x2 h1 =>
    bif decide (x2 = 0) then
      ev xs d mm_257 24 [some (.inr (.inr v0)), some (.inl v1)] [.inl (-1)] h1
    else
      bif aok h1.1 v0 12 then
        bif ain h1.1 (h1.2 v0.toNat 63) 101 52 then
          ev xs d mm_257 24 [some (.inr (.inr v0)), some (.inl v1)] [.inl (ol2i (oland (olshr (h1.2 (h1.2 v0.toNat 63).toNat (52 : Int).toNat) v1) ((((1 : Fin 2) : Nat) : Nat) : Int)))] h1
        else none
      else none)
  else none :=
  (aB gP gX xs stp_257 15 d mm_257 0 _ _ h).trans rfl

set_option maxRecDepth 100000 in
set_option maxHeartbeats 4000000 in
theorem q_257_24 (xs : List Int) (d : Nat) (v0 : Int) (v1 : Int) (s0 : Int) (h : aH) : ev xs d mm_257 24 [some (.inr (.inr v0)), some (.inl v1)] [.inl s0] h =
  some (some (.inl s0), h) :=
  (aB gP gX xs stp_257 2 d mm_257 24 _ _ h).trans rfl

def stp_258 : List Nat := [0, 11, 49, 51]
set_option maxRecDepth 100000 in
set_option maxHeartbeats 4000000 in
theorem q_258_0 (xs : List Int) (d : Nat) (v0 : Int) (h : aH) : ev xs d mm_258 0 [some (.inr (.inr v0)), none] [] h =
  bif aok h.1 v0 12 then
    bif decide (¬ (h.2 v0.toNat 70) = 30) then
      ev xs d mm_258 49 [some (.inr (.inr v0)), none] [] h
    else
      ev xs d mm_258 11 [some (.inr (.inr v0)), some (.inl 0)] [] h
  else none :=
  (aB gP gX xs stp_258 7 d mm_258 0 _ _ h).trans rfl

set_option maxRecDepth 100000 in
set_option maxHeartbeats 4000000 in
theorem q_258_11 (xs : List Int) (d : Nat) (v0 : Int) (v1 : Int) (h : aH) : ev xs d mm_258 11 [some (.inr (.inr v0)), some (.inl v1)] [] h =
  bif decide (1740 ≤ v1) then
    bif aok h.1 v0 12 then
      bif aok h.1 v0 12 then
        ev xs d mm_258 49 [some (.inr (.inr v0)), some (.inl v1)] [] (h.1, aup h.2 v0.toNat 70 (w32 ((h.2 v0.toNat 70) - 1)))
      else none
    else none
  else
    bif aok h.1 v0 12 then
      bif aok h.1 v0 12 then
        bif ain h.1 (h.2 v0.toNat 71) 101 (w32 (v1 + 60)) then
          bif ain h.1 (h.2 v0.toNat 71) 101 v1 then
            ev xs d mm_258 11 [some (.inr (.inr v0)), some (.inl (w32 (v1 + 1)))] [] (h.1, aup h.2 (h.2 v0.toNat 71).toNat v1.toNat (h.2 (h.2 v0.toNat 71).toNat (w32 (v1 + 60)).toNat))
          else none
        else none
      else none
    else none :=
  (aB gP gX xs stp_258 16 d mm_258 11 _ _ h).trans rfl

set_option maxRecDepth 100000 in
set_option maxHeartbeats 4000000 in
theorem q_258_49 (xs : List Int) (d : Nat) (v0 : Int) (u1 : Option aV) (h : aH) : ev xs d mm_258 49 [some (.inr (.inr v0)), u1] [] h =
  ev xs d mm_258 51 [some (.inr (.inr v0)), some (.inl 0)] [] h :=
  (aB gP gX xs stp_258 3 d mm_258 49 _ _ h).trans rfl

set_option maxRecDepth 100000 in
set_option maxHeartbeats 4000000 in
theorem q_258_51 (xs : List Int) (d : Nat) (v0 : Int) (v1 : Int) (h : aH) : ev xs d mm_258 51 [some (.inr (.inr v0)), some (.inl v1)] [] h =
  bif decide (60 ≤ v1) then
    bif aok h.1 v0 12 then
      bif aok h.1 v0 12 then
        bif aok h.1 v0 12 && true then
          bV (cl xs d 228 [.inr (.inr v0)] (h.1, aup h.2 v0.toNat 70 (w32 ((h.2 v0.toNat 70) + 1)))) (fun h1 =>
          some (none, h1))
        else none
      else none
    else none
  else
    bif aok h.1 v0 12 then
      bif aok h.1 v0 12 then
        bif aok h.1 v0 12 then
          bif ain h.1 (h.2 v0.toNat 63) 101 v1 then
            bif ain h.1 (h.2 v0.toNat 71) 101 (w32 ((w32 (60 * (h.2 v0.toNat 70))) + v1)) then
              ev xs d mm_258 51 [some (.inr (.inr v0)), some (.inl (w32 (v1 + 1)))] [] (h.1, aup h.2 (h.2 v0.toNat 71).toNat (w32 ((w32 (60 * (h.2 v0.toNat 70))) + v1)).toNat (h.2 (h.2 v0.toNat 63).toNat v1.toNat))
            else none
          else none
        else none
      else none
    else none :=
  (aB gP gX xs stp_258 19 d mm_258 51 _ _ h).trans rfl

def stp_259 : List Nat := [0]
set_option maxRecDepth 100000 in
set_option maxHeartbeats 4000000 in
theorem q_259_0 (xs : List Int) (d : Nat) (v0 : Int) (v1 : Int) (h : aH) : ev xs d mm_259 0 [some (.inr (.inr v0)), some (.inl v1)] [] h =
  bif aok h.1 v0 12 && true then
    bI (cl xs d 231 [.inr (.inr v0), .inl v1] h) (fun x2 h1 =>
    bif decide (¬ x2 = 0) then
      bif aok h1.1 v0 12 && true then
        bV (cl xs d 229 [.inr (.inr v0)] h1) (fun h3 =>
        bif aok h3.1 v0 12 then
          bif ain h3.1 (h3.2 v0.toNat 64) 101 52 then
            bif ain h3.1 (h3.2 v0.toNat 64) 101 52 then
              bif aok h3.1 v0 12 && true then
                bV (cl xs d 258 [.inr (.inr v0)] (h3.1, aup h3.2 (h3.2 v0.toNat 64).toNat (52 : Int).toNat (olxor (h3.2 (h3.2 v0.toNat 64).toNat (52 : Int).toNat) (olshl ((((1 : Fin 2) : Nat) : Nat) : Int) v1)))) (fun h4 =>
                some (some (.inl 1), h4))
              else none
            else none
          else none
        else none)
      else none
    else
      some (some (.inl 0), h1))
  else none :=
  (aB gP gX xs stp_259 21 d mm_259 0 _ _ h).trans rfl

def stp_260 : List Nat := [0, 21]
set_option maxRecDepth 100000 in
set_option maxHeartbeats 4000000 in
theorem q_260_0 (xs : List Int) (d : Nat) (v0 : Int) (v1 : Int) (v2 : Int) (h : aH) : ev xs d mm_260 0 [some (.inr (.inr v0)), some (.inl v1), some (.inl v2), none, none] [] h =
  bif aok h.1 v0 12 && true then
    bI (cl xs d 231 [.inr (.inr v0), .inl v1] h) (fun x2 h1 =>
    bif decide (x2 = 0) then
      ev xs d mm_260 21 [some (.inr (.inr v0)), some (.inl v1), some (.inl v2), none, none] [] h1
    else
      bif aok h1.1 v0 12 && true then
        bI (cl xs d 231 [.inr (.inr v0), .inl v2] h1) (fun x4 h3 =>
        bif decide (x4 = 0) then
          ev xs d mm_260 21 [some (.inr (.inr v0)), some (.inl v1), some (.inl v2), none, none] [] h3
        else
          bif decide (¬ v1 = v2) then
            bif aok h3.1 v0 12 && true then
              bV (cl xs d 229 [.inr (.inr v0)] h3) (fun h5 =>
              bif aok h5.1 v0 12 then
                bif ain h5.1 (h5.2 v0.toNat 64) 101 (w32 (45 + v1)) then
                  bif aok h5.1 v0 12 then
                    bif aok h5.1 v0 12 then
                      bif ain h5.1 (h5.2 v0.toNat 64) 101 (w32 (45 + v2)) then
                        bif ain h5.1 (h5.2 v0.toNat 64) 101 (w32 (45 + v1)) then
                          bif aok h5.1 v0 12 then
                            bif ain h5.1 ((aup h5.2 (h5.2 v0.toNat 64).toNat (w32 (45 + v1)).toNat (h5.2 (h5.2 v0.toNat 64).toNat (w32 (45 + v2)).toNat)) v0.toNat 64) 101 (w32 (45 + v2)) then
                              bif aok h5.1 v0 12 && true then
                                bV (cl xs d 258 [.inr (.inr v0)] (h5.1, aup (aup h5.2 (h5.2 v0.toNat 64).toNat (w32 (45 + v1)).toNat (h5.2 (h5.2 v0.toNat 64).toNat (w32 (45 + v2)).toNat)) ((aup h5.2 (h5.2 v0.toNat 64).toNat (w32 (45 + v1)).toNat (h5.2 (h5.2 v0.toNat 64).toNat (w32 (45 + v2)).toNat)) v0.toNat 64).toNat (w32 (45 + v2)).toNat (h5.2 (h5.2 v0.toNat 64).toNat (w32 (45 + v1)).toNat))) (fun h6 =>
                                some (some (.inl 1), h6))
                              else none
                            else none
                          else none
                        else none
                      else none
                    else none
                  else none
                else none
              else none)
            else none
          else
            ev xs d mm_260 21 [some (.inr (.inr v0)), some (.inl v1), some (.inl v2), none, none] [] h3)
      else none)
  else none :=
  (aB gP gX xs stp_260 44 d mm_260 0 _ _ h).trans rfl

set_option maxRecDepth 100000 in
set_option maxHeartbeats 4000000 in
theorem q_260_21 (xs : List Int) (d : Nat) (v0 : Int) (v1 : Int) (v2 : Int) (u3 : Option aV) (u4 : Option aV) (h : aH) : ev xs d mm_260 21 [some (.inr (.inr v0)), some (.inl v1), some (.inl v2), u3, u4] [] h =
  some (some (.inl 0), h) :=
  (aB gP gX xs stp_260 3 d mm_260 21 _ _ h).trans rfl

def stp_261 : List Nat := [0, 43, 116, 145]
set_option maxRecDepth 100000 in
set_option maxHeartbeats 4000000 in
theorem q_261_0 (xs : List Int) (d : Nat) (v0 : Int) (h : aH) : ev xs d mm_261 0 [some (.inr (.inr v0)), none, none, none] [] h =
  bif aok h.1 v0 12 then
    bif aok h.1 v0 12 then
      bif ain h.1 (h.2 v0.toNat 45) 100 (h.2 v0.toNat 18) then
        bif aok h.1 v0 12 then
          bif aok h.1 v0 12 then
            bif ain h.1 (h.2 v0.toNat 46) 100 (h.2 v0.toNat 18) then
              bif decide (¬ (h.2 (h.2 v0.toNat 45).toNat (h.2 v0.toNat 18).toNat) = (h.2 (h.2 v0.toNat 46).toNat (h.2 v0.toNat 18).toNat)) then
                bif aok h.1 v0 12 && true then
                  bif aok h.1 v0 12 then
                    bif aok h.1 v0 12 then
                      bif ain h.1 ((aup h.2 v0.toNat 62 0) v0.toNat 45) 100 ((aup h.2 v0.toNat 62 0) v0.toNat 18) then
                        ev xs d mm_261 43 [some (.inr (.inr v0)), some (.inl ((aup h.2 v0.toNat 62 0) ((aup h.2 v0.toNat 62 0) v0.toNat 45).toNat ((aup h.2 v0.toNat 62 0) v0.toNat 18).toNat)), none, none] [] (h.1, aup h.2 v0.toNat 62 0)
                      else none
                    else none
                  else none
                else none
              else
                bif aok h.1 v0 12 then
                  bif ain h.1 (h.2 v0.toNat 60) 100 2 then
                    some (some (.inl (h.2 (h.2 v0.toNat 60).toNat (2 : Int).toNat)), h)
                  else none
                else none
            else none
          else none
        else none
      else none
    else none
  else none :=
  (aB gP gX xs stp_261 21 d mm_261 0 _ _ h).trans rfl

set_option maxRecDepth 100000 in
set_option maxHeartbeats 4000000 in
theorem q_261_43 (xs : List Int) (d : Nat) (v0 : Int) (v1 : Int) (u2 : Option aV) (u3 : Option aV) (h : aH) : ev xs d mm_261 43 [some (.inr (.inr v0)), some (.inl v1), u2, u3] [] h =
  bif aok h.1 v0 12 then
    bif aok h.1 v0 12 then
      bif ain h.1 (h.2 v0.toNat 46) 100 (h.2 v0.toNat 18) then
        bif decide ((h.2 (h.2 v0.toNat 46).toNat (h.2 v0.toNat 18).toNat) ≤ v1) then
          some (some (.inl 0), h)
        else
          bif aok h.1 v0 12 then
            bif ain h.1 (h.2 v0.toNat 48) 103 v1 then
              bif decide ((h.2 (h.2 v0.toNat 48).toNat v1.toNat) = 0) then
                ev xs d mm_261 116 [some (.inr (.inr v0)), some (.inl v1), u2, u3] [] h
              else
                bif aok h.1 v0 12 then
                  bif ain h.1 (h.2 v0.toNat 49) 100 v1 then
                    bif aok h.1 v0 12 then
                      bif ain h.1 (h.2 v0.toNat 50) 100 v1 then
                        bif aok h.1 v0 12 && true then
                          bI (cl xs d 225 [.inr (.inr v0), .inl (h.2 (h.2 v0.toNat 49).toNat v1.toNat), .inl (h.2 (h.2 v0.toNat 50).toNat v1.toNat)] h) (fun x2 h1 =>
                          bif aok h1.1 v0 12 then
                            bif ain h1.1 (h1.2 v0.toNat 50) 100 v1 then
                              bif aok h1.1 v0 12 then
                                bif ain h1.1 (h1.2 v0.toNat 51) 100 v1 then
                                  bif aok h1.1 v0 12 && true then
                                    bI (cl xs d 225 [.inr (.inr v0), .inl (h1.2 (h1.2 v0.toNat 50).toNat v1.toNat), .inl (h1.2 (h1.2 v0.toNat 51).toNat v1.toNat)] h1) (fun x4 h3 =>
                                    bif aok h3.1 v0 12 then
                                      bif decide ((h3.2 v0.toNat 62) = 0) then
                                        bif decide (x2 < x4) then
                                          ev xs d mm_261 116 [some (.inr (.inr v0)), some (.inl v1), some (.inl x2), some (.inl x4)] [] h3
                                        else
                                          ev xs d mm_261 43 [some (.inr (.inr v0)), some (.inl (w32 (v1 + 1))), some (.inl x2), some (.inl x4)] [] h3
                                      else
                                        some (some (.inl 0), h3)
                                    else none)
                                  else none
                                else none
                              else none
                            else none
                          else none)
                        else none
                      else none
                    else none
                  else none
                else none
            else none
          else none
      else none
    else none
  else none :=
  (aB gP gX xs stp_261 44 d mm_261 43 _ _ h).trans rfl

set_option maxRecDepth 100000 in
set_option maxHeartbeats 4000000 in
theorem q_261_116 (xs : List Int) (d : Nat) (v0 : Int) (v1 : Int) (u2 : Option aV) (u3 : Option aV) (h : aH) : ev xs d mm_261 116 [some (.inr (.inr v0)), some (.inl v1), u2, u3] [] h =
  bif aok h.1 v0 12 then
    bif ain h.1 (h.2 v0.toNat 51) 100 v1 then
      bif aok h.1 v0 12 then
        bif ain h.1 (h.2 v0.toNat 52) 100 v1 then
          bif aok h.1 v0 12 && true then
            bI (cl xs d 225 [.inr (.inr v0), .inl (h.2 (h.2 v0.toNat 51).toNat v1.toNat), .inl (h.2 (h.2 v0.toNat 52).toNat v1.toNat)] h) (fun x2 h1 =>
            bif aok h1.1 v0 12 then
              bif decide ((h1.2 v0.toNat 62) = 0) then
                ev xs d mm_261 145 [some (.inr (.inr v0)), some (.inl v1), some (.inl x2), u3] [.inl x2] h1
              else
                ev xs d mm_261 145 [some (.inr (.inr v0)), some (.inl v1), some (.inl x2), u3] [.inl 0] h1
            else none)
          else none
        else none
      else none
    else none
  else none :=
  (aB gP gX xs stp_261 17 d mm_261 116 _ _ h).trans rfl

set_option maxRecDepth 100000 in
set_option maxHeartbeats 4000000 in
theorem q_261_145 (xs : List Int) (d : Nat) (v0 : Int) (v1 : Int) (v2 : Int) (u3 : Option aV) (s0 : Int) (h : aH) : ev xs d mm_261 145 [some (.inr (.inr v0)), some (.inl v1), some (.inl v2), u3] [.inl s0] h =
  some (some (.inl s0), h) :=
  (aB gP gX xs stp_261 2 d mm_261 145 _ _ h).trans rfl

def stp_262 : List Nat := [0, 27]
set_option maxRecDepth 100000 in
set_option maxHeartbeats 4000000 in
theorem q_262_0 (xs : List Int) (d : Nat) (v0 : Int) (v1 : Int) (v2 : Int) (h : aH) : ev xs d mm_262 0 [some (.inr (.inr v0)), some (.inl v1), some (.inl v2)] [] h =
  bif decide (0 ≤ v2) then
    bif aok h.1 v0 12 then
      bif aok h.1 v0 12 then
        bif ain h.1 (h.2 v0.toNat 32) 100 (w32 ((w32 ((w32 (24 * (h.2 v0.toNat 18))) + (w32 (8 * v1)))) + v2)) then
          ev xs d mm_262 27 [some (.inr (.inr v0)), some (.inl v1), some (.inl v2)] [.inl (h.2 (h.2 v0.toNat 32).toNat (w32 ((w32 ((w32 (24 * (h.2 v0.toNat 18))) + (w32 (8 * v1)))) + v2)).toNat)] h
        else none
      else none
    else none
  else
    ev xs d mm_262 27 [some (.inr (.inr v0)), some (.inl v1), some (.inl v2)] [.inl 0] h :=
  (aB gP gX xs stp_262 16 d mm_262 0 _ _ h).trans rfl

set_option maxRecDepth 100000 in
set_option maxHeartbeats 4000000 in
theorem q_262_27 (xs : List Int) (d : Nat) (v0 : Int) (v1 : Int) (v2 : Int) (s0 : Int) (h : aH) : ev xs d mm_262 27 [some (.inr (.inr v0)), some (.inl v1), some (.inl v2)] [.inl s0] h =
  some (some (.inl s0), h) :=
  (aB gP gX xs stp_262 2 d mm_262 27 _ _ h).trans rfl

def stp_263 : List Nat := [0, 4]
set_option maxRecDepth 100000 in
set_option maxHeartbeats 4000000 in
theorem q_263_0 (xs : List Int) (d : Nat) (v0 : Int) (v1 : Int) (h : aH) : ev xs d mm_263 0 [some (.inr (.inr v0)), some (.inr (.inl v1)), none] [] h =
  bif aok h.1 v0 12 && true then
    bV (cl xs d 248 [.inr (.inr v0)] h) (fun h1 =>
    ev xs d mm_263 4 [some (.inr (.inr v0)), some (.inr (.inl v1)), none] [] h1)
  else none :=
  (aB gP gX xs stp_263 3 d mm_263 0 _ _ h).trans rfl

set_option maxRecDepth 100000 in
set_option maxHeartbeats 4000000 in
theorem q_263_4 (xs : List Int) (d : Nat) (v0 : Int) (v1 : Int) (u2 : Option aV) (h : aH) : ev xs d mm_263 4 [some (.inr (.inr v0)), some (.inr (.inl v1)), u2] [] h =
  bif aok h.1 v0 12 && true then
    bI (cl xs d 249 [.inr (.inr v0)] h) (fun x2 h1 =>
    bif decide (x2 = 0) then
      some (some (.inl 0), h1)
    else
      bif aok h1.1 v0 12 && true then
        bI (cl xs d 254 [.inr (.inr v0), .inr (.inl v1)] h1) (fun x4 h3 =>
        bif decide (x4 = 0) then
          ev xs d mm_263 4 [some (.inr (.inr v0)), some (.inr (.inl v1)), u2] [] h3
        else
          some (some (.inl 1), h3))
      else none)
  else none :=
  (aB gP gX xs stp_263 10 d mm_263 4 _ _ h).trans rfl

def stp_264 : List Nat := [0, 46, 95, 134, 157, 174, 186, 205, 264, 279, 337, 373]
set_option maxRecDepth 100000 in
set_option maxHeartbeats 4000000 in
theorem q_264_0 (xs : List Int) (d : Nat) (v0 : Int) (v1 : Int) (h : aH) : ev xs d mm_264 0 [some (.inr (.inr v0)), some (.inl v1), none, none, none, none] [] h =
  bif aok h.1 v0 12 && true then
    bI (cl xs d 230 [.inr (.inr v0), .inl v1] h) (fun x2 h1 =>
    bif decide (¬ x2 = 0) then
      bif aok h1.1 v0 12 && true then
        bV (cl xs d 229 [.inr (.inr v0)] h1) (fun h3 =>
        bif aok h3.1 v0 12 && true then
          bI (cl xs d 233 [.inr (.inr v0), .inl v1] h3) (fun x5 h4 =>
          bif decide (¬ x5 = 0) then
            bif aok h4.1 v0 12 then
              bif ain h4.1 (h4.2 v0.toNat 64) 101 v1 then
                bif aok h4.1 v0 12 && true then
                  bJ (cl xs d 241 [.inr (.inr v0), .inr (.inl (h4.2 (h4.2 v0.toNat 64).toNat v1.toNat))] h4) (fun x7 h6 =>
                  bif aok h6.1 v0 12 && true then
                    bI (cl xs d 263 [.inr (.inr v0), .inr (.inl x7)] h6) (fun x9 h8 =>
                    ev xs d mm_264 46 [some (.inr (.inr v0)), some (.inl v1), some (.inr (.inl x7)), none, some (.inl x9), some (.inl 0)] [] h8)
                  else none)
                else none
              else none
            else none
          else
            some (some (.inl (-2)), h4))
        else none)
      else none
    else
      some (some (.inl (-1)), h1))
  else none :=
  (aB gP gX xs stp_264 24 d mm_264 0 _ _ h).trans rfl

set_option maxRecDepth 100000 in
set_option maxHeartbeats 4000000 in
theorem q_264_46 (xs : List Int) (d : Nat) (v0 : Int) (v1 : Int) (v2 : Int) (u3 : Option aV) (v4 : Int) (v5 : Int) (h : aH) : ev xs d mm_264 46 [some (.inr (.inr v0)), some (.inl v1), some (.inr (.inl v2)), u3, some (.inl v4), some (.inl v5)] [] h =
  bif decide (6 ≤ v5) then
    bif decide (v4 = 0) then
      bif aok h.1 v0 12 then
        bI (cl xs d 236 [.inr (.inl v2)] h) (fun x2 h1 =>
          bif ain h1.1 (h.2 v0.toNat 60) 100 3 then
            ev xs d mm_264 264 [some (.inr (.inr v0)), some (.inl v1), some (.inr (.inl v2)), u3, some (.inl v4), some (.inl v5)] [] (h1.1, aup h1.2 (h.2 v0.toNat 60).toNat (3 : Int).toNat x2)
          else none)
      else none
    else
      bif aok h.1 v0 12 then
        bif decide ((h.2 v0.toNat 66) < 0) then
          ev xs d mm_264 95 [some (.inr (.inr v0)), some (.inl v1), some (.inr (.inl v2)), u3, some (.inl v4), some (.inl v5)] [] h
        else
          bif aok h.1 v0 12 then
            bif aok h.1 v0 12 then
              bif ain h.1 (h.2 v0.toNat 64) 101 (w32 (36 + (h.2 v0.toNat 66))) then
                bif ain h.1 (h.2 v0.toNat 64) 101 (w32 (36 + (h.2 v0.toNat 66))) then
                  ev xs d mm_264 95 [some (.inr (.inr v0)), some (.inl v1), some (.inr (.inl v2)), u3, some (.inl v4), some (.inl v5)] [] (h.1, aup h.2 (h.2 v0.toNat 64).toNat (w32 (36 + (h.2 v0.toNat 66))).toNat (w64 ((h.2 (h.2 v0.toNat 64).toNat (w32 (36 + (h.2 v0.toNat 66))).toNat) + ((((1 : Fin 2) : Nat) : Nat) : Int))))
                else none
              else none
            else none
          else none
      else none
  else
    bif aok h.1 v0 12 then
      bif ain h.1 (h.2 v0.toNat 60) 100 v5 then
        ev xs d mm_264 46 [some (.inr (.inr v0)), some (.inl v1), some (.inr (.inl v2)), u3, some (.inl v4), some (.inl (w32 (v5 + 1)))] [] (h.1, aup h.2 (h.2 v0.toNat 60).toNat v5.toNat 0)
      else none
    else none :=
  (aB gP gX xs stp_264 20 d mm_264 46 _ _ h).trans rfl

set_option maxRecDepth 100000 in
set_option maxHeartbeats 4000000 in
theorem q_264_95 (xs : List Int) (d : Nat) (v0 : Int) (v1 : Int) (v2 : Int) (u3 : Option aV) (v4 : Int) (v5 : Int) (h : aH) : ev xs d mm_264 95 [some (.inr (.inr v0)), some (.inl v1), some (.inr (.inl v2)), u3, some (.inl v4), some (.inl v5)] [] h =
  bif aok h.1 v0 12 then
    bif aok h.1 v0 12 then
      bif ain h.1 (h.2 v0.toNat 64) 101 (w32 (20 + (h.2 v0.toNat 67))) then
        bif ain h.1 (h.2 v0.toNat 64) 101 (w32 (20 + (h.2 v0.toNat 67))) then
          bif aok h.1 v0 12 then
            bif decide (((aup h.2 (h.2 v0.toNat 64).toNat (w32 (20 + (h.2 v0.toNat 67))).toNat (w64 ((h.2 (h.2 v0.toNat 64).toNat (w32 (20 + (h.2 v0.toNat 67))).toNat) + ((((1 : Fin 2) : Nat) : Nat) : Int)))) v0.toNat 68) < 0) then
              ev xs d mm_264 134 [some (.inr (.inr v0)), some (.inl v1), some (.inr (.inl v2)), u3, some (.inl v4), some (.inl v5)] [] (h.1, aup h.2 (h.2 v0.toNat 64).toNat (w32 (20 + (h.2 v0.toNat 67))).toNat (w64 ((h.2 (h.2 v0.toNat 64).toNat (w32 (20 + (h.2 v0.toNat 67))).toNat) + ((((1 : Fin 2) : Nat) : Nat) : Int))))
            else
              bif aok h.1 v0 12 then
                bif aok h.1 v0 12 then
                  bif ain h.1 ((aup h.2 (h.2 v0.toNat 64).toNat (w32 (20 + (h.2 v0.toNat 67))).toNat (w64 ((h.2 (h.2 v0.toNat 64).toNat (w32 (20 + (h.2 v0.toNat 67))).toNat) + ((((1 : Fin 2) : Nat) : Nat) : Int)))) v0.toNat 64) 101 (w32 (28 + ((aup h.2 (h.2 v0.toNat 64).toNat (w32 (20 + (h.2 v0.toNat 67))).toNat (w64 ((h.2 (h.2 v0.toNat 64).toNat (w32 (20 + (h.2 v0.toNat 67))).toNat) + ((((1 : Fin 2) : Nat) : Nat) : Int)))) v0.toNat 68))) then
                    bif ain h.1 ((aup h.2 (h.2 v0.toNat 64).toNat (w32 (20 + (h.2 v0.toNat 67))).toNat (w64 ((h.2 (h.2 v0.toNat 64).toNat (w32 (20 + (h.2 v0.toNat 67))).toNat) + ((((1 : Fin 2) : Nat) : Nat) : Int)))) v0.toNat 64) 101 (w32 (28 + ((aup h.2 (h.2 v0.toNat 64).toNat (w32 (20 + (h.2 v0.toNat 67))).toNat (w64 ((h.2 (h.2 v0.toNat 64).toNat (w32 (20 + (h.2 v0.toNat 67))).toNat) + ((((1 : Fin 2) : Nat) : Nat) : Int)))) v0.toNat 68))) then
                      ev xs d mm_264 134 [some (.inr (.inr v0)), some (.inl v1), some (.inr (.inl v2)), u3, some (.inl v4), some (.inl v5)] [] (h.1, aup (aup h.2 (h.2 v0.toNat 64).toNat (w32 (20 + (h.2 v0.toNat 67))).toNat (w64 ((h.2 (h.2 v0.toNat 64).toNat (w32 (20 + (h.2 v0.toNat 67))).toNat) + ((((1 : Fin 2) : Nat) : Nat) : Int)))) ((aup h.2 (h.2 v0.toNat 64).toNat (w32 (20 + (h.2 v0.toNat 67))).toNat (w64 ((h.2 (h.2 v0.toNat 64).toNat (w32 (20 + (h.2 v0.toNat 67))).toNat) + ((((1 : Fin 2) : Nat) : Nat) : Int)))) v0.toNat 64).toNat (w32 (28 + ((aup h.2 (h.2 v0.toNat 64).toNat (w32 (20 + (h.2 v0.toNat 67))).toNat (w64 ((h.2 (h.2 v0.toNat 64).toNat (w32 (20 + (h.2 v0.toNat 67))).toNat) + ((((1 : Fin 2) : Nat) : Nat) : Int)))) v0.toNat 68))).toNat (w64 (((aup h.2 (h.2 v0.toNat 64).toNat (w32 (20 + (h.2 v0.toNat 67))).toNat (w64 ((h.2 (h.2 v0.toNat 64).toNat (w32 (20 + (h.2 v0.toNat 67))).toNat) + ((((1 : Fin 2) : Nat) : Nat) : Int)))) ((aup h.2 (h.2 v0.toNat 64).toNat (w32 (20 + (h.2 v0.toNat 67))).toNat (w64 ((h.2 (h.2 v0.toNat 64).toNat (w32 (20 + (h.2 v0.toNat 67))).toNat) + ((((1 : Fin 2) : Nat) : Nat) : Int)))) v0.toNat 64).toNat (w32 (28 + ((aup h.2 (h.2 v0.toNat 64).toNat (w32 (20 + (h.2 v0.toNat 67))).toNat (w64 ((h.2 (h.2 v0.toNat 64).toNat (w32 (20 + (h.2 v0.toNat 67))).toNat) + ((((1 : Fin 2) : Nat) : Nat) : Int)))) v0.toNat 68))).toNat) + ((((1 : Fin 2) : Nat) : Nat) : Int))))
                    else none
                  else none
                else none
              else none
          else none
        else none
      else none
    else none
  else none :=
  (aB gP gX xs stp_264 26 d mm_264 95 _ _ h).trans rfl

set_option maxRecDepth 100000 in
set_option maxHeartbeats 4000000 in
theorem q_264_134 (xs : List Int) (d : Nat) (v0 : Int) (v1 : Int) (v2 : Int) (u3 : Option aV) (v4 : Int) (v5 : Int) (h : aH) : ev xs d mm_264 134 [some (.inr (.inr v0)), some (.inl v1), some (.inr (.inl v2)), u3, some (.inl v4), some (.inl v5)] [] h =
  bif aok h.1 v0 12 then
    bif decide ((h.2 v0.toNat 69) < 0) then
      ev xs d mm_264 157 [some (.inr (.inr v0)), some (.inl v1), some (.inr (.inl v2)), u3, some (.inl v4), some (.inl v5)] [] h
    else
      bif aok h.1 v0 12 then
        bif aok h.1 v0 12 then
          bif ain h.1 (h.2 v0.toNat 64) 101 (w32 (28 + (h.2 v0.toNat 69))) then
            bif ain h.1 (h.2 v0.toNat 64) 101 (w32 (28 + (h.2 v0.toNat 69))) then
              ev xs d mm_264 157 [some (.inr (.inr v0)), some (.inl v1), some (.inr (.inl v2)), u3, some (.inl v4), some (.inl v5)] [] (h.1, aup h.2 (h.2 v0.toNat 64).toNat (w32 (28 + (h.2 v0.toNat 69))).toNat (w64 ((h.2 (h.2 v0.toNat 64).toNat (w32 (28 + (h.2 v0.toNat 69))).toNat) + ((((1 : Fin 2) : Nat) : Nat) : Int))))
            else none
          else none
        else none
      else none
  else none :=
  (aB gP gX xs stp_264 15 d mm_264 134 _ _ h).trans rfl

set_option maxRecDepth 100000 in
set_option maxHeartbeats 4000000 in
theorem q_264_157 (xs : List Int) (d : Nat) (v0 : Int) (v1 : Int) (v2 : Int) (u3 : Option aV) (v4 : Int) (v5 : Int) (h : aH) : ev xs d mm_264 157 [some (.inr (.inr v0)), some (.inl v1), some (.inr (.inl v2)), u3, some (.inl v4), some (.inl v5)] [] h =
  bif aok h.1 v0 12 then
    bif aok h.1 v0 12 then
      bif decide ((h.2 v0.toNat 68) < 0) then
        ev xs d mm_264 174 [some (.inr (.inr v0)), some (.inl v1), some (.inr (.inl v2)), u3, some (.inl v4), some (.inl v5)] [.inl 0, .inl 0, .inr (.inr (h.2 v0.toNat 60))] h
      else
        ev xs d mm_264 174 [some (.inr (.inr v0)), some (.inl v1), some (.inr (.inl v2)), u3, some (.inl v4), some (.inl v5)] [.inl 1, .inl 0, .inr (.inr (h.2 v0.toNat 60))] h
    else none
  else none :=
  (aB gP gX xs stp_264 9 d mm_264 157 _ _ h).trans rfl

set_option maxRecDepth 100000 in
set_option maxHeartbeats 4000000 in
theorem q_264_174 (xs : List Int) (d : Nat) (v0 : Int) (v1 : Int) (v2 : Int) (u3 : Option aV) (v4 : Int) (v5 : Int) (s0 : Int) (s1 : Int) (s2 : Int) (h : aH) : ev xs d mm_264 174 [some (.inr (.inr v0)), some (.inl v1), some (.inr (.inl v2)), u3, some (.inl v4), some (.inl v5)] [.inl s2, .inl s1, .inr (.inr s0)] h =
  bif aok h.1 v0 12 then
    bif decide ((h.2 v0.toNat 69) < 0) then
      ev xs d mm_264 186 [some (.inr (.inr v0)), some (.inl v1), some (.inr (.inl v2)), u3, some (.inl v4), some (.inl v5)] [.inl 0, .inl s2, .inl s1, .inr (.inr s0)] h
    else
      ev xs d mm_264 186 [some (.inr (.inr v0)), some (.inl v1), some (.inr (.inl v2)), u3, some (.inl v4), some (.inl v5)] [.inl 1, .inl s2, .inl s1, .inr (.inr s0)] h
  else none :=
  (aB gP gX xs stp_264 6 d mm_264 174 _ _ h).trans rfl

set_option maxRecDepth 100000 in
set_option maxHeartbeats 4000000 in
theorem q_264_186 (xs : List Int) (d : Nat) (v0 : Int) (v1 : Int) (v2 : Int) (u3 : Option aV) (v4 : Int) (v5 : Int) (s0 : Int) (s1 : Int) (s2 : Int) (s3 : Int) (h : aH) : ev xs d mm_264 186 [some (.inr (.inr v0)), some (.inl v1), some (.inr (.inl v2)), u3, some (.inl v4), some (.inl v5)] [.inl s3, .inl s2, .inl s1, .inr (.inr s0)] h =
  bif ain h.1 s0 100 s1 then
    bif aok h.1 v0 12 then
      bif aok h.1 v0 12 then
        bif decide (((aup h.2 s0.toNat s1.toNat (w32 (s2 + s3))) v0.toNat 66) < 0) then
          ev xs d mm_264 205 [some (.inr (.inr v0)), some (.inl v1), some (.inr (.inl v2)), u3, some (.inl v4), some (.inl v5)] [.inl 0, .inl 1, .inr (.inr ((aup h.2 s0.toNat s1.toNat (w32 (s2 + s3))) v0.toNat 60))] (h.1, aup h.2 s0.toNat s1.toNat (w32 (s2 + s3)))
        else
          ev xs d mm_264 205 [some (.inr (.inr v0)), some (.inl v1), some (.inr (.inl v2)), u3, some (.inl v4), some (.inl v5)] [.inl 1, .inl 1, .inr (.inr ((aup h.2 s0.toNat s1.toNat (w32 (s2 + s3))) v0.toNat 60))] (h.1, aup h.2 s0.toNat s1.toNat (w32 (s2 + s3)))
      else none
    else none
  else none :=
  (aB gP gX xs stp_264 11 d mm_264 186 _ _ h).trans rfl

set_option maxRecDepth 100000 in
set_option maxHeartbeats 4000000 in
theorem q_264_205 (xs : List Int) (d : Nat) (v0 : Int) (v1 : Int) (v2 : Int) (u3 : Option aV) (v4 : Int) (v5 : Int) (s0 : Int) (s1 : Int) (s2 : Int) (h : aH) : ev xs d mm_264 205 [some (.inr (.inr v0)), some (.inl v1), some (.inr (.inl v2)), u3, some (.inl v4), some (.inl v5)] [.inl s2, .inl s1, .inr (.inr s0)] h =
  bif ain h.1 s0 100 s1 then
    bif aok h.1 v0 12 then
      bif aok h.1 v0 12 then
        bif aok h.1 v0 12 && true then
          bI (cl xs d 262 [.inr (.inr v0), .inl 2, .inl ((aup h.2 s0.toNat s1.toNat s2) v0.toNat 66)] (h.1, aup h.2 s0.toNat s1.toNat s2)) (fun x2 h1 =>
          bif aok h1.1 v0 12 then
            bif aok h1.1 v0 12 && true then
              bI (cl xs d 262 [.inr (.inr v0), .inl 0, .inl (h1.2 v0.toNat 67)] h1) (fun x4 h3 =>
              bif aok h3.1 v0 12 then
                bif aok h3.1 v0 12 && true then
                  bI (cl xs d 262 [.inr (.inr v0), .inl 1, .inl (h3.2 v0.toNat 68)] h3) (fun x6 h5 =>
                  bif aok h5.1 v0 12 then
                    bif aok h5.1 v0 12 && true then
                      bI (cl xs d 262 [.inr (.inr v0), .inl 1, .inl (h5.2 v0.toNat 69)] h5) (fun x8 h7 =>
                      bif ain h7.1 ((aup h.2 s0.toNat s1.toNat s2) v0.toNat 60) 100 2 then
                        ev xs d mm_264 279 [some (.inr (.inr v0)), some (.inl v1), some (.inr (.inl v2)), u3, some (.inl v4), some (.inl v5)] [] (h7.1, aup h7.2 ((aup h.2 s0.toNat s1.toNat s2) v0.toNat 60).toNat (2 : Int).toNat (w32 ((w32 ((w32 (x2 + x4)) + x6)) + x8)))
                      else none)
                    else none
                  else none)
                else none
              else none)
            else none
          else none)
        else none
      else none
    else none
  else none :=
  (aB gP gX xs stp_264 30 d mm_264 205 _ _ h).trans rfl

set_option maxRecDepth 100000 in
set_option maxHeartbeats 4000000 in
theorem q_264_264 (xs : List Int) (d : Nat) (v0 : Int) (v1 : Int) (v2 : Int) (u3 : Option aV) (v4 : Int) (v5 : Int) (h : aH) : ev xs d mm_264 264 [some (.inr (.inr v0)), some (.inl v1), some (.inr (.inl v2)), u3, some (.inl v4), some (.inl v5)] [] h =
  bif aok h.1 v0 12 then
    bif ain h.1 (h.2 v0.toNat 64) 101 55 then
      bI (cl xs d 236 [.inr (.inl v2)] h) (fun x2 h1 =>
        bif ain h1.1 (h.2 v0.toNat 64) 101 55 then
          ev xs d mm_264 279 [some (.inr (.inr v0)), some (.inl v1), some (.inr (.inl v2)), u3, some (.inl v4), some (.inl v5)] [] (h1.1, aup h1.2 (h.2 v0.toNat 64).toNat (55 : Int).toNat (w64 ((h.2 (h.2 v0.toNat 64).toNat (55 : Int).toNat) + x2)))
        else none)
    else none
  else none :=
  (aB gP gX xs stp_264 11 d mm_264 264 _ _ h).trans rfl

set_option maxRecDepth 100000 in
set_option maxHeartbeats 4000000 in
theorem q_264_279 (xs : List Int) (d : Nat) (v0 : Int) (v1 : Int) (v2 : Int) (u3 : Option aV) (v4 : Int) (v5 : Int) (h : aH) : ev xs d mm_264 279 [some (.inr (.inr v0)), some (.inl v1), some (.inr (.inl v2)), u3, some (.inl v4), some (.inl v5)] [] h =
  bif aok h.1 v0 12 then
    bif aok h.1 v0 12 then
      bif ain h.1 (h.2 v0.toNat 64) 101 56 then
        bif ain h.1 (h.2 v0.toNat 60) 100 4 then
          bif aok h.1 v0 12 then
            bif aok h.1 v0 12 && true then
              bI (cl xs d 234 [.inr (.inr v0)] (h.1, aup h.2 (h.2 v0.toNat 60).toNat (4 : Int).toNat (ol2i (h.2 (h.2 v0.toNat 64).toNat (56 : Int).toNat)))) (fun x2 h1 =>
              bI (cl xs d 235 [.inl x2] h1) (fun x4 h3 =>
                bif ain h3.1 ((aup h.2 (h.2 v0.toNat 60).toNat (4 : Int).toNat (ol2i (h.2 (h.2 v0.toNat 64).toNat (56 : Int).toNat))) v0.toNat 60) 100 5 then
                  bif aok h3.1 v0 12 && true then
                    bI (cl xs d 261 [.inr (.inr v0)] (h3.1, aup h3.2 ((aup h.2 (h.2 v0.toNat 60).toNat (4 : Int).toNat (ol2i (h.2 (h.2 v0.toNat 64).toNat (56 : Int).toNat))) v0.toNat 60).toNat (5 : Int).toNat x4)) (fun x6 h5 =>
                    bif decide (0 ≤ x6) then
                      bif decide (x6 ≤ 999) then
                        ev xs d mm_264 337 [some (.inr (.inr v0)), some (.inl v1), some (.inr (.inl v2)), u3, some (.inl v4), some (.inl x6)] [.inl x6] h5
                      else
                        ev xs d mm_264 337 [some (.inr (.inr v0)), some (.inl v1), some (.inr (.inl v2)), u3, some (.inl v4), some (.inl x6)] [.inl 999] h5
                    else
                      ev xs d mm_264 337 [some (.inr (.inr v0)), some (.inl v1), some (.inr (.inl v2)), u3, some (.inl v4), some (.inl x6)] [.inl 0] h5)
                  else none
                else none))
            else none
          else none
        else none
      else none
    else none
  else none :=
  (aB gP gX xs stp_264 27 d mm_264 279 _ _ h).trans rfl

set_option maxRecDepth 100000 in
set_option maxHeartbeats 4000000 in
theorem q_264_337 (xs : List Int) (d : Nat) (v0 : Int) (v1 : Int) (v2 : Int) (u3 : Option aV) (v4 : Int) (v5 : Int) (s0 : Int) (h : aH) : ev xs d mm_264 337 [some (.inr (.inr v0)), some (.inl v1), some (.inr (.inl v2)), u3, some (.inl v4), some (.inl v5)] [.inl s0] h =
  bif aok h.1 v0 12 then
    bif ain h.1 (h.2 v0.toNat 64) 101 54 then
      bif ain h.1 (h.2 v0.toNat 64) 101 54 then
        bif aok h.1 v0 12 then
          bif ain h.1 ((aup h.2 (h.2 v0.toNat 64).toNat (54 : Int).toNat (w64 ((h.2 (h.2 v0.toNat 64).toNat (54 : Int).toNat) + s0))) v0.toNat 64) 101 56 then
            bif ain h.1 ((aup h.2 (h.2 v0.toNat 64).toNat (54 : Int).toNat (w64 ((h.2 (h.2 v0.toNat 64).toNat (54 : Int).toNat) + s0))) v0.toNat 64) 101 56 then
              bif aok h.1 v0 12 then
                bif ain h.1 ((aup (aup h.2 (h.2 v0.toNat 64).toNat (54 : Int).toNat (w64 ((h.2 (h.2 v0.toNat 64).toNat (54 : Int).toNat) + s0))) ((aup h.2 (h.2 v0.toNat 64).toNat (54 : Int).toNat (w64 ((h.2 (h.2 v0.toNat 64).toNat (54 : Int).toNat) + s0))) v0.toNat 64).toNat (56 : Int).toNat (w64 (((aup h.2 (h.2 v0.toNat 64).toNat (54 : Int).toNat (w64 ((h.2 (h.2 v0.toNat 64).toNat (54 : Int).toNat) + s0))) ((aup h.2 (h.2 v0.toNat 64).toNat (54 : Int).toNat (w64 ((h.2 (h.2 v0.toNat 64).toNat (54 : Int).toNat) + s0))) v0.toNat 64).toNat (56 : Int).toNat) + ((((1 : Fin 2) : Nat) : Nat) : Int)))) v0.toNat 64) 101 (w32 (10 + v1)) then
                  ev xs d mm_264 373 [some (.inr (.inr v0)), some (.inl v1), some (.inr (.inl v2)), u3, some (.inl v4), some (.inl s0)] [] (h.1, aup (aup (aup h.2 (h.2 v0.toNat 64).toNat (54 : Int).toNat (w64 ((h.2 (h.2 v0.toNat 64).toNat (54 : Int).toNat) + s0))) ((aup h.2 (h.2 v0.toNat 64).toNat (54 : Int).toNat (w64 ((h.2 (h.2 v0.toNat 64).toNat (54 : Int).toNat) + s0))) v0.toNat 64).toNat (56 : Int).toNat (w64 (((aup h.2 (h.2 v0.toNat 64).toNat (54 : Int).toNat (w64 ((h.2 (h.2 v0.toNat 64).toNat (54 : Int).toNat) + s0))) ((aup h.2 (h.2 v0.toNat 64).toNat (54 : Int).toNat (w64 ((h.2 (h.2 v0.toNat 64).toNat (54 : Int).toNat) + s0))) v0.toNat 64).toNat (56 : Int).toNat) + ((((1 : Fin 2) : Nat) : Nat) : Int)))) ((aup (aup h.2 (h.2 v0.toNat 64).toNat (54 : Int).toNat (w64 ((h.2 (h.2 v0.toNat 64).toNat (54 : Int).toNat) + s0))) ((aup h.2 (h.2 v0.toNat 64).toNat (54 : Int).toNat (w64 ((h.2 (h.2 v0.toNat 64).toNat (54 : Int).toNat) + s0))) v0.toNat 64).toNat (56 : Int).toNat (w64 (((aup h.2 (h.2 v0.toNat 64).toNat (54 : Int).toNat (w64 ((h.2 (h.2 v0.toNat 64).toNat (54 : Int).toNat) + s0))) ((aup h.2 (h.2 v0.toNat 64).toNat (54 : Int).toNat (w64 ((h.2 (h.2 v0.toNat 64).toNat (54 : Int).toNat) + s0))) v0.toNat 64).toNat (56 : Int).toNat) + ((((1 : Fin 2) : Nat) : Nat) : Int)))) v0.toNat 64).toNat (w32 (10 + v1)).toNat ((((1 : Fin 2) : Nat) : Nat) : Int))
                else none
              else none
            else none
          else none
        else none
      else none
    else none
  else none :=
  (aB gP gX xs stp_264 26 d mm_264 337 _ _ h).trans rfl

set_option maxRecDepth 100000 in
set_option maxHeartbeats 4000000 in
theorem q_264_373 (xs : List Int) (d : Nat) (v0 : Int) (v1 : Int) (v2 : Int) (u3 : Option aV) (v4 : Int) (v5 : Int) (h : aH) : ev xs d mm_264 373 [some (.inr (.inr v0)), some (.inl v1), some (.inr (.inl v2)), u3, some (.inl v4), some (.inl v5)] [] h =
  bif aok h.1 v0 12 && true then
    bV (cl xs d 258 [.inr (.inr v0)] h) (fun h1 =>
    some (some (.inl v5), h1))
  else none :=
  (aB gP gX xs stp_264 5 d mm_264 373 _ _ h).trans rfl

def stp_265 : List Nat := [0, 5, 66]
set_option maxRecDepth 100000 in
set_option maxHeartbeats 4000000 in
theorem q_265_0 (xs : List Int) (d : Nat) (v0 : Int) (v1 : Int) (v2 : Int) (h : aH) : ev xs d mm_265 0 [some (.inr (.inr v0)), some (.inl v1), some (.inl v2), none, none] [] h =
  ev xs d mm_265 5 [some (.inr (.inr v0)), some (.inl v1), some (.inl v2), some (.inl 0), some (.inl 0)] [] h :=
  (aB gP gX xs stp_265 5 d mm_265 0 _ _ h).trans rfl

set_option maxRecDepth 100000 in
set_option maxHeartbeats 4000000 in
theorem q_265_5 (xs : List Int) (d : Nat) (v0 : Int) (v1 : Int) (v2 : Int) (v3 : Int) (v4 : Int) (h : aH) : ev xs d mm_265 5 [some (.inr (.inr v0)), some (.inl v1), some (.inl v2), some (.inl v3), some (.inl v4)] [] h =
  bif aok h.1 v0 12 then
    bif aok h.1 v0 12 then
      bif ain h.1 (h.2 v0.toNat 41) 100 (w32 ((w32 (5 * (h.2 v0.toNat 18))) + v1)) then
        bif decide ((h.2 (h.2 v0.toNat 41).toNat (w32 ((w32 (5 * (h.2 v0.toNat 18))) + v1)).toNat) ≤ v4) then
          some (some (.inl v3), h)
        else
          bif aok h.1 v0 12 then
            bif aok h.1 v0 12 then
              bif ain h.1 (h.2 v0.toNat 42) 100 (w32 ((w32 (4 * (w32 ((w32 (5 * (h.2 v0.toNat 18))) + v1)))) + v4)) then
                bif decide (¬ (h.2 (h.2 v0.toNat 42).toNat (w32 ((w32 (4 * (w32 ((w32 (5 * (h.2 v0.toNat 18))) + v1)))) + v4)).toNat) = v2) then
                  ev xs d mm_265 66 [some (.inr (.inr v0)), some (.inl v1), some (.inl v2), some (.inl v3), some (.inl v4)] [] h
                else
                  bif aok h.1 v0 12 then
                    bif aok h.1 v0 12 then
                      bif ain h.1 (h.2 v0.toNat 43) 100 (w32 ((w32 (4 * (w32 ((w32 (5 * (h.2 v0.toNat 18))) + v1)))) + v4)) then
                        ev xs d mm_265 66 [some (.inr (.inr v0)), some (.inl v1), some (.inl v2), some (.inl (w32 (v3 + (h.2 (h.2 v0.toNat 43).toNat (w32 ((w32 (4 * (w32 ((w32 (5 * (h.2 v0.toNat 18))) + v1)))) + v4)).toNat)))), some (.inl v4)] [] h
                      else none
                    else none
                  else none
              else none
            else none
          else none
      else none
    else none
  else none :=
  (aB gP gX xs stp_265 43 d mm_265 5 _ _ h).trans rfl

set_option maxRecDepth 100000 in
set_option maxHeartbeats 4000000 in
theorem q_265_66 (xs : List Int) (d : Nat) (v0 : Int) (v1 : Int) (v2 : Int) (v3 : Int) (v4 : Int) (h : aH) : ev xs d mm_265 66 [some (.inr (.inr v0)), some (.inl v1), some (.inl v2), some (.inl v3), some (.inl v4)] [] h =
  ev xs d mm_265 5 [some (.inr (.inr v0)), some (.inl v1), some (.inl v2), some (.inl v3), some (.inl (w32 (v4 + 1)))] [] h :=
  (aB gP gX xs stp_265 3 d mm_265 66 _ _ h).trans rfl

def stp_266 : List Nat := [0, 5, 39]
set_option maxRecDepth 100000 in
set_option maxHeartbeats 4000000 in
theorem q_266_0 (xs : List Int) (d : Nat) (v0 : Int) (v1 : Int) (v2 : Int) (h : aH) : ev xs d mm_266 0 [some (.inr (.inr v0)), some (.inl v1), some (.inl v2), none, none] [] h =
  ev xs d mm_266 5 [some (.inr (.inr v0)), some (.inl v1), some (.inl v2), some (.inl 0), some (.inl 0)] [] h :=
  (aB gP gX xs stp_266 5 d mm_266 0 _ _ h).trans rfl

set_option maxRecDepth 100000 in
set_option maxHeartbeats 4000000 in
theorem q_266_5 (xs : List Int) (d : Nat) (v0 : Int) (v1 : Int) (v2 : Int) (v3 : Int) (v4 : Int) (h : aH) : ev xs d mm_266 5 [some (.inr (.inr v0)), some (.inl v1), some (.inl v2), some (.inl v3), some (.inl v4)] [] h =
  bif aok h.1 v0 12 then
    bif aok h.1 v0 12 then
      bif ain h.1 (h.2 v0.toNat 39) 100 (h.2 v0.toNat 18) then
        bif decide ((h.2 (h.2 v0.toNat 39).toNat (h.2 v0.toNat 18).toNat) ≤ v4) then
          some (some (.inl v3), h)
        else
          bif decide (¬ (oand (oshr v1 v4) 1) = 1) then
            ev xs d mm_266 39 [some (.inr (.inr v0)), some (.inl v1), some (.inl v2), some (.inl v3), some (.inl v4)] [] h
          else
            bif aok h.1 v0 12 && true then
              bI (cl xs d 265 [.inr (.inr v0), .inl v4, .inl v2] h) (fun x2 h1 =>
              ev xs d mm_266 39 [some (.inr (.inr v0)), some (.inl v1), some (.inl v2), some (.inl (w32 (v3 + x2))), some (.inl v4)] [] h1)
            else none
      else none
    else none
  else none :=
  (aB gP gX xs stp_266 22 d mm_266 5 _ _ h).trans rfl

set_option maxRecDepth 100000 in
set_option maxHeartbeats 4000000 in
theorem q_266_39 (xs : List Int) (d : Nat) (v0 : Int) (v1 : Int) (v2 : Int) (v3 : Int) (v4 : Int) (h : aH) : ev xs d mm_266 39 [some (.inr (.inr v0)), some (.inl v1), some (.inl v2), some (.inl v3), some (.inl v4)] [] h =
  ev xs d mm_266 5 [some (.inr (.inr v0)), some (.inl v1), some (.inl v2), some (.inl v3), some (.inl (w32 (v4 + 1)))] [] h :=
  (aB gP gX xs stp_266 3 d mm_266 39 _ _ h).trans rfl

def stp_267 : List Nat := [0, 2]
set_option maxRecDepth 100000 in
set_option maxHeartbeats 4000000 in
theorem q_267_0 (xs : List Int) (d : Nat) (v0 : Int) (v1 : Int) (h : aH) : ev xs d mm_267 0 [some (.inr (.inr v0)), some (.inl v1), none] [] h =
  ev xs d mm_267 2 [some (.inr (.inr v0)), some (.inl v1), some (.inl 0)] [] h :=
  (aB gP gX xs stp_267 3 d mm_267 0 _ _ h).trans rfl

set_option maxRecDepth 100000 in
set_option maxHeartbeats 4000000 in
theorem q_267_2 (xs : List Int) (d : Nat) (v0 : Int) (v1 : Int) (v2 : Int) (h : aH) : ev xs d mm_267 2 [some (.inr (.inr v0)), some (.inl v1), some (.inl v2)] [] h =
  bif decide (24 ≤ v2) then
    some (some (.inl 1), h)
  else
    bif aok h.1 v0 12 && true then
      bI (cl xs d 266 [.inr (.inr v0), .inl v1, .inl v2] h) (fun x2 h1 =>
      bif aok h1.1 v0 12 then
        bif ain h1.1 (h1.2 v0.toNat 64) 101 (w32 (20 + v2)) then
          bif decide ((olcmp x2 (h1.2 (h1.2 v0.toNat 64).toNat (w32 (20 + v2)).toNat)) ≤ 0) then
            ev xs d mm_267 2 [some (.inr (.inr v0)), some (.inl v1), some (.inl (w32 (v2 + 1)))] [] h1
          else
            some (some (.inl 0), h1)
        else none
      else none)
    else none :=
  (aB gP gX xs stp_267 19 d mm_267 2 _ _ h).trans rfl

def stp_268 : List Nat := [0]
set_option maxRecDepth 100000 in
set_option maxHeartbeats 4000000 in
theorem q_268_0 (xs : List Int) (d : Nat) (v0 : Int) (h : aH) : ev xs d mm_268 0 [some (.inr (.inr v0))] [] h =
  bif aok h.1 v0 12 then
    bif aok h.1 v0 12 then
      bif ain h.1 (h.2 v0.toNat 39) 100 (h.2 v0.toNat 18) then
        bif aok h.1 v0 12 then
          bif ain h.1 (h.2 v0.toNat 64) 101 44 then
            some (some (.inl (oand (w32 ((oshl 1 (h.2 (h.2 v0.toNat 39).toNat (h.2 v0.toNat 18).toNat)) - 1)) (oxor (ol2i (h.2 (h.2 v0.toNat 64).toNat (44 : Int).toNat)) (-1)))), h)
          else none
        else none
      else none
    else none
  else none :=
  (aB gP gX xs stp_268 19 d mm_268 0 _ _ h).trans rfl

def stp_269 : List Nat := [0, 51, 55, 123]
set_option maxRecDepth 100000 in
set_option maxHeartbeats 4000000 in
theorem q_269_0 (xs : List Int) (d : Nat) (v0 : Int) (v1 : Int) (h : aH) : ev xs d mm_269 0 [some (.inr (.inr v0)), some (.inl v1), none] [] h =
  bif aok h.1 v0 12 then
    bif aok h.1 v0 12 then
      bif ain h.1 (h.2 v0.toNat 39) 100 (h.2 v0.toNat 18) then
        bI (cl xs d 226 [.inl v1, .inl 0, .inl (w32 ((h.2 (h.2 v0.toNat 39).toNat (h.2 v0.toNat 18).toNat) - 1))] h) (fun x2 h1 =>
          bif decide (¬ x2 = 0) then
            bif aok h1.1 v0 12 && true then
              bV (cl xs d 229 [.inr (.inr v0)] h1) (fun h3 =>
              bif aok h3.1 v0 12 then
                bif ain h3.1 (h3.2 v0.toNat 64) 101 44 then
                  bif decide ((olcmp (oland (olshr (h3.2 (h3.2 v0.toNat 64).toNat (44 : Int).toNat) v1) ((((1 : Fin 2) : Nat) : Nat) : Int)) ((((1 : Fin 2) : Nat) : Nat) : Int)) = 0) then
                    ev xs d mm_269 51 [some (.inr (.inr v0)), some (.inl v1), none] [] h3
                  else
                    bif aok h3.1 v0 12 && true then
                      bI (cl xs d 267 [.inr (.inr v0), .inl (oshl 1 v1)] h3) (fun x5 h4 =>
                      bif decide (¬ x5 = 0) then
                        ev xs d mm_269 55 [some (.inr (.inr v0)), some (.inl v1), some (.inl 0)] [] h4
                      else
                        ev xs d mm_269 51 [some (.inr (.inr v0)), some (.inl v1), none] [] h4)
                    else none
                else none
              else none)
            else none
          else
            some (some (.inl 0), h1))
      else none
    else none
  else none :=
  (aB gP gX xs stp_269 33 d mm_269 0 _ _ h).trans rfl

set_option maxRecDepth 100000 in
set_option maxHeartbeats 4000000 in
theorem q_269_51 (xs : List Int) (d : Nat) (v0 : Int) (v1 : Int) (u2 : Option aV) (h : aH) : ev xs d mm_269 51 [some (.inr (.inr v0)), some (.inl v1), u2] [] h =
  some (some (.inl 0), h) :=
  (aB gP gX xs stp_269 3 d mm_269 51 _ _ h).trans rfl

set_option maxRecDepth 100000 in
set_option maxHeartbeats 4000000 in
theorem q_269_55 (xs : List Int) (d : Nat) (v0 : Int) (v1 : Int) (v2 : Int) (h : aH) : ev xs d mm_269 55 [some (.inr (.inr v0)), some (.inl v1), some (.inl v2)] [] h =
  bif decide (24 ≤ v2) then
    bif aok h.1 v0 12 then
      bif ain h.1 (h.2 v0.toNat 64) 101 44 then
        bif ain h.1 (h.2 v0.toNat 64) 101 44 then
          bif aok h.1 v0 12 then
            bif ain h.1 ((aup h.2 (h.2 v0.toNat 64).toNat (44 : Int).toNat (olor (h.2 (h.2 v0.toNat 64).toNat (44 : Int).toNat) (olshl ((((1 : Fin 2) : Nat) : Nat) : Int) v1))) v0.toNat 64) 101 54 then
              bif aok h.1 v0 12 then
                bif aok h.1 v0 12 then
                  bif ain h.1 ((aup h.2 (h.2 v0.toNat 64).toNat (44 : Int).toNat (olor (h.2 (h.2 v0.toNat 64).toNat (44 : Int).toNat) (olshl ((((1 : Fin 2) : Nat) : Nat) : Int) v1))) v0.toNat 40) 100 (w32 ((w32 (5 * ((aup h.2 (h.2 v0.toNat 64).toNat (44 : Int).toNat (olor (h.2 (h.2 v0.toNat 64).toNat (44 : Int).toNat) (olshl ((((1 : Fin 2) : Nat) : Nat) : Int) v1))) v0.toNat 18))) + v1)) then
                    bif ain h.1 ((aup h.2 (h.2 v0.toNat 64).toNat (44 : Int).toNat (olor (h.2 (h.2 v0.toNat 64).toNat (44 : Int).toNat) (olshl ((((1 : Fin 2) : Nat) : Nat) : Int) v1))) v0.toNat 64) 101 54 then
                      ev xs d mm_269 123 [some (.inr (.inr v0)), some (.inl v1), some (.inl v2)] [] (h.1, aup (aup h.2 (h.2 v0.toNat 64).toNat (44 : Int).toNat (olor (h.2 (h.2 v0.toNat 64).toNat (44 : Int).toNat) (olshl ((((1 : Fin 2) : Nat) : Nat) : Int) v1))) ((aup h.2 (h.2 v0.toNat 64).toNat (44 : Int).toNat (olor (h.2 (h.2 v0.toNat 64).toNat (44 : Int).toNat) (olshl ((((1 : Fin 2) : Nat) : Nat) : Int) v1))) v0.toNat 64).toNat (54 : Int).toNat (w64 (((aup h.2 (h.2 v0.toNat 64).toNat (44 : Int).toNat (olor (h.2 (h.2 v0.toNat 64).toNat (44 : Int).toNat) (olshl ((((1 : Fin 2) : Nat) : Nat) : Int) v1))) ((aup h.2 (h.2 v0.toNat 64).toNat (44 : Int).toNat (olor (h.2 (h.2 v0.toNat 64).toNat (44 : Int).toNat) (olshl ((((1 : Fin 2) : Nat) : Nat) : Int) v1))) v0.toNat 64).toNat (54 : Int).toNat) + ((aup h.2 (h.2 v0.toNat 64).toNat (44 : Int).toNat (olor (h.2 (h.2 v0.toNat 64).toNat (44 : Int).toNat) (olshl ((((1 : Fin 2) : Nat) : Nat) : Int) v1))) ((aup h.2 (h.2 v0.toNat 64).toNat (44 : Int).toNat (olor (h.2 (h.2 v0.toNat 64).toNat (44 : Int).toNat) (olshl ((((1 : Fin 2) : Nat) : Nat) : Int) v1))) v0.toNat 40).toNat (w32 ((w32 (5 * ((aup h.2 (h.2 v0.toNat 64).toNat (44 : Int).toNat (olor (h.2 (h.2 v0.toNat 64).toNat (44 : Int).toNat) (olshl ((((1 : Fin 2) : Nat) : Nat) : Int) v1))) v0.toNat 18))) + v1)).toNat))))
                    else none
                  else none
                else none
              else none
            else none
          else none
        else none
      else none
    else none
  else
    bif aok h.1 v0 12 then
      bif ain h.1 (h.2 v0.toNat 64) 101 (w32 (20 + v2)) then
        bif aok h.1 v0 12 && true then
          bI (cl xs d 265 [.inr (.inr v0), .inl v1, .inl v2] h) (fun x2 h1 =>
          bif ain h1.1 (h.2 v0.toNat 64) 101 (w32 (20 + v2)) then
            ev xs d mm_269 55 [some (.inr (.inr v0)), some (.inl v1), some (.inl (w32 (v2 + 1)))] [] (h1.1, aup h1.2 (h.2 v0.toNat 64).toNat (w32 (20 + v2)).toNat (w64 ((h.2 (h.2 v0.toNat 64).toNat (w32 (20 + v2)).toNat) - x2)))
          else none)
        else none
      else none
    else none :=
  (aB gP gX xs stp_269 31 d mm_269 55 _ _ h).trans rfl

set_option maxRecDepth 100000 in
set_option maxHeartbeats 4000000 in
theorem q_269_123 (xs : List Int) (d : Nat) (v0 : Int) (v1 : Int) (v2 : Int) (h : aH) : ev xs d mm_269 123 [some (.inr (.inr v0)), some (.inl v1), some (.inl v2)] [] h =
  bif aok h.1 v0 12 && true then
    bV (cl xs d 258 [.inr (.inr v0)] h) (fun h1 =>
    some (some (.inl 1), h1))
  else none :=
  (aB gP gX xs stp_269 5 d mm_269 123 _ _ h).trans rfl

def stp_270 : List Nat := [0]
set_option maxRecDepth 100000 in
set_option maxHeartbeats 4000000 in
theorem q_270_0 (xs : List Int) (d : Nat) (v0 : Int) (v1 : Int) (h : aH) : ev xs d mm_270 0 [some (.inl v0), some (.inl v1), none] [] h =
  some (some (.inl (oxor (w32 ((w32 ((oxor v0 v1) * 1103515245)) + 12345)) (oushr (w32 ((w32 ((oxor v0 v1) * 1103515245)) + 12345)) 15))), h) :=
  (aB gP gX xs stp_270 15 d mm_270 0 _ _ h).trans rfl

def stp_271 : List Nat := [0]
set_option maxRecDepth 100000 in
set_option maxHeartbeats 4000000 in
theorem q_271_0 (xs : List Int) (d : Nat) (v0 : Int) (v1 : Int) (v2 : Int) (h : aH) : ev xs d mm_271 0 [some (.inl v0), some (.inl v1), some (.inl v2)] [] h =
  bI (cl xs d 270 [.inl v0, .inl 31] h) (fun x2 h1 =>
    bI (cl xs d 270 [.inl x2, .inl v1] h1) (fun x4 h3 =>
      bif decide (v2 = 0) then none else
      some (some (.inl (orem (oushr x4 1) v2)), h3))) :=
  (aB gP gX xs stp_271 11 d mm_271 0 _ _ h).trans rfl

def stp_272 : List Nat := [0, 15, 46]
set_option maxRecDepth 100000 in
set_option maxHeartbeats 4000000 in
theorem q_272_0 (xs : List Int) (d : Nat) (v0 : Int) (v1 : Int) (h : aH) : ev xs d mm_272 0 [some (.inr (.inr v0)), some (.inl v1), none] [] h =
  bif aok h.1 v0 12 then
    bif ain h.1 (h.2 v0.toNat 64) 101 v1 then
      bif decide (¬ (olcmp (h.2 (h.2 v0.toNat 64).toNat v1.toNat) ((((0 : Fin 2) : Nat) : Nat) : Int)) = 0) then
        ev xs d mm_272 15 [some (.inr (.inr v0)), some (.inl v1), some (.inl 0)] [] h
      else
        some (some (.inl 1), h)
    else none
  else none :=
  (aB gP gX xs stp_272 10 d mm_272 0 _ _ h).trans rfl

set_option maxRecDepth 100000 in
set_option maxHeartbeats 4000000 in
theorem q_272_15 (xs : List Int) (d : Nat) (v0 : Int) (v1 : Int) (v2 : Int) (h : aH) : ev xs d mm_272 15 [some (.inr (.inr v0)), some (.inl v1), some (.inl v2)] [] h =
  bif decide (v1 ≤ v2) then
    some (some (.inl 0), h)
  else
    bif aok h.1 v0 12 && true then
      bI (cl xs d 233 [.inr (.inr v0), .inl v2] h) (fun x2 h1 =>
      bif decide (x2 = 0) then
        ev xs d mm_272 46 [some (.inr (.inr v0)), some (.inl v1), some (.inl v2)] [] h1
      else
        bif aok h1.1 v0 12 then
          bif ain h1.1 (h1.2 v0.toNat 64) 101 v2 then
            bif aok h1.1 v0 12 then
              bif ain h1.1 (h1.2 v0.toNat 64) 101 v1 then
                bif decide (¬ (olcmp (h1.2 (h1.2 v0.toNat 64).toNat v2.toNat) (h1.2 (h1.2 v0.toNat 64).toNat v1.toNat)) = 0) then
                  ev xs d mm_272 46 [some (.inr (.inr v0)), some (.inl v1), some (.inl v2)] [] h1
                else
                  some (some (.inl 1), h1)
              else none
            else none
          else none
        else none)
    else none :=
  (aB gP gX xs stp_272 20 d mm_272 15 _ _ h).trans rfl

set_option maxRecDepth 100000 in
set_option maxHeartbeats 4000000 in
theorem q_272_46 (xs : List Int) (d : Nat) (v0 : Int) (v1 : Int) (v2 : Int) (h : aH) : ev xs d mm_272 46 [some (.inr (.inr v0)), some (.inl v1), some (.inl v2)] [] h =
  ev xs d mm_272 15 [some (.inr (.inr v0)), some (.inl v1), some (.inl (w32 (v2 + 1)))] [] h :=
  (aB gP gX xs stp_272 3 d mm_272 46 _ _ h).trans rfl

def stp_273 : List Nat := [0, 44, 82, 88, 90, 131]
set_option maxRecDepth 100000 in
set_option maxHeartbeats 4000000 in
theorem q_273_0 (xs : List Int) (d : Nat) (v0 : Int) (h : aH) : ev xs d mm_273 0 [some (.inr (.inr v0)), none, none] [] h =
  bif aok h.1 v0 12 then
    bif aok h.1 v0 12 then
      bif ain h.1 (h.2 v0.toNat 23) 100 (h.2 v0.toNat 18) then
        bif decide ((h.2 (h.2 v0.toNat 23).toNat (h.2 v0.toNat 18).toNat) ≤ 0) then
          ev xs d mm_273 88 [some (.inr (.inr v0)), none, none] [] h
        else
          bif aok h.1 v0 12 then
            bif aok h.1 v0 12 then
              bif ain h.1 (h.2 v0.toNat 44) 100 (h.2 v0.toNat 18) then
                bif aok h.1 v0 12 then
                  bif ain h.1 (h.2 v0.toNat 64) 101 53 then
                    bif aok h.1 v0 12 then
                      bif aok h.1 v0 12 then
                        bif ain h.1 (h.2 v0.toNat 23) 100 (h.2 v0.toNat 18) then
                          bI (cl xs d 271 [.inl (h.2 (h.2 v0.toNat 44).toNat (h.2 v0.toNat 18).toNat), .inl (ol2i (h.2 (h.2 v0.toNat 64).toNat (53 : Int).toNat)), .inl (h.2 (h.2 v0.toNat 23).toNat (h.2 v0.toNat 18).toNat)] h) (fun x2 h1 =>
                            ev xs d mm_273 44 [some (.inr (.inr v0)), some (.inl x2), some (.inl 0)] [] h1)
                        else none
                      else none
                    else none
                  else none
                else none
              else none
            else none
          else none
      else none
    else none
  else none :=
  (aB gP gX xs stp_273 26 d mm_273 0 _ _ h).trans rfl

set_option maxRecDepth 100000 in
set_option maxHeartbeats 4000000 in
theorem q_273_44 (xs : List Int) (d : Nat) (v0 : Int) (v1 : Int) (v2 : Int) (h : aH) : ev xs d mm_273 44 [some (.inr (.inr v0)), some (.inl v1), some (.inl v2)] [] h =
  bif aok h.1 v0 12 then
    bif aok h.1 v0 12 then
      bif ain h.1 (h.2 v0.toNat 33) 100 (h.2 v0.toNat 18) then
        bif decide ((h.2 (h.2 v0.toNat 33).toNat (h.2 v0.toNat 18).toNat) ≤ v2) then
          ev xs d mm_273 88 [some (.inr (.inr v0)), some (.inl v1), some (.inl v2)] [] h
        else
          bif aok h.1 v0 12 && true then
            bI (cl xs d 233 [.inr (.inr v0), .inl v2] h) (fun x2 h1 =>
            bif decide (x2 = 0) then
              ev xs d mm_273 82 [some (.inr (.inr v0)), some (.inl v1), some (.inl v2)] [] h1
            else
              bif aok h1.1 v0 12 then
                bif aok h1.1 v0 12 then
                  bif ain h1.1 (h1.2 v0.toNat 64) 101 v2 then
                    bif aok h1.1 v0 12 && true then
                      bJ (cl xs d 239 [.inr (.inr v0), .inl v1, .inr (.inl (h1.2 (h1.2 v0.toNat 64).toNat v2.toNat))] h1) (fun x4 h3 =>
                      bif ain h3.1 (h1.2 v0.toNat 64) 101 v2 then
                        ev xs d mm_273 82 [some (.inr (.inr v0)), some (.inl v1), some (.inl v2)] [] (h3.1, aup h3.2 (h1.2 v0.toNat 64).toNat v2.toNat x4)
                      else none)
                    else none
                  else none
                else none
              else none)
          else none
      else none
    else none
  else none :=
  (aB gP gX xs stp_273 23 d mm_273 44 _ _ h).trans rfl

set_option maxRecDepth 100000 in
set_option maxHeartbeats 4000000 in
theorem q_273_82 (xs : List Int) (d : Nat) (v0 : Int) (v1 : Int) (v2 : Int) (h : aH) : ev xs d mm_273 82 [some (.inr (.inr v0)), some (.inl v1), some (.inl v2)] [] h =
  ev xs d mm_273 44 [some (.inr (.inr v0)), some (.inl v1), some (.inl (w32 (v2 + 1)))] [] h :=
  (aB gP gX xs stp_273 3 d mm_273 82 _ _ h).trans rfl

set_option maxRecDepth 100000 in
set_option maxHeartbeats 4000000 in
theorem q_273_88 (xs : List Int) (d : Nat) (v0 : Int) (u1 : Option aV) (u2 : Option aV) (h : aH) : ev xs d mm_273 88 [some (.inr (.inr v0)), u1, u2] [] h =
  ev xs d mm_273 90 [some (.inr (.inr v0)), some (.inl 0), u2] [] h :=
  (aB gP gX xs stp_273 3 d mm_273 88 _ _ h).trans rfl

set_option maxRecDepth 100000 in
set_option maxHeartbeats 4000000 in
theorem q_273_90 (xs : List Int) (d : Nat) (v0 : Int) (v1 : Int) (u2 : Option aV) (h : aH) : ev xs d mm_273 90 [some (.inr (.inr v0)), some (.inl v1), u2] [] h =
  bif aok h.1 v0 12 then
    bif aok h.1 v0 12 then
      bif ain h.1 (h.2 v0.toNat 33) 100 (h.2 v0.toNat 18) then
        bif decide ((h.2 (h.2 v0.toNat 33).toNat (h.2 v0.toNat 18).toNat) ≤ v1) then
          bif aok h.1 v0 12 then
            bif ain h.1 (h.2 v0.toNat 64) 101 53 then
              bif ain h.1 (h.2 v0.toNat 64) 101 53 then
                some (none, (h.1, aup h.2 (h.2 v0.toNat 64).toNat (53 : Int).toNat (w64 ((h.2 (h.2 v0.toNat 64).toNat (53 : Int).toNat) + ((((1 : Fin 2) : Nat) : Nat) : Int)))))
              else none
            else none
          else none
        else
          bif aok h.1 v0 12 && true then
            bI (cl xs d 233 [.inr (.inr v0), .inl v1] h) (fun x2 h1 =>
            bif decide (x2 = 0) then
              ev xs d mm_273 131 [some (.inr (.inr v0)), some (.inl v1), u2] [] h1
            else
              bif aok h1.1 v0 12 && true then
                bI (cl xs d 272 [.inr (.inr v0), .inl v1] h1) (fun x4 h3 =>
                bif decide (x4 = 0) then
                  ev xs d mm_273 131 [some (.inr (.inr v0)), some (.inl v1), u2] [] h3
                else
                  bif aok h3.1 v0 12 then
                    bif ain h3.1 (h3.2 v0.toNat 64) 101 (w32 (10 + v1)) then
                      ev xs d mm_273 131 [some (.inr (.inr v0)), some (.inl v1), u2] [] (h3.1, aup h3.2 (h3.2 v0.toNat 64).toNat (w32 (10 + v1)).toNat 2)
                    else none
                  else none)
              else none)
          else none
      else none
    else none
  else none :=
  (aB gP gX xs stp_273 23 d mm_273 90 _ _ h).trans rfl

set_option maxRecDepth 100000 in
set_option maxHeartbeats 4000000 in
theorem q_273_131 (xs : List Int) (d : Nat) (v0 : Int) (v1 : Int) (u2 : Option aV) (h : aH) : ev xs d mm_273 131 [some (.inr (.inr v0)), some (.inl v1), u2] [] h =
  ev xs d mm_273 90 [some (.inr (.inr v0)), some (.inl (w32 (v1 + 1))), u2] [] h :=
  (aB gP gX xs stp_273 3 d mm_273 131 _ _ h).trans rfl

