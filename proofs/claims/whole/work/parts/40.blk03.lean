def stp_215 : List Nat := [0, 3]
set_option maxRecDepth 100000 in
set_option maxHeartbeats 4000000 in
theorem q_215_0 (xs : List Int) (d : Nat) (v0 : Int) (v1 : Int) (v2 : Int) (h : aH) : ev xs d mm_215 0 [some (.inr (.inr v0)), some (.inl v1), some (.inr (.inl v2)), none, none] [] h =
  ev xs d mm_215 3 [some (.inr (.inr v0)), some (.inl v1), some (.inr (.inl v2)), none, some (.inl 0)] [] h :=
  (aB gP gX xs stp_215 3 d mm_215 0 _ _ h).trans rfl

set_option maxRecDepth 100000 in
set_option maxHeartbeats 4000000 in
theorem q_215_3 (xs : List Int) (d : Nat) (v0 : Int) (v1 : Int) (v2 : Int) (u3 : Option aV) (v4 : Int) (h : aH) : ev xs d mm_215 3 [some (.inr (.inr v0)), some (.inl v1), some (.inr (.inl v2)), u3, some (.inl v4)] [] h =
  bif aok h.1 v0 12 then
    bif aok h.1 v0 12 then
      bif ain h.1 (h.2 v0.toNat 30) 100 (w32 ((w32 (3 * (h.2 v0.toNat 19))) + v1)) then
        bif decide ((h.2 (h.2 v0.toNat 30).toNat (w32 ((w32 (3 * (h.2 v0.toNat 19))) + v1)).toNat) ≤ v4) then
          some (some (.inl (-1)), h)
        else
          bif aok h.1 v0 12 then
            bif aok h.1 v0 12 then
              bif ain h.1 (h.2 v0.toNat 31) 101 (w32 ((w32 ((w32 (24 * (h.2 v0.toNat 19))) + (w32 (8 * v1)))) + v4)) then
                bif decide (¬ (olcmp (h.2 (h.2 v0.toNat 31).toNat (w32 ((w32 ((w32 (24 * (h.2 v0.toNat 19))) + (w32 (8 * v1)))) + v4)).toNat) v2) = 0) then
                  ev xs d mm_215 3 [some (.inr (.inr v0)), some (.inl v1), some (.inr (.inl v2)), acl u3, some (.inl (w32 (v4 + 1)))] [] h
                else
                  some (some (.inl v4), h)
              else none
            else none
          else none
      else none
    else none
  else none :=
  (aB gP gX xs stp_215 30 d mm_215 3 _ _ h).trans rfl

theorem c_215 (xs : List Int) (d : Nat) (v0 : Int) (v1 : Int) (v2 : Int) (h : aH) : cl xs (d + 1) 215 [.inr (.inr v0), .inl v1, .inr (.inl v2)] h =
  ev xs d mm_215 3 [some (.inr (.inr v0)), some (.inl v1), some (.inr (.inl v2)), none, some (.inl 0)] [] h :=
  (show _ = ev xs d mm_215 0 [some (.inr (.inr v0)), some (.inl v1), some (.inr (.inl v2)), none, none] [] h from rfl).trans (q_215_0 xs d v0 v1 v2 h)
def stp_216 : List Nat := [0, 64, 119]
set_option maxRecDepth 100000 in
set_option maxHeartbeats 4000000 in
theorem q_216_0 (xs : List Int) (d : Nat) (v0 : Int) (v1 : Int) (h : aH) : ev xs d mm_216 0 [some (.inr (.inr v0)), some (.inl v1), none, none] [] h =
  bif aok h.1 v0 12 then
    bif aok h.1 v0 12 then
      bif aok h.1 v0 12 then
        bif ain h.1 (h.2 v0.toNat 30) 100 (w32 ((w32 (3 * (h.2 v0.toNat 19))) + v1)) then
          bif aok h.1 v0 12 then
            bif aok h.1 v0 12 && true then
              bV (cl xs d 203 [.inr (.inr v0), .inl 1] h) (fun h1 =>
              bif aok h1.1 v0 12 then
                bif decide (¬ (h1.2 v0.toNat 13) = 0) then
                  ev xs d mm_216 64 [some (.inr (.inr v0)), some (.inl v1), some (.inl (w32 ((w32 ((w32 (24 * (h.2 v0.toNat 19))) + (w32 (8 * v1)))) + (h.2 (h.2 v0.toNat 30).toNat (w32 ((w32 (3 * (h.2 v0.toNat 19))) + v1)).toNat)))), some (.inl (h.2 v0.toNat 11))] [] h1
                else
                  bif aok h1.1 v0 12 then
                    bif ain h1.1 (h1.2 v0.toNat 8) 101 (h.2 v0.toNat 11) then
                      bif aok h1.1 v0 12 && true then
                        bI (cl xs d 215 [.inr (.inr v0), .inl v1, .inr (.inl (h1.2 (h1.2 v0.toNat 8).toNat (h.2 v0.toNat 11).toNat))] h1) (fun x3 h2 =>
                        bif decide (x3 < 0) then
                          ev xs d mm_216 64 [some (.inr (.inr v0)), some (.inl v1), some (.inl (w32 ((w32 ((w32 (24 * (h.2 v0.toNat 19))) + (w32 (8 * v1)))) + (h.2 (h.2 v0.toNat 30).toNat (w32 ((w32 (3 * (h.2 v0.toNat 19))) + v1)).toNat)))), some (.inl (h.2 v0.toNat 11))] [] h2
                        else
                          bif aok h2.1 v0 12 && true then
                            bV (cl xs d 201 [.inr (.inr v0), .inl 3, .inl (h.2 v0.toNat 11)] h2) (fun h4 =>
                            ev xs d mm_216 64 [some (.inr (.inr v0)), some (.inl v1), some (.inl (w32 ((w32 ((w32 (24 * (h.2 v0.toNat 19))) + (w32 (8 * v1)))) + (h.2 (h.2 v0.toNat 30).toNat (w32 ((w32 (3 * (h.2 v0.toNat 19))) + v1)).toNat)))), some (.inl (h.2 v0.toNat 11))] [] h4)
                          else none)
                      else none
                    else none
                  else none
              else none)
            else none
          else none
        else none
      else none
    else none
  else none :=
  (aB gP gX xs stp_216 41 d mm_216 0 _ _ h).trans rfl

set_option maxRecDepth 100000 in
set_option maxHeartbeats 4000000 in
theorem q_216_64 (xs : List Int) (d : Nat) (v0 : Int) (v1 : Int) (v2 : Int) (v3 : Int) (h : aH) : ev xs d mm_216 64 [some (.inr (.inr v0)), some (.inl v1), some (.inl v2), some (.inl v3)] [] h =
  bif aok h.1 v0 12 then
    bif aok h.1 v0 12 && true then
      bI (cl xs d 209 [.inr (.inr v0), .inl 1, .inl 9] h) (fun x2 h1 =>
      bif ain h1.1 (h.2 v0.toNat 32) 100 v2 then
        bif aok h1.1 v0 12 && true then
          bV (cl xs d 203 [.inr (.inr v0), .inl 4] (h1.1, aup h1.2 (h.2 v0.toNat 32).toNat v2.toNat x2)) (fun h3 =>
          bif aok h3.1 v0 12 then
            bif decide ((h3.2 v0.toNat 13) ≤ 0) then
              bif aok h3.1 v0 12 then
                bif aok h3.1 v0 12 then
                  bif ain h3.1 (h3.2 v0.toNat 8) 101 v3 then
                    bif ain h3.1 (h3.2 v0.toNat 31) 101 v2 then
                      bif aok h3.1 v0 12 then
                        bif aok h3.1 v0 12 then
                          bif ain h3.1 ((aup h3.2 (h3.2 v0.toNat 31).toNat v2.toNat (h3.2 (h3.2 v0.toNat 8).toNat v3.toNat)) v0.toNat 30) 100 (w32 ((w32 (3 * ((aup h3.2 (h3.2 v0.toNat 31).toNat v2.toNat (h3.2 (h3.2 v0.toNat 8).toNat v3.toNat)) v0.toNat 19))) + v1)) then
                            bif ain h3.1 ((aup h3.2 (h3.2 v0.toNat 31).toNat v2.toNat (h3.2 (h3.2 v0.toNat 8).toNat v3.toNat)) v0.toNat 30) 100 (w32 ((w32 (3 * ((aup h3.2 (h3.2 v0.toNat 31).toNat v2.toNat (h3.2 (h3.2 v0.toNat 8).toNat v3.toNat)) v0.toNat 19))) + v1)) then
                              ev xs d mm_216 119 [some (.inr (.inr v0)), some (.inl v1), some (.inl v2), some (.inl v3)] [] (h3.1, aup (aup h3.2 (h3.2 v0.toNat 31).toNat v2.toNat (h3.2 (h3.2 v0.toNat 8).toNat v3.toNat)) ((aup h3.2 (h3.2 v0.toNat 31).toNat v2.toNat (h3.2 (h3.2 v0.toNat 8).toNat v3.toNat)) v0.toNat 30).toNat (w32 ((w32 (3 * ((aup h3.2 (h3.2 v0.toNat 31).toNat v2.toNat (h3.2 (h3.2 v0.toNat 8).toNat v3.toNat)) v0.toNat 19))) + v1)).toNat (w32 (((aup h3.2 (h3.2 v0.toNat 31).toNat v2.toNat (h3.2 (h3.2 v0.toNat 8).toNat v3.toNat)) ((aup h3.2 (h3.2 v0.toNat 31).toNat v2.toNat (h3.2 (h3.2 v0.toNat 8).toNat v3.toNat)) v0.toNat 30).toNat (w32 ((w32 (3 * ((aup h3.2 (h3.2 v0.toNat 31).toNat v2.toNat (h3.2 (h3.2 v0.toNat 8).toNat v3.toNat)) v0.toNat 19))) + v1)).toNat) + 1)))
                            else none
                          else none
                        else none
                      else none
                    else none
                  else none
                else none
              else none
            else
              some (none, h3)
          else none)
        else none
      else none)
    else none
  else none :=
  (aB gP gX xs stp_216 36 d mm_216 64 _ _ h).trans rfl

set_option maxRecDepth 100000 in
set_option maxHeartbeats 4000000 in
theorem q_216_119 (xs : List Int) (d : Nat) (v0 : Int) (v1 : Int) (v2 : Int) (v3 : Int) (h : aH) : ev xs d mm_216 119 [some (.inr (.inr v0)), some (.inl v1), some (.inl v2), some (.inl v3)] [] h =
  some (none, h) :=
  (aB gP gX xs stp_216 2 d mm_216 119 _ _ h).trans rfl

theorem c_216 (xs : List Int) (d : Nat) (v0 : Int) (v1 : Int) (h : aH) : cl xs (d + 1) 216 [.inr (.inr v0), .inl v1] h =
  bif aok h.1 v0 12 then
    bif aok h.1 v0 12 then
      bif aok h.1 v0 12 then
        bif ain h.1 (h.2 v0.toNat 30) 100 (w32 ((w32 (3 * (h.2 v0.toNat 19))) + v1)) then
          bif aok h.1 v0 12 then
            bif aok h.1 v0 12 && true then
              bV (cl xs d 203 [.inr (.inr v0), .inl 1] h) (fun h1 =>
              bif aok h1.1 v0 12 then
                bif decide (¬ (h1.2 v0.toNat 13) = 0) then
                  ev xs d mm_216 64 [some (.inr (.inr v0)), some (.inl v1), some (.inl (w32 ((w32 ((w32 (24 * (h.2 v0.toNat 19))) + (w32 (8 * v1)))) + (h.2 (h.2 v0.toNat 30).toNat (w32 ((w32 (3 * (h.2 v0.toNat 19))) + v1)).toNat)))), some (.inl (h.2 v0.toNat 11))] [] h1
                else
                  bif aok h1.1 v0 12 then
                    bif ain h1.1 (h1.2 v0.toNat 8) 101 (h.2 v0.toNat 11) then
                      bif aok h1.1 v0 12 && true then
                        bI (cl xs d 215 [.inr (.inr v0), .inl v1, .inr (.inl (h1.2 (h1.2 v0.toNat 8).toNat (h.2 v0.toNat 11).toNat))] h1) (fun x3 h2 =>
                        bif decide (x3 < 0) then
                          ev xs d mm_216 64 [some (.inr (.inr v0)), some (.inl v1), some (.inl (w32 ((w32 ((w32 (24 * (h.2 v0.toNat 19))) + (w32 (8 * v1)))) + (h.2 (h.2 v0.toNat 30).toNat (w32 ((w32 (3 * (h.2 v0.toNat 19))) + v1)).toNat)))), some (.inl (h.2 v0.toNat 11))] [] h2
                        else
                          bif aok h2.1 v0 12 && true then
                            bV (cl xs d 201 [.inr (.inr v0), .inl 3, .inl (h.2 v0.toNat 11)] h2) (fun h4 =>
                            ev xs d mm_216 64 [some (.inr (.inr v0)), some (.inl v1), some (.inl (w32 ((w32 ((w32 (24 * (h.2 v0.toNat 19))) + (w32 (8 * v1)))) + (h.2 (h.2 v0.toNat 30).toNat (w32 ((w32 (3 * (h.2 v0.toNat 19))) + v1)).toNat)))), some (.inl (h.2 v0.toNat 11))] [] h4)
                          else none)
                      else none
                    else none
                  else none
              else none)
            else none
          else none
        else none
      else none
    else none
  else none :=
  (show _ = ev xs d mm_216 0 [some (.inr (.inr v0)), some (.inl v1), none, none] [] h from rfl).trans (q_216_0 xs d v0 v1 h)
def stp_217 : List Nat := [0, 53, 62, 122]
set_option maxRecDepth 100000 in
set_option maxHeartbeats 4000000 in
theorem q_217_0 (xs : List Int) (d : Nat) (v0 : Int) (h : aH) : ev xs d mm_217 0 [some (.inr (.inr v0)), none, none, none] [] h =
  bif aok h.1 v0 12 then
    bif aok h.1 v0 12 then
      bif aok h.1 v0 12 then
        bif ain h.1 (h.2 v0.toNat 35) 100 (h.2 v0.toNat 19) then
          bif aok h.1 v0 12 then
            bif aok h.1 v0 12 && true then
              bV (cl xs d 203 [.inr (.inr v0), .inl 1] h) (fun h1 =>
              bif aok h1.1 v0 12 && true then
                bV (cl xs d 203 [.inr (.inr v0), .inl 1] h1) (fun h2 =>
                bif aok h2.1 v0 12 then
                  bif decide (¬ (h2.2 v0.toNat 13) = 0) then
                    ev xs d mm_217 53 [some (.inr (.inr v0)), some (.inl (w32 ((w32 (8 * (h.2 v0.toNat 19))) + (h.2 (h.2 v0.toNat 35).toNat (h.2 v0.toNat 19).toNat)))), some (.inl (h.2 v0.toNat 11)), none] [.inl 0] h2
                  else
                    bif aok h2.1 v0 12 && true then
                      bI (cl xs d 199 [.inr (.inr v0), .inl 1] h2) (fun x4 h3 =>
                      bif decide (x4 = 0) then
                        ev xs d mm_217 53 [some (.inr (.inr v0)), some (.inl (w32 ((w32 (8 * (h.2 v0.toNat 19))) + (h.2 (h.2 v0.toNat 35).toNat (h.2 v0.toNat 19).toNat)))), some (.inl (h.2 v0.toNat 11)), none] [.inl 0] h3
                      else
                        ev xs d mm_217 53 [some (.inr (.inr v0)), some (.inl (w32 ((w32 (8 * (h.2 v0.toNat 19))) + (h.2 (h.2 v0.toNat 35).toNat (h.2 v0.toNat 19).toNat)))), some (.inl (h.2 v0.toNat 11)), none] [.inl 1] h3)
                    else none
                else none)
              else none)
            else none
          else none
        else none
      else none
    else none
  else none :=
  (aB gP gX xs stp_217 30 d mm_217 0 _ _ h).trans rfl

set_option maxRecDepth 100000 in
set_option maxHeartbeats 4000000 in
theorem q_217_53 (xs : List Int) (d : Nat) (v0 : Int) (v1 : Int) (v2 : Int) (u3 : Option aV) (s0 : Int) (h : aH) : ev xs d mm_217 53 [some (.inr (.inr v0)), some (.inl v1), some (.inl v2), u3] [.inl s0] h =
  bif decide (s0 = 0) then
    ev xs d mm_217 62 [some (.inr (.inr v0)), some (.inl v1), some (.inl v2), some (.inl s0)] [] h
  else
    bif aok h.1 v0 12 && true then
      bV (cl xs d 202 [.inr (.inr v0)] h) (fun h1 =>
      ev xs d mm_217 62 [some (.inr (.inr v0)), some (.inl v1), some (.inl v2), some (.inl s0)] [] h1)
    else none :=
  (aB gP gX xs stp_217 6 d mm_217 53 _ _ h).trans rfl

set_option maxRecDepth 100000 in
set_option maxHeartbeats 4000000 in
theorem q_217_62 (xs : List Int) (d : Nat) (v0 : Int) (v1 : Int) (v2 : Int) (v3 : Int) (h : aH) : ev xs d mm_217 62 [some (.inr (.inr v0)), some (.inl v1), some (.inl v2), some (.inl v3)] [] h =
  bif aok h.1 v0 12 && true then
    bV (cl xs d 203 [.inr (.inr v0), .inl 4] h) (fun h1 =>
    bif aok h1.1 v0 12 then
      bif decide ((h1.2 v0.toNat 13) ≤ 0) then
        bif aok h1.1 v0 12 then
          bif aok h1.1 v0 12 then
            bif ain h1.1 (h1.2 v0.toNat 8) 101 v2 then
              bif ain h1.1 (h1.2 v0.toNat 36) 101 v1 then
                bif aok h1.1 v0 12 then
                  bif aok h1.1 v0 12 then
                    bif ain h1.1 ((aup h1.2 (h1.2 v0.toNat 36).toNat v1.toNat (h1.2 (h1.2 v0.toNat 8).toNat v2.toNat)) v0.toNat 8) 101 (w32 (v2 + 1)) then
                      bif ain h1.1 ((aup h1.2 (h1.2 v0.toNat 36).toNat v1.toNat (h1.2 (h1.2 v0.toNat 8).toNat v2.toNat)) v0.toNat 37) 101 v1 then
                        bif aok h1.1 v0 12 then
                          bif decide (v3 = 0) then
                            ev xs d mm_217 122 [some (.inr (.inr v0)), some (.inl v1), some (.inl v2), some (.inl v3)] [.inr (.inl 0), .inl v1, .inr (.inr ((aup (aup h1.2 (h1.2 v0.toNat 36).toNat v1.toNat (h1.2 (h1.2 v0.toNat 8).toNat v2.toNat)) ((aup h1.2 (h1.2 v0.toNat 36).toNat v1.toNat (h1.2 (h1.2 v0.toNat 8).toNat v2.toNat)) v0.toNat 37).toNat v1.toNat ((aup h1.2 (h1.2 v0.toNat 36).toNat v1.toNat (h1.2 (h1.2 v0.toNat 8).toNat v2.toNat)) ((aup h1.2 (h1.2 v0.toNat 36).toNat v1.toNat (h1.2 (h1.2 v0.toNat 8).toNat v2.toNat)) v0.toNat 8).toNat (w32 (v2 + 1)).toNat)) v0.toNat 38))] (h1.1, aup (aup h1.2 (h1.2 v0.toNat 36).toNat v1.toNat (h1.2 (h1.2 v0.toNat 8).toNat v2.toNat)) ((aup h1.2 (h1.2 v0.toNat 36).toNat v1.toNat (h1.2 (h1.2 v0.toNat 8).toNat v2.toNat)) v0.toNat 37).toNat v1.toNat ((aup h1.2 (h1.2 v0.toNat 36).toNat v1.toNat (h1.2 (h1.2 v0.toNat 8).toNat v2.toNat)) ((aup h1.2 (h1.2 v0.toNat 36).toNat v1.toNat (h1.2 (h1.2 v0.toNat 8).toNat v2.toNat)) v0.toNat 8).toNat (w32 (v2 + 1)).toNat))
                          else
                            bif aok h1.1 v0 12 then
                              bif ain h1.1 ((aup (aup h1.2 (h1.2 v0.toNat 36).toNat v1.toNat (h1.2 (h1.2 v0.toNat 8).toNat v2.toNat)) ((aup h1.2 (h1.2 v0.toNat 36).toNat v1.toNat (h1.2 (h1.2 v0.toNat 8).toNat v2.toNat)) v0.toNat 37).toNat v1.toNat ((aup h1.2 (h1.2 v0.toNat 36).toNat v1.toNat (h1.2 (h1.2 v0.toNat 8).toNat v2.toNat)) ((aup h1.2 (h1.2 v0.toNat 36).toNat v1.toNat (h1.2 (h1.2 v0.toNat 8).toNat v2.toNat)) v0.toNat 8).toNat (w32 (v2 + 1)).toNat)) v0.toNat 8) 101 (w32 (v2 + 2)) then
                                ev xs d mm_217 122 [some (.inr (.inr v0)), some (.inl v1), some (.inl v2), some (.inl v3)] [.inr (.inl ((aup (aup h1.2 (h1.2 v0.toNat 36).toNat v1.toNat (h1.2 (h1.2 v0.toNat 8).toNat v2.toNat)) ((aup h1.2 (h1.2 v0.toNat 36).toNat v1.toNat (h1.2 (h1.2 v0.toNat 8).toNat v2.toNat)) v0.toNat 37).toNat v1.toNat ((aup h1.2 (h1.2 v0.toNat 36).toNat v1.toNat (h1.2 (h1.2 v0.toNat 8).toNat v2.toNat)) ((aup h1.2 (h1.2 v0.toNat 36).toNat v1.toNat (h1.2 (h1.2 v0.toNat 8).toNat v2.toNat)) v0.toNat 8).toNat (w32 (v2 + 1)).toNat)) ((aup (aup h1.2 (h1.2 v0.toNat 36).toNat v1.toNat (h1.2 (h1.2 v0.toNat 8).toNat v2.toNat)) ((aup h1.2 (h1.2 v0.toNat 36).toNat v1.toNat (h1.2 (h1.2 v0.toNat 8).toNat v2.toNat)) v0.toNat 37).toNat v1.toNat ((aup h1.2 (h1.2 v0.toNat 36).toNat v1.toNat (h1.2 (h1.2 v0.toNat 8).toNat v2.toNat)) ((aup h1.2 (h1.2 v0.toNat 36).toNat v1.toNat (h1.2 (h1.2 v0.toNat 8).toNat v2.toNat)) v0.toNat 8).toNat (w32 (v2 + 1)).toNat)) v0.toNat 8).toNat (w32 (v2 + 2)).toNat)), .inl v1, .inr (.inr ((aup (aup h1.2 (h1.2 v0.toNat 36).toNat v1.toNat (h1.2 (h1.2 v0.toNat 8).toNat v2.toNat)) ((aup h1.2 (h1.2 v0.toNat 36).toNat v1.toNat (h1.2 (h1.2 v0.toNat 8).toNat v2.toNat)) v0.toNat 37).toNat v1.toNat ((aup h1.2 (h1.2 v0.toNat 36).toNat v1.toNat (h1.2 (h1.2 v0.toNat 8).toNat v2.toNat)) ((aup h1.2 (h1.2 v0.toNat 36).toNat v1.toNat (h1.2 (h1.2 v0.toNat 8).toNat v2.toNat)) v0.toNat 8).toNat (w32 (v2 + 1)).toNat)) v0.toNat 38))] (h1.1, aup (aup h1.2 (h1.2 v0.toNat 36).toNat v1.toNat (h1.2 (h1.2 v0.toNat 8).toNat v2.toNat)) ((aup h1.2 (h1.2 v0.toNat 36).toNat v1.toNat (h1.2 (h1.2 v0.toNat 8).toNat v2.toNat)) v0.toNat 37).toNat v1.toNat ((aup h1.2 (h1.2 v0.toNat 36).toNat v1.toNat (h1.2 (h1.2 v0.toNat 8).toNat v2.toNat)) ((aup h1.2 (h1.2 v0.toNat 36).toNat v1.toNat (h1.2 (h1.2 v0.toNat 8).toNat v2.toNat)) v0.toNat 8).toNat (w32 (v2 + 1)).toNat))
                              else none
                            else none
                        else none
                      else none
                    else none
                  else none
                else none
              else none
            else none
          else none
        else none
      else
        some (none, h1)
    else none)
  else none :=
  (aB gP gX xs stp_217 37 d mm_217 62 _ _ h).trans rfl

set_option maxRecDepth 100000 in
set_option maxHeartbeats 4000000 in
theorem q_217_122 (xs : List Int) (d : Nat) (v0 : Int) (v1 : Int) (v2 : Int) (v3 : Int) (s0 : Int) (s1 : Int) (s2 : Int) (h : aH) : ev xs d mm_217 122 [some (.inr (.inr v0)), some (.inl v1), some (.inl v2), some (.inl v3)] [.inr (.inl s2), .inl s1, .inr (.inr s0)] h =
  bif ain h.1 s0 101 s1 then
    bif aok h.1 v0 12 then
      bif aok h.1 v0 12 then
        bif ain h.1 ((aup h.2 s0.toNat s1.toNat s2) v0.toNat 35) 100 ((aup h.2 s0.toNat s1.toNat s2) v0.toNat 19) then
          bif ain h.1 ((aup h.2 s0.toNat s1.toNat s2) v0.toNat 35) 100 ((aup h.2 s0.toNat s1.toNat s2) v0.toNat 19) then
            some (none, (h.1, aup (aup h.2 s0.toNat s1.toNat s2) ((aup h.2 s0.toNat s1.toNat s2) v0.toNat 35).toNat ((aup h.2 s0.toNat s1.toNat s2) v0.toNat 19).toNat (w32 (((aup h.2 s0.toNat s1.toNat s2) ((aup h.2 s0.toNat s1.toNat s2) v0.toNat 35).toNat ((aup h.2 s0.toNat s1.toNat s2) v0.toNat 19).toNat) + 1))))
          else none
        else none
      else none
    else none
  else none :=
  (aB gP gX xs stp_217 12 d mm_217 122 _ _ h).trans rfl

theorem c_217 (xs : List Int) (d : Nat) (v0 : Int) (h : aH) : cl xs (d + 1) 217 [.inr (.inr v0)] h =
  bif aok h.1 v0 12 then
    bif aok h.1 v0 12 then
      bif aok h.1 v0 12 then
        bif ain h.1 (h.2 v0.toNat 35) 100 (h.2 v0.toNat 19) then
          bif aok h.1 v0 12 then
            bif aok h.1 v0 12 && true then
              bV (cl xs d 203 [.inr (.inr v0), .inl 1] h) (fun h1 =>
              bif aok h1.1 v0 12 && true then
                bV (cl xs d 203 [.inr (.inr v0), .inl 1] h1) (fun h2 =>
                bif aok h2.1 v0 12 then
                  bif decide (¬ (h2.2 v0.toNat 13) = 0) then
                    ev xs d mm_217 53 [some (.inr (.inr v0)), some (.inl (w32 ((w32 (8 * (h.2 v0.toNat 19))) + (h.2 (h.2 v0.toNat 35).toNat (h.2 v0.toNat 19).toNat)))), some (.inl (h.2 v0.toNat 11)), none] [.inl 0] h2
                  else
                    bif aok h2.1 v0 12 && true then
                      bI (cl xs d 199 [.inr (.inr v0), .inl 1] h2) (fun x4 h3 =>
                      bif decide (x4 = 0) then
                        ev xs d mm_217 53 [some (.inr (.inr v0)), some (.inl (w32 ((w32 (8 * (h.2 v0.toNat 19))) + (h.2 (h.2 v0.toNat 35).toNat (h.2 v0.toNat 19).toNat)))), some (.inl (h.2 v0.toNat 11)), none] [.inl 0] h3
                      else
                        ev xs d mm_217 53 [some (.inr (.inr v0)), some (.inl (w32 ((w32 (8 * (h.2 v0.toNat 19))) + (h.2 (h.2 v0.toNat 35).toNat (h.2 v0.toNat 19).toNat)))), some (.inl (h.2 v0.toNat 11)), none] [.inl 1] h3)
                    else none
                else none)
              else none)
            else none
          else none
        else none
      else none
    else none
  else none :=
  (show _ = ev xs d mm_217 0 [some (.inr (.inr v0)), none, none, none] [] h from rfl).trans (q_217_0 xs d v0 h)
def stp_218 : List Nat := [0, 33, 58, 77, 137, 215]
set_option maxRecDepth 100000 in
set_option maxHeartbeats 4000000 in
theorem q_218_0 (xs : List Int) (d : Nat) (v0 : Int) (h : aH) : ev xs d mm_218 0 [some (.inr (.inr v0)), none, none, none, none, none] [] h =
  bif aok h.1 v0 12 then
    bif aok h.1 v0 12 then
      bif aok h.1 v0 12 then
        bif ain h.1 (h.2 v0.toNat 39) 100 (h.2 v0.toNat 19) then
          bif aok h.1 v0 12 then
            bif aok h.1 v0 12 && true then
              bI (cl xs d 209 [.inr (.inr v0), .inl 0, .inl 999] h) (fun x2 h1 =>
              bif ain h1.1 (h.2 v0.toNat 40) 100 (w32 ((w32 (5 * (h.2 v0.toNat 19))) + (h.2 (h.2 v0.toNat 39).toNat (h.2 v0.toNat 19).toNat))) then
                ev xs d mm_218 33 [some (.inr (.inr v0)), some (.inl (w32 ((w32 (5 * (h.2 v0.toNat 19))) + (h.2 (h.2 v0.toNat 39).toNat (h.2 v0.toNat 19).toNat)))), some (.inl 0), none, none, none] [] (h1.1, aup h1.2 (h.2 v0.toNat 40).toNat (w32 ((w32 (5 * (h.2 v0.toNat 19))) + (h.2 (h.2 v0.toNat 39).toNat (h.2 v0.toNat 19).toNat))).toNat x2)
              else none)
            else none
          else none
        else none
      else none
    else none
  else none :=
  (aB gP gX xs stp_218 22 d mm_218 0 _ _ h).trans rfl

set_option maxRecDepth 100000 in
set_option maxHeartbeats 4000000 in
theorem q_218_33 (xs : List Int) (d : Nat) (v0 : Int) (v1 : Int) (v2 : Int) (u3 : Option aV) (u4 : Option aV) (u5 : Option aV) (h : aH) : ev xs d mm_218 33 [some (.inr (.inr v0)), some (.inl v1), some (.inl v2), u3, u4, u5] [] h =
  bif aok h.1 v0 12 then
    bif decide (¬ (h.2 v0.toNat 13) = 0) then
      ev xs d mm_218 215 [some (.inr (.inr v0)), some (.inl v1), some (.inl v2), u3, u4, u5] [] h
    else
      bif aok h.1 v0 12 && true then
        bI (cl xs d 199 [.inr (.inr v0), .inl 1] h) (fun x2 h1 =>
        bif decide (x2 = 0) then
          ev xs d mm_218 215 [some (.inr (.inr v0)), some (.inl v1), some (.inl v2), u3, u4, u5] [] h1
        else
          bif decide (¬ v2 = 4) then
            ev xs d mm_218 58 [some (.inr (.inr v0)), some (.inl v1), some (.inl v2), u3, u4, u5] [] h1
          else
            bif aok h1.1 v0 12 && true then
              bV (cl xs d 200 [.inr (.inr v0), .inl 2] h1) (fun h3 =>
              ev xs d mm_218 58 [some (.inr (.inr v0)), some (.inl v1), some (.inl v2), u3, u4, u5] [] h3)
            else none)
      else none
  else none :=
  (aB gP gX xs stp_218 14 d mm_218 33 _ _ h).trans rfl

set_option maxRecDepth 100000 in
set_option maxHeartbeats 4000000 in
theorem q_218_58 (xs : List Int) (d : Nat) (v0 : Int) (v1 : Int) (v2 : Int) (u3 : Option aV) (u4 : Option aV) (u5 : Option aV) (h : aH) : ev xs d mm_218 58 [some (.inr (.inr v0)), some (.inl v1), some (.inl v2), u3, u4, u5] [] h =
  bif aok h.1 v0 12 then
    bif decide ((h.2 v0.toNat 13) ≤ 0) then
      bif aok h.1 v0 12 then
        ev xs d mm_218 77 [some (.inr (.inr v0)), some (.inl v1), some (.inl v2), some (.inl (h.2 v0.toNat 11)), some (.inl (-1)), some (.inl 2)] [] h
      else none
    else
      some (none, h)
  else none :=
  (aB gP gX xs stp_218 11 d mm_218 58 _ _ h).trans rfl

set_option maxRecDepth 100000 in
set_option maxHeartbeats 4000000 in
theorem q_218_77 (xs : List Int) (d : Nat) (v0 : Int) (v1 : Int) (v2 : Int) (v3 : Int) (v4 : Int) (v5 : Int) (h : aH) : ev xs d mm_218 77 [some (.inr (.inr v0)), some (.inl v1), some (.inl v2), some (.inl v3), some (.inl v4), some (.inl v5)] [] h =
  bif decide (v5 < 0) then
    bif decide (0 ≤ v4) then
      ev xs d mm_218 137 [some (.inr (.inr v0)), some (.inl v1), some (.inl v2), some (.inl v3), some (.inl v4), some (.inl 0)] [] h
    else
      bif aok h.1 v0 12 && true then
        bV (cl xs d 201 [.inr (.inr v0), .inl 4, .inl v3] h) (fun h1 =>
        ev xs d mm_218 137 [some (.inr (.inr v0)), some (.inl v1), some (.inl v2), some (.inl v3), some (.inl v4), some (.inl 0)] [] h1)
      else none
  else
    bif aok h.1 v0 12 then
      bif ain h.1 (h.2 v0.toNat 8) 101 v3 then
        bif aok h.1 v0 12 && true then
          bI (cl xs d 215 [.inr (.inr v0), .inl v5, .inr (.inl (h.2 (h.2 v0.toNat 8).toNat v3.toNat))] h) (fun x3 h2 =>
          bif decide (x3 < 0) then
            ev xs d mm_218 77 [some (.inr (.inr v0)), some (.inl v1), some (.inl v2), some (.inl v3), some (.inl v4), some (.inl (w32 (v5 + (-1))))] [] h2
          else
            bif aok h2.1 v0 12 then
              bif ain h2.1 (h2.2 v0.toNat 8) 101 v3 then
                bif aok h2.1 v0 12 && true then
                  bI (cl xs d 215 [.inr (.inr v0), .inl v5, .inr (.inl (h2.2 (h2.2 v0.toNat 8).toNat v3.toNat))] h2) (fun x5 h4 =>
                  ev xs d mm_218 77 [some (.inr (.inr v0)), some (.inl v1), some (.inl v2), some (.inl v3), some (.inl (w32 ((w32 (8 * v5)) + x5))), some (.inl (w32 (v5 + (-1))))] [] h4)
                else none
              else none
            else none)
        else none
      else none
    else none :=
  (aB gP gX xs stp_218 25 d mm_218 77 _ _ h).trans rfl

set_option maxRecDepth 100000 in
set_option maxHeartbeats 4000000 in
theorem q_218_137 (xs : List Int) (d : Nat) (v0 : Int) (v1 : Int) (v2 : Int) (v3 : Int) (v4 : Int) (v5 : Int) (h : aH) : ev xs d mm_218 137 [some (.inr (.inr v0)), some (.inl v1), some (.inl v2), some (.inl v3), some (.inl v4), some (.inl v5)] [] h =
  bif decide (v2 ≤ v5) then
    bif aok h.1 v0 12 && true then
      bV (cl xs d 202 [.inr (.inr v0)] h) (fun h1 =>
      bif aok h1.1 v0 12 then
        bif ain h1.1 (h1.2 v0.toNat 42) 100 (w32 ((w32 (4 * v1)) + v2)) then
          bif aok h1.1 v0 12 then
            bif aok h1.1 v0 12 && true then
              bI (cl xs d 209 [.inr (.inr v0), .inl 1, .inl 99] (h1.1, aup h1.2 (h1.2 v0.toNat 42).toNat (w32 ((w32 (4 * v1)) + v2)).toNat v4)) (fun x3 h2 =>
              bif ain h2.1 ((aup h1.2 (h1.2 v0.toNat 42).toNat (w32 ((w32 (4 * v1)) + v2)).toNat v4) v0.toNat 43) 100 (w32 ((w32 (4 * v1)) + v2)) then
                ev xs d mm_218 33 [some (.inr (.inr v0)), some (.inl v1), some (.inl (w32 (v2 + 1))), some (.inl v3), some (.inl v4), some (.inl v5)] [] (h2.1, aup h2.2 ((aup h1.2 (h1.2 v0.toNat 42).toNat (w32 ((w32 (4 * v1)) + v2)).toNat v4) v0.toNat 43).toNat (w32 ((w32 (4 * v1)) + v2)).toNat x3)
              else none)
            else none
          else none
        else none
      else none)
    else none
  else
    bif decide (v4 < 0) then
      ev xs d mm_218 137 [some (.inr (.inr v0)), some (.inl v1), some (.inl v2), some (.inl v3), some (.inl v4), some (.inl (w32 (v5 + 1)))] [] h
    else
      bif aok h.1 v0 12 then
        bif ain h.1 (h.2 v0.toNat 42) 100 (w32 ((w32 (4 * v1)) + v5)) then
          bif decide (¬ (h.2 (h.2 v0.toNat 42).toNat (w32 ((w32 (4 * v1)) + v5)).toNat) = v4) then
            ev xs d mm_218 137 [some (.inr (.inr v0)), some (.inl v1), some (.inl v2), some (.inl v3), some (.inl v4), some (.inl (w32 (v5 + 1)))] [] h
          else
            bif aok h.1 v0 12 && true then
              bV (cl xs d 201 [.inr (.inr v0), .inl 3, .inl v3] h) (fun h4 =>
              ev xs d mm_218 137 [some (.inr (.inr v0)), some (.inl v1), some (.inl v2), some (.inl v3), some (.inl v4), some (.inl (w32 (v5 + 1)))] [] h4)
            else none
        else none
      else none :=
  (aB gP gX xs stp_218 29 d mm_218 137 _ _ h).trans rfl

set_option maxRecDepth 100000 in
set_option maxHeartbeats 4000000 in
theorem q_218_215 (xs : List Int) (d : Nat) (v0 : Int) (v1 : Int) (v2 : Int) (u3 : Option aV) (u4 : Option aV) (u5 : Option aV) (h : aH) : ev xs d mm_218 215 [some (.inr (.inr v0)), some (.inl v1), some (.inl v2), u3, u4, u5] [] h =
  bif aok h.1 v0 12 && true then
    bV (cl xs d 203 [.inr (.inr v0), .inl 4] h) (fun h1 =>
    bif aok h1.1 v0 12 then
      bif ain h1.1 (h1.2 v0.toNat 41) 100 v1 then
        bif aok h1.1 v0 12 then
          bif decide (¬ ((aup h1.2 (h1.2 v0.toNat 41).toNat v1.toNat v2) v0.toNat 13) = 0) then
            some (none, (h1.1, aup h1.2 (h1.2 v0.toNat 41).toNat v1.toNat v2))
          else
            bif aok h1.1 v0 12 then
              bif aok h1.1 v0 12 then
                bif ain h1.1 ((aup h1.2 (h1.2 v0.toNat 41).toNat v1.toNat v2) v0.toNat 39) 100 ((aup h1.2 (h1.2 v0.toNat 41).toNat v1.toNat v2) v0.toNat 19) then
                  bif ain h1.1 ((aup h1.2 (h1.2 v0.toNat 41).toNat v1.toNat v2) v0.toNat 39) 100 ((aup h1.2 (h1.2 v0.toNat 41).toNat v1.toNat v2) v0.toNat 19) then
                    some (none, (h1.1, aup (aup h1.2 (h1.2 v0.toNat 41).toNat v1.toNat v2) ((aup h1.2 (h1.2 v0.toNat 41).toNat v1.toNat v2) v0.toNat 39).toNat ((aup h1.2 (h1.2 v0.toNat 41).toNat v1.toNat v2) v0.toNat 19).toNat (w32 (((aup h1.2 (h1.2 v0.toNat 41).toNat v1.toNat v2) ((aup h1.2 (h1.2 v0.toNat 41).toNat v1.toNat v2) v0.toNat 39).toNat ((aup h1.2 (h1.2 v0.toNat 41).toNat v1.toNat v2) v0.toNat 19).toNat) + 1))))
                  else none
                else none
              else none
            else none
        else none
      else none
    else none)
  else none :=
  (aB gP gX xs stp_218 22 d mm_218 215 _ _ h).trans rfl

theorem c_218 (xs : List Int) (d : Nat) (v0 : Int) (h : aH) : cl xs (d + 1) 218 [.inr (.inr v0)] h =
  bif aok h.1 v0 12 then
    bif aok h.1 v0 12 then
      bif aok h.1 v0 12 then
        bif ain h.1 (h.2 v0.toNat 39) 100 (h.2 v0.toNat 19) then
          bif aok h.1 v0 12 then
            bif aok h.1 v0 12 && true then
              bI (cl xs d 209 [.inr (.inr v0), .inl 0, .inl 999] h) (fun x2 h1 =>
              bif ain h1.1 (h.2 v0.toNat 40) 100 (w32 ((w32 (5 * (h.2 v0.toNat 19))) + (h.2 (h.2 v0.toNat 39).toNat (h.2 v0.toNat 19).toNat))) then
                ev xs d mm_218 33 [some (.inr (.inr v0)), some (.inl (w32 ((w32 (5 * (h.2 v0.toNat 19))) + (h.2 (h.2 v0.toNat 39).toNat (h.2 v0.toNat 19).toNat)))), some (.inl 0), none, none, none] [] (h1.1, aup h1.2 (h.2 v0.toNat 40).toNat (w32 ((w32 (5 * (h.2 v0.toNat 19))) + (h.2 (h.2 v0.toNat 39).toNat (h.2 v0.toNat 19).toNat))).toNat x2)
              else none)
            else none
          else none
        else none
      else none
    else none
  else none :=
  (show _ = ev xs d mm_218 0 [some (.inr (.inr v0)), none, none, none, none, none] [] h from rfl).trans (q_218_0 xs d v0 h)
def stp_219 : List Nat := [0, 12, 38, 99, 110, 129, 179]
set_option maxRecDepth 100000 in
set_option maxHeartbeats 4000000 in
theorem q_219_0 (xs : List Int) (d : Nat) (v0 : Int) (h : aH) : ev xs d mm_219 0 [some (.inr (.inr v0)), none, none] [] h =
  bif aok h.1 v0 12 && true then
    bV (cl xs d 203 [.inr (.inr v0), .inl 5] h) (fun h1 =>
    bif aok h1.1 v0 12 then
      ev xs d mm_219 12 [some (.inr (.inr v0)), some (.inl (h1.2 v0.toNat 47)), some (.inl 0)] [] h1
    else none)
  else none :=
  (aB gP gX xs stp_219 9 d mm_219 0 _ _ h).trans rfl

set_option maxRecDepth 100000 in
set_option maxHeartbeats 4000000 in
theorem q_219_12 (xs : List Int) (d : Nat) (v0 : Int) (v1 : Int) (v2 : Int) (h : aH) : ev xs d mm_219 12 [some (.inr (.inr v0)), some (.inl v1), some (.inl v2)] [] h =
  bif aok h.1 v0 12 then
    bif decide (¬ (h.2 v0.toNat 13) = 0) then
      ev xs d mm_219 129 [some (.inr (.inr v0)), some (.inl v1), some (.inl v2)] [] h
    else
      bif aok h.1 v0 12 && true then
        bI (cl xs d 199 [.inr (.inr v0), .inl 35] h) (fun x2 h1 =>
        bif decide (x2 = 0) then
          ev xs d mm_219 129 [some (.inr (.inr v0)), some (.inl v1), some (.inl v2)] [] h1
        else
          bif decide (¬ v2 = 4) then
            ev xs d mm_219 38 [some (.inr (.inr v0)), some (.inl v1), some (.inl v2)] [] h1
          else
            bif aok h1.1 v0 12 && true then
              bV (cl xs d 200 [.inr (.inr v0), .inl 2] h1) (fun h3 =>
              ev xs d mm_219 38 [some (.inr (.inr v0)), some (.inl v1), some (.inl v2)] [] h3)
            else none)
      else none
  else none :=
  (aB gP gX xs stp_219 14 d mm_219 12 _ _ h).trans rfl

set_option maxRecDepth 100000 in
set_option maxHeartbeats 4000000 in
theorem q_219_38 (xs : List Int) (d : Nat) (v0 : Int) (v1 : Int) (v2 : Int) (h : aH) : ev xs d mm_219 38 [some (.inr (.inr v0)), some (.inl v1), some (.inl v2)] [] h =
  bif aok h.1 v0 12 then
    bif decide ((h.2 v0.toNat 13) ≤ 0) then
      bif aok h.1 v0 12 && true then
        bV (cl xs d 202 [.inr (.inr v0)] h) (fun h1 =>
        bif aok h1.1 v0 12 then
          bif aok h1.1 v0 12 then
            bif ain h1.1 (h1.2 v0.toNat 48) 103 (h1.2 v0.toNat 47) && true then
              bif aok h1.1 v0 12 then
                bif aok h1.1 v0 12 then
                  bif aok h1.1 v0 12 then
                    bif ain h1.1 ((aup h1.2 (h1.2 v0.toNat 48).toNat (h1.2 v0.toNat 47).toNat 1) v0.toNat 49) 100 ((aup h1.2 (h1.2 v0.toNat 48).toNat (h1.2 v0.toNat 47).toNat 1) v0.toNat 47) then
                      bif aok h1.1 v0 12 && true then
                        bV (cl xs d 223 [.inr (.inr v0)] (h1.1, aup (aup h1.2 (h1.2 v0.toNat 48).toNat (h1.2 v0.toNat 47).toNat 1) ((aup h1.2 (h1.2 v0.toNat 48).toNat (h1.2 v0.toNat 47).toNat 1) v0.toNat 49).toNat ((aup h1.2 (h1.2 v0.toNat 48).toNat (h1.2 v0.toNat 47).toNat 1) v0.toNat 47).toNat ((aup h1.2 (h1.2 v0.toNat 48).toNat (h1.2 v0.toNat 47).toNat 1) v0.toNat 53))) (fun h2 =>
                        bif aok h2.1 v0 12 && true then
                          bV (cl xs d 203 [.inr (.inr v0), .inl 13] h2) (fun h3 =>
                          bif aok h3.1 v0 12 then
                            bif aok h3.1 v0 12 then
                              bif aok h3.1 v0 12 then
                                bif ain h3.1 (h3.2 v0.toNat 50) 100 (h3.2 v0.toNat 47) then
                                  ev xs d mm_219 99 [some (.inr (.inr v0)), some (.inl v1), some (.inl (w32 (v2 + 1)))] [] (h3.1, aup h3.2 (h3.2 v0.toNat 50).toNat (h3.2 v0.toNat 47).toNat (h3.2 v0.toNat 53))
                                else none
                              else none
                            else none
                          else none)
                        else none)
                      else none
                    else none
                  else none
                else none
              else none
            else none
          else none
        else none)
      else none
    else
      some (none, h)
  else none :=
  (aB gP gX xs stp_219 32 d mm_219 38 _ _ h).trans rfl

set_option maxRecDepth 100000 in
set_option maxHeartbeats 4000000 in
theorem q_219_99 (xs : List Int) (d : Nat) (v0 : Int) (v1 : Int) (v2 : Int) (h : aH) : ev xs d mm_219 99 [some (.inr (.inr v0)), some (.inl v1), some (.inl v2)] [] h =
  bif aok h.1 v0 12 then
    bif decide (¬ (h.2 v0.toNat 13) = 0) then
      ev xs d mm_219 110 [some (.inr (.inr v0)), some (.inl v1), some (.inl v2)] [] h
    else
      bif aok h.1 v0 12 && true then
        bV (cl xs d 223 [.inr (.inr v0)] h) (fun h1 =>
        ev xs d mm_219 110 [some (.inr (.inr v0)), some (.inl v1), some (.inl v2)] [] h1)
      else none
  else none :=
  (aB gP gX xs stp_219 6 d mm_219 99 _ _ h).trans rfl

set_option maxRecDepth 100000 in
set_option maxHeartbeats 4000000 in
theorem q_219_110 (xs : List Int) (d : Nat) (v0 : Int) (v1 : Int) (v2 : Int) (h : aH) : ev xs d mm_219 110 [some (.inr (.inr v0)), some (.inl v1), some (.inl v2)] [] h =
  bif aok h.1 v0 12 && true then
    bV (cl xs d 203 [.inr (.inr v0), .inl 36] h) (fun h1 =>
    bif aok h1.1 v0 12 && true then
      bV (cl xs d 220 [.inr (.inr v0)] h1) (fun h2 =>
      bif aok h2.1 v0 12 && true then
        bV (cl xs d 203 [.inr (.inr v0), .inl 37] h2) (fun h3 =>
        ev xs d mm_219 12 [some (.inr (.inr v0)), some (.inl v1), some (.inl v2)] [] h3)
      else none)
    else none)
  else none :=
  (aB gP gX xs stp_219 10 d mm_219 110 _ _ h).trans rfl

set_option maxRecDepth 100000 in
set_option maxHeartbeats 4000000 in
theorem q_219_129 (xs : List Int) (d : Nat) (v0 : Int) (v1 : Int) (v2 : Int) (h : aH) : ev xs d mm_219 129 [some (.inr (.inr v0)), some (.inl v1), some (.inl v2)] [] h =
  bif aok h.1 v0 12 then
    bif aok h.1 v0 12 then
      bif ain h.1 (h.2 v0.toNat 48) 103 (h.2 v0.toNat 47) && true then
        bif aok h.1 v0 12 && true then
          bV (cl xs d 220 [.inr (.inr v0)] (h.1, aup h.2 (h.2 v0.toNat 48).toNat (h.2 v0.toNat 47).toNat 0)) (fun h1 =>
          bif aok h1.1 v0 12 && true then
            bV (cl xs d 203 [.inr (.inr v0), .inl 4] h1) (fun h2 =>
            bif aok h2.1 v0 12 then
              bif decide ((h2.2 v0.toNat 13) ≤ 0) then
                bif aok h2.1 v0 12 then
                  bif aok h2.1 v0 12 then
                    bif ain h2.1 (h2.2 v0.toNat 45) 100 (h2.2 v0.toNat 19) then
                      bif aok h2.1 v0 12 then
                        bif aok h2.1 v0 12 then
                          bif aok h2.1 v0 12 then
                            bif ain h2.1 ((aup h2.2 (h2.2 v0.toNat 45).toNat (h2.2 v0.toNat 19).toNat v1) v0.toNat 46) 100 ((aup h2.2 (h2.2 v0.toNat 45).toNat (h2.2 v0.toNat 19).toNat v1) v0.toNat 19) then
                              ev xs d mm_219 179 [some (.inr (.inr v0)), some (.inl v1), some (.inl v2)] [] (h2.1, aup (aup h2.2 (h2.2 v0.toNat 45).toNat (h2.2 v0.toNat 19).toNat v1) ((aup h2.2 (h2.2 v0.toNat 45).toNat (h2.2 v0.toNat 19).toNat v1) v0.toNat 46).toNat ((aup h2.2 (h2.2 v0.toNat 45).toNat (h2.2 v0.toNat 19).toNat v1) v0.toNat 19).toNat ((aup h2.2 (h2.2 v0.toNat 45).toNat (h2.2 v0.toNat 19).toNat v1) v0.toNat 47))
                            else none
                          else none
                        else none
                      else none
                    else none
                  else none
                else none
              else
                some (none, h2)
            else none)
          else none)
        else none
      else none
    else none
  else none :=
  (aB gP gX xs stp_219 28 d mm_219 129 _ _ h).trans rfl

set_option maxRecDepth 100000 in
set_option maxHeartbeats 4000000 in
theorem q_219_179 (xs : List Int) (d : Nat) (v0 : Int) (v1 : Int) (v2 : Int) (h : aH) : ev xs d mm_219 179 [some (.inr (.inr v0)), some (.inl v1), some (.inl v2)] [] h =
  some (none, h) :=
  (aB gP gX xs stp_219 2 d mm_219 179 _ _ h).trans rfl

theorem c_219 (xs : List Int) (d : Nat) (v0 : Int) (h : aH) : cl xs (d + 1) 219 [.inr (.inr v0)] h =
  bif aok h.1 v0 12 && true then
    bV (cl xs d 203 [.inr (.inr v0), .inl 5] h) (fun h1 =>
    bif aok h1.1 v0 12 then
      ev xs d mm_219 12 [some (.inr (.inr v0)), some (.inl (h1.2 v0.toNat 47)), some (.inl 0)] [] h1
    else none)
  else none :=
  (show _ = ev xs d mm_219 0 [some (.inr (.inr v0)), none, none] [] h from rfl).trans (q_219_0 xs d v0 h)
def stp_220 : List Nat := [0, 24]
set_option maxRecDepth 100000 in
set_option maxHeartbeats 4000000 in
theorem q_220_0 (xs : List Int) (d : Nat) (v0 : Int) (h : aH) : ev xs d mm_220 0 [some (.inr (.inr v0))] [] h =
  bif aok h.1 v0 12 then
    bif aok h.1 v0 12 then
      bif aok h.1 v0 12 then
        bif ain h.1 (h.2 v0.toNat 51) 100 (h.2 v0.toNat 47) then
          bif aok h.1 v0 12 then
            bif decide (¬ ((aup h.2 (h.2 v0.toNat 51).toNat (h.2 v0.toNat 47).toNat (h.2 v0.toNat 53)) v0.toNat 13) = 0) then
              ev xs d mm_220 24 [some (.inr (.inr v0))] [] (h.1, aup h.2 (h.2 v0.toNat 51).toNat (h.2 v0.toNat 47).toNat (h.2 v0.toNat 53))
            else
              bif aok h.1 v0 12 && true then
                bV (cl xs d 223 [.inr (.inr v0)] (h.1, aup h.2 (h.2 v0.toNat 51).toNat (h.2 v0.toNat 47).toNat (h.2 v0.toNat 53))) (fun h1 =>
                ev xs d mm_220 24 [some (.inr (.inr v0))] [] h1)
              else none
          else none
        else none
      else none
    else none
  else none :=
  (aB gP gX xs stp_220 13 d mm_220 0 _ _ h).trans rfl

set_option maxRecDepth 100000 in
set_option maxHeartbeats 4000000 in
theorem q_220_24 (xs : List Int) (d : Nat) (v0 : Int) (h : aH) : ev xs d mm_220 24 [some (.inr (.inr v0))] [] h =
  bif aok h.1 v0 12 then
    bif aok h.1 v0 12 then
      bif aok h.1 v0 12 then
        bif ain h.1 (h.2 v0.toNat 52) 100 (h.2 v0.toNat 47) then
          bif aok h.1 v0 12 then
            bif aok h.1 v0 12 then
              some (none, (h.1, aup (aup h.2 (h.2 v0.toNat 52).toNat (h.2 v0.toNat 47).toNat (h.2 v0.toNat 53)) v0.toNat 47 (w32 (((aup h.2 (h.2 v0.toNat 52).toNat (h.2 v0.toNat 47).toNat (h.2 v0.toNat 53)) v0.toNat 47) + 1))))
            else none
          else none
        else none
      else none
    else none
  else none :=
  (aB gP gX xs stp_220 15 d mm_220 24 _ _ h).trans rfl

theorem c_220 (xs : List Int) (d : Nat) (v0 : Int) (h : aH) : cl xs (d + 1) 220 [.inr (.inr v0)] h =
  bif aok h.1 v0 12 then
    bif aok h.1 v0 12 then
      bif aok h.1 v0 12 then
        bif ain h.1 (h.2 v0.toNat 51) 100 (h.2 v0.toNat 47) then
          bif aok h.1 v0 12 then
            bif decide (¬ ((aup h.2 (h.2 v0.toNat 51).toNat (h.2 v0.toNat 47).toNat (h.2 v0.toNat 53)) v0.toNat 13) = 0) then
              ev xs d mm_220 24 [some (.inr (.inr v0))] [] (h.1, aup h.2 (h.2 v0.toNat 51).toNat (h.2 v0.toNat 47).toNat (h.2 v0.toNat 53))
            else
              bif aok h.1 v0 12 && true then
                bV (cl xs d 223 [.inr (.inr v0)] (h.1, aup h.2 (h.2 v0.toNat 51).toNat (h.2 v0.toNat 47).toNat (h.2 v0.toNat 53))) (fun h1 =>
                ev xs d mm_220 24 [some (.inr (.inr v0))] [] h1)
              else none
          else none
        else none
      else none
    else none
  else none :=
  (show _ = ev xs d mm_220 0 [some (.inr (.inr v0))] [] h from rfl).trans (q_220_0 xs d v0 h)
def stp_221 : List Nat := [0, 30]
set_option maxRecDepth 100000 in
set_option maxHeartbeats 4000000 in
theorem q_221_0 (xs : List Int) (d : Nat) (v0 : Int) (v1 : Int) (v2 : Int) (h : aH) : ev xs d mm_221 0 [some (.inr (.inr v0)), some (.inl v1), some (.inl v2)] [] h =
  bif aok h.1 v0 12 then
    bif aok h.1 v0 12 then
      bif ain h.1 (h.2 v0.toNat 54) 100 (h.2 v0.toNat 53) then
        bif aok h.1 v0 12 then
          bif aok h.1 v0 12 then
            bif ain h.1 ((aup h.2 (h.2 v0.toNat 54).toNat (h.2 v0.toNat 53).toNat v1) v0.toNat 55) 100 ((aup h.2 (h.2 v0.toNat 54).toNat (h.2 v0.toNat 53).toNat v1) v0.toNat 53) then
              bif aok h.1 v0 12 then
                bif aok h.1 v0 12 then
                  ev xs d mm_221 30 [some (.inr (.inr v0)), some (.inl v1), some (.inl v2)] [] (h.1, aup (aup (aup h.2 (h.2 v0.toNat 54).toNat (h.2 v0.toNat 53).toNat v1) ((aup h.2 (h.2 v0.toNat 54).toNat (h.2 v0.toNat 53).toNat v1) v0.toNat 55).toNat ((aup h.2 (h.2 v0.toNat 54).toNat (h.2 v0.toNat 53).toNat v1) v0.toNat 53).toNat v2) v0.toNat 53 (w32 (((aup (aup h.2 (h.2 v0.toNat 54).toNat (h.2 v0.toNat 53).toNat v1) ((aup h.2 (h.2 v0.toNat 54).toNat (h.2 v0.toNat 53).toNat v1) v0.toNat 55).toNat ((aup h.2 (h.2 v0.toNat 54).toNat (h.2 v0.toNat 53).toNat v1) v0.toNat 53).toNat v2) v0.toNat 53) + 1)))
                else none
              else none
            else none
          else none
        else none
      else none
    else none
  else none :=
  (aB gP gX xs stp_221 19 d mm_221 0 _ _ h).trans rfl

set_option maxRecDepth 100000 in
set_option maxHeartbeats 4000000 in
theorem q_221_30 (xs : List Int) (d : Nat) (v0 : Int) (v1 : Int) (v2 : Int) (h : aH) : ev xs d mm_221 30 [some (.inr (.inr v0)), some (.inl v1), some (.inl v2)] [] h =
  some (none, h) :=
  (aB gP gX xs stp_221 2 d mm_221 30 _ _ h).trans rfl

theorem c_221 (xs : List Int) (d : Nat) (v0 : Int) (v1 : Int) (v2 : Int) (h : aH) : cl xs (d + 1) 221 [.inr (.inr v0), .inl v1, .inl v2] h =
  bif aok h.1 v0 12 then
    bif aok h.1 v0 12 then
      bif ain h.1 (h.2 v0.toNat 54) 100 (h.2 v0.toNat 53) then
        bif aok h.1 v0 12 then
          bif aok h.1 v0 12 then
            bif ain h.1 ((aup h.2 (h.2 v0.toNat 54).toNat (h.2 v0.toNat 53).toNat v1) v0.toNat 55) 100 ((aup h.2 (h.2 v0.toNat 54).toNat (h.2 v0.toNat 53).toNat v1) v0.toNat 53) then
              bif aok h.1 v0 12 then
                bif aok h.1 v0 12 then
                  ev xs d mm_221 30 [some (.inr (.inr v0)), some (.inl v1), some (.inl v2)] [] (h.1, aup (aup (aup h.2 (h.2 v0.toNat 54).toNat (h.2 v0.toNat 53).toNat v1) ((aup h.2 (h.2 v0.toNat 54).toNat (h.2 v0.toNat 53).toNat v1) v0.toNat 55).toNat ((aup h.2 (h.2 v0.toNat 54).toNat (h.2 v0.toNat 53).toNat v1) v0.toNat 53).toNat v2) v0.toNat 53 (w32 (((aup (aup h.2 (h.2 v0.toNat 54).toNat (h.2 v0.toNat 53).toNat v1) ((aup h.2 (h.2 v0.toNat 54).toNat (h.2 v0.toNat 53).toNat v1) v0.toNat 55).toNat ((aup h.2 (h.2 v0.toNat 54).toNat (h.2 v0.toNat 53).toNat v1) v0.toNat 53).toNat v2) v0.toNat 53) + 1)))
                else none
              else none
            else none
          else none
        else none
      else none
    else none
  else none :=
  (show _ = ev xs d mm_221 0 [some (.inr (.inr v0)), some (.inl v1), some (.inl v2)] [] h from rfl).trans (q_221_0 xs d v0 v1 v2 h)
def stp_222 : List Nat := [0, 42, 84]
set_option maxRecDepth 100000 in
set_option maxHeartbeats 4000000 in
theorem q_222_0 (xs : List Int) (d : Nat) (v0 : Int) (v1 : Int) (h : aH) : ev xs d mm_222 0 [some (.inr (.inr v0)), some (.inl v1), none] [] h =
  bif aok h.1 v0 12 then
    bif decide ((h.2 v0.toNat 59) ≤ 0) then
      some (none, h)
    else
      bif aok h.1 v0 12 then
        bif aok h.1 v0 12 then
          bif ain h.1 (h.2 v0.toNat 58) 100 (w32 ((h.2 v0.toNat 59) - 1)) then
            bif decide ((h.2 (h.2 v0.toNat 58).toNat (w32 ((h.2 v0.toNat 59) - 1)).toNat) = 6) then
              some (none, h)
            else
              bif decide (v1 = 0) then
                ev xs d mm_222 42 [some (.inr (.inr v0)), some (.inl v1), some (.inl (h.2 (h.2 v0.toNat 58).toNat (w32 ((h.2 v0.toNat 59) - 1)).toNat))] [] h
              else
                bif decide ((h.2 (h.2 v0.toNat 58).toNat (w32 ((h.2 v0.toNat 59) - 1)).toNat) = 8) then
                  some (none, h)
                else
                  bif decide (¬ (h.2 (h.2 v0.toNat 58).toNat (w32 ((h.2 v0.toNat 59) - 1)).toNat) = 9) then
                    ev xs d mm_222 42 [some (.inr (.inr v0)), some (.inl v1), some (.inl (h.2 (h.2 v0.toNat 58).toNat (w32 ((h.2 v0.toNat 59) - 1)).toNat))] [] h
                  else
                    some (none, h)
          else none
        else none
      else none
  else none :=
  (aB gP gX xs stp_222 24 d mm_222 0 _ _ h).trans rfl

set_option maxRecDepth 100000 in
set_option maxHeartbeats 4000000 in
theorem q_222_42 (xs : List Int) (d : Nat) (v0 : Int) (v1 : Int) (v2 : Int) (h : aH) : ev xs d mm_222 42 [some (.inr (.inr v0)), some (.inl v1), some (.inl v2)] [] h =
  bif aok h.1 v0 12 then
    bif aok h.1 v0 12 then
      bif decide (¬ v2 = 8) then
        bif decide (¬ v2 = 9) then
          bif decide (¬ v2 = 10) then
            ev xs d mm_222 84 [some (.inr (.inr v0)), some (.inl v1), some (.inl v2)] [.inl 5, .inr (.inr v0)] (h.1, aup h.2 v0.toNat 59 (w32 ((h.2 v0.toNat 59) - 1)))
          else
            ev xs d mm_222 84 [some (.inr (.inr v0)), some (.inl v1), some (.inl v2)] [.inl 4, .inr (.inr v0)] (h.1, aup h.2 v0.toNat 59 (w32 ((h.2 v0.toNat 59) - 1)))
        else
          ev xs d mm_222 84 [some (.inr (.inr v0)), some (.inl v1), some (.inl v2)] [.inl 3, .inr (.inr v0)] (h.1, aup h.2 v0.toNat 59 (w32 ((h.2 v0.toNat 59) - 1)))
      else
        ev xs d mm_222 84 [some (.inr (.inr v0)), some (.inl v1), some (.inl v2)] [.inl 2, .inr (.inr v0)] (h.1, aup h.2 v0.toNat 59 (w32 ((h.2 v0.toNat 59) - 1)))
    else none
  else none :=
  (aB gP gX xs stp_222 19 d mm_222 42 _ _ h).trans rfl

set_option maxRecDepth 100000 in
set_option maxHeartbeats 4000000 in
theorem q_222_84 (xs : List Int) (d : Nat) (v0 : Int) (v1 : Int) (v2 : Int) (s0 : Int) (s1 : Int) (h : aH) : ev xs d mm_222 84 [some (.inr (.inr v0)), some (.inl v1), some (.inl v2)] [.inl s1, .inr (.inr s0)] h =
  bif aok h.1 s0 12 && true then
    bV (cl xs d 221 [.inr (.inr s0), .inl s1, .inl 0] h) (fun h1 =>
    ev xs d mm_222 0 [some (.inr (.inr v0)), some (.inl v1), some (.inl v2)] [] h1)
  else none :=
  (aB gP gX xs stp_222 4 d mm_222 84 _ _ h).trans rfl

theorem c_222 (xs : List Int) (d : Nat) (v0 : Int) (v1 : Int) (h : aH) : cl xs (d + 1) 222 [.inr (.inr v0), .inl v1] h =
  bif aok h.1 v0 12 then
    bif decide ((h.2 v0.toNat 59) ≤ 0) then
      some (none, h)
    else
      bif aok h.1 v0 12 then
        bif aok h.1 v0 12 then
          bif ain h.1 (h.2 v0.toNat 58) 100 (w32 ((h.2 v0.toNat 59) - 1)) then
            bif decide ((h.2 (h.2 v0.toNat 58).toNat (w32 ((h.2 v0.toNat 59) - 1)).toNat) = 6) then
              some (none, h)
            else
              bif decide (v1 = 0) then
                ev xs d mm_222 42 [some (.inr (.inr v0)), some (.inl v1), some (.inl (h.2 (h.2 v0.toNat 58).toNat (w32 ((h.2 v0.toNat 59) - 1)).toNat))] [] h
              else
                bif decide ((h.2 (h.2 v0.toNat 58).toNat (w32 ((h.2 v0.toNat 59) - 1)).toNat) = 8) then
                  some (none, h)
                else
                  bif decide (¬ (h.2 (h.2 v0.toNat 58).toNat (w32 ((h.2 v0.toNat 59) - 1)).toNat) = 9) then
                    ev xs d mm_222 42 [some (.inr (.inr v0)), some (.inl v1), some (.inl (h.2 (h.2 v0.toNat 58).toNat (w32 ((h.2 v0.toNat 59) - 1)).toNat))] [] h
                  else
                    some (none, h)
          else none
        else none
      else none
  else none :=
  (show _ = ev xs d mm_222 0 [some (.inr (.inr v0)), some (.inl v1), none] [] h from rfl).trans (q_222_0 xs d v0 v1 h)
def stp_223 : List Nat := [0, 12, 23, 46, 81, 96, 145, 186, 204, 234]
set_option maxRecDepth 100000 in
set_option maxHeartbeats 4000000 in
theorem q_223_0 (xs : List Int) (d : Nat) (v0 : Int) (h : aH) : ev xs d mm_223 0 [some (.inr (.inr v0)), none, none] [] h =
  bif aok h.1 v0 12 then
    bif aok h.1 v0 12 then
      ev xs d mm_223 12 [some (.inr (.inr v0)), some (.inl ((aup h.2 v0.toNat 59 0) v0.toNat 12)), some (.inl 1)] [] (h.1, aup h.2 v0.toNat 59 0)
    else none
  else none :=
  (aB gP gX xs stp_223 9 d mm_223 0 _ _ h).trans rfl

set_option maxRecDepth 100000 in
set_option maxHeartbeats 4000000 in
theorem q_223_12 (xs : List Int) (d : Nat) (v0 : Int) (v1 : Int) (v2 : Int) (h : aH) : ev xs d mm_223 12 [some (.inr (.inr v0)), some (.inl v1), some (.inl v2)] [] h =
  bif decide (v2 = 0) then
    some (none, h)
  else
    bif aok h.1 v0 12 then
      bif decide (¬ (h.2 v0.toNat 13) = 0) then
        some (none, h)
      else
        ev xs d mm_223 23 [some (.inr (.inr v0)), some (.inl v1), some (.inl v2)] [] h
    else none :=
  (aB gP gX xs stp_223 7 d mm_223 12 _ _ h).trans rfl

set_option maxRecDepth 100000 in
set_option maxHeartbeats 4000000 in
theorem q_223_23 (xs : List Int) (d : Nat) (v0 : Int) (v1 : Int) (v2 : Int) (h : aH) : ev xs d mm_223 23 [some (.inr (.inr v0)), some (.inl v1), some (.inl v2)] [] h =
  bif aok h.1 v0 12 && true then
    bI (cl xs d 199 [.inr (.inr v0), .inl 6] h) (fun x2 h1 =>
    bif decide (x2 = 0) then
      bif aok h1.1 v0 12 && true then
        bV (cl xs d 224 [.inr (.inr v0)] h1) (fun h3 =>
        bif aok h3.1 v0 12 then
          bif decide ((h3.2 v0.toNat 13) ≤ 0) then
            ev xs d mm_223 96 [some (.inr (.inr v0)), some (.inl v1), some (.inl v2)] [] h3
          else
            some (none, h3)
        else none)
      else none
    else
      bif aok h1.1 v0 12 then
        bif decide (¬ (h1.2 v0.toNat 12) = 6) then
          ev xs d mm_223 46 [some (.inr (.inr v0)), some (.inl v1), some (.inl v2)] [] h1
        else
          bif aok h1.1 v0 12 && true then
            bV (cl xs d 200 [.inr (.inr v0), .inl 2] h1) (fun h4 =>
            ev xs d mm_223 46 [some (.inr (.inr v0)), some (.inl v1), some (.inl v2)] [] h4)
          else none
      else none)
  else none :=
  (aB gP gX xs stp_223 12 d mm_223 23 _ _ h).trans rfl

set_option maxRecDepth 100000 in
set_option maxHeartbeats 4000000 in
theorem q_223_46 (xs : List Int) (d : Nat) (v0 : Int) (v1 : Int) (v2 : Int) (h : aH) : ev xs d mm_223 46 [some (.inr (.inr v0)), some (.inl v1), some (.inl v2)] [] h =
  bif aok h.1 v0 12 then
    bif aok h.1 v0 12 then
      bif aok h.1 v0 12 && true then
        bV (cl xs d 202 [.inr (.inr v0)] (h.1, aup h.2 v0.toNat 12 (w32 ((h.2 v0.toNat 12) + 1)))) (fun h1 =>
        bif aok h1.1 v0 12 then
          bif aok h1.1 v0 12 then
            bif ain h1.1 (h1.2 v0.toNat 58) 100 (h1.2 v0.toNat 59) then
              bif aok h1.1 v0 12 then
                bif aok h1.1 v0 12 then
                  ev xs d mm_223 81 [some (.inr (.inr v0)), some (.inl v1), some (.inl v2)] [] (h1.1, aup (aup h1.2 (h1.2 v0.toNat 58).toNat (h1.2 v0.toNat 59).toNat 6) v0.toNat 59 (w32 (((aup h1.2 (h1.2 v0.toNat 58).toNat (h1.2 v0.toNat 59).toNat 6) v0.toNat 59) + 1)))
                else none
              else none
            else none
          else none
        else none)
      else none
    else none
  else none :=
  (aB gP gX xs stp_223 21 d mm_223 46 _ _ h).trans rfl

set_option maxRecDepth 100000 in
set_option maxHeartbeats 4000000 in
theorem q_223_81 (xs : List Int) (d : Nat) (v0 : Int) (v1 : Int) (v2 : Int) (h : aH) : ev xs d mm_223 81 [some (.inr (.inr v0)), some (.inl v1), some (.inl v2)] [] h =
  ev xs d mm_223 23 [some (.inr (.inr v0)), some (.inl v1), some (.inl v2)] [] h :=
  (aB gP gX xs stp_223 2 d mm_223 81 _ _ h).trans rfl

set_option maxRecDepth 100000 in
set_option maxHeartbeats 4000000 in
theorem q_223_96 (xs : List Int) (d : Nat) (v0 : Int) (v1 : Int) (v2 : Int) (h : aH) : ev xs d mm_223 96 [some (.inr (.inr v0)), some (.inl v1), some (.inl v2)] [] h =
  bif aok h.1 v0 12 && true then
    bI (cl xs d 199 [.inr (.inr v0), .inl 7] h) (fun x2 h1 =>
    bif decide (x2 = 0) then
      ev xs d mm_223 145 [some (.inr (.inr v0)), some (.inl v1), some (.inl v2)] [] h1
    else
      bif aok h1.1 v0 12 then
        bif decide ((h1.2 v0.toNat 12) ≤ v1) then
          ev xs d mm_223 145 [some (.inr (.inr v0)), some (.inl v1), some (.inl v2)] [] h1
        else
          bif aok h1.1 v0 12 && true then
            bV (cl xs d 222 [.inr (.inr v0), .inl 0] h1) (fun h3 =>
            bif aok h3.1 v0 12 then
              bif aok h3.1 v0 12 then
                bif aok h3.1 v0 12 then
                  bif aok h3.1 v0 12 then
                    bif aok h3.1 v0 12 && true then
                      bV (cl xs d 202 [.inr (.inr v0)] (h3.1, aup (aup h3.2 v0.toNat 59 (w32 ((h3.2 v0.toNat 59) - 1))) v0.toNat 12 (w32 (((aup h3.2 v0.toNat 59 (w32 ((h3.2 v0.toNat 59) - 1))) v0.toNat 12) - 1)))) (fun h4 =>
                      ev xs d mm_223 96 [some (.inr (.inr v0)), some (.inl v1), some (.inl v2)] [] h4)
                    else none
                  else none
                else none
              else none
            else none)
          else none
      else none)
  else none :=
  (aB gP gX xs stp_223 27 d mm_223 96 _ _ h).trans rfl

set_option maxRecDepth 100000 in
set_option maxHeartbeats 4000000 in
theorem q_223_145 (xs : List Int) (d : Nat) (v0 : Int) (v1 : Int) (v2 : Int) (h : aH) : ev xs d mm_223 145 [some (.inr (.inr v0)), some (.inl v1), some (.inl v2)] [] h =
  bif aok h.1 v0 12 && true then
    bI (cl xs d 199 [.inr (.inr v0), .inl 8] h) (fun x2 h1 =>
    bif decide (¬ x2 = 0) then
      ev xs d mm_223 186 [some (.inr (.inr v0)), some (.inl v1), some (.inl v2)] [.inl 1] h1
    else
      bif aok h1.1 v0 12 && true then
        bI (cl xs d 199 [.inr (.inr v0), .inl 9] h1) (fun x4 h3 =>
        bif decide (¬ x4 = 0) then
          ev xs d mm_223 186 [some (.inr (.inr v0)), some (.inl v1), some (.inl v2)] [.inl 1] h3
        else
          bif aok h3.1 v0 12 && true then
            bI (cl xs d 199 [.inr (.inr v0), .inl 10] h3) (fun x6 h5 =>
            bif decide (¬ x6 = 0) then
              ev xs d mm_223 186 [some (.inr (.inr v0)), some (.inl v1), some (.inl v2)] [.inl 1] h5
            else
              bif aok h5.1 v0 12 && true then
                bI (cl xs d 199 [.inr (.inr v0), .inl 15] h5) (fun x8 h7 =>
                bif decide (x8 = 0) then
                  ev xs d mm_223 186 [some (.inr (.inr v0)), some (.inl v1), some (.inl v2)] [.inl 0] h7
                else
                  ev xs d mm_223 186 [some (.inr (.inr v0)), some (.inl v1), some (.inl v2)] [.inl 1] h7)
              else none)
          else none)
      else none)
  else none :=
  (aB gP gX xs stp_223 19 d mm_223 145 _ _ h).trans rfl

set_option maxRecDepth 100000 in
set_option maxHeartbeats 4000000 in
theorem q_223_186 (xs : List Int) (d : Nat) (v0 : Int) (v1 : Int) (v2 : Int) (s0 : Int) (h : aH) : ev xs d mm_223 186 [some (.inr (.inr v0)), some (.inl v1), some (.inl v2)] [.inl s0] h =
  bif decide (¬ s0 = 0) then
    bif aok h.1 v0 12 && true then
      bI (cl xs d 199 [.inr (.inr v0), .inl 10] h) (fun x2 h1 =>
      bif decide (¬ x2 = 0) then
        ev xs d mm_223 234 [some (.inr (.inr v0)), some (.inl v1), some (.inl s0)] [.inl 1, .inr (.inr v0)] h1
      else
        bif aok h1.1 v0 12 && true then
          bI (cl xs d 199 [.inr (.inr v0), .inl 15] h1) (fun x4 h3 =>
          bif decide (x4 = 0) then
            ev xs d mm_223 234 [some (.inr (.inr v0)), some (.inl v1), some (.inl s0)] [.inl 0, .inr (.inr v0)] h3
          else
            ev xs d mm_223 234 [some (.inr (.inr v0)), some (.inl v1), some (.inl s0)] [.inl 1, .inr (.inr v0)] h3)
        else none)
    else none
  else
    bif aok h.1 v0 12 then
      bif decide ((h.2 v0.toNat 12) ≤ v1) then
        ev xs d mm_223 204 [some (.inr (.inr v0)), some (.inl v1), some (.inl s0)] [] h
      else
        bif aok h.1 v0 12 && true then
          bV (cl xs d 200 [.inr (.inr v0), .inl 1] h) (fun h5 =>
          ev xs d mm_223 204 [some (.inr (.inr v0)), some (.inl v1), some (.inl s0)] [] h5)
        else none
    else none :=
  (aB gP gX xs stp_223 15 d mm_223 186 _ _ h).trans rfl

set_option maxRecDepth 100000 in
set_option maxHeartbeats 4000000 in
theorem q_223_204 (xs : List Int) (d : Nat) (v0 : Int) (v1 : Int) (v2 : Int) (h : aH) : ev xs d mm_223 204 [some (.inr (.inr v0)), some (.inl v1), some (.inl v2)] [] h =
  bif aok h.1 v0 12 && true then
    bV (cl xs d 222 [.inr (.inr v0), .inl 0] h) (fun h1 =>
    some (none, h1))
  else none :=
  (aB gP gX xs stp_223 5 d mm_223 204 _ _ h).trans rfl

set_option maxRecDepth 100000 in
set_option maxHeartbeats 4000000 in
theorem q_223_234 (xs : List Int) (d : Nat) (v0 : Int) (v1 : Int) (v2 : Int) (s0 : Int) (s1 : Int) (h : aH) : ev xs d mm_223 234 [some (.inr (.inr v0)), some (.inl v1), some (.inl v2)] [.inl s1, .inr (.inr s0)] h =
  bif aok h.1 s0 12 && true then
    bV (cl xs d 222 [.inr (.inr s0), .inl s1] h) (fun h1 =>
    bif aok h1.1 v0 12 then
      bif aok h1.1 v0 12 then
        bif aok h1.1 v0 12 then
          bif aok h1.1 v0 12 then
            bif ain h1.1 (h1.2 v0.toNat 5) 100 (h1.2 v0.toNat 11) then
              bif ain h1.1 (h1.2 v0.toNat 58) 100 (h1.2 v0.toNat 59) then
                bif aok h1.1 v0 12 then
                  bif aok h1.1 v0 12 then
                    bif aok h1.1 v0 12 && true then
                      bV (cl xs d 202 [.inr (.inr v0)] (h1.1, aup (aup h1.2 (h1.2 v0.toNat 58).toNat (h1.2 v0.toNat 59).toNat (h1.2 (h1.2 v0.toNat 5).toNat (h1.2 v0.toNat 11).toNat)) v0.toNat 59 (w32 (((aup h1.2 (h1.2 v0.toNat 58).toNat (h1.2 v0.toNat 59).toNat (h1.2 (h1.2 v0.toNat 5).toNat (h1.2 v0.toNat 11).toNat)) v0.toNat 59) + 1)))) (fun h2 =>
                      ev xs d mm_223 12 [some (.inr (.inr v0)), some (.inl v1), some (.inl v2)] [] h2)
                    else none
                  else none
                else none
              else none
            else none
          else none
        else none
      else none
    else none)
  else none :=
  (aB gP gX xs stp_223 21 d mm_223 234 _ _ h).trans rfl

theorem c_223 (xs : List Int) (d : Nat) (v0 : Int) (h : aH) : cl xs (d + 1) 223 [.inr (.inr v0)] h =
  bif aok h.1 v0 12 then
    bif aok h.1 v0 12 then
      ev xs d mm_223 12 [some (.inr (.inr v0)), some (.inl ((aup h.2 v0.toNat 59 0) v0.toNat 12)), some (.inl 1)] [] (h.1, aup h.2 v0.toNat 59 0)
    else none
  else none :=
  (show _ = ev xs d mm_223 0 [some (.inr (.inr v0)), none, none] [] h from rfl).trans (q_223_0 xs d v0 h)
def stp_224 : List Nat := [0, 88]
set_option maxRecDepth 100000 in
set_option maxHeartbeats 4000000 in
theorem q_224_0 (xs : List Int) (d : Nat) (v0 : Int) (h : aH) : ev xs d mm_224 0 [some (.inr (.inr v0))] [] h =
  bif aok h.1 v0 12 && true then
    bI (cl xs d 199 [.inr (.inr v0), .inl 2] h) (fun x2 h1 =>
    bif decide (x2 = 0) then
      bif aok h1.1 v0 12 then
        bif decide (¬ (h1.2 v0.toNat 13) = 0) then
          ev xs d mm_224 88 [some (.inr (.inr v0))] [] h1
        else
          bif aok h1.1 v0 12 then
            bif aok h1.1 v0 12 then
              bif ain h1.1 (h1.2 v0.toNat 5) 100 (h1.2 v0.toNat 11) then
                bif decide ((h1.2 (h1.2 v0.toNat 5).toNat (h1.2 v0.toNat 11).toNat) < 38) then
                  ev xs d mm_224 88 [some (.inr (.inr v0))] [] h1
                else
                  bif aok h1.1 v0 12 then
                    bif aok h1.1 v0 12 then
                      bif ain h1.1 (h1.2 v0.toNat 5) 100 (h1.2 v0.toNat 11) then
                        bif decide (43 < (h1.2 (h1.2 v0.toNat 5).toNat (h1.2 v0.toNat 11).toNat)) then
                          ev xs d mm_224 88 [some (.inr (.inr v0))] [] h1
                        else
                          bif aok h1.1 v0 12 then
                            bif aok h1.1 v0 12 then
                              bif ain h1.1 (h1.2 v0.toNat 5) 100 (h1.2 v0.toNat 11) then
                                bif aok h1.1 v0 12 && true then
                                  bV (cl xs d 221 [.inr (.inr v0), .inl 1, .inl (w32 ((h1.2 (h1.2 v0.toNat 5).toNat (h1.2 v0.toNat 11).toNat) - 38))] h1) (fun h3 =>
                                  bif aok h3.1 v0 12 && true then
                                    bV (cl xs d 202 [.inr (.inr v0)] h3) (fun h4 =>
                                    some (none, h4))
                                  else none)
                                else none
                              else none
                            else none
                          else none
                      else none
                    else none
                  else none
              else none
            else none
          else none
      else none
    else
      bif aok h1.1 v0 12 then
        bif aok h1.1 v0 12 then
          bif ain h1.1 (h1.2 v0.toNat 7) 100 (h1.2 v0.toNat 11) then
            bif aok h1.1 v0 12 && true then
              bV (cl xs d 221 [.inr (.inr v0), .inl 0, .inl (h1.2 (h1.2 v0.toNat 7).toNat (h1.2 v0.toNat 11).toNat)] h1) (fun h5 =>
              bif aok h5.1 v0 12 && true then
                bV (cl xs d 202 [.inr (.inr v0)] h5) (fun h6 =>
                some (none, h6))
              else none)
            else none
          else none
        else none
      else none)
  else none :=
  (aB gP gX xs stp_224 36 d mm_224 0 _ _ h).trans rfl

set_option maxRecDepth 100000 in
set_option maxHeartbeats 4000000 in
theorem q_224_88 (xs : List Int) (d : Nat) (v0 : Int) (h : aH) : ev xs d mm_224 88 [some (.inr (.inr v0))] [] h =
  bif aok h.1 v0 12 && true then
    bV (cl xs d 200 [.inr (.inr v0), .inl 1] h) (fun h1 =>
    some (none, h1))
  else none :=
  (aB gP gX xs stp_224 5 d mm_224 88 _ _ h).trans rfl

theorem c_224 (xs : List Int) (d : Nat) (v0 : Int) (h : aH) : cl xs (d + 1) 224 [.inr (.inr v0)] h =
  bif aok h.1 v0 12 && true then
    bI (cl xs d 199 [.inr (.inr v0), .inl 2] h) (fun x2 h1 =>
    bif decide (x2 = 0) then
      bif aok h1.1 v0 12 then
        bif decide (¬ (h1.2 v0.toNat 13) = 0) then
          ev xs d mm_224 88 [some (.inr (.inr v0))] [] h1
        else
          bif aok h1.1 v0 12 then
            bif aok h1.1 v0 12 then
              bif ain h1.1 (h1.2 v0.toNat 5) 100 (h1.2 v0.toNat 11) then
                bif decide ((h1.2 (h1.2 v0.toNat 5).toNat (h1.2 v0.toNat 11).toNat) < 38) then
                  ev xs d mm_224 88 [some (.inr (.inr v0))] [] h1
                else
                  bif aok h1.1 v0 12 then
                    bif aok h1.1 v0 12 then
                      bif ain h1.1 (h1.2 v0.toNat 5) 100 (h1.2 v0.toNat 11) then
                        bif decide (43 < (h1.2 (h1.2 v0.toNat 5).toNat (h1.2 v0.toNat 11).toNat)) then
                          ev xs d mm_224 88 [some (.inr (.inr v0))] [] h1
                        else
                          bif aok h1.1 v0 12 then
                            bif aok h1.1 v0 12 then
                              bif ain h1.1 (h1.2 v0.toNat 5) 100 (h1.2 v0.toNat 11) then
                                bif aok h1.1 v0 12 && true then
                                  bV (cl xs d 221 [.inr (.inr v0), .inl 1, .inl (w32 ((h1.2 (h1.2 v0.toNat 5).toNat (h1.2 v0.toNat 11).toNat) - 38))] h1) (fun h3 =>
                                  bif aok h3.1 v0 12 && true then
                                    bV (cl xs d 202 [.inr (.inr v0)] h3) (fun h4 =>
                                    some (none, h4))
                                  else none)
                                else none
                              else none
                            else none
                          else none
                      else none
                    else none
                  else none
              else none
            else none
          else none
      else none
    else
      bif aok h1.1 v0 12 then
        bif aok h1.1 v0 12 then
          bif ain h1.1 (h1.2 v0.toNat 7) 100 (h1.2 v0.toNat 11) then
            bif aok h1.1 v0 12 && true then
              bV (cl xs d 221 [.inr (.inr v0), .inl 0, .inl (h1.2 (h1.2 v0.toNat 7).toNat (h1.2 v0.toNat 11).toNat)] h1) (fun h5 =>
              bif aok h5.1 v0 12 && true then
                bV (cl xs d 202 [.inr (.inr v0)] h5) (fun h6 =>
                some (none, h6))
              else none)
            else none
          else none
        else none
      else none)
  else none :=
  (show _ = ev xs d mm_224 0 [some (.inr (.inr v0))] [] h from rfl).trans (q_224_0 xs d v0 h)
def stp_225 : List Nat := [0, 5, 104]
set_option maxRecDepth 100000 in
set_option maxHeartbeats 4000000 in
theorem q_225_0 (xs : List Int) (d : Nat) (v0 : Int) (v1 : Int) (v2 : Int) (h : aH) : ev xs d mm_225 0 [some (.inr (.inr v0)), some (.inl v1), some (.inl v2), none, none, none, none, none] [] h =
  ev xs d mm_225 5 [some (.inr (.inr v0)), some (.inl v1), some (.inl v2), some (.inl 0), some (.inl v1), none, none, none] [] h :=
  (aB gP gX xs stp_225 5 d mm_225 0 _ _ h).trans rfl

set_option maxRecDepth 100000 in
set_option maxHeartbeats 4000000 in
theorem q_225_5 (xs : List Int) (d : Nat) (v0 : Int) (v1 : Int) (v2 : Int) (v3 : Int) (v4 : Int) (u5 : Option aV) (u6 : Option aV) (u7 : Option aV) (h : aH) : ev xs d mm_225 5 [some (.inr (.inr v0)), some (.inl v1), some (.inl v2), some (.inl v3), some (.inl v4), u5, u6, u7] [] h =
  bif decide (v2 ≤ v4) then
    bif aok h.1 v0 12 then
      bif ain h.1 (h.2 v0.toNat 61) 100 0 then
        some (some (.inl (h.2 (h.2 v0.toNat 61).toNat (0 : Int).toNat)), h)
      else none
    else none
  else
    bif aok h.1 v0 12 then
      bif ain h.1 (h.2 v0.toNat 54) 100 v4 then
        bif decide (2 ≤ (h.2 (h.2 v0.toNat 54).toNat v4.toNat)) then
          bif aok h.1 v0 12 then
            bif ain h.1 (h.2 v0.toNat 61) 100 (w32 ((w32 (v3 + (-1))) - 1)) then
              bif aok h.1 v0 12 then
                bif ain h.1 (h.2 v0.toNat 61) 100 (w32 (v3 + (-1))) then
                  bif decide (¬ (h.2 (h.2 v0.toNat 54).toNat v4.toNat) = 5) then
                    ev xs d mm_225 104 [some (.inr (.inr v0)), some (.inl v1), some (.inl v2), some (.inl (w32 (v3 + (-1)))), some (.inl v4), some (.inl (h.2 (h.2 v0.toNat 54).toNat v4.toNat)), some (.inl (h.2 (h.2 v0.toNat 61).toNat (w32 ((w32 (v3 + (-1))) - 1)).toNat)), some (.inl (h.2 (h.2 v0.toNat 61).toNat (w32 (v3 + (-1))).toNat))] [] h
                  else
                    bif decide (¬ (h.2 (h.2 v0.toNat 61).toNat (w32 (v3 + (-1))).toNat) = 0) then
                      ev xs d mm_225 104 [some (.inr (.inr v0)), some (.inl v1), some (.inl v2), some (.inl (w32 (v3 + (-1)))), some (.inl v4), some (.inl (h.2 (h.2 v0.toNat 54).toNat v4.toNat)), some (.inl (h.2 (h.2 v0.toNat 61).toNat (w32 ((w32 (v3 + (-1))) - 1)).toNat)), some (.inl (h.2 (h.2 v0.toNat 61).toNat (w32 (v3 + (-1))).toNat))] [] h
                    else
                      bif aok h.1 v0 12 && true then
                        some (some (.inl 0), (h.1, aup h.2 v0.toNat 62 1))
                      else none
                else none
              else none
            else none
          else none
        else
          bif aok h.1 v0 12 then
            bif decide (¬ (h.2 (h.2 v0.toNat 54).toNat v4.toNat) = 0) then
              bif aok h.1 v0 12 then
                bif aok h.1 v0 12 then
                  bif ain h.1 (h.2 v0.toNat 55) 100 v4 then
                    bif ain h.1 (h.2 v0.toNat 60) 100 (h.2 (h.2 v0.toNat 55).toNat v4.toNat) then
                      bif ain h.1 (h.2 v0.toNat 61) 100 v3 then
                        ev xs d mm_225 5 [some (.inr (.inr v0)), some (.inl v1), some (.inl v2), some (.inl (w32 (v3 + 1))), some (.inl (w32 (v4 + 1))), some (.inl (h.2 (h.2 v0.toNat 54).toNat v4.toNat)), u6, u7] [] (h.1, aup h.2 (h.2 v0.toNat 61).toNat v3.toNat (h.2 (h.2 v0.toNat 60).toNat (h.2 (h.2 v0.toNat 55).toNat v4.toNat).toNat))
                      else none
                    else none
                  else none
                else none
              else none
            else
              bif aok h.1 v0 12 then
                bif ain h.1 (h.2 v0.toNat 55) 100 v4 then
                  bif ain h.1 (h.2 v0.toNat 61) 100 v3 then
                    ev xs d mm_225 5 [some (.inr (.inr v0)), some (.inl v1), some (.inl v2), some (.inl (w32 (v3 + 1))), some (.inl (w32 (v4 + 1))), some (.inl (h.2 (h.2 v0.toNat 54).toNat v4.toNat)), u6, u7] [] (h.1, aup h.2 (h.2 v0.toNat 61).toNat v3.toNat (h.2 (h.2 v0.toNat 55).toNat v4.toNat))
                  else none
                else none
              else none
          else none
      else none
    else none :=
  (aB gP gX xs stp_225 35 d mm_225 5 _ _ h).trans rfl

set_option maxRecDepth 100000 in
set_option maxHeartbeats 4000000 in
theorem q_225_104 (xs : List Int) (d : Nat) (v0 : Int) (v1 : Int) (v2 : Int) (v3 : Int) (v4 : Int) (v5 : Int) (v6 : Int) (v7 : Int) (h : aH) : ev xs d mm_225 104 [some (.inr (.inr v0)), some (.inl v1), some (.inl v2), some (.inl v3), some (.inl v4), some (.inl v5), some (.inl v6), some (.inl v7)] [] h =
  bif aok h.1 v0 12 then
    bif decide (¬ v5 = 2) then
      bif decide (¬ v5 = 3) then
        bif decide (¬ v5 = 4) then
          bif decide (v7 = 0) then none else
          bif ain h.1 (h.2 v0.toNat 61) 100 (w32 (v3 - 1)) then
            ev xs d mm_225 5 [some (.inr (.inr v0)), some (.inl v1), some (.inl v2), some (.inl v3), some (.inl (w32 (v4 + 1))), some (.inl v5), some (.inl v6), some (.inl v7)] [] (h.1, aup h.2 (h.2 v0.toNat 61).toNat (w32 (v3 - 1)).toNat (odiv v6 v7))
          else none
        else
          bif ain h.1 (h.2 v0.toNat 61) 100 (w32 (v3 - 1)) then
            ev xs d mm_225 5 [some (.inr (.inr v0)), some (.inl v1), some (.inl v2), some (.inl v3), some (.inl (w32 (v4 + 1))), some (.inl v5), some (.inl v6), some (.inl v7)] [] (h.1, aup h.2 (h.2 v0.toNat 61).toNat (w32 (v3 - 1)).toNat (w32 (v6 * v7)))
          else none
      else
        bif ain h.1 (h.2 v0.toNat 61) 100 (w32 (v3 - 1)) then
          ev xs d mm_225 5 [some (.inr (.inr v0)), some (.inl v1), some (.inl v2), some (.inl v3), some (.inl (w32 (v4 + 1))), some (.inl v5), some (.inl v6), some (.inl v7)] [] (h.1, aup h.2 (h.2 v0.toNat 61).toNat (w32 (v3 - 1)).toNat (w32 (v6 - v7)))
        else none
    else
      bif ain h.1 (h.2 v0.toNat 61) 100 (w32 (v3 - 1)) then
        ev xs d mm_225 5 [some (.inr (.inr v0)), some (.inl v1), some (.inl v2), some (.inl v3), some (.inl (w32 (v4 + 1))), some (.inl v5), some (.inl v6), some (.inl v7)] [] (h.1, aup h.2 (h.2 v0.toNat 61).toNat (w32 (v3 - 1)).toNat (w32 (v6 + v7)))
      else none
  else none :=
  (aB gP gX xs stp_225 22 d mm_225 104 _ _ h).trans rfl

theorem c_225 (xs : List Int) (d : Nat) (v0 : Int) (v1 : Int) (v2 : Int) (h : aH) : cl xs (d + 1) 225 [.inr (.inr v0), .inl v1, .inl v2] h =
  ev xs d mm_225 5 [some (.inr (.inr v0)), some (.inl v1), some (.inl v2), some (.inl 0), some (.inl v1), none, none, none] [] h :=
  (show _ = ev xs d mm_225 0 [some (.inr (.inr v0)), some (.inl v1), some (.inl v2), none, none, none, none, none] [] h from rfl).trans (q_225_0 xs d v0 v1 v2 h)
def stp_226 : List Nat := [0]
set_option maxRecDepth 100000 in
set_option maxHeartbeats 4000000 in
theorem q_226_0 (xs : List Int) (d : Nat) (v0 : Int) (v1 : Int) (v2 : Int) (h : aH) : ev xs d mm_226 0 [some (.inl v0), some (.inl v1), some (.inl v2)] [] h =
  bif decide (v0 < v1) then
    some (some (.inl 0), h)
  else
    bif decide (v2 < v0) then
      some (some (.inl 0), h)
    else
      some (some (.inl 1), h) :=
  (aB gP gX xs stp_226 10 d mm_226 0 _ _ h).trans rfl

theorem c_226 (xs : List Int) (d : Nat) (v0 : Int) (v1 : Int) (v2 : Int) (h : aH) : cl xs (d + 1) 226 [.inl v0, .inl v1, .inl v2] h =
  bif decide (v0 < v1) then
    some (some (.inl 0), h)
  else
    bif decide (v2 < v0) then
      some (some (.inl 0), h)
    else
      some (some (.inl 1), h) :=
  (show _ = ev xs d mm_226 0 [some (.inl v0), some (.inl v1), some (.inl v2)] [] h from rfl).trans (q_226_0 xs d v0 v1 v2 h)
def stp_227 : List Nat := [0, 2, 23, 64]
set_option maxRecDepth 100000 in
set_option maxHeartbeats 4000000 in
theorem q_227_0 (xs : List Int) (d : Nat) (v0 : Int) (h : aH) : ev xs d mm_227 0 [some (.inr (.inr v0)), none] [] h =
  ev xs d mm_227 2 [some (.inr (.inr v0)), some (.inl 0)] [] h :=
  (aB gP gX xs stp_227 3 d mm_227 0 _ _ h).trans rfl

set_option maxRecDepth 100000 in
set_option maxHeartbeats 4000000 in
theorem q_227_2 (xs : List Int) (d : Nat) (v0 : Int) (v1 : Int) (h : aH) : ev xs d mm_227 2 [some (.inr (.inr v0)), some (.inl v1)] [] h =
  bif decide (60 ≤ v1) then
    ev xs d mm_227 23 [some (.inr (.inr v0)), some (.inl 0)] [] h
  else
    bif aok h.1 v0 12 then
      bif ain h.1 (h.2 v0.toNat 64) 101 v1 then
        ev xs d mm_227 2 [some (.inr (.inr v0)), some (.inl (w32 (v1 + 1)))] [] (h.1, aup h.2 (h.2 v0.toNat 64).toNat v1.toNat 0)
      else none
    else none :=
  (aB gP gX xs stp_227 11 d mm_227 2 _ _ h).trans rfl

set_option maxRecDepth 100000 in
set_option maxHeartbeats 4000000 in
theorem q_227_23 (xs : List Int) (d : Nat) (v0 : Int) (v1 : Int) (h : aH) : ev xs d mm_227 23 [some (.inr (.inr v0)), some (.inl v1)] [] h =
  bif aok h.1 v0 12 then
    bif aok h.1 v0 12 then
      bif ain h.1 (h.2 v0.toNat 33) 100 (h.2 v0.toNat 18) then
        bif decide ((h.2 (h.2 v0.toNat 33).toNat (h.2 v0.toNat 18).toNat) ≤ v1) then
          ev xs d mm_227 64 [some (.inr (.inr v0)), some (.inl 0)] [] h
        else
          bif aok h.1 v0 12 then
            bif aok h.1 v0 12 then
              bif aok h.1 v0 12 then
                bif ain h.1 (h.2 v0.toNat 34) 101 (w32 ((w32 (10 * (h.2 v0.toNat 18))) + v1)) then
                  bif ain h.1 (h.2 v0.toNat 64) 101 v1 then
                    ev xs d mm_227 23 [some (.inr (.inr v0)), some (.inl (w32 (v1 + 1)))] [] (h.1, aup h.2 (h.2 v0.toNat 64).toNat v1.toNat (h.2 (h.2 v0.toNat 34).toNat (w32 ((w32 (10 * (h.2 v0.toNat 18))) + v1)).toNat))
                  else none
                else none
              else none
            else none
          else none
      else none
    else none
  else none :=
  (aB gP gX xs stp_227 23 d mm_227 23 _ _ h).trans rfl

set_option maxRecDepth 100000 in
set_option maxHeartbeats 4000000 in
theorem q_227_64 (xs : List Int) (d : Nat) (v0 : Int) (v1 : Int) (h : aH) : ev xs d mm_227 64 [some (.inr (.inr v0)), some (.inl v1)] [] h =
  bif decide (7 ≤ v1) then
    bif aok h.1 v0 12 then
      bif aok h.1 v0 12 then
        bif aok h.1 v0 12 then
          bif ain h.1 (h.2 v0.toNat 23) 100 (h.2 v0.toNat 18) then
            bif ain h.1 (h.2 v0.toNat 64) 101 52 then
              some (none, (h.1, aup h.2 (h.2 v0.toNat 64).toNat (52 : Int).toNat (w32 ((oshl 1 (h.2 (h.2 v0.toNat 23).toNat (h.2 v0.toNat 18).toNat)) - 1))))
            else none
          else none
        else none
      else none
    else none
  else
    bif aok h.1 v0 12 then
      bif ain h.1 (h.2 v0.toNat 64) 101 (w32 (45 + v1)) then
        ev xs d mm_227 64 [some (.inr (.inr v0)), some (.inl (w32 (v1 + 1)))] [] (h.1, aup h.2 (h.2 v0.toNat 64).toNat (w32 (45 + v1)).toNat v1)
      else none
    else none :=
  (aB gP gX xs stp_227 19 d mm_227 64 _ _ h).trans rfl

theorem c_227 (xs : List Int) (d : Nat) (v0 : Int) (h : aH) : cl xs (d + 1) 227 [.inr (.inr v0)] h =
  ev xs d mm_227 2 [some (.inr (.inr v0)), some (.inl 0)] [] h :=
  (show _ = ev xs d mm_227 0 [some (.inr (.inr v0)), none] [] h from rfl).trans (q_227_0 xs d v0 h)
def stp_228 : List Nat := [0, 2]
set_option maxRecDepth 100000 in
set_option maxHeartbeats 4000000 in
theorem q_228_0 (xs : List Int) (d : Nat) (v0 : Int) (h : aH) : ev xs d mm_228 0 [some (.inr (.inr v0)), none] [] h =
  ev xs d mm_228 2 [some (.inr (.inr v0)), some (.inl 0)] [] h :=
  (aB gP gX xs stp_228 3 d mm_228 0 _ _ h).trans rfl

set_option maxRecDepth 100000 in
set_option maxHeartbeats 4000000 in
theorem q_228_2 (xs : List Int) (d : Nat) (v0 : Int) (v1 : Int) (h : aH) : ev xs d mm_228 2 [some (.inr (.inr v0)), some (.inl v1)] [] h =
  bif decide (60 ≤ v1) then
    some (none, h)
  else
    bif aok h.1 v0 12 then
      bif aok h.1 v0 12 then
        bif ain h.1 (h.2 v0.toNat 64) 101 v1 then
          bif ain h.1 (h.2 v0.toNat 63) 101 v1 then
            ev xs d mm_228 2 [some (.inr (.inr v0)), some (.inl (w32 (v1 + 1)))] [] (h.1, aup h.2 (h.2 v0.toNat 63).toNat v1.toNat (h.2 (h.2 v0.toNat 64).toNat v1.toNat))
          else none
        else none
      else none
    else none :=
  (aB gP gX xs stp_228 14 d mm_228 2 _ _ h).trans rfl

theorem c_228 (xs : List Int) (d : Nat) (v0 : Int) (h : aH) : cl xs (d + 1) 228 [.inr (.inr v0)] h =
  ev xs d mm_228 2 [some (.inr (.inr v0)), some (.inl 0)] [] h :=
  (show _ = ev xs d mm_228 0 [some (.inr (.inr v0)), none] [] h from rfl).trans (q_228_0 xs d v0 h)
def stp_229 : List Nat := [0, 2]
set_option maxRecDepth 100000 in
set_option maxHeartbeats 4000000 in
theorem q_229_0 (xs : List Int) (d : Nat) (v0 : Int) (h : aH) : ev xs d mm_229 0 [some (.inr (.inr v0)), none] [] h =
  ev xs d mm_229 2 [some (.inr (.inr v0)), some (.inl 0)] [] h :=
  (aB gP gX xs stp_229 3 d mm_229 0 _ _ h).trans rfl

set_option maxRecDepth 100000 in
set_option maxHeartbeats 4000000 in
theorem q_229_2 (xs : List Int) (d : Nat) (v0 : Int) (v1 : Int) (h : aH) : ev xs d mm_229 2 [some (.inr (.inr v0)), some (.inl v1)] [] h =
  bif decide (60 ≤ v1) then
    some (none, h)
  else
    bif aok h.1 v0 12 then
      bif aok h.1 v0 12 then
        bif ain h.1 (h.2 v0.toNat 63) 101 v1 then
          bif ain h.1 (h.2 v0.toNat 64) 101 v1 then
            ev xs d mm_229 2 [some (.inr (.inr v0)), some (.inl (w32 (v1 + 1)))] [] (h.1, aup h.2 (h.2 v0.toNat 64).toNat v1.toNat (h.2 (h.2 v0.toNat 63).toNat v1.toNat))
          else none
        else none
      else none
    else none :=
  (aB gP gX xs stp_229 14 d mm_229 2 _ _ h).trans rfl

theorem c_229 (xs : List Int) (d : Nat) (v0 : Int) (h : aH) : cl xs (d + 1) 229 [.inr (.inr v0)] h =
  ev xs d mm_229 2 [some (.inr (.inr v0)), some (.inl 0)] [] h :=
  (show _ = ev xs d mm_229 0 [some (.inr (.inr v0)), none] [] h from rfl).trans (q_229_0 xs d v0 h)
def stp_230 : List Nat := [0]
set_option maxRecDepth 100000 in
set_option maxHeartbeats 4000000 in
theorem q_230_0 (xs : List Int) (d : Nat) (v0 : Int) (v1 : Int) (h : aH) : ev xs d mm_230 0 [some (.inr (.inr v0)), some (.inl v1)] [] h =
  bif aok h.1 v0 12 then
    bif aok h.1 v0 12 then
      bif ain h.1 (h.2 v0.toNat 33) 100 (h.2 v0.toNat 18) then
        bI (cl xs d 226 [.inl v1, .inl 0, .inl (w32 ((h.2 (h.2 v0.toNat 33).toNat (h.2 v0.toNat 18).toNat) - 1))] h) (fun x2 h1 =>
          bif decide (x2 = 0) || decide (x2 = 1) then some (some (.inl x2), h1) else none)
      else none
    else none
  else none :=
  (aB gP gX xs stp_230 12 d mm_230 0 _ _ h).trans rfl

theorem c_230 (xs : List Int) (d : Nat) (v0 : Int) (v1 : Int) (h : aH) : cl xs (d + 1) 230 [.inr (.inr v0), .inl v1] h =
  bif aok h.1 v0 12 then
    bif aok h.1 v0 12 then
      bif ain h.1 (h.2 v0.toNat 33) 100 (h.2 v0.toNat 18) then
        bI (cl xs d 226 [.inl v1, .inl 0, .inl (w32 ((h.2 (h.2 v0.toNat 33).toNat (h.2 v0.toNat 18).toNat) - 1))] h) (fun x2 h1 =>
          bif decide (x2 = 0) || decide (x2 = 1) then some (some (.inl x2), h1) else none)
      else none
    else none
  else none :=
  (show _ = ev xs d mm_230 0 [some (.inr (.inr v0)), some (.inl v1)] [] h from rfl).trans (q_230_0 xs d v0 v1 h)
def stp_231 : List Nat := [0]
set_option maxRecDepth 100000 in
set_option maxHeartbeats 4000000 in
theorem q_231_0 (xs : List Int) (d : Nat) (v0 : Int) (v1 : Int) (h : aH) : ev xs d mm_231 0 [some (.inr (.inr v0)), some (.inl v1)] [] h =
  bif aok h.1 v0 12 then
    bif aok h.1 v0 12 then
      bif ain h.1 (h.2 v0.toNat 23) 100 (h.2 v0.toNat 18) then
        bI (cl xs d 226 [.inl v1, .inl 0, .inl (w32 ((h.2 (h.2 v0.toNat 23).toNat (h.2 v0.toNat 18).toNat) - 1))] h) (fun x2 h1 =>
          bif decide (x2 = 0) || decide (x2 = 1) then some (some (.inl x2), h1) else none)
      else none
    else none
  else none :=
  (aB gP gX xs stp_231 12 d mm_231 0 _ _ h).trans rfl

theorem c_231 (xs : List Int) (d : Nat) (v0 : Int) (v1 : Int) (h : aH) : cl xs (d + 1) 231 [.inr (.inr v0), .inl v1] h =
  bif aok h.1 v0 12 then
    bif aok h.1 v0 12 then
      bif ain h.1 (h.2 v0.toNat 23) 100 (h.2 v0.toNat 18) then
        bI (cl xs d 226 [.inl v1, .inl 0, .inl (w32 ((h.2 (h.2 v0.toNat 23).toNat (h.2 v0.toNat 18).toNat) - 1))] h) (fun x2 h1 =>
          bif decide (x2 = 0) || decide (x2 = 1) then some (some (.inl x2), h1) else none)
      else none
    else none
  else none :=
  (show _ = ev xs d mm_231 0 [some (.inr (.inr v0)), some (.inl v1)] [] h from rfl).trans (q_231_0 xs d v0 v1 h)
def stp_232 : List Nat := [0]
set_option maxRecDepth 100000 in
set_option maxHeartbeats 4000000 in
theorem q_232_0 (xs : List Int) (d : Nat) (v0 : Int) (v1 : Int) (v2 : Int) (h : aH) : ev xs d mm_232 0 [some (.inr (.inr v0)), some (.inl v1), some (.inl v2)] [] h =
  bI (cl xs d 226 [.inl v1, .inl 0, .inl 2] h) (fun x2 h1 =>
    bif decide (x2 = 0) then
      some (some (.inl 0), h1)
    else
      bif aok h1.1 v0 12 then
        bif aok h1.1 v0 12 then
          bif ain h1.1 (h1.2 v0.toNat 30) 100 (w32 ((w32 (3 * (h1.2 v0.toNat 18))) + v1)) then
            bI (cl xs d 226 [.inl v2, .inl 0, .inl (w32 ((h1.2 (h1.2 v0.toNat 30).toNat (w32 ((w32 (3 * (h1.2 v0.toNat 18))) + v1)).toNat) - 1))] h1) (fun x4 h3 =>
              bif decide (x4 = 0) then
                some (some (.inl 0), h3)
              else
                some (some (.inl 1), h3))
          else none
        else none
      else none) :=
  (aB gP gX xs stp_232 24 d mm_232 0 _ _ h).trans rfl

theorem c_232 (xs : List Int) (d : Nat) (v0 : Int) (v1 : Int) (v2 : Int) (h : aH) : cl xs (d + 1) 232 [.inr (.inr v0), .inl v1, .inl v2] h =
  bI (cl xs d 226 [.inl v1, .inl 0, .inl 2] h) (fun x2 h1 =>
    bif decide (x2 = 0) then
      some (some (.inl 0), h1)
    else
      bif aok h1.1 v0 12 then
        bif aok h1.1 v0 12 then
          bif ain h1.1 (h1.2 v0.toNat 30) 100 (w32 ((w32 (3 * (h1.2 v0.toNat 18))) + v1)) then
            bI (cl xs d 226 [.inl v2, .inl 0, .inl (w32 ((h1.2 (h1.2 v0.toNat 30).toNat (w32 ((w32 (3 * (h1.2 v0.toNat 18))) + v1)).toNat) - 1))] h1) (fun x4 h3 =>
              bif decide (x4 = 0) then
                some (some (.inl 0), h3)
              else
                some (some (.inl 1), h3))
          else none
        else none
      else none) :=
  (show _ = ev xs d mm_232 0 [some (.inr (.inr v0)), some (.inl v1), some (.inl v2)] [] h from rfl).trans (q_232_0 xs d v0 v1 v2 h)
def stp_233 : List Nat := [0]
set_option maxRecDepth 100000 in
set_option maxHeartbeats 4000000 in
theorem q_233_0 (xs : List Int) (d : Nat) (v0 : Int) (v1 : Int) (h : aH) : ev xs d mm_233 0 [some (.inr (.inr v0)), some (.inl v1)] [] h =
  bif aok h.1 v0 12 then
    bif ain h.1 (h.2 v0.toNat 64) 101 (w32 (10 + v1)) then
      bif decide (¬ (olcmp (h.2 (h.2 v0.toNat 64).toNat (w32 (10 + v1)).toNat) 0) = 0) then
        some (some (.inl 0), h)
      else
        some (some (.inl 1), h)
    else none
  else none :=
  (aB gP gX xs stp_233 13 d mm_233 0 _ _ h).trans rfl

theorem c_233 (xs : List Int) (d : Nat) (v0 : Int) (v1 : Int) (h : aH) : cl xs (d + 1) 233 [.inr (.inr v0), .inl v1] h =
  bif aok h.1 v0 12 then
    bif ain h.1 (h.2 v0.toNat 64) 101 (w32 (10 + v1)) then
      bif decide (¬ (olcmp (h.2 (h.2 v0.toNat 64).toNat (w32 (10 + v1)).toNat) 0) = 0) then
        some (some (.inl 0), h)
      else
        some (some (.inl 1), h)
    else none
  else none :=
  (show _ = ev xs d mm_233 0 [some (.inr (.inr v0)), some (.inl v1)] [] h from rfl).trans (q_233_0 xs d v0 v1 h)
def stp_234 : List Nat := [0, 4]
set_option maxRecDepth 100000 in
set_option maxHeartbeats 4000000 in
theorem q_234_0 (xs : List Int) (d : Nat) (v0 : Int) (h : aH) : ev xs d mm_234 0 [some (.inr (.inr v0)), none, none] [] h =
  ev xs d mm_234 4 [some (.inr (.inr v0)), some (.inl 0), some (.inl 0)] [] h :=
  (aB gP gX xs stp_234 5 d mm_234 0 _ _ h).trans rfl

set_option maxRecDepth 100000 in
set_option maxHeartbeats 4000000 in
theorem q_234_4 (xs : List Int) (d : Nat) (v0 : Int) (v1 : Int) (v2 : Int) (h : aH) : ev xs d mm_234 4 [some (.inr (.inr v0)), some (.inl v1), some (.inl v2)] [] h =
  bif aok h.1 v0 12 then
    bif aok h.1 v0 12 then
      bif ain h.1 (h.2 v0.toNat 33) 100 (h.2 v0.toNat 18) then
        bif decide ((h.2 (h.2 v0.toNat 33).toNat (h.2 v0.toNat 18).toNat) ≤ v2) then
          some (some (.inl v1), h)
        else
          bif aok h.1 v0 12 && true then
            bI (cl xs d 233 [.inr (.inr v0), .inl v2] h) (fun x2 h1 =>
            bif decide (x2 = 0) then
              ev xs d mm_234 4 [some (.inr (.inr v0)), some (.inl v1), some (.inl (w32 (v2 + 1)))] [] h1
            else
              ev xs d mm_234 4 [some (.inr (.inr v0)), some (.inl (oor v1 (oshl 1 v2))), some (.inl (w32 (v2 + 1)))] [] h1)
          else none
      else none
    else none
  else none :=
  (aB gP gX xs stp_234 20 d mm_234 4 _ _ h).trans rfl

theorem c_234 (xs : List Int) (d : Nat) (v0 : Int) (h : aH) : cl xs (d + 1) 234 [.inr (.inr v0)] h =
  ev xs d mm_234 4 [some (.inr (.inr v0)), some (.inl 0), some (.inl 0)] [] h :=
  (show _ = ev xs d mm_234 0 [some (.inr (.inr v0)), none, none] [] h from rfl).trans (q_234_0 xs d v0 h)
def stp_235 : List Nat := [0, 4]
set_option maxRecDepth 100000 in
set_option maxHeartbeats 4000000 in
theorem q_235_0 (xs : List Int) (d : Nat) (v0 : Int) (h : aH) : ev xs d mm_235 0 [some (.inl v0), none, none] [] h =
  ev xs d mm_235 4 [some (.inl v0), some (.inl 0), some (.inl 0)] [] h :=
  (aB gP gX xs stp_235 5 d mm_235 0 _ _ h).trans rfl

set_option maxRecDepth 100000 in
set_option maxHeartbeats 4000000 in
theorem q_235_4 (xs : List Int) (d : Nat) (v0 : Int) (v1 : Int) (v2 : Int) (h : aH) : ev xs d mm_235 4 [some (.inl v0), some (.inl v1), some (.inl v2)] [] h =
  bif decide (10 ≤ v2) then
    some (some (.inl v1), h)
  else
    ev xs d mm_235 4 [some (.inl v0), some (.inl (w32 (v1 + (oand (oshr v0 v2) 1)))), some (.inl (w32 (v2 + 1)))] [] h :=
  (aB gP gX xs stp_235 14 d mm_235 4 _ _ h).trans rfl

theorem c_235 (xs : List Int) (d : Nat) (v0 : Int) (h : aH) : cl xs (d + 1) 235 [.inl v0] h =
  ev xs d mm_235 4 [some (.inl v0), some (.inl 0), some (.inl 0)] [] h :=
  (show _ = ev xs d mm_235 0 [some (.inl v0), none, none] [] h from rfl).trans (q_235_0 xs d v0 h)
def stp_236 : List Nat := [0, 4]
set_option maxRecDepth 100000 in
set_option maxHeartbeats 4000000 in
theorem q_236_0 (xs : List Int) (d : Nat) (v0 : Int) (h : aH) : ev xs d mm_236 0 [some (.inr (.inl v0)), none, none, none, none] [] h =
  ev xs d mm_236 4 [some (.inr (.inl v0)), none, some (.inl 0), some (.inr (.inl v0)), none] [] h :=
  (aB gP gX xs stp_236 5 d mm_236 0 _ _ h).trans rfl

set_option maxRecDepth 100000 in
set_option maxHeartbeats 4000000 in
theorem q_236_4 (xs : List Int) (d : Nat) (v0 : Int) (u1 : Option aV) (v2 : Int) (v3 : Int) (u4 : Option aV) (h : aH) : ev xs d mm_236 4 [some (.inr (.inl v0)), u1, some (.inl v2), some (.inr (.inl v3)), u4] [] h =
  bif decide ((olcmp v3 0) ≤ 0) then
    some (some (.inl v2), h)
  else
    ev xs d mm_236 4 [some (.inr (.inl v0)), acl u1, some (.inl (w32 (v2 + 1))), some (.inr (.inl (oldiv v3 27))), none] [] h :=
  (aB gP gX xs stp_236 11 d mm_236 4 _ _ h).trans rfl

theorem c_236 (xs : List Int) (d : Nat) (v0 : Int) (h : aH) : cl xs (d + 1) 236 [.inr (.inl v0)] h =
  ev xs d mm_236 4 [some (.inr (.inl v0)), none, some (.inl 0), some (.inr (.inl v0)), none] [] h :=
  (show _ = ev xs d mm_236 0 [some (.inr (.inl v0)), none, none, none, none] [] h from rfl).trans (q_236_0 xs d v0 h)
def stp_237 : List Nat := [0, 12]
set_option maxRecDepth 100000 in
set_option maxHeartbeats 4000000 in
theorem q_237_0 (xs : List Int) (d : Nat) (v0 : Int) (v2 : Int) (h : aH) : ev xs d mm_237 0 [some (.inr (.inl v0)), none, some (.inl v2), none, none, none] [] h =
  bI (cl xs d 236 [.inr (.inl v0)] h) (fun x2 h1 =>
    ev xs d mm_237 12 [some (.inr (.inl v0)), none, some (.inl v2), some (.inr (.inl v0)), none, some (.inl (w32 ((w32 (x2 - 1)) - v2)))] [] h1) :=
  (aB gP gX xs stp_237 10 d mm_237 0 _ _ h).trans rfl

set_option maxRecDepth 100000 in
set_option maxHeartbeats 4000000 in
theorem q_237_12 (xs : List Int) (d : Nat) (v0 : Int) (u1 : Option aV) (v2 : Int) (v3 : Int) (u4 : Option aV) (v5 : Int) (h : aH) : ev xs d mm_237 12 [some (.inr (.inl v0)), u1, some (.inl v2), some (.inr (.inl v3)), u4, some (.inl v5)] [] h =
  bif decide (v5 ≤ 0) then
    bI (cl xs d 236 [.inr (.inl v0)] h) (fun x2 h1 =>
      bif decide (x2 ≤ v2) then
        some (some (.inl 0), h1)
      else
        some (some (.inl (ol2i (olrem v3 27))), h1))
  else
    ev xs d mm_237 12 [some (.inr (.inl v0)), u1, some (.inl v2), some (.inr (.inl (oldiv v3 27))), none, some (.inl (w32 (v5 + (-1))))] [] h :=
  (aB gP gX xs stp_237 13 d mm_237 12 _ _ h).trans rfl

theorem c_237 (xs : List Int) (d : Nat) (v0 : Int) (v2 : Int) (h : aH) : cl xs (d + 1) 237 [.inr (.inl v0), .inl v2] h =
  bI (cl xs d 236 [.inr (.inl v0)] h) (fun x2 h1 =>
    ev xs d mm_237 12 [some (.inr (.inl v0)), none, some (.inl v2), some (.inr (.inl v0)), none, some (.inl (w32 ((w32 (x2 - 1)) - v2)))] [] h1) :=
  (show _ = ev xs d mm_237 0 [some (.inr (.inl v0)), none, some (.inl v2), none, none, none] [] h from rfl).trans (q_237_0 xs d v0 v2 h)
def stp_238 : List Nat := [0]
set_option maxRecDepth 100000 in
set_option maxHeartbeats 4000000 in
theorem q_238_0 (xs : List Int) (d : Nat) (v0 : Int) (v1 : Int) (v2 : Int) (v3 : Int) (h : aH) : ev xs d mm_238 0 [some (.inr (.inr v0)), some (.inl v1), some (.inl v2), some (.inl v3)] [] h =
  bif decide (¬ v1 = 0) then
    bif decide (¬ v1 = 3) then
      bif decide (v3 ≤ 0) then
        some (some (.inl 0), h)
      else
        bif decide (¬ v1 = 1) then
          bif aok h.1 v0 12 then
            bif aok h.1 v0 12 then
              bif ain h.1 (h.2 v0.toNat 22) 100 (w32 ((w32 (6 * (h.2 v0.toNat 18))) + v2)) then
                bif decide (¬ (oand (oshr (h.2 (h.2 v0.toNat 22).toNat (w32 ((w32 (6 * (h.2 v0.toNat 18))) + v2)).toNat) v3) 1) = 1) then
                  some (some (.inl 0), h)
                else
                  some (some (.inl 1), h)
              else none
            else none
          else none
        else
          bif decide (¬ v3 = v2) then
            some (some (.inl 0), h)
          else
            some (some (.inl 1), h)
    else
      bif decide (¬ v3 = 0) then
        some (some (.inl 0), h)
      else
        some (some (.inl 1), h)
  else
    some (some (.inl 1), h) :=
  (aB gP gX xs stp_238 29 d mm_238 0 _ _ h).trans rfl

theorem c_238 (xs : List Int) (d : Nat) (v0 : Int) (v1 : Int) (v2 : Int) (v3 : Int) (h : aH) : cl xs (d + 1) 238 [.inr (.inr v0), .inl v1, .inl v2, .inl v3] h =
  bif decide (¬ v1 = 0) then
    bif decide (¬ v1 = 3) then
      bif decide (v3 ≤ 0) then
        some (some (.inl 0), h)
      else
        bif decide (¬ v1 = 1) then
          bif aok h.1 v0 12 then
            bif aok h.1 v0 12 then
              bif ain h.1 (h.2 v0.toNat 22) 100 (w32 ((w32 (6 * (h.2 v0.toNat 18))) + v2)) then
                bif decide (¬ (oand (oshr (h.2 (h.2 v0.toNat 22).toNat (w32 ((w32 (6 * (h.2 v0.toNat 18))) + v2)).toNat) v3) 1) = 1) then
                  some (some (.inl 0), h)
                else
                  some (some (.inl 1), h)
              else none
            else none
          else none
        else
          bif decide (¬ v3 = v2) then
            some (some (.inl 0), h)
          else
            some (some (.inl 1), h)
    else
      bif decide (¬ v3 = 0) then
        some (some (.inl 0), h)
      else
        some (some (.inl 1), h)
  else
    some (some (.inl 1), h) :=
  (show _ = ev xs d mm_238 0 [some (.inr (.inr v0)), some (.inl v1), some (.inl v2), some (.inl v3)] [] h from rfl).trans (q_238_0 xs d v0 v1 v2 v3 h)
def stp_239 : List Nat := [0, 24, 73, 170]
set_option maxRecDepth 100000 in
set_option maxHeartbeats 4000000 in
theorem q_239_0 (xs : List Int) (d : Nat) (v0 : Int) (v1 : Int) (v2 : Int) (h : aH) : ev xs d mm_239 0 [some (.inr (.inr v0)), some (.inl v1), some (.inr (.inl v2)), none, none, none, none, none, none, none, none, none] [] h =
  bif aok h.1 v0 12 then
    bI (cl xs d 236 [.inr (.inl v2)] h) (fun x2 h1 =>
      ev xs d mm_239 24 [some (.inr (.inr v0)), some (.inl v1), some (.inr (.inl v2)), none, some (.inl (w32 ((w32 (7 * (h.2 v0.toNat 18))) + v1))), some (.inl x2), some (.inr (.inl v2)), none, some (.inl x2), none, none, none] [] h1)
  else none :=
  (aB gP gX xs stp_239 15 d mm_239 0 _ _ h).trans rfl

set_option maxRecDepth 100000 in
set_option maxHeartbeats 4000000 in
theorem q_239_24 (xs : List Int) (d : Nat) (v0 : Int) (v1 : Int) (v2 : Int) (u3 : Option aV) (v4 : Int) (v5 : Int) (v6 : Int) (u7 : Option aV) (v8 : Int) (u9 : Option aV) (u10 : Option aV) (u11 : Option aV) (h : aH) : ev xs d mm_239 24 [some (.inr (.inr v0)), some (.inl v1), some (.inr (.inl v2)), u3, some (.inl v4), some (.inl v5), some (.inr (.inl v6)), u7, some (.inl v8), u9, u10, u11] [] h =
  bif decide (v8 ≤ 0) then
    bif aok h.1 v0 12 then
      bif ain h.1 (h.2 v0.toNat 65) 100 (w32 (v5 + 1)) then
        ev xs d mm_239 73 [some (.inr (.inr v0)), some (.inl v1), some (.inr (.inl v2)), u3, some (.inl v4), some (.inl v5), some (.inr (.inl v6)), acl u7, some (.inr (.inl 0)), none, some (.inl 1), u11] [] (h.1, aup h.2 (h.2 v0.toNat 65).toNat (w32 (v5 + 1)).toNat 0)
      else none
    else none
  else
    bif aok h.1 v0 12 then
      bif ain h.1 (h.2 v0.toNat 65) 100 v8 then
        ev xs d mm_239 24 [some (.inr (.inr v0)), some (.inl v1), some (.inr (.inl v2)), u3, some (.inl v4), some (.inl v5), some (.inr (.inl (oldiv v6 27))), none, some (.inl (w32 (v8 + (-1)))), u9, u10, u11] [] (h.1, aup h.2 (h.2 v0.toNat 65).toNat v8.toNat (ol2i (olrem v6 27)))
      else none
    else none :=
  (aB gP gX xs stp_239 17 d mm_239 24 _ _ h).trans rfl

set_option maxRecDepth 100000 in
set_option maxHeartbeats 4000000 in
theorem q_239_73 (xs : List Int) (d : Nat) (v0 : Int) (v1 : Int) (v2 : Int) (u3 : Option aV) (v4 : Int) (v5 : Int) (v6 : Int) (u7 : Option aV) (v8 : Int) (u9 : Option aV) (v10 : Int) (u11 : Option aV) (h : aH) : ev xs d mm_239 73 [some (.inr (.inr v0)), some (.inl v1), some (.inr (.inl v2)), u3, some (.inl v4), some (.inl v5), some (.inr (.inl v6)), u7, some (.inr (.inl v8)), u9, some (.inl v10), u11] [] h =
  bif decide (v5 < v10) then
    some (some (.inr (.inl v8)), h)
  else
    bif aok h.1 v0 12 then
      bif ain h.1 (h.2 v0.toNat 65) 100 v10 then
        bif aok h.1 v0 12 then
          bif ain h.1 (h.2 v0.toNat 24) 100 v4 then
            bif decide (¬ (h.2 (h.2 v0.toNat 65).toNat v10.toNat) = (h.2 (h.2 v0.toNat 24).toNat v4.toNat)) then
              ev xs d mm_239 170 [some (.inr (.inr v0)), some (.inl v1), some (.inr (.inl v2)), u3, some (.inl v4), some (.inl v5), some (.inr (.inl v6)), u7, some (.inr (.inl v8)), u9, some (.inl v10), some (.inl (h.2 (h.2 v0.toNat 65).toNat v10.toNat))] [] h
            else
              bif aok h.1 v0 12 then
                bif ain h.1 (h.2 v0.toNat 26) 100 v4 then
                  bif aok h.1 v0 12 then
                    bif ain h.1 (h.2 v0.toNat 27) 100 v4 then
                      bif aok h.1 v0 12 then
                        bif ain h.1 (h.2 v0.toNat 65) 100 (w32 (v10 - 1)) then
                          bif aok h.1 v0 12 && true then
                            bI (cl xs d 238 [.inr (.inr v0), .inl (h.2 (h.2 v0.toNat 26).toNat v4.toNat), .inl (h.2 (h.2 v0.toNat 27).toNat v4.toNat), .inl (h.2 (h.2 v0.toNat 65).toNat (w32 (v10 - 1)).toNat)] h) (fun x2 h1 =>
                            bif decide (x2 = 0) then
                              ev xs d mm_239 170 [some (.inr (.inr v0)), some (.inl v1), some (.inr (.inl v2)), u3, some (.inl v4), some (.inl v5), some (.inr (.inl v6)), u7, some (.inr (.inl v8)), u9, some (.inl v10), some (.inl (h.2 (h.2 v0.toNat 65).toNat v10.toNat))] [] h1
                            else
                              bif aok h1.1 v0 12 then
                                bif ain h1.1 (h1.2 v0.toNat 28) 100 v4 then
                                  bif aok h1.1 v0 12 then
                                    bif ain h1.1 (h1.2 v0.toNat 29) 100 v4 then
                                      bif aok h1.1 v0 12 then
                                        bif ain h1.1 (h1.2 v0.toNat 65) 100 (w32 (v10 + 1)) then
                                          bif aok h1.1 v0 12 && true then
                                            bI (cl xs d 238 [.inr (.inr v0), .inl (h1.2 (h1.2 v0.toNat 28).toNat v4.toNat), .inl (h1.2 (h1.2 v0.toNat 29).toNat v4.toNat), .inl (h1.2 (h1.2 v0.toNat 65).toNat (w32 (v10 + 1)).toNat)] h1) (fun x4 h3 =>
                                            bif decide (x4 = 0) then
                                              ev xs d mm_239 170 [some (.inr (.inr v0)), some (.inl v1), some (.inr (.inl v2)), u3, some (.inl v4), some (.inl v5), some (.inr (.inl v6)), u7, some (.inr (.inl v8)), u9, some (.inl v10), some (.inl (h.2 (h.2 v0.toNat 65).toNat v10.toNat))] [] h3
                                            else
                                              bif aok h3.1 v0 12 then
                                                bif ain h3.1 (h3.2 v0.toNat 25) 100 v4 then
                                                  ev xs d mm_239 170 [some (.inr (.inr v0)), some (.inl v1), some (.inr (.inl v2)), u3, some (.inl v4), some (.inl v5), some (.inr (.inl v6)), u7, some (.inr (.inl v8)), u9, some (.inl v10), some (.inl (h3.2 (h3.2 v0.toNat 25).toNat v4.toNat))] [] h3
                                                else none
                                              else none)
                                          else none
                                        else none
                                      else none
                                    else none
                                  else none
                                else none
                              else none)
                          else none
                        else none
                      else none
                    else none
                  else none
                else none
              else none
          else none
        else none
      else none
    else none :=
  (aB gP gX xs stp_239 54 d mm_239 73 _ _ h).trans rfl

set_option maxRecDepth 100000 in
set_option maxHeartbeats 4000000 in
theorem q_239_170 (xs : List Int) (d : Nat) (v0 : Int) (v1 : Int) (v2 : Int) (u3 : Option aV) (v4 : Int) (v5 : Int) (v6 : Int) (u7 : Option aV) (v8 : Int) (u9 : Option aV) (v10 : Int) (v11 : Int) (h : aH) : ev xs d mm_239 170 [some (.inr (.inr v0)), some (.inl v1), some (.inr (.inl v2)), u3, some (.inl v4), some (.inl v5), some (.inr (.inl v6)), u7, some (.inr (.inl v8)), u9, some (.inl v10), some (.inl v11)] [] h =
  bif decide (v11 ≤ 0) then
    ev xs d mm_239 73 [some (.inr (.inr v0)), some (.inl v1), some (.inr (.inl v2)), u3, some (.inl v4), some (.inl v5), some (.inr (.inl v6)), u7, some (.inr (.inl v8)), acl u9, some (.inl (w32 (v10 + 1))), some (.inl v11)] [] h
  else
    ev xs d mm_239 73 [some (.inr (.inr v0)), some (.inl v1), some (.inr (.inl v2)), u3, some (.inl v4), some (.inl v5), some (.inr (.inl v6)), acl u7, some (.inr (.inl (w64 ((w64 (27 * v8)) + v11)))), none, some (.inl (w32 (v10 + 1))), some (.inl v11)] [] h :=
  (aB gP gX xs stp_239 12 d mm_239 170 _ _ h).trans rfl

theorem c_239 (xs : List Int) (d : Nat) (v0 : Int) (v1 : Int) (v2 : Int) (h : aH) : cl xs (d + 1) 239 [.inr (.inr v0), .inl v1, .inr (.inl v2)] h =
  bif aok h.1 v0 12 then
    bI (cl xs d 236 [.inr (.inl v2)] h) (fun x2 h1 =>
      ev xs d mm_239 24 [some (.inr (.inr v0)), some (.inl v1), some (.inr (.inl v2)), none, some (.inl (w32 ((w32 (7 * (h.2 v0.toNat 18))) + v1))), some (.inl x2), some (.inr (.inl v2)), none, some (.inl x2), none, none, none] [] h1)
  else none :=
  (show _ = ev xs d mm_239 0 [some (.inr (.inr v0)), some (.inl v1), some (.inr (.inl v2)), none, none, none, none, none, none, none, none, none] [] h from rfl).trans (q_239_0 xs d v0 v1 v2 h)
def stp_240 : List Nat := [0, 9]
set_option maxRecDepth 100000 in
set_option maxHeartbeats 4000000 in
theorem q_240_0 (xs : List Int) (d : Nat) (v0 : Int) (v1 : Int) (v3 : Int) (v4 : Int) (h : aH) : ev xs d mm_240 0 [some (.inr (.inr v0)), some (.inr (.inl v1)), none, some (.inl v3), some (.inl v4), none, none, none, none, none] [] h =
  ev xs d mm_240 9 [some (.inr (.inr v0)), some (.inr (.inl v1)), none, some (.inl v3), some (.inl v4), some (.inr (.inl v1)), none, some (.inl 0), some (.inl 0), none] [] h :=
  (aB gP gX xs stp_240 7 d mm_240 0 _ _ h).trans rfl

set_option maxRecDepth 100000 in
set_option maxHeartbeats 4000000 in
theorem q_240_9 (xs : List Int) (d : Nat) (v0 : Int) (v1 : Int) (u2 : Option aV) (v3 : Int) (v4 : Int) (v5 : Int) (u6 : Option aV) (v7 : Int) (v8 : Int) (u9 : Option aV) (h : aH) : ev xs d mm_240 9 [some (.inr (.inr v0)), some (.inr (.inl v1)), u2, some (.inl v3), some (.inl v4), some (.inr (.inl v5)), u6, some (.inl v7), some (.inl v8), u9] [] h =
  bif aok h.1 v0 12 then
    bif aok h.1 v0 12 then
      bif ain h.1 (h.2 v0.toNat 23) 100 (h.2 v0.toNat 18) then
        bif decide ((h.2 (h.2 v0.toNat 23).toNat (h.2 v0.toNat 18).toNat) ≤ v8) then
          some (some (.inr (.inl v5)), h)
        else
          bif decide (v4 ≤ v7) then
            some (some (.inr (.inl v5)), h)
          else
            bif aok h.1 v0 12 then
              bif ain h.1 (h.2 v0.toNat 64) 101 (w32 (45 + v8)) then
                bif decide (¬ (oand (oshr v3 (ol2i (h.2 (h.2 v0.toNat 64).toNat (w32 (45 + v8)).toNat))) 1) = 0) then
                  bif aok h.1 v0 12 && true then
                    bJ (cl xs d 239 [.inr (.inr v0), .inl (ol2i (h.2 (h.2 v0.toNat 64).toNat (w32 (45 + v8)).toNat)), .inr (.inl v5)] h) (fun x2 h1 =>
                    ev xs d mm_240 9 [some (.inr (.inr v0)), some (.inr (.inl v1)), u2, some (.inl v3), some (.inl v4), some (.inr (.inl x2)), none, some (.inl (w32 (v7 + 1))), some (.inl (w32 (v8 + 1))), some (.inl (ol2i (h.2 (h.2 v0.toNat 64).toNat (w32 (45 + v8)).toNat)))] [] h1)
                  else none
                else
                  ev xs d mm_240 9 [some (.inr (.inr v0)), some (.inr (.inl v1)), u2, some (.inl v3), some (.inl v4), some (.inr (.inl v5)), u6, some (.inl v7), some (.inl (w32 (v8 + 1))), some (.inl (ol2i (h.2 (h.2 v0.toNat 64).toNat (w32 (45 + v8)).toNat)))] [] h
              else none
            else none
      else none
    else none
  else none :=
  (aB gP gX xs stp_240 33 d mm_240 9 _ _ h).trans rfl

theorem c_240 (xs : List Int) (d : Nat) (v0 : Int) (v1 : Int) (v3 : Int) (v4 : Int) (h : aH) : cl xs (d + 1) 240 [.inr (.inr v0), .inr (.inl v1), .inl v3, .inl v4] h =
  ev xs d mm_240 9 [some (.inr (.inr v0)), some (.inr (.inl v1)), none, some (.inl v3), some (.inl v4), some (.inr (.inl v1)), none, some (.inl 0), some (.inl 0), none] [] h :=
  (show _ = ev xs d mm_240 0 [some (.inr (.inr v0)), some (.inr (.inl v1)), none, some (.inl v3), some (.inl v4), none, none, none, none, none] [] h from rfl).trans (q_240_0 xs d v0 v1 v3 v4 h)
def stp_241 : List Nat := [0]
set_option maxRecDepth 100000 in
set_option maxHeartbeats 4000000 in
theorem q_241_0 (xs : List Int) (d : Nat) (v0 : Int) (v1 : Int) (h : aH) : ev xs d mm_241 0 [some (.inr (.inr v0)), some (.inr (.inl v1)), none] [] h =
  bif aok h.1 v0 12 then
    bif ain h.1 (h.2 v0.toNat 64) 101 52 then
      bif aok h.1 v0 12 && true then
        bJ (cl xs d 240 [.inr (.inr v0), .inr (.inl v1), .inl (ol2i (h.2 (h.2 v0.toNat 64).toNat (52 : Int).toNat)), .inl 7] h) (fun x2 h1 =>
        some (some (.inr (.inl x2)), h1))
      else none
    else none
  else none :=
  (aB gP gX xs stp_241 11 d mm_241 0 _ _ h).trans rfl

theorem c_241 (xs : List Int) (d : Nat) (v0 : Int) (v1 : Int) (h : aH) : cl xs (d + 1) 241 [.inr (.inr v0), .inr (.inl v1)] h =
  bif aok h.1 v0 12 then
    bif ain h.1 (h.2 v0.toNat 64) 101 52 then
      bif aok h.1 v0 12 && true then
        bJ (cl xs d 240 [.inr (.inr v0), .inr (.inl v1), .inl (ol2i (h.2 (h.2 v0.toNat 64).toNat (52 : Int).toNat)), .inl 7] h) (fun x2 h1 =>
        some (some (.inr (.inl x2)), h1))
      else none
    else none
  else none :=
  (show _ = ev xs d mm_241 0 [some (.inr (.inr v0)), some (.inr (.inl v1)), none] [] h from rfl).trans (q_241_0 xs d v0 v1 h)
def stp_242 : List Nat := [0]
set_option maxRecDepth 100000 in
set_option maxHeartbeats 4000000 in
theorem q_242_0 (xs : List Int) (d : Nat) (v0 : Int) (v2 : Int) (h : aH) : ev xs d mm_242 0 [some (.inr (.inl v0)), none, some (.inl v2)] [] h =
  bif decide (¬ v2 = 8) then
    bI (cl xs d 237 [.inr (.inl v0), .inl v2] h) (fun x2 h1 =>
      some (some (.inl x2), h1))
  else
    bI (cl xs d 236 [.inr (.inl v0)] h) (fun x4 h3 =>
      some (some (.inl x4), h3)) :=
  (aB gP gX xs stp_242 8 d mm_242 0 _ _ h).trans rfl

theorem c_242 (xs : List Int) (d : Nat) (v0 : Int) (v2 : Int) (h : aH) : cl xs (d + 1) 242 [.inr (.inl v0), .inl v2] h =
  bif decide (¬ v2 = 8) then
    bI (cl xs d 237 [.inr (.inl v0), .inl v2] h) (fun x2 h1 =>
      some (some (.inl x2), h1))
  else
    bI (cl xs d 236 [.inr (.inl v0)] h) (fun x4 h3 =>
      some (some (.inl x4), h3)) :=
  (show _ = ev xs d mm_242 0 [some (.inr (.inl v0)), none, some (.inl v2)] [] h from rfl).trans (q_242_0 xs d v0 v2 h)
def stp_243 : List Nat := [0]
set_option maxRecDepth 100000 in
set_option maxHeartbeats 4000000 in
theorem q_243_0 (xs : List Int) (d : Nat) (v0 : Int) (v1 : Int) (v2 : Int) (h : aH) : ev xs d mm_243 0 [some (.inr (.inr v0)), some (.inl v1), some (.inl v2)] [] h =
  bif aok h.1 v0 12 && true then
    bI (cl xs d 230 [.inr (.inr v0), .inl v1] h) (fun x2 h1 =>
    bif decide (x2 = 0) then
      some (some (.inl (-1)), h1)
    else
      bI (cl xs d 226 [.inl v2, .inl 0, .inl 9] h1) (fun x4 h3 =>
        bif decide (¬ x4 = 0) then
          bif decide (¬ v2 = 9) then
            bif aok h3.1 v0 12 then
              bif ain h3.1 (h3.2 v0.toNat 63) 101 v1 then
                bI (cl xs d 242 [.inr (.inl (h3.2 (h3.2 v0.toNat 63).toNat v1.toNat)), .inl v2] h3) (fun x6 h5 =>
                  some (some (.inl x6), h5))
              else none
            else none
          else
            bif aok h3.1 v0 12 then
              bif ain h3.1 (h3.2 v0.toNat 63) 101 (w32 (10 + v1)) then
                some (some (.inl (ol2i (h3.2 (h3.2 v0.toNat 63).toNat (w32 (10 + v1)).toNat))), h3)
              else none
            else none
        else
          some (some (.inl (-1)), h3)))
  else none :=
  (aB gP gX xs stp_243 22 d mm_243 0 _ _ h).trans rfl

theorem c_243 (xs : List Int) (d : Nat) (v0 : Int) (v1 : Int) (v2 : Int) (h : aH) : cl xs (d + 1) 243 [.inr (.inr v0), .inl v1, .inl v2] h =
  bif aok h.1 v0 12 && true then
    bI (cl xs d 230 [.inr (.inr v0), .inl v1] h) (fun x2 h1 =>
    bif decide (x2 = 0) then
      some (some (.inl (-1)), h1)
    else
      bI (cl xs d 226 [.inl v2, .inl 0, .inl 9] h1) (fun x4 h3 =>
        bif decide (¬ x4 = 0) then
          bif decide (¬ v2 = 9) then
            bif aok h3.1 v0 12 then
              bif ain h3.1 (h3.2 v0.toNat 63) 101 v1 then
                bI (cl xs d 242 [.inr (.inl (h3.2 (h3.2 v0.toNat 63).toNat v1.toNat)), .inl v2] h3) (fun x6 h5 =>
                  some (some (.inl x6), h5))
              else none
            else none
          else
            bif aok h3.1 v0 12 then
              bif ain h3.1 (h3.2 v0.toNat 63) 101 (w32 (10 + v1)) then
                some (some (.inl (ol2i (h3.2 (h3.2 v0.toNat 63).toNat (w32 (10 + v1)).toNat))), h3)
              else none
            else none
        else
          some (some (.inl (-1)), h3)))
  else none :=
  (show _ = ev xs d mm_243 0 [some (.inr (.inr v0)), some (.inl v1), some (.inl v2)] [] h from rfl).trans (q_243_0 xs d v0 v1 v2 h)
def stp_244 : List Nat := [0]
set_option maxRecDepth 100000 in
set_option maxHeartbeats 4000000 in
theorem q_244_0 (xs : List Int) (d : Nat) (v0 : Int) (v1 : Int) (v2 : Int) (h : aH) : ev xs d mm_244 0 [some (.inr (.inr v0)), some (.inl v1), some (.inl v2)] [] h =
  bif aok h.1 v0 12 && true then
    bI (cl xs d 230 [.inr (.inr v0), .inl v1] h) (fun x2 h1 =>
    bif decide (x2 = 0) then
      some (some (.inl (-1)), h1)
    else
      bI (cl xs d 226 [.inl v2, .inl 0, .inl 8] h1) (fun x4 h3 =>
        bif decide (¬ x4 = 0) then
          bif aok h3.1 v0 12 && true then
            bV (cl xs d 229 [.inr (.inr v0)] h3) (fun h5 =>
            bif aok h5.1 v0 12 then
              bif ain h5.1 (h5.2 v0.toNat 64) 101 v1 then
                bif aok h5.1 v0 12 && true then
                  bJ (cl xs d 241 [.inr (.inr v0), .inr (.inl (h5.2 (h5.2 v0.toNat 64).toNat v1.toNat))] h5) (fun x7 h6 =>
                  bI (cl xs d 242 [.inr (.inl x7), .inl v2] h6) (fun x9 h8 =>
                    some (some (.inl x9), h8)))
                else none
              else none
            else none)
          else none
        else
          some (some (.inl (-1)), h3)))
  else none :=
  (aB gP gX xs stp_244 21 d mm_244 0 _ _ h).trans rfl

theorem c_244 (xs : List Int) (d : Nat) (v0 : Int) (v1 : Int) (v2 : Int) (h : aH) : cl xs (d + 1) 244 [.inr (.inr v0), .inl v1, .inl v2] h =
  bif aok h.1 v0 12 && true then
    bI (cl xs d 230 [.inr (.inr v0), .inl v1] h) (fun x2 h1 =>
    bif decide (x2 = 0) then
      some (some (.inl (-1)), h1)
    else
      bI (cl xs d 226 [.inl v2, .inl 0, .inl 8] h1) (fun x4 h3 =>
        bif decide (¬ x4 = 0) then
          bif aok h3.1 v0 12 && true then
            bV (cl xs d 229 [.inr (.inr v0)] h3) (fun h5 =>
            bif aok h5.1 v0 12 then
              bif ain h5.1 (h5.2 v0.toNat 64) 101 v1 then
                bif aok h5.1 v0 12 && true then
                  bJ (cl xs d 241 [.inr (.inr v0), .inr (.inl (h5.2 (h5.2 v0.toNat 64).toNat v1.toNat))] h5) (fun x7 h6 =>
                  bI (cl xs d 242 [.inr (.inl x7), .inl v2] h6) (fun x9 h8 =>
                    some (some (.inl x9), h8)))
                else none
              else none
            else none)
          else none
        else
          some (some (.inl (-1)), h3)))
  else none :=
  (show _ = ev xs d mm_244 0 [some (.inr (.inr v0)), some (.inl v1), some (.inl v2)] [] h from rfl).trans (q_244_0 xs d v0 v1 v2 h)
def stp_245 : List Nat := [0]
set_option maxRecDepth 100000 in
set_option maxHeartbeats 4000000 in
theorem q_245_0 (xs : List Int) (d : Nat) (v0 : Int) (v1 : Int) (v2 : Int) (v3 : Int) (h : aH) : ev xs d mm_245 0 [some (.inr (.inr v0)), some (.inl v1), some (.inl v2), some (.inl v3)] [] h =
  bif aok h.1 v0 12 && true then
    bI (cl xs d 230 [.inr (.inr v0), .inl v1] h) (fun x2 h1 =>
    bif decide (x2 = 0) then
      some (some (.inl (-1)), h1)
    else
      bI (cl xs d 226 [.inl v3, .inl 0, .inl 8] h1) (fun x4 h3 =>
        bif decide (x4 = 0) then
          some (some (.inl (-1)), h3)
        else
          bif aok h3.1 v0 12 then
            bif ain h3.1 (h3.2 v0.toNat 63) 101 52 then
              bI (cl xs d 235 [.inl (ol2i (h3.2 (h3.2 v0.toNat 63).toNat (52 : Int).toNat))] h3) (fun x6 h5 =>
                bI (cl xs d 226 [.inl v2, .inl 0, .inl x6] h5) (fun x8 h7 =>
                  bif decide (¬ x8 = 0) then
                    bif aok h7.1 v0 12 && true then
                      bV (cl xs d 229 [.inr (.inr v0)] h7) (fun h9 =>
                      bif aok h9.1 v0 12 then
                        bif ain h9.1 (h9.2 v0.toNat 64) 101 v1 then
                          bif aok h9.1 v0 12 then
                            bif ain h9.1 (h9.2 v0.toNat 64) 101 52 then
                              bif aok h9.1 v0 12 && true then
                                bJ (cl xs d 240 [.inr (.inr v0), .inr (.inl (h9.2 (h9.2 v0.toNat 64).toNat v1.toNat)), .inl (ol2i (h9.2 (h9.2 v0.toNat 64).toNat (52 : Int).toNat)), .inl v2] h9) (fun x11 h10 =>
                                bI (cl xs d 242 [.inr (.inl x11), .inl v3] h10) (fun x13 h12 =>
                                  some (some (.inl x13), h12)))
                              else none
                            else none
                          else none
                        else none
                      else none)
                    else none
                  else
                    some (some (.inl (-1)), h7)))
            else none
          else none))
  else none :=
  (aB gP gX xs stp_245 37 d mm_245 0 _ _ h).trans rfl

theorem c_245 (xs : List Int) (d : Nat) (v0 : Int) (v1 : Int) (v2 : Int) (v3 : Int) (h : aH) : cl xs (d + 1) 245 [.inr (.inr v0), .inl v1, .inl v2, .inl v3] h =
  bif aok h.1 v0 12 && true then
    bI (cl xs d 230 [.inr (.inr v0), .inl v1] h) (fun x2 h1 =>
    bif decide (x2 = 0) then
      some (some (.inl (-1)), h1)
    else
      bI (cl xs d 226 [.inl v3, .inl 0, .inl 8] h1) (fun x4 h3 =>
        bif decide (x4 = 0) then
          some (some (.inl (-1)), h3)
        else
          bif aok h3.1 v0 12 then
            bif ain h3.1 (h3.2 v0.toNat 63) 101 52 then
              bI (cl xs d 235 [.inl (ol2i (h3.2 (h3.2 v0.toNat 63).toNat (52 : Int).toNat))] h3) (fun x6 h5 =>
                bI (cl xs d 226 [.inl v2, .inl 0, .inl x6] h5) (fun x8 h7 =>
                  bif decide (¬ x8 = 0) then
                    bif aok h7.1 v0 12 && true then
                      bV (cl xs d 229 [.inr (.inr v0)] h7) (fun h9 =>
                      bif aok h9.1 v0 12 then
                        bif ain h9.1 (h9.2 v0.toNat 64) 101 v1 then
                          bif aok h9.1 v0 12 then
                            bif ain h9.1 (h9.2 v0.toNat 64) 101 52 then
                              bif aok h9.1 v0 12 && true then
                                bJ (cl xs d 240 [.inr (.inr v0), .inr (.inl (h9.2 (h9.2 v0.toNat 64).toNat v1.toNat)), .inl (ol2i (h9.2 (h9.2 v0.toNat 64).toNat (52 : Int).toNat)), .inl v2] h9) (fun x11 h10 =>
                                bI (cl xs d 242 [.inr (.inl x11), .inl v3] h10) (fun x13 h12 =>
                                  some (some (.inl x13), h12)))
                              else none
                            else none
                          else none
                        else none
                      else none)
                    else none
                  else
                    some (some (.inl (-1)), h7)))
            else none
          else none))
  else none :=
  (show _ = ev xs d mm_245 0 [some (.inr (.inr v0)), some (.inl v1), some (.inl v2), some (.inl v3)] [] h from rfl).trans (q_245_0 xs d v0 v1 v2 v3 h)
def stp_246 : List Nat := [0, 24]
set_option maxRecDepth 100000 in
set_option maxHeartbeats 4000000 in
theorem q_246_0 (xs : List Int) (d : Nat) (v0 : Int) (v1 : Int) (h : aH) : ev xs d mm_246 0 [some (.inr (.inr v0)), some (.inl v1), none, none, none, none, none, none] [] h =
  bif aok h.1 v0 12 && true then
    bI (cl xs d 230 [.inr (.inr v0), .inl v1] h) (fun x2 h1 =>
    bif decide (¬ x2 = 0) then
      bif aok h1.1 v0 12 && true then
        bV (cl xs d 229 [.inr (.inr v0)] h1) (fun h3 =>
        bif aok h3.1 v0 12 then
          bif ain h3.1 (h3.2 v0.toNat 64) 101 v1 then
            ev xs d mm_246 24 [some (.inr (.inr v0)), some (.inl v1), some (.inr (.inl (h3.2 (h3.2 v0.toNat 64).toNat v1.toNat))), none, some (.inl 0), none, none, none] [] h3
          else none
        else none)
      else none
    else
      some (some (.inl (-1)), h1))
  else none :=
  (aB gP gX xs stp_246 14 d mm_246 0 _ _ h).trans rfl

set_option maxRecDepth 100000 in
set_option maxHeartbeats 4000000 in
theorem q_246_24 (xs : List Int) (d : Nat) (v0 : Int) (v1 : Int) (v2 : Int) (u3 : Option aV) (v4 : Int) (u5 : Option aV) (u6 : Option aV) (u7 : Option aV) (h : aH) : ev xs d mm_246 24 [some (.inr (.inr v0)), some (.inl v1), some (.inr (.inl v2)), u3, some (.inl v4), u5, u6, u7] [] h =
  bif aok h.1 v0 12 then
    bif aok h.1 v0 12 then
      bif ain h.1 (h.2 v0.toNat 23) 100 (h.2 v0.toNat 18) then
        bif decide ((h.2 (h.2 v0.toNat 23).toNat (h.2 v0.toNat 18).toNat) ≤ v4) then
          some (some (.inl (-2)), h)
        else
          bif aok h.1 v0 12 then
            bif ain h.1 (h.2 v0.toNat 64) 101 (w32 (45 + v4)) then
              bif aok h.1 v0 12 then
                bif ain h.1 (h.2 v0.toNat 64) 101 52 then
                  bif decide (¬ (olcmp (oland (olshr (h.2 (h.2 v0.toNat 64).toNat (52 : Int).toNat) (ol2i (h.2 (h.2 v0.toNat 64).toNat (w32 (45 + v4)).toNat))) 1) 0) = 0) then
                    bif aok h.1 v0 12 && true then
                      bJ (cl xs d 239 [.inr (.inr v0), .inl (ol2i (h.2 (h.2 v0.toNat 64).toNat (w32 (45 + v4)).toNat)), .inr (.inl v2)] h) (fun x2 h1 =>
                      bif decide ((olcmp v2 0) ≤ 0) then
                        ev xs d mm_246 24 [some (.inr (.inr v0)), some (.inl v1), some (.inr (.inl x2)), none, some (.inl (w32 (v4 + 1))), some (.inl (ol2i (h.2 (h.2 v0.toNat 64).toNat (w32 (45 + v4)).toNat))), some (.inr (.inl x2)), none] [] h1
                      else
                        bif decide (¬ (olcmp x2 0) = 0) then
                          ev xs d mm_246 24 [some (.inr (.inr v0)), some (.inl v1), some (.inr (.inl x2)), none, some (.inl (w32 (v4 + 1))), some (.inl (ol2i (h.2 (h.2 v0.toNat 64).toNat (w32 (45 + v4)).toNat))), some (.inr (.inl x2)), none] [] h1
                        else
                          some (some (.inl (ol2i (h.2 (h.2 v0.toNat 64).toNat (w32 (45 + v4)).toNat))), h1))
                    else none
                  else
                    ev xs d mm_246 24 [some (.inr (.inr v0)), some (.inl v1), some (.inr (.inl v2)), acl u3, some (.inl (w32 (v4 + 1))), some (.inl (ol2i (h.2 (h.2 v0.toNat 64).toNat (w32 (45 + v4)).toNat))), u6, u7] [] h
                else none
              else none
            else none
          else none
      else none
    else none
  else none :=
  (aB gP gX xs stp_246 44 d mm_246 24 _ _ h).trans rfl

theorem c_246 (xs : List Int) (d : Nat) (v0 : Int) (v1 : Int) (h : aH) : cl xs (d + 1) 246 [.inr (.inr v0), .inl v1] h =
  bif aok h.1 v0 12 && true then
    bI (cl xs d 230 [.inr (.inr v0), .inl v1] h) (fun x2 h1 =>
    bif decide (¬ x2 = 0) then
      bif aok h1.1 v0 12 && true then
        bV (cl xs d 229 [.inr (.inr v0)] h1) (fun h3 =>
        bif aok h3.1 v0 12 then
          bif ain h3.1 (h3.2 v0.toNat 64) 101 v1 then
            ev xs d mm_246 24 [some (.inr (.inr v0)), some (.inl v1), some (.inr (.inl (h3.2 (h3.2 v0.toNat 64).toNat v1.toNat))), none, some (.inl 0), none, none, none] [] h3
          else none
        else none)
      else none
    else
      some (some (.inl (-1)), h1))
  else none :=
  (show _ = ev xs d mm_246 0 [some (.inr (.inr v0)), some (.inl v1), none, none, none, none, none, none] [] h from rfl).trans (q_246_0 xs d v0 v1 h)
def stp_247 : List Nat := [0]
set_option maxRecDepth 100000 in
set_option maxHeartbeats 4000000 in
theorem q_247_0 (xs : List Int) (d : Nat) (v0 : Int) (v1 : Int) (v2 : Int) (h : aH) : ev xs d mm_247 0 [some (.inr (.inr v0)), some (.inl v1), some (.inl v2)] [] h =
  bif decide (0 ≤ v2) then
    bif aok h.1 v0 12 then
      bif aok h.1 v0 12 then
        bif ain h.1 (h.2 v0.toNat 31) 101 (w32 ((w32 ((w32 (24 * (h.2 v0.toNat 18))) + (w32 (8 * v1)))) + v2)) then
          some (some (.inr (.inl (h.2 (h.2 v0.toNat 31).toNat (w32 ((w32 ((w32 (24 * (h.2 v0.toNat 18))) + (w32 (8 * v1)))) + v2)).toNat))), h)
        else none
      else none
    else none
  else
    some (some (.inr (.inl 0)), h) :=
  (aB gP gX xs stp_247 17 d mm_247 0 _ _ h).trans rfl

theorem c_247 (xs : List Int) (d : Nat) (v0 : Int) (v1 : Int) (v2 : Int) (h : aH) : cl xs (d + 1) 247 [.inr (.inr v0), .inl v1, .inl v2] h =
  bif decide (0 ≤ v2) then
    bif aok h.1 v0 12 then
      bif aok h.1 v0 12 then
        bif ain h.1 (h.2 v0.toNat 31) 101 (w32 ((w32 ((w32 (24 * (h.2 v0.toNat 18))) + (w32 (8 * v1)))) + v2)) then
          some (some (.inr (.inl (h.2 (h.2 v0.toNat 31).toNat (w32 ((w32 ((w32 (24 * (h.2 v0.toNat 18))) + (w32 (8 * v1)))) + v2)).toNat))), h)
        else none
      else none
    else none
  else
    some (some (.inr (.inl 0)), h) :=
  (show _ = ev xs d mm_247 0 [some (.inr (.inr v0)), some (.inl v1), some (.inl v2)] [] h from rfl).trans (q_247_0 xs d v0 v1 v2 h)
def stp_248 : List Nat := [0, 16]
set_option maxRecDepth 100000 in
set_option maxHeartbeats 4000000 in
theorem q_248_0 (xs : List Int) (d : Nat) (v0 : Int) (h : aH) : ev xs d mm_248 0 [some (.inr (.inr v0))] [] h =
  bif aok h.1 v0 12 then
    bif aok h.1 v0 12 then
      bif aok h.1 v0 12 then
        ev xs d mm_248 16 [some (.inr (.inr v0))] [] (h.1, aup (aup (aup h.2 v0.toNat 66 (-1)) v0.toNat 67 (-1)) v0.toNat 68 (-9))
      else none
    else none
  else none :=
  (aB gP gX xs stp_248 10 d mm_248 0 _ _ h).trans rfl

set_option maxRecDepth 100000 in
set_option maxHeartbeats 4000000 in
theorem q_248_16 (xs : List Int) (d : Nat) (v0 : Int) (h : aH) : ev xs d mm_248 16 [some (.inr (.inr v0))] [] h =
  some (none, h) :=
  (aB gP gX xs stp_248 2 d mm_248 16 _ _ h).trans rfl

theorem c_248 (xs : List Int) (d : Nat) (v0 : Int) (h : aH) : cl xs (d + 1) 248 [.inr (.inr v0)] h =
  bif aok h.1 v0 12 then
    bif aok h.1 v0 12 then
      bif aok h.1 v0 12 then
        ev xs d mm_248 16 [some (.inr (.inr v0))] [] (h.1, aup (aup (aup h.2 v0.toNat 66 (-1)) v0.toNat 67 (-1)) v0.toNat 68 (-9))
      else none
    else none
  else none :=
  (show _ = ev xs d mm_248 0 [some (.inr (.inr v0))] [] h from rfl).trans (q_248_0 xs d v0 h)
def stp_249 : List Nat := [0, 43, 79, 121]
set_option maxRecDepth 100000 in
set_option maxHeartbeats 4000000 in
theorem q_249_0 (xs : List Int) (d : Nat) (v0 : Int) (h : aH) : ev xs d mm_249 0 [some (.inr (.inr v0)), none] [] h =
  bif aok h.1 v0 12 then
    bif aok h.1 v0 12 then
      bif ain h.1 (h.2 v0.toNat 30) 100 (w32 ((w32 (3 * (h.2 v0.toNat 18))) + 1)) then
        bif aok h.1 v0 12 then
          bif decide ((h.2 v0.toNat 68) < 0) then
            ev xs d mm_249 43 [some (.inr (.inr v0)), some (.inl (h.2 (h.2 v0.toNat 30).toNat (w32 ((w32 (3 * (h.2 v0.toNat 18))) + 1)).toNat))] [] h
          else
            bif aok h.1 v0 12 then
              bif decide ((h.2 (h.2 v0.toNat 30).toNat (w32 ((w32 (3 * (h.2 v0.toNat 18))) + 1)).toNat) ≤ (w32 ((h.2 v0.toNat 69) + 1))) then
                ev xs d mm_249 43 [some (.inr (.inr v0)), some (.inl (h.2 (h.2 v0.toNat 30).toNat (w32 ((w32 (3 * (h.2 v0.toNat 18))) + 1)).toNat))] [] h
              else
                bif aok h.1 v0 12 then
                  bif aok h.1 v0 12 then
                    some (some (.inl 1), (h.1, aup h.2 v0.toNat 69 (w32 ((h.2 v0.toNat 69) + 1))))
                  else none
                else none
            else none
        else none
      else none
    else none
  else none :=
  (aB gP gX xs stp_249 28 d mm_249 0 _ _ h).trans rfl

set_option maxRecDepth 100000 in
set_option maxHeartbeats 4000000 in
theorem q_249_43 (xs : List Int) (d : Nat) (v0 : Int) (v1 : Int) (h : aH) : ev xs d mm_249 43 [some (.inr (.inr v0)), some (.inl v1)] [] h =
  bif aok h.1 v0 12 then
    bif aok h.1 v0 12 then
      bif decide (((aup h.2 v0.toNat 69 (-1)) v0.toNat 68) = (-9)) then
        ev xs d mm_249 79 [some (.inr (.inr v0)), some (.inl v1)] [] (h.1, aup h.2 v0.toNat 69 (-1))
      else
        bif aok h.1 v0 12 then
          bif decide (v1 ≤ (w32 (((aup h.2 v0.toNat 69 (-1)) v0.toNat 68) + 1))) then
            ev xs d mm_249 79 [some (.inr (.inr v0)), some (.inl v1)] [] (h.1, aup h.2 v0.toNat 69 (-1))
          else
            bif aok h.1 v0 12 then
              bif aok h.1 v0 12 then
                some (some (.inl 1), (h.1, aup (aup h.2 v0.toNat 69 (-1)) v0.toNat 68 (w32 (((aup h.2 v0.toNat 69 (-1)) v0.toNat 68) + 1))))
              else none
            else none
        else none
    else none
  else none :=
  (aB gP gX xs stp_249 22 d mm_249 43 _ _ h).trans rfl

set_option maxRecDepth 100000 in
set_option maxHeartbeats 4000000 in
theorem q_249_79 (xs : List Int) (d : Nat) (v0 : Int) (v1 : Int) (h : aH) : ev xs d mm_249 79 [some (.inr (.inr v0)), some (.inl v1)] [] h =
  bif aok h.1 v0 12 then
    bif aok h.1 v0 12 then
      bif aok h.1 v0 12 then
        bif aok h.1 v0 12 then
          bif ain h.1 ((aup h.2 v0.toNat 68 (-1)) v0.toNat 30) 100 (w32 (3 * ((aup h.2 v0.toNat 68 (-1)) v0.toNat 18))) then
            bif decide (((aup h.2 v0.toNat 68 (-1)) ((aup h.2 v0.toNat 68 (-1)) v0.toNat 30).toNat (w32 (3 * ((aup h.2 v0.toNat 68 (-1)) v0.toNat 18))).toNat) ≤ (w32 (((aup h.2 v0.toNat 68 (-1)) v0.toNat 67) + 1))) then
              bif aok h.1 v0 12 then
                ev xs d mm_249 121 [some (.inr (.inr v0)), some (.inl v1)] [] (h.1, aup (aup h.2 v0.toNat 68 (-1)) v0.toNat 67 0)
              else none
            else
              bif aok h.1 v0 12 then
                bif aok h.1 v0 12 then
                  some (some (.inl 1), (h.1, aup (aup h.2 v0.toNat 68 (-1)) v0.toNat 67 (w32 (((aup h.2 v0.toNat 68 (-1)) v0.toNat 67) + 1))))
                else none
              else none
          else none
        else none
      else none
    else none
  else none :=
  (aB gP gX xs stp_249 24 d mm_249 79 _ _ h).trans rfl

set_option maxRecDepth 100000 in
set_option maxHeartbeats 4000000 in
theorem q_249_121 (xs : List Int) (d : Nat) (v0 : Int) (v1 : Int) (h : aH) : ev xs d mm_249 121 [some (.inr (.inr v0)), some (.inl v1)] [] h =
  bif aok h.1 v0 12 then
    bif aok h.1 v0 12 then
      bif aok h.1 v0 12 then
        bif aok h.1 v0 12 then
          bif aok h.1 v0 12 then
            bif ain h.1 ((aup h.2 v0.toNat 66 (w32 ((h.2 v0.toNat 66) + 1))) v0.toNat 30) 100 (w32 ((w32 (3 * ((aup h.2 v0.toNat 66 (w32 ((h.2 v0.toNat 66) + 1))) v0.toNat 18))) + 2)) then
              bif decide (((aup h.2 v0.toNat 66 (w32 ((h.2 v0.toNat 66) + 1))) ((aup h.2 v0.toNat 66 (w32 ((h.2 v0.toNat 66) + 1))) v0.toNat 30).toNat (w32 ((w32 (3 * ((aup h.2 v0.toNat 66 (w32 ((h.2 v0.toNat 66) + 1))) v0.toNat 18))) + 2)).toNat) ≤ ((aup h.2 v0.toNat 66 (w32 ((h.2 v0.toNat 66) + 1))) v0.toNat 66)) then
                some (some (.inl 0), (h.1, aup h.2 v0.toNat 66 (w32 ((h.2 v0.toNat 66) + 1))))
              else
                bif aok h.1 v0 12 then
                  bif aok h.1 v0 12 then
                    bif ain h.1 ((aup h.2 v0.toNat 66 (w32 ((h.2 v0.toNat 66) + 1))) v0.toNat 30) 100 (w32 (3 * ((aup h.2 v0.toNat 66 (w32 ((h.2 v0.toNat 66) + 1))) v0.toNat 18))) then
                      bif decide (((aup h.2 v0.toNat 66 (w32 ((h.2 v0.toNat 66) + 1))) ((aup h.2 v0.toNat 66 (w32 ((h.2 v0.toNat 66) + 1))) v0.toNat 30).toNat (w32 (3 * ((aup h.2 v0.toNat 66 (w32 ((h.2 v0.toNat 66) + 1))) v0.toNat 18))).toNat) ≤ 0) then
                        some (some (.inl 0), (h.1, aup h.2 v0.toNat 66 (w32 ((h.2 v0.toNat 66) + 1))))
                      else
                        some (some (.inl 1), (h.1, aup h.2 v0.toNat 66 (w32 ((h.2 v0.toNat 66) + 1))))
                    else none
                  else none
                else none
            else none
          else none
        else none
      else none
    else none
  else none :=
  (aB gP gX xs stp_249 30 d mm_249 121 _ _ h).trans rfl

theorem c_249 (xs : List Int) (d : Nat) (v0 : Int) (h : aH) : cl xs (d + 1) 249 [.inr (.inr v0)] h =
  bif aok h.1 v0 12 then
    bif aok h.1 v0 12 then
      bif ain h.1 (h.2 v0.toNat 30) 100 (w32 ((w32 (3 * (h.2 v0.toNat 18))) + 1)) then
        bif aok h.1 v0 12 then
          bif decide ((h.2 v0.toNat 68) < 0) then
            ev xs d mm_249 43 [some (.inr (.inr v0)), some (.inl (h.2 (h.2 v0.toNat 30).toNat (w32 ((w32 (3 * (h.2 v0.toNat 18))) + 1)).toNat))] [] h
          else
            bif aok h.1 v0 12 then
              bif decide ((h.2 (h.2 v0.toNat 30).toNat (w32 ((w32 (3 * (h.2 v0.toNat 18))) + 1)).toNat) ≤ (w32 ((h.2 v0.toNat 69) + 1))) then
                ev xs d mm_249 43 [some (.inr (.inr v0)), some (.inl (h.2 (h.2 v0.toNat 30).toNat (w32 ((w32 (3 * (h.2 v0.toNat 18))) + 1)).toNat))] [] h
              else
                bif aok h.1 v0 12 then
                  bif aok h.1 v0 12 then
                    some (some (.inl 1), (h.1, aup h.2 v0.toNat 69 (w32 ((h.2 v0.toNat 69) + 1))))
                  else none
                else none
            else none
        else none
      else none
    else none
  else none :=
  (show _ = ev xs d mm_249 0 [some (.inr (.inr v0)), none] [] h from rfl).trans (q_249_0 xs d v0 h)
def stp_250 : List Nat := [0]
set_option maxRecDepth 100000 in
set_option maxHeartbeats 4000000 in
theorem q_250_0 (xs : List Int) (d : Nat) (v0 : Int) (h : aH) : ev xs d mm_250 0 [some (.inr (.inr v0))] [] h =
  bif aok h.1 v0 12 then
    bif aok h.1 v0 12 && true then
      bJ (cl xs d 247 [.inr (.inr v0), .inl 2, .inl (h.2 v0.toNat 66)] h) (fun x2 h1 =>
      bI (cl xs d 236 [.inr (.inl x2)] h1) (fun x4 h3 =>
        bif aok h3.1 v0 12 then
          bif aok h3.1 v0 12 && true then
            bJ (cl xs d 247 [.inr (.inr v0), .inl 0, .inl (h3.2 v0.toNat 67)] h3) (fun x6 h5 =>
            bI (cl xs d 236 [.inr (.inl x6)] h5) (fun x8 h7 =>
              bif aok h7.1 v0 12 then
                bif aok h7.1 v0 12 && true then
                  bJ (cl xs d 247 [.inr (.inr v0), .inl 1, .inl (h7.2 v0.toNat 68)] h7) (fun x10 h9 =>
                  bI (cl xs d 236 [.inr (.inl x10)] h9) (fun x12 h11 =>
                    bif aok h11.1 v0 12 then
                      bif aok h11.1 v0 12 && true then
                        bJ (cl xs d 247 [.inr (.inr v0), .inl 1, .inl (h11.2 v0.toNat 69)] h11) (fun x14 h13 =>
                        bI (cl xs d 236 [.inr (.inl x14)] h13) (fun x16 h15 =>
                          some (some (.inl (w32 ((w32 ((w32 (x4 + x8)) + x12)) + x16))), h15)))
                      else none
                    else none))
                else none
              else none))
          else none
        else none))
    else none
  else none :=
  (aB gP gX xs stp_250 29 d mm_250 0 _ _ h).trans rfl

theorem c_250 (xs : List Int) (d : Nat) (v0 : Int) (h : aH) : cl xs (d + 1) 250 [.inr (.inr v0)] h =
  bif aok h.1 v0 12 then
    bif aok h.1 v0 12 && true then
      bJ (cl xs d 247 [.inr (.inr v0), .inl 2, .inl (h.2 v0.toNat 66)] h) (fun x2 h1 =>
      bI (cl xs d 236 [.inr (.inl x2)] h1) (fun x4 h3 =>
        bif aok h3.1 v0 12 then
          bif aok h3.1 v0 12 && true then
            bJ (cl xs d 247 [.inr (.inr v0), .inl 0, .inl (h3.2 v0.toNat 67)] h3) (fun x6 h5 =>
            bI (cl xs d 236 [.inr (.inl x6)] h5) (fun x8 h7 =>
              bif aok h7.1 v0 12 then
                bif aok h7.1 v0 12 && true then
                  bJ (cl xs d 247 [.inr (.inr v0), .inl 1, .inl (h7.2 v0.toNat 68)] h7) (fun x10 h9 =>
                  bI (cl xs d 236 [.inr (.inl x10)] h9) (fun x12 h11 =>
                    bif aok h11.1 v0 12 then
                      bif aok h11.1 v0 12 && true then
                        bJ (cl xs d 247 [.inr (.inr v0), .inl 1, .inl (h11.2 v0.toNat 69)] h11) (fun x14 h13 =>
                        bI (cl xs d 236 [.inr (.inl x14)] h13) (fun x16 h15 =>
                          some (some (.inl (w32 ((w32 ((w32 (x4 + x8)) + x12)) + x16))), h15)))
                      else none
                    else none))
                else none
              else none))
          else none
        else none))
    else none
  else none :=
  (show _ = ev xs d mm_250 0 [some (.inr (.inr v0))] [] h from rfl).trans (q_250_0 xs d v0 h)
def stp_251 : List Nat := [0, 9]
set_option maxRecDepth 100000 in
set_option maxHeartbeats 4000000 in
theorem q_251_0 (xs : List Int) (d : Nat) (v0 : Int) (v2 : Int) (h : aH) : ev xs d mm_251 0 [some (.inr (.inl v0)), none, some (.inr (.inl v2)), none, none, none, none] [] h =
  bI (cl xs d 236 [.inr (.inl v2)] h) (fun x2 h1 =>
    ev xs d mm_251 9 [some (.inr (.inl v0)), none, some (.inr (.inl v2)), none, some (.inr (.inl v0)), none, some (.inl x2)] [] h1) :=
  (aB gP gX xs stp_251 6 d mm_251 0 _ _ h).trans rfl

set_option maxRecDepth 100000 in
set_option maxHeartbeats 4000000 in
theorem q_251_9 (xs : List Int) (d : Nat) (v0 : Int) (u1 : Option aV) (v2 : Int) (u3 : Option aV) (v4 : Int) (u5 : Option aV) (v6 : Int) (h : aH) : ev xs d mm_251 9 [some (.inr (.inl v0)), u1, some (.inr (.inl v2)), u3, some (.inr (.inl v4)), u5, some (.inl v6)] [] h =
  bif decide (v6 ≤ 0) then
    some (some (.inr (.inl (w64 (v4 + v2)))), h)
  else
    ev xs d mm_251 9 [some (.inr (.inl v0)), u1, some (.inr (.inl v2)), acl u3, some (.inr (.inl (w64 (v4 * 27)))), none, some (.inl (w32 (v6 + (-1))))] [] h :=
  (aB gP gX xs stp_251 9 d mm_251 9 _ _ h).trans rfl

theorem c_251 (xs : List Int) (d : Nat) (v0 : Int) (v2 : Int) (h : aH) : cl xs (d + 1) 251 [.inr (.inl v0), .inr (.inl v2)] h =
  bI (cl xs d 236 [.inr (.inl v2)] h) (fun x2 h1 =>
    ev xs d mm_251 9 [some (.inr (.inl v0)), none, some (.inr (.inl v2)), none, some (.inr (.inl v0)), none, some (.inl x2)] [] h1) :=
  (show _ = ev xs d mm_251 0 [some (.inr (.inl v0)), none, some (.inr (.inl v2)), none, none, none, none] [] h from rfl).trans (q_251_0 xs d v0 v2 h)
def stp_252 : List Nat := [0]
set_option maxRecDepth 100000 in
set_option maxHeartbeats 4000000 in
theorem q_252_0 (xs : List Int) (d : Nat) (v0 : Int) (h : aH) : ev xs d mm_252 0 [some (.inr (.inr v0))] [] h =
  bif aok h.1 v0 12 then
    bif aok h.1 v0 12 && true then
      bJ (cl xs d 247 [.inr (.inr v0), .inl 2, .inl (h.2 v0.toNat 66)] h) (fun x2 h1 =>
      bif aok h1.1 v0 12 then
        bif aok h1.1 v0 12 && true then
          bJ (cl xs d 247 [.inr (.inr v0), .inl 0, .inl (h1.2 v0.toNat 67)] h1) (fun x4 h3 =>
          bJ (cl xs d 251 [.inr (.inl x2), .inr (.inl x4)] h3) (fun x6 h5 =>
            bif aok h5.1 v0 12 then
              bif aok h5.1 v0 12 && true then
                bJ (cl xs d 247 [.inr (.inr v0), .inl 1, .inl (h5.2 v0.toNat 68)] h5) (fun x8 h7 =>
                bJ (cl xs d 251 [.inr (.inl x6), .inr (.inl x8)] h7) (fun x10 h9 =>
                  bif aok h9.1 v0 12 then
                    bif aok h9.1 v0 12 && true then
                      bJ (cl xs d 247 [.inr (.inr v0), .inl 1, .inl (h9.2 v0.toNat 69)] h9) (fun x12 h11 =>
                      bJ (cl xs d 251 [.inr (.inl x10), .inr (.inl x12)] h11) (fun x14 h13 =>
                        some (some (.inr (.inl x14)), h13)))
                    else none
                  else none))
              else none
            else none))
        else none
      else none)
    else none
  else none :=
  (aB gP gX xs stp_252 25 d mm_252 0 _ _ h).trans rfl

theorem c_252 (xs : List Int) (d : Nat) (v0 : Int) (h : aH) : cl xs (d + 1) 252 [.inr (.inr v0)] h =
  bif aok h.1 v0 12 then
    bif aok h.1 v0 12 && true then
      bJ (cl xs d 247 [.inr (.inr v0), .inl 2, .inl (h.2 v0.toNat 66)] h) (fun x2 h1 =>
      bif aok h1.1 v0 12 then
        bif aok h1.1 v0 12 && true then
          bJ (cl xs d 247 [.inr (.inr v0), .inl 0, .inl (h1.2 v0.toNat 67)] h1) (fun x4 h3 =>
          bJ (cl xs d 251 [.inr (.inl x2), .inr (.inl x4)] h3) (fun x6 h5 =>
            bif aok h5.1 v0 12 then
              bif aok h5.1 v0 12 && true then
                bJ (cl xs d 247 [.inr (.inr v0), .inl 1, .inl (h5.2 v0.toNat 68)] h5) (fun x8 h7 =>
                bJ (cl xs d 251 [.inr (.inl x6), .inr (.inl x8)] h7) (fun x10 h9 =>
                  bif aok h9.1 v0 12 then
                    bif aok h9.1 v0 12 && true then
                      bJ (cl xs d 247 [.inr (.inr v0), .inl 1, .inl (h9.2 v0.toNat 69)] h9) (fun x12 h11 =>
                      bJ (cl xs d 251 [.inr (.inl x10), .inr (.inl x12)] h11) (fun x14 h13 =>
                        some (some (.inr (.inl x14)), h13)))
                    else none
                  else none))
              else none
            else none))
        else none
      else none)
    else none
  else none :=
  (show _ = ev xs d mm_252 0 [some (.inr (.inr v0))] [] h from rfl).trans (q_252_0 xs d v0 h)
def stp_253 : List Nat := [0]
set_option maxRecDepth 100000 in
set_option maxHeartbeats 4000000 in
theorem q_253_0 (xs : List Int) (d : Nat) (v0 : Int) (h : aH) : ev xs d mm_253 0 [some (.inr (.inr v0))] [] h =
  bif aok h.1 v0 12 then
    bif aok h.1 v0 12 then
      bif aok h.1 v0 12 then
        bif aok h.1 v0 12 then
          some (some (.inl (w32 ((w32 ((w32 ((w32 ((w32 (1000 * (w32 ((h.2 v0.toNat 66) + 1)))) + (w32 (100 * (w32 ((h.2 v0.toNat 67) + 1)))))) + (w32 (10 * (w32 ((h.2 v0.toNat 68) + 1)))))) + (h.2 v0.toNat 69))) + 1))), h)
        else none
      else none
    else none
  else none :=
  (aB gP gX xs stp_253 27 d mm_253 0 _ _ h).trans rfl

theorem c_253 (xs : List Int) (d : Nat) (v0 : Int) (h : aH) : cl xs (d + 1) 253 [.inr (.inr v0)] h =
  bif aok h.1 v0 12 then
    bif aok h.1 v0 12 then
      bif aok h.1 v0 12 then
        bif aok h.1 v0 12 then
          some (some (.inl (w32 ((w32 ((w32 ((w32 ((w32 (1000 * (w32 ((h.2 v0.toNat 66) + 1)))) + (w32 (100 * (w32 ((h.2 v0.toNat 67) + 1)))))) + (w32 (10 * (w32 ((h.2 v0.toNat 68) + 1)))))) + (h.2 v0.toNat 69))) + 1))), h)
        else none
      else none
    else none
  else none :=
  (show _ = ev xs d mm_253 0 [some (.inr (.inr v0))] [] h from rfl).trans (q_253_0 xs d v0 h)
def stp_254 : List Nat := [0]
set_option maxRecDepth 100000 in
set_option maxHeartbeats 4000000 in
theorem q_254_0 (xs : List Int) (d : Nat) (v0 : Int) (v1 : Int) (h : aH) : ev xs d mm_254 0 [some (.inr (.inr v0)), some (.inr (.inl v1)), none] [] h =
  bif aok h.1 v0 12 && true then
    bI (cl xs d 250 [.inr (.inr v0)] h) (fun x2 h1 =>
    bI (cl xs d 236 [.inr (.inl v1)] h1) (fun x4 h3 =>
      bif decide (¬ x2 = x4) then
        some (some (.inl 0), h3)
      else
        bif aok h3.1 v0 12 && true then
          bJ (cl xs d 252 [.inr (.inr v0)] h3) (fun x6 h5 =>
          bif decide (¬ (olcmp x6 v1) = 0) then
            some (some (.inl 0), h5)
          else
            some (some (.inl 1), h5))
        else none))
  else none :=
  (aB gP gX xs stp_254 14 d mm_254 0 _ _ h).trans rfl

theorem c_254 (xs : List Int) (d : Nat) (v0 : Int) (v1 : Int) (h : aH) : cl xs (d + 1) 254 [.inr (.inr v0), .inr (.inl v1)] h =
  bif aok h.1 v0 12 && true then
    bI (cl xs d 250 [.inr (.inr v0)] h) (fun x2 h1 =>
    bI (cl xs d 236 [.inr (.inl v1)] h1) (fun x4 h3 =>
      bif decide (¬ x2 = x4) then
        some (some (.inl 0), h3)
      else
        bif aok h3.1 v0 12 && true then
          bJ (cl xs d 252 [.inr (.inr v0)] h3) (fun x6 h5 =>
          bif decide (¬ (olcmp x6 v1) = 0) then
            some (some (.inl 0), h5)
          else
            some (some (.inl 1), h5))
        else none))
  else none :=
  (show _ = ev xs d mm_254 0 [some (.inr (.inr v0)), some (.inr (.inl v1)), none] [] h from rfl).trans (q_254_0 xs d v0 v1 h)
def stp_255 : List Nat := [0, 37]
set_option maxRecDepth 100000 in
set_option maxHeartbeats 4000000 in
theorem q_255_0 (xs : List Int) (d : Nat) (v0 : Int) (v1 : Int) (v2 : Int) (h : aH) : ev xs d mm_255 0 [some (.inr (.inr v0)), some (.inl v1), some (.inl v2), none, none, none] [] h =
  bif aok h.1 v0 12 && true then
    bI (cl xs d 230 [.inr (.inr v0), .inl v1] h) (fun x2 h1 =>
    bif decide (x2 = 0) then
      some (some (.inl (-1)), h1)
    else
      bif decide ((-1) ≤ v2) then
        bif aok h1.1 v0 12 && true then
          bV (cl xs d 229 [.inr (.inr v0)] h1) (fun h3 =>
          bif aok h3.1 v0 12 then
            bif ain h3.1 (h3.2 v0.toNat 64) 101 v1 then
              bif aok h3.1 v0 12 && true then
                bJ (cl xs d 241 [.inr (.inr v0), .inr (.inl (h3.2 (h3.2 v0.toNat 64).toNat v1.toNat))] h3) (fun x5 h4 =>
                bif aok h4.1 v0 12 && true then
                  bV (cl xs d 248 [.inr (.inr v0)] h4) (fun h6 =>
                  ev xs d mm_255 37 [some (.inr (.inr v0)), some (.inl v1), some (.inl v2), some (.inr (.inl x5)), none, some (.inl 0)] [] h6)
                else none)
              else none
            else none
          else none)
        else none
      else
        some (some (.inl (-1)), h1))
  else none :=
  (aB gP gX xs stp_255 21 d mm_255 0 _ _ h).trans rfl

set_option maxRecDepth 100000 in
set_option maxHeartbeats 4000000 in
theorem q_255_37 (xs : List Int) (d : Nat) (v0 : Int) (v1 : Int) (v2 : Int) (v3 : Int) (u4 : Option aV) (v5 : Int) (h : aH) : ev xs d mm_255 37 [some (.inr (.inr v0)), some (.inl v1), some (.inl v2), some (.inr (.inl v3)), u4, some (.inl v5)] [] h =
  bif aok h.1 v0 12 && true then
    bI (cl xs d 249 [.inr (.inr v0)] h) (fun x2 h1 =>
    bif decide (x2 = 0) then
      bif decide (¬ v2 = (-1)) then
        some (some (.inl (-1)), h1)
      else
        some (some (.inl v5), h1)
    else
      bif aok h1.1 v0 12 && true then
        bI (cl xs d 254 [.inr (.inr v0), .inr (.inl v3)] h1) (fun x4 h3 =>
        bif decide (¬ x4 = 0) then
          bif decide (¬ v5 = v2) then
            ev xs d mm_255 37 [some (.inr (.inr v0)), some (.inl v1), some (.inl v2), some (.inr (.inl v3)), acl u4, some (.inl (w32 (v5 + 1)))] [] h3
          else
            bif aok h3.1 v0 12 && true then
              bI (cl xs d 253 [.inr (.inr v0)] h3) (fun x6 h5 =>
              some (some (.inl x6), h5))
            else none
        else
          ev xs d mm_255 37 [some (.inr (.inr v0)), some (.inl v1), some (.inl v2), some (.inr (.inl v3)), u4, some (.inl v5)] [] h3)
      else none)
  else none :=
  (aB gP gX xs stp_255 14 d mm_255 37 _ _ h).trans rfl

theorem c_255 (xs : List Int) (d : Nat) (v0 : Int) (v1 : Int) (v2 : Int) (h : aH) : cl xs (d + 1) 255 [.inr (.inr v0), .inl v1, .inl v2] h =
  bif aok h.1 v0 12 && true then
    bI (cl xs d 230 [.inr (.inr v0), .inl v1] h) (fun x2 h1 =>
    bif decide (x2 = 0) then
      some (some (.inl (-1)), h1)
    else
      bif decide ((-1) ≤ v2) then
        bif aok h1.1 v0 12 && true then
          bV (cl xs d 229 [.inr (.inr v0)] h1) (fun h3 =>
          bif aok h3.1 v0 12 then
            bif ain h3.1 (h3.2 v0.toNat 64) 101 v1 then
              bif aok h3.1 v0 12 && true then
                bJ (cl xs d 241 [.inr (.inr v0), .inr (.inl (h3.2 (h3.2 v0.toNat 64).toNat v1.toNat))] h3) (fun x5 h4 =>
                bif aok h4.1 v0 12 && true then
                  bV (cl xs d 248 [.inr (.inr v0)] h4) (fun h6 =>
                  ev xs d mm_255 37 [some (.inr (.inr v0)), some (.inl v1), some (.inl v2), some (.inr (.inl x5)), none, some (.inl 0)] [] h6)
                else none)
              else none
            else none
          else none)
        else none
      else
        some (some (.inl (-1)), h1))
  else none :=
  (show _ = ev xs d mm_255 0 [some (.inr (.inr v0)), some (.inl v1), some (.inl v2), none, none, none] [] h from rfl).trans (q_255_0 xs d v0 v1 v2 h)
def stp_256 : List Nat := [0]
set_option maxRecDepth 100000 in
set_option maxHeartbeats 4000000 in
theorem q_256_0 (xs : List Int) (d : Nat) (v0 : Int) (v1 : Int) (h : aH) : ev xs d mm_256 0 [some (.inr (.inr v0)), some (.inl v1)] [] h =
  bif aok h.1 v0 12 && true then
    bI (cl xs d 231 [.inr (.inr v0), .inl v1] h) (fun x2 h1 =>
    bif decide (x2 = 0) then
      some (some (.inl (-1)), h1)
    else
      bif aok h1.1 v0 12 then
        bif ain h1.1 (h1.2 v0.toNat 63) 101 (w32 (45 + v1)) then
          some (some (.inl (ol2i (h1.2 (h1.2 v0.toNat 63).toNat (w32 (45 + v1)).toNat))), h1)
        else none
      else none)
  else none :=
  (aB gP gX xs stp_256 14 d mm_256 0 _ _ h).trans rfl

theorem c_256 (xs : List Int) (d : Nat) (v0 : Int) (v1 : Int) (h : aH) : cl xs (d + 1) 256 [.inr (.inr v0), .inl v1] h =
  bif aok h.1 v0 12 && true then
    bI (cl xs d 231 [.inr (.inr v0), .inl v1] h) (fun x2 h1 =>
    bif decide (x2 = 0) then
      some (some (.inl (-1)), h1)
    else
      bif aok h1.1 v0 12 then
        bif ain h1.1 (h1.2 v0.toNat 63) 101 (w32 (45 + v1)) then
          some (some (.inl (ol2i (h1.2 (h1.2 v0.toNat 63).toNat (w32 (45 + v1)).toNat))), h1)
        else none
      else none)
  else none :=
  (show _ = ev xs d mm_256 0 [some (.inr (.inr v0)), some (.inl v1)] [] h from rfl).trans (q_256_0 xs d v0 v1 h)
def stp_257 : List Nat := [0]
set_option maxRecDepth 100000 in
set_option maxHeartbeats 4000000 in
theorem q_257_0 (xs : List Int) (d : Nat) (v0 : Int) (v1 : Int) (h : aH) : ev xs d mm_257 0 [some (.inr (.inr v0)), some (.inl v1)] [] h =
  bif aok h.1 v0 12 && true then
    bI (cl xs d 231 [.inr (.inr v0), .inl v1] h) (fun x2 h1 =>
    bif decide (x2 = 0) then
      some (some (.inl (-1)), h1)
    else
      bif aok h1.1 v0 12 then
        bif ain h1.1 (h1.2 v0.toNat 63) 101 52 then
          some (some (.inl (ol2i (oland (olshr (h1.2 (h1.2 v0.toNat 63).toNat (52 : Int).toNat) v1) 1))), h1)
        else none
      else none)
  else none :=
  (aB gP gX xs stp_257 16 d mm_257 0 _ _ h).trans rfl

theorem c_257 (xs : List Int) (d : Nat) (v0 : Int) (v1 : Int) (h : aH) : cl xs (d + 1) 257 [.inr (.inr v0), .inl v1] h =
  bif aok h.1 v0 12 && true then
    bI (cl xs d 231 [.inr (.inr v0), .inl v1] h) (fun x2 h1 =>
    bif decide (x2 = 0) then
      some (some (.inl (-1)), h1)
    else
      bif aok h1.1 v0 12 then
        bif ain h1.1 (h1.2 v0.toNat 63) 101 52 then
          some (some (.inl (ol2i (oland (olshr (h1.2 (h1.2 v0.toNat 63).toNat (52 : Int).toNat) v1) 1))), h1)
        else none
      else none)
  else none :=
  (show _ = ev xs d mm_257 0 [some (.inr (.inr v0)), some (.inl v1)] [] h from rfl).trans (q_257_0 xs d v0 v1 h)
def stp_258 : List Nat := [0, 11, 51]
set_option maxRecDepth 100000 in
set_option maxHeartbeats 4000000 in
theorem q_258_0 (xs : List Int) (d : Nat) (v0 : Int) (h : aH) : ev xs d mm_258 0 [some (.inr (.inr v0)), none] [] h =
  bif aok h.1 v0 12 then
    bif decide (¬ (h.2 v0.toNat 70) = 30) then
      ev xs d mm_258 51 [some (.inr (.inr v0)), some (.inl 0)] [] h
    else
      ev xs d mm_258 11 [some (.inr (.inr v0)), some (.inl 0)] [] h
  else none :=
  (aB gP gX xs stp_258 7 d mm_258 0 _ _ h).trans rfl

set_option maxRecDepth 100000 in
set_option maxHeartbeats 4000000 in
theorem q_258_11 (xs : List Int) (d : Nat) (v0 : Int) (v1 : Int) (h : aH) : ev xs d mm_258 11 [some (.inr (.inr v0)), some (.inl v1)] [] h =
  bif decide (1740 ≤ v1) then
    bif aok h.1 v0 12 then
      bif aok h.1 v0 12 then
        ev xs d mm_258 51 [some (.inr (.inr v0)), some (.inl 0)] [] (h.1, aup h.2 v0.toNat 70 (w32 ((h.2 v0.toNat 70) - 1)))
      else none
    else none
  else
    bif aok h.1 v0 12 then
      bif aok h.1 v0 12 then
        bif ain h.1 (h.2 v0.toNat 71) 101 (w32 (v1 + 60)) then
          bif ain h.1 (h.2 v0.toNat 71) 101 v1 then
            ev xs d mm_258 11 [some (.inr (.inr v0)), some (.inl (w32 (v1 + 1)))] [] (h.1, aup h.2 (h.2 v0.toNat 71).toNat v1.toNat (h.2 (h.2 v0.toNat 71).toNat (w32 (v1 + 60)).toNat))
          else none
        else none
      else none
    else none :=
  (aB gP gX xs stp_258 16 d mm_258 11 _ _ h).trans rfl

set_option maxRecDepth 100000 in
set_option maxHeartbeats 4000000 in
theorem q_258_51 (xs : List Int) (d : Nat) (v0 : Int) (v1 : Int) (h : aH) : ev xs d mm_258 51 [some (.inr (.inr v0)), some (.inl v1)] [] h =
  bif decide (60 ≤ v1) then
    bif aok h.1 v0 12 then
      bif aok h.1 v0 12 then
        bif aok h.1 v0 12 && true then
          bV (cl xs d 228 [.inr (.inr v0)] (h.1, aup h.2 v0.toNat 70 (w32 ((h.2 v0.toNat 70) + 1)))) (fun h1 =>
          some (none, h1))
        else none
      else none
    else none
  else
    bif aok h.1 v0 12 then
      bif aok h.1 v0 12 then
        bif aok h.1 v0 12 then
          bif ain h.1 (h.2 v0.toNat 63) 101 v1 then
            bif ain h.1 (h.2 v0.toNat 71) 101 (w32 ((w32 (60 * (h.2 v0.toNat 70))) + v1)) then
              ev xs d mm_258 51 [some (.inr (.inr v0)), some (.inl (w32 (v1 + 1)))] [] (h.1, aup h.2 (h.2 v0.toNat 71).toNat (w32 ((w32 (60 * (h.2 v0.toNat 70))) + v1)).toNat (h.2 (h.2 v0.toNat 63).toNat v1.toNat))
            else none
          else none
        else none
      else none
    else none :=
  (aB gP gX xs stp_258 19 d mm_258 51 _ _ h).trans rfl

theorem c_258 (xs : List Int) (d : Nat) (v0 : Int) (h : aH) : cl xs (d + 1) 258 [.inr (.inr v0)] h =
  bif aok h.1 v0 12 then
    bif decide (¬ (h.2 v0.toNat 70) = 30) then
      ev xs d mm_258 51 [some (.inr (.inr v0)), some (.inl 0)] [] h
    else
      ev xs d mm_258 11 [some (.inr (.inr v0)), some (.inl 0)] [] h
  else none :=
  (show _ = ev xs d mm_258 0 [some (.inr (.inr v0)), none] [] h from rfl).trans (q_258_0 xs d v0 h)
def stp_259 : List Nat := [0]
set_option maxRecDepth 100000 in
set_option maxHeartbeats 4000000 in
theorem q_259_0 (xs : List Int) (d : Nat) (v0 : Int) (v1 : Int) (h : aH) : ev xs d mm_259 0 [some (.inr (.inr v0)), some (.inl v1)] [] h =
  bif aok h.1 v0 12 && true then
    bI (cl xs d 231 [.inr (.inr v0), .inl v1] h) (fun x2 h1 =>
    bif decide (¬ x2 = 0) then
      bif aok h1.1 v0 12 && true then
        bV (cl xs d 229 [.inr (.inr v0)] h1) (fun h3 =>
        bif aok h3.1 v0 12 then
          bif ain h3.1 (h3.2 v0.toNat 64) 101 52 then
            bif ain h3.1 (h3.2 v0.toNat 64) 101 52 then
              bif aok h3.1 v0 12 && true then
                bV (cl xs d 258 [.inr (.inr v0)] (h3.1, aup h3.2 (h3.2 v0.toNat 64).toNat (52 : Int).toNat (olxor (h3.2 (h3.2 v0.toNat 64).toNat (52 : Int).toNat) (olshl 1 v1)))) (fun h4 =>
                some (some (.inl 1), h4))
              else none
            else none
          else none
        else none)
      else none
    else
      some (some (.inl 0), h1))
  else none :=
  (aB gP gX xs stp_259 21 d mm_259 0 _ _ h).trans rfl

theorem c_259 (xs : List Int) (d : Nat) (v0 : Int) (v1 : Int) (h : aH) : cl xs (d + 1) 259 [.inr (.inr v0), .inl v1] h =
  bif aok h.1 v0 12 && true then
    bI (cl xs d 231 [.inr (.inr v0), .inl v1] h) (fun x2 h1 =>
    bif decide (¬ x2 = 0) then
      bif aok h1.1 v0 12 && true then
        bV (cl xs d 229 [.inr (.inr v0)] h1) (fun h3 =>
        bif aok h3.1 v0 12 then
          bif ain h3.1 (h3.2 v0.toNat 64) 101 52 then
            bif ain h3.1 (h3.2 v0.toNat 64) 101 52 then
              bif aok h3.1 v0 12 && true then
                bV (cl xs d 258 [.inr (.inr v0)] (h3.1, aup h3.2 (h3.2 v0.toNat 64).toNat (52 : Int).toNat (olxor (h3.2 (h3.2 v0.toNat 64).toNat (52 : Int).toNat) (olshl 1 v1)))) (fun h4 =>
                some (some (.inl 1), h4))
              else none
            else none
          else none
        else none)
      else none
    else
      some (some (.inl 0), h1))
  else none :=
  (show _ = ev xs d mm_259 0 [some (.inr (.inr v0)), some (.inl v1)] [] h from rfl).trans (q_259_0 xs d v0 v1 h)
def stp_260 : List Nat := [0]
set_option maxRecDepth 100000 in
set_option maxHeartbeats 4000000 in
theorem q_260_0 (xs : List Int) (d : Nat) (v0 : Int) (v1 : Int) (v2 : Int) (h : aH) : ev xs d mm_260 0 [some (.inr (.inr v0)), some (.inl v1), some (.inl v2), none, none] [] h =
  bif aok h.1 v0 12 && true then
    bI (cl xs d 231 [.inr (.inr v0), .inl v1] h) (fun x2 h1 =>
    bif decide (x2 = 0) then
      some (some (.inl 0), h1)
    else
      bif aok h1.1 v0 12 && true then
        bI (cl xs d 231 [.inr (.inr v0), .inl v2] h1) (fun x4 h3 =>
        bif decide (x4 = 0) then
          some (some (.inl 0), h3)
        else
          bif decide (¬ v1 = v2) then
            bif aok h3.1 v0 12 && true then
              bV (cl xs d 229 [.inr (.inr v0)] h3) (fun h5 =>
              bif aok h5.1 v0 12 then
                bif ain h5.1 (h5.2 v0.toNat 64) 101 (w32 (45 + v1)) then
                  bif aok h5.1 v0 12 then
                    bif aok h5.1 v0 12 then
                      bif ain h5.1 (h5.2 v0.toNat 64) 101 (w32 (45 + v2)) then
                        bif ain h5.1 (h5.2 v0.toNat 64) 101 (w32 (45 + v1)) then
                          bif aok h5.1 v0 12 then
                            bif ain h5.1 ((aup h5.2 (h5.2 v0.toNat 64).toNat (w32 (45 + v1)).toNat (h5.2 (h5.2 v0.toNat 64).toNat (w32 (45 + v2)).toNat)) v0.toNat 64) 101 (w32 (45 + v2)) then
                              bif aok h5.1 v0 12 && true then
                                bV (cl xs d 258 [.inr (.inr v0)] (h5.1, aup (aup h5.2 (h5.2 v0.toNat 64).toNat (w32 (45 + v1)).toNat (h5.2 (h5.2 v0.toNat 64).toNat (w32 (45 + v2)).toNat)) ((aup h5.2 (h5.2 v0.toNat 64).toNat (w32 (45 + v1)).toNat (h5.2 (h5.2 v0.toNat 64).toNat (w32 (45 + v2)).toNat)) v0.toNat 64).toNat (w32 (45 + v2)).toNat (h5.2 (h5.2 v0.toNat 64).toNat (w32 (45 + v1)).toNat))) (fun h6 =>
                                some (some (.inl 1), h6))
                              else none
                            else none
                          else none
                        else none
                      else none
                    else none
                  else none
                else none
              else none)
            else none
          else
            some (some (.inl 0), h3))
      else none)
  else none :=
  (aB gP gX xs stp_260 44 d mm_260 0 _ _ h).trans rfl

theorem c_260 (xs : List Int) (d : Nat) (v0 : Int) (v1 : Int) (v2 : Int) (h : aH) : cl xs (d + 1) 260 [.inr (.inr v0), .inl v1, .inl v2] h =
  bif aok h.1 v0 12 && true then
    bI (cl xs d 231 [.inr (.inr v0), .inl v1] h) (fun x2 h1 =>
    bif decide (x2 = 0) then
      some (some (.inl 0), h1)
    else
      bif aok h1.1 v0 12 && true then
        bI (cl xs d 231 [.inr (.inr v0), .inl v2] h1) (fun x4 h3 =>
        bif decide (x4 = 0) then
          some (some (.inl 0), h3)
        else
          bif decide (¬ v1 = v2) then
            bif aok h3.1 v0 12 && true then
              bV (cl xs d 229 [.inr (.inr v0)] h3) (fun h5 =>
              bif aok h5.1 v0 12 then
                bif ain h5.1 (h5.2 v0.toNat 64) 101 (w32 (45 + v1)) then
                  bif aok h5.1 v0 12 then
                    bif aok h5.1 v0 12 then
                      bif ain h5.1 (h5.2 v0.toNat 64) 101 (w32 (45 + v2)) then
                        bif ain h5.1 (h5.2 v0.toNat 64) 101 (w32 (45 + v1)) then
                          bif aok h5.1 v0 12 then
                            bif ain h5.1 ((aup h5.2 (h5.2 v0.toNat 64).toNat (w32 (45 + v1)).toNat (h5.2 (h5.2 v0.toNat 64).toNat (w32 (45 + v2)).toNat)) v0.toNat 64) 101 (w32 (45 + v2)) then
                              bif aok h5.1 v0 12 && true then
                                bV (cl xs d 258 [.inr (.inr v0)] (h5.1, aup (aup h5.2 (h5.2 v0.toNat 64).toNat (w32 (45 + v1)).toNat (h5.2 (h5.2 v0.toNat 64).toNat (w32 (45 + v2)).toNat)) ((aup h5.2 (h5.2 v0.toNat 64).toNat (w32 (45 + v1)).toNat (h5.2 (h5.2 v0.toNat 64).toNat (w32 (45 + v2)).toNat)) v0.toNat 64).toNat (w32 (45 + v2)).toNat (h5.2 (h5.2 v0.toNat 64).toNat (w32 (45 + v1)).toNat))) (fun h6 =>
                                some (some (.inl 1), h6))
                              else none
                            else none
                          else none
                        else none
                      else none
                    else none
                  else none
                else none
              else none)
            else none
          else
            some (some (.inl 0), h3))
      else none)
  else none :=
  (show _ = ev xs d mm_260 0 [some (.inr (.inr v0)), some (.inl v1), some (.inl v2), none, none] [] h from rfl).trans (q_260_0 xs d v0 v1 v2 h)
def stp_261 : List Nat := [0, 43, 116]
set_option maxRecDepth 100000 in
set_option maxHeartbeats 4000000 in
theorem q_261_0 (xs : List Int) (d : Nat) (v0 : Int) (h : aH) : ev xs d mm_261 0 [some (.inr (.inr v0)), none, none, none] [] h =
  bif aok h.1 v0 12 then
    bif aok h.1 v0 12 then
      bif ain h.1 (h.2 v0.toNat 45) 100 (h.2 v0.toNat 18) then
        bif aok h.1 v0 12 then
          bif aok h.1 v0 12 then
            bif ain h.1 (h.2 v0.toNat 46) 100 (h.2 v0.toNat 18) then
              bif decide (¬ (h.2 (h.2 v0.toNat 45).toNat (h.2 v0.toNat 18).toNat) = (h.2 (h.2 v0.toNat 46).toNat (h.2 v0.toNat 18).toNat)) then
                bif aok h.1 v0 12 && true then
                  bif aok h.1 v0 12 then
                    bif aok h.1 v0 12 then
                      bif ain h.1 ((aup h.2 v0.toNat 62 0) v0.toNat 45) 100 ((aup h.2 v0.toNat 62 0) v0.toNat 18) then
                        ev xs d mm_261 43 [some (.inr (.inr v0)), some (.inl ((aup h.2 v0.toNat 62 0) ((aup h.2 v0.toNat 62 0) v0.toNat 45).toNat ((aup h.2 v0.toNat 62 0) v0.toNat 18).toNat)), none, none] [] (h.1, aup h.2 v0.toNat 62 0)
                      else none
                    else none
                  else none
                else none
              else
                bif aok h.1 v0 12 then
                  bif ain h.1 (h.2 v0.toNat 60) 100 2 then
                    some (some (.inl (h.2 (h.2 v0.toNat 60).toNat (2 : Int).toNat)), h)
                  else none
                else none
            else none
          else none
        else none
      else none
    else none
  else none :=
  (aB gP gX xs stp_261 21 d mm_261 0 _ _ h).trans rfl

set_option maxRecDepth 100000 in
set_option maxHeartbeats 4000000 in
theorem q_261_43 (xs : List Int) (d : Nat) (v0 : Int) (v1 : Int) (u2 : Option aV) (u3 : Option aV) (h : aH) : ev xs d mm_261 43 [some (.inr (.inr v0)), some (.inl v1), u2, u3] [] h =
  bif aok h.1 v0 12 then
    bif aok h.1 v0 12 then
      bif ain h.1 (h.2 v0.toNat 46) 100 (h.2 v0.toNat 18) then
        bif decide ((h.2 (h.2 v0.toNat 46).toNat (h.2 v0.toNat 18).toNat) ≤ v1) then
          some (some (.inl 0), h)
        else
          bif aok h.1 v0 12 then
            bif ain h.1 (h.2 v0.toNat 48) 103 v1 then
              bif decide ((h.2 (h.2 v0.toNat 48).toNat v1.toNat) = 0) then
                ev xs d mm_261 116 [some (.inr (.inr v0)), some (.inl v1), u2, u3] [] h
              else
                bif aok h.1 v0 12 then
                  bif ain h.1 (h.2 v0.toNat 49) 100 v1 then
                    bif aok h.1 v0 12 then
                      bif ain h.1 (h.2 v0.toNat 50) 100 v1 then
                        bif aok h.1 v0 12 && true then
                          bI (cl xs d 225 [.inr (.inr v0), .inl (h.2 (h.2 v0.toNat 49).toNat v1.toNat), .inl (h.2 (h.2 v0.toNat 50).toNat v1.toNat)] h) (fun x2 h1 =>
                          bif aok h1.1 v0 12 then
                            bif ain h1.1 (h1.2 v0.toNat 50) 100 v1 then
                              bif aok h1.1 v0 12 then
                                bif ain h1.1 (h1.2 v0.toNat 51) 100 v1 then
                                  bif aok h1.1 v0 12 && true then
                                    bI (cl xs d 225 [.inr (.inr v0), .inl (h1.2 (h1.2 v0.toNat 50).toNat v1.toNat), .inl (h1.2 (h1.2 v0.toNat 51).toNat v1.toNat)] h1) (fun x4 h3 =>
                                    bif aok h3.1 v0 12 then
                                      bif decide ((h3.2 v0.toNat 62) = 0) then
                                        bif decide (x2 < x4) then
                                          ev xs d mm_261 116 [some (.inr (.inr v0)), some (.inl v1), some (.inl x2), some (.inl x4)] [] h3
                                        else
                                          ev xs d mm_261 43 [some (.inr (.inr v0)), some (.inl (w32 (v1 + 1))), some (.inl x2), some (.inl x4)] [] h3
                                      else
                                        some (some (.inl 0), h3)
                                    else none)
                                  else none
                                else none
                              else none
                            else none
                          else none)
                        else none
                      else none
                    else none
                  else none
                else none
            else none
          else none
      else none
    else none
  else none :=
  (aB gP gX xs stp_261 44 d mm_261 43 _ _ h).trans rfl

set_option maxRecDepth 100000 in
set_option maxHeartbeats 4000000 in
theorem q_261_116 (xs : List Int) (d : Nat) (v0 : Int) (v1 : Int) (u2 : Option aV) (u3 : Option aV) (h : aH) : ev xs d mm_261 116 [some (.inr (.inr v0)), some (.inl v1), u2, u3] [] h =
  bif aok h.1 v0 12 then
    bif ain h.1 (h.2 v0.toNat 51) 100 v1 then
      bif aok h.1 v0 12 then
        bif ain h.1 (h.2 v0.toNat 52) 100 v1 then
          bif aok h.1 v0 12 && true then
            bI (cl xs d 225 [.inr (.inr v0), .inl (h.2 (h.2 v0.toNat 51).toNat v1.toNat), .inl (h.2 (h.2 v0.toNat 52).toNat v1.toNat)] h) (fun x2 h1 =>
            bif aok h1.1 v0 12 then
              bif decide ((h1.2 v0.toNat 62) = 0) then
                some (some (.inl x2), h1)
              else
                some (some (.inl 0), h1)
            else none)
          else none
        else none
      else none
    else none
  else none :=
  (aB gP gX xs stp_261 18 d mm_261 116 _ _ h).trans rfl

theorem c_261 (xs : List Int) (d : Nat) (v0 : Int) (h : aH) : cl xs (d + 1) 261 [.inr (.inr v0)] h =
  bif aok h.1 v0 12 then
    bif aok h.1 v0 12 then
      bif ain h.1 (h.2 v0.toNat 45) 100 (h.2 v0.toNat 18) then
        bif aok h.1 v0 12 then
          bif aok h.1 v0 12 then
            bif ain h.1 (h.2 v0.toNat 46) 100 (h.2 v0.toNat 18) then
              bif decide (¬ (h.2 (h.2 v0.toNat 45).toNat (h.2 v0.toNat 18).toNat) = (h.2 (h.2 v0.toNat 46).toNat (h.2 v0.toNat 18).toNat)) then
                bif aok h.1 v0 12 && true then
                  bif aok h.1 v0 12 then
                    bif aok h.1 v0 12 then
                      bif ain h.1 ((aup h.2 v0.toNat 62 0) v0.toNat 45) 100 ((aup h.2 v0.toNat 62 0) v0.toNat 18) then
                        ev xs d mm_261 43 [some (.inr (.inr v0)), some (.inl ((aup h.2 v0.toNat 62 0) ((aup h.2 v0.toNat 62 0) v0.toNat 45).toNat ((aup h.2 v0.toNat 62 0) v0.toNat 18).toNat)), none, none] [] (h.1, aup h.2 v0.toNat 62 0)
                      else none
                    else none
                  else none
                else none
              else
                bif aok h.1 v0 12 then
                  bif ain h.1 (h.2 v0.toNat 60) 100 2 then
                    some (some (.inl (h.2 (h.2 v0.toNat 60).toNat (2 : Int).toNat)), h)
                  else none
                else none
            else none
          else none
        else none
      else none
    else none
  else none :=
  (show _ = ev xs d mm_261 0 [some (.inr (.inr v0)), none, none, none] [] h from rfl).trans (q_261_0 xs d v0 h)
def stp_262 : List Nat := [0]
set_option maxRecDepth 100000 in
set_option maxHeartbeats 4000000 in
theorem q_262_0 (xs : List Int) (d : Nat) (v0 : Int) (v1 : Int) (v2 : Int) (h : aH) : ev xs d mm_262 0 [some (.inr (.inr v0)), some (.inl v1), some (.inl v2)] [] h =
  bif decide (0 ≤ v2) then
    bif aok h.1 v0 12 then
      bif aok h.1 v0 12 then
        bif ain h.1 (h.2 v0.toNat 32) 100 (w32 ((w32 ((w32 (24 * (h.2 v0.toNat 18))) + (w32 (8 * v1)))) + v2)) then
          some (some (.inl (h.2 (h.2 v0.toNat 32).toNat (w32 ((w32 ((w32 (24 * (h.2 v0.toNat 18))) + (w32 (8 * v1)))) + v2)).toNat)), h)
        else none
      else none
    else none
  else
    some (some (.inl 0), h) :=
  (aB gP gX xs stp_262 17 d mm_262 0 _ _ h).trans rfl

theorem c_262 (xs : List Int) (d : Nat) (v0 : Int) (v1 : Int) (v2 : Int) (h : aH) : cl xs (d + 1) 262 [.inr (.inr v0), .inl v1, .inl v2] h =
  bif decide (0 ≤ v2) then
    bif aok h.1 v0 12 then
      bif aok h.1 v0 12 then
        bif ain h.1 (h.2 v0.toNat 32) 100 (w32 ((w32 ((w32 (24 * (h.2 v0.toNat 18))) + (w32 (8 * v1)))) + v2)) then
          some (some (.inl (h.2 (h.2 v0.toNat 32).toNat (w32 ((w32 ((w32 (24 * (h.2 v0.toNat 18))) + (w32 (8 * v1)))) + v2)).toNat)), h)
        else none
      else none
    else none
  else
    some (some (.inl 0), h) :=
  (show _ = ev xs d mm_262 0 [some (.inr (.inr v0)), some (.inl v1), some (.inl v2)] [] h from rfl).trans (q_262_0 xs d v0 v1 v2 h)
def stp_263 : List Nat := [0, 4]
set_option maxRecDepth 100000 in
set_option maxHeartbeats 4000000 in
theorem q_263_0 (xs : List Int) (d : Nat) (v0 : Int) (v1 : Int) (h : aH) : ev xs d mm_263 0 [some (.inr (.inr v0)), some (.inr (.inl v1)), none] [] h =
  bif aok h.1 v0 12 && true then
    bV (cl xs d 248 [.inr (.inr v0)] h) (fun h1 =>
    ev xs d mm_263 4 [some (.inr (.inr v0)), some (.inr (.inl v1)), none] [] h1)
  else none :=
  (aB gP gX xs stp_263 3 d mm_263 0 _ _ h).trans rfl

set_option maxRecDepth 100000 in
set_option maxHeartbeats 4000000 in
theorem q_263_4 (xs : List Int) (d : Nat) (v0 : Int) (v1 : Int) (u2 : Option aV) (h : aH) : ev xs d mm_263 4 [some (.inr (.inr v0)), some (.inr (.inl v1)), u2] [] h =
  bif aok h.1 v0 12 && true then
    bI (cl xs d 249 [.inr (.inr v0)] h) (fun x2 h1 =>
    bif decide (x2 = 0) then
      some (some (.inl 0), h1)
    else
      bif aok h1.1 v0 12 && true then
        bI (cl xs d 254 [.inr (.inr v0), .inr (.inl v1)] h1) (fun x4 h3 =>
        bif decide (x4 = 0) then
          ev xs d mm_263 4 [some (.inr (.inr v0)), some (.inr (.inl v1)), u2] [] h3
        else
          some (some (.inl 1), h3))
      else none)
  else none :=
  (aB gP gX xs stp_263 10 d mm_263 4 _ _ h).trans rfl

theorem c_263 (xs : List Int) (d : Nat) (v0 : Int) (v1 : Int) (h : aH) : cl xs (d + 1) 263 [.inr (.inr v0), .inr (.inl v1)] h =
  bif aok h.1 v0 12 && true then
    bV (cl xs d 248 [.inr (.inr v0)] h) (fun h1 =>
    ev xs d mm_263 4 [some (.inr (.inr v0)), some (.inr (.inl v1)), none] [] h1)
  else none :=
  (show _ = ev xs d mm_263 0 [some (.inr (.inr v0)), some (.inr (.inl v1)), none] [] h from rfl).trans (q_263_0 xs d v0 v1 h)
def stp_264 : List Nat := [0, 46, 95, 134, 157, 186, 205, 264, 279, 337, 373]
set_option maxRecDepth 100000 in
set_option maxHeartbeats 4000000 in
theorem q_264_0 (xs : List Int) (d : Nat) (v0 : Int) (v1 : Int) (h : aH) : ev xs d mm_264 0 [some (.inr (.inr v0)), some (.inl v1), none, none, none, none] [] h =
  bif aok h.1 v0 12 && true then
    bI (cl xs d 230 [.inr (.inr v0), .inl v1] h) (fun x2 h1 =>
    bif decide (¬ x2 = 0) then
      bif aok h1.1 v0 12 && true then
        bV (cl xs d 229 [.inr (.inr v0)] h1) (fun h3 =>
        bif aok h3.1 v0 12 && true then
          bI (cl xs d 233 [.inr (.inr v0), .inl v1] h3) (fun x5 h4 =>
          bif decide (¬ x5 = 0) then
            bif aok h4.1 v0 12 then
              bif ain h4.1 (h4.2 v0.toNat 64) 101 v1 then
                bif aok h4.1 v0 12 && true then
                  bJ (cl xs d 241 [.inr (.inr v0), .inr (.inl (h4.2 (h4.2 v0.toNat 64).toNat v1.toNat))] h4) (fun x7 h6 =>
                  bif aok h6.1 v0 12 && true then
                    bI (cl xs d 263 [.inr (.inr v0), .inr (.inl x7)] h6) (fun x9 h8 =>
                    ev xs d mm_264 46 [some (.inr (.inr v0)), some (.inl v1), some (.inr (.inl x7)), none, some (.inl x9), some (.inl 0)] [] h8)
                  else none)
                else none
              else none
            else none
          else
            some (some (.inl (-2)), h4))
        else none)
      else none
    else
      some (some (.inl (-1)), h1))
  else none :=
  (aB gP gX xs stp_264 24 d mm_264 0 _ _ h).trans rfl

set_option maxRecDepth 100000 in
set_option maxHeartbeats 4000000 in
theorem q_264_46 (xs : List Int) (d : Nat) (v0 : Int) (v1 : Int) (v2 : Int) (u3 : Option aV) (v4 : Int) (v5 : Int) (h : aH) : ev xs d mm_264 46 [some (.inr (.inr v0)), some (.inl v1), some (.inr (.inl v2)), u3, some (.inl v4), some (.inl v5)] [] h =
  bif decide (6 ≤ v5) then
    bif decide (v4 = 0) then
      bif aok h.1 v0 12 then
        bI (cl xs d 236 [.inr (.inl v2)] h) (fun x2 h1 =>
          bif ain h1.1 (h.2 v0.toNat 60) 100 3 then
            ev xs d mm_264 264 [some (.inr (.inr v0)), some (.inl v1), some (.inr (.inl v2)), u3, some (.inl v4), some (.inl v5)] [] (h1.1, aup h1.2 (h.2 v0.toNat 60).toNat (3 : Int).toNat x2)
          else none)
      else none
    else
      bif aok h.1 v0 12 then
        bif decide ((h.2 v0.toNat 66) < 0) then
          ev xs d mm_264 95 [some (.inr (.inr v0)), some (.inl v1), some (.inr (.inl v2)), u3, some (.inl v4), some (.inl v5)] [] h
        else
          bif aok h.1 v0 12 then
            bif aok h.1 v0 12 then
              bif ain h.1 (h.2 v0.toNat 64) 101 (w32 (36 + (h.2 v0.toNat 66))) then
                bif ain h.1 (h.2 v0.toNat 64) 101 (w32 (36 + (h.2 v0.toNat 66))) then
                  ev xs d mm_264 95 [some (.inr (.inr v0)), some (.inl v1), some (.inr (.inl v2)), u3, some (.inl v4), some (.inl v5)] [] (h.1, aup h.2 (h.2 v0.toNat 64).toNat (w32 (36 + (h.2 v0.toNat 66))).toNat (w64 ((h.2 (h.2 v0.toNat 64).toNat (w32 (36 + (h.2 v0.toNat 66))).toNat) + 1)))
                else none
              else none
            else none
          else none
      else none
  else
    bif aok h.1 v0 12 then
      bif ain h.1 (h.2 v0.toNat 60) 100 v5 then
        ev xs d mm_264 46 [some (.inr (.inr v0)), some (.inl v1), some (.inr (.inl v2)), u3, some (.inl v4), some (.inl (w32 (v5 + 1)))] [] (h.1, aup h.2 (h.2 v0.toNat 60).toNat v5.toNat 0)
      else none
    else none :=
  (aB gP gX xs stp_264 20 d mm_264 46 _ _ h).trans rfl

set_option maxRecDepth 100000 in
set_option maxHeartbeats 4000000 in
theorem q_264_95 (xs : List Int) (d : Nat) (v0 : Int) (v1 : Int) (v2 : Int) (u3 : Option aV) (v4 : Int) (v5 : Int) (h : aH) : ev xs d mm_264 95 [some (.inr (.inr v0)), some (.inl v1), some (.inr (.inl v2)), u3, some (.inl v4), some (.inl v5)] [] h =
  bif aok h.1 v0 12 then
    bif aok h.1 v0 12 then
      bif ain h.1 (h.2 v0.toNat 64) 101 (w32 (20 + (h.2 v0.toNat 67))) then
        bif ain h.1 (h.2 v0.toNat 64) 101 (w32 (20 + (h.2 v0.toNat 67))) then
          bif aok h.1 v0 12 then
            bif decide (((aup h.2 (h.2 v0.toNat 64).toNat (w32 (20 + (h.2 v0.toNat 67))).toNat (w64 ((h.2 (h.2 v0.toNat 64).toNat (w32 (20 + (h.2 v0.toNat 67))).toNat) + 1))) v0.toNat 68) < 0) then
              ev xs d mm_264 134 [some (.inr (.inr v0)), some (.inl v1), some (.inr (.inl v2)), u3, some (.inl v4), some (.inl v5)] [] (h.1, aup h.2 (h.2 v0.toNat 64).toNat (w32 (20 + (h.2 v0.toNat 67))).toNat (w64 ((h.2 (h.2 v0.toNat 64).toNat (w32 (20 + (h.2 v0.toNat 67))).toNat) + 1)))
            else
              bif aok h.1 v0 12 then
                bif aok h.1 v0 12 then
                  bif ain h.1 ((aup h.2 (h.2 v0.toNat 64).toNat (w32 (20 + (h.2 v0.toNat 67))).toNat (w64 ((h.2 (h.2 v0.toNat 64).toNat (w32 (20 + (h.2 v0.toNat 67))).toNat) + 1))) v0.toNat 64) 101 (w32 (28 + ((aup h.2 (h.2 v0.toNat 64).toNat (w32 (20 + (h.2 v0.toNat 67))).toNat (w64 ((h.2 (h.2 v0.toNat 64).toNat (w32 (20 + (h.2 v0.toNat 67))).toNat) + 1))) v0.toNat 68))) then
                    bif ain h.1 ((aup h.2 (h.2 v0.toNat 64).toNat (w32 (20 + (h.2 v0.toNat 67))).toNat (w64 ((h.2 (h.2 v0.toNat 64).toNat (w32 (20 + (h.2 v0.toNat 67))).toNat) + 1))) v0.toNat 64) 101 (w32 (28 + ((aup h.2 (h.2 v0.toNat 64).toNat (w32 (20 + (h.2 v0.toNat 67))).toNat (w64 ((h.2 (h.2 v0.toNat 64).toNat (w32 (20 + (h.2 v0.toNat 67))).toNat) + 1))) v0.toNat 68))) then
                      ev xs d mm_264 134 [some (.inr (.inr v0)), some (.inl v1), some (.inr (.inl v2)), u3, some (.inl v4), some (.inl v5)] [] (h.1, aup (aup h.2 (h.2 v0.toNat 64).toNat (w32 (20 + (h.2 v0.toNat 67))).toNat (w64 ((h.2 (h.2 v0.toNat 64).toNat (w32 (20 + (h.2 v0.toNat 67))).toNat) + 1))) ((aup h.2 (h.2 v0.toNat 64).toNat (w32 (20 + (h.2 v0.toNat 67))).toNat (w64 ((h.2 (h.2 v0.toNat 64).toNat (w32 (20 + (h.2 v0.toNat 67))).toNat) + 1))) v0.toNat 64).toNat (w32 (28 + ((aup h.2 (h.2 v0.toNat 64).toNat (w32 (20 + (h.2 v0.toNat 67))).toNat (w64 ((h.2 (h.2 v0.toNat 64).toNat (w32 (20 + (h.2 v0.toNat 67))).toNat) + 1))) v0.toNat 68))).toNat (w64 (((aup h.2 (h.2 v0.toNat 64).toNat (w32 (20 + (h.2 v0.toNat 67))).toNat (w64 ((h.2 (h.2 v0.toNat 64).toNat (w32 (20 + (h.2 v0.toNat 67))).toNat) + 1))) ((aup h.2 (h.2 v0.toNat 64).toNat (w32 (20 + (h.2 v0.toNat 67))).toNat (w64 ((h.2 (h.2 v0.toNat 64).toNat (w32 (20 + (h.2 v0.toNat 67))).toNat) + 1))) v0.toNat 64).toNat (w32 (28 + ((aup h.2 (h.2 v0.toNat 64).toNat (w32 (20 + (h.2 v0.toNat 67))).toNat (w64 ((h.2 (h.2 v0.toNat 64).toNat (w32 (20 + (h.2 v0.toNat 67))).toNat) + 1))) v0.toNat 68))).toNat) + 1)))
                    else none
                  else none
                else none
              else none
          else none
        else none
      else none
    else none
  else none :=
  (aB gP gX xs stp_264 26 d mm_264 95 _ _ h).trans rfl

set_option maxRecDepth 100000 in
set_option maxHeartbeats 4000000 in
theorem q_264_134 (xs : List Int) (d : Nat) (v0 : Int) (v1 : Int) (v2 : Int) (u3 : Option aV) (v4 : Int) (v5 : Int) (h : aH) : ev xs d mm_264 134 [some (.inr (.inr v0)), some (.inl v1), some (.inr (.inl v2)), u3, some (.inl v4), some (.inl v5)] [] h =
  bif aok h.1 v0 12 then
    bif decide ((h.2 v0.toNat 69) < 0) then
      ev xs d mm_264 157 [some (.inr (.inr v0)), some (.inl v1), some (.inr (.inl v2)), u3, some (.inl v4), some (.inl v5)] [] h
    else
      bif aok h.1 v0 12 then
        bif aok h.1 v0 12 then
          bif ain h.1 (h.2 v0.toNat 64) 101 (w32 (28 + (h.2 v0.toNat 69))) then
            bif ain h.1 (h.2 v0.toNat 64) 101 (w32 (28 + (h.2 v0.toNat 69))) then
              ev xs d mm_264 157 [some (.inr (.inr v0)), some (.inl v1), some (.inr (.inl v2)), u3, some (.inl v4), some (.inl v5)] [] (h.1, aup h.2 (h.2 v0.toNat 64).toNat (w32 (28 + (h.2 v0.toNat 69))).toNat (w64 ((h.2 (h.2 v0.toNat 64).toNat (w32 (28 + (h.2 v0.toNat 69))).toNat) + 1)))
            else none
          else none
        else none
      else none
  else none :=
  (aB gP gX xs stp_264 15 d mm_264 134 _ _ h).trans rfl

set_option maxRecDepth 100000 in
set_option maxHeartbeats 4000000 in
theorem q_264_157 (xs : List Int) (d : Nat) (v0 : Int) (v1 : Int) (v2 : Int) (u3 : Option aV) (v4 : Int) (v5 : Int) (h : aH) : ev xs d mm_264 157 [some (.inr (.inr v0)), some (.inl v1), some (.inr (.inl v2)), u3, some (.inl v4), some (.inl v5)] [] h =
  bif aok h.1 v0 12 then
    bif aok h.1 v0 12 then
      bif decide ((h.2 v0.toNat 68) < 0) then
        bif aok h.1 v0 12 then
          bif decide ((h.2 v0.toNat 69) < 0) then
            ev xs d mm_264 186 [some (.inr (.inr v0)), some (.inl v1), some (.inr (.inl v2)), u3, some (.inl v4), some (.inl v5)] [.inl 0, .inl 0, .inl 0, .inr (.inr (h.2 v0.toNat 60))] h
          else
            ev xs d mm_264 186 [some (.inr (.inr v0)), some (.inl v1), some (.inr (.inl v2)), u3, some (.inl v4), some (.inl v5)] [.inl 1, .inl 0, .inl 0, .inr (.inr (h.2 v0.toNat 60))] h
        else none
      else
        bif aok h.1 v0 12 then
          bif decide ((h.2 v0.toNat 69) < 0) then
            ev xs d mm_264 186 [some (.inr (.inr v0)), some (.inl v1), some (.inr (.inl v2)), u3, some (.inl v4), some (.inl v5)] [.inl 0, .inl 1, .inl 0, .inr (.inr (h.2 v0.toNat 60))] h
          else
            ev xs d mm_264 186 [some (.inr (.inr v0)), some (.inl v1), some (.inr (.inl v2)), u3, some (.inl v4), some (.inl v5)] [.inl 1, .inl 1, .inl 0, .inr (.inr (h.2 v0.toNat 60))] h
        else none
    else none
  else none :=
  (aB gP gX xs stp_264 14 d mm_264 157 _ _ h).trans rfl

set_option maxRecDepth 100000 in
set_option maxHeartbeats 4000000 in
theorem q_264_186 (xs : List Int) (d : Nat) (v0 : Int) (v1 : Int) (v2 : Int) (u3 : Option aV) (v4 : Int) (v5 : Int) (s0 : Int) (s1 : Int) (s2 : Int) (s3 : Int) (h : aH) : ev xs d mm_264 186 [some (.inr (.inr v0)), some (.inl v1), some (.inr (.inl v2)), u3, some (.inl v4), some (.inl v5)] [.inl s3, .inl s2, .inl s1, .inr (.inr s0)] h =
  bif ain h.1 s0 100 s1 then
    bif aok h.1 v0 12 then
      bif aok h.1 v0 12 then
        bif decide (((aup h.2 s0.toNat s1.toNat (w32 (s2 + s3))) v0.toNat 66) < 0) then
          ev xs d mm_264 205 [some (.inr (.inr v0)), some (.inl v1), some (.inr (.inl v2)), u3, some (.inl v4), some (.inl v5)] [.inl 0, .inl 1, .inr (.inr ((aup h.2 s0.toNat s1.toNat (w32 (s2 + s3))) v0.toNat 60))] (h.1, aup h.2 s0.toNat s1.toNat (w32 (s2 + s3)))
        else
          ev xs d mm_264 205 [some (.inr (.inr v0)), some (.inl v1), some (.inr (.inl v2)), u3, some (.inl v4), some (.inl v5)] [.inl 1, .inl 1, .inr (.inr ((aup h.2 s0.toNat s1.toNat (w32 (s2 + s3))) v0.toNat 60))] (h.1, aup h.2 s0.toNat s1.toNat (w32 (s2 + s3)))
      else none
    else none
  else none :=
  (aB gP gX xs stp_264 11 d mm_264 186 _ _ h).trans rfl

set_option maxRecDepth 100000 in
set_option maxHeartbeats 4000000 in
theorem q_264_205 (xs : List Int) (d : Nat) (v0 : Int) (v1 : Int) (v2 : Int) (u3 : Option aV) (v4 : Int) (v5 : Int) (s0 : Int) (s1 : Int) (s2 : Int) (h : aH) : ev xs d mm_264 205 [some (.inr (.inr v0)), some (.inl v1), some (.inr (.inl v2)), u3, some (.inl v4), some (.inl v5)] [.inl s2, .inl s1, .inr (.inr s0)] h =
  bif ain h.1 s0 100 s1 then
    bif aok h.1 v0 12 then
      bif aok h.1 v0 12 then
        bif aok h.1 v0 12 && true then
          bI (cl xs d 262 [.inr (.inr v0), .inl 2, .inl ((aup h.2 s0.toNat s1.toNat s2) v0.toNat 66)] (h.1, aup h.2 s0.toNat s1.toNat s2)) (fun x2 h1 =>
          bif aok h1.1 v0 12 then
            bif aok h1.1 v0 12 && true then
              bI (cl xs d 262 [.inr (.inr v0), .inl 0, .inl (h1.2 v0.toNat 67)] h1) (fun x4 h3 =>
              bif aok h3.1 v0 12 then
                bif aok h3.1 v0 12 && true then
                  bI (cl xs d 262 [.inr (.inr v0), .inl 1, .inl (h3.2 v0.toNat 68)] h3) (fun x6 h5 =>
                  bif aok h5.1 v0 12 then
                    bif aok h5.1 v0 12 && true then
                      bI (cl xs d 262 [.inr (.inr v0), .inl 1, .inl (h5.2 v0.toNat 69)] h5) (fun x8 h7 =>
                      bif ain h7.1 ((aup h.2 s0.toNat s1.toNat s2) v0.toNat 60) 100 2 then
                        ev xs d mm_264 279 [some (.inr (.inr v0)), some (.inl v1), some (.inr (.inl v2)), u3, some (.inl v4), some (.inl v5)] [] (h7.1, aup h7.2 ((aup h.2 s0.toNat s1.toNat s2) v0.toNat 60).toNat (2 : Int).toNat (w32 ((w32 ((w32 (x2 + x4)) + x6)) + x8)))
                      else none)
                    else none
                  else none)
                else none
              else none)
            else none
          else none)
        else none
      else none
    else none
  else none :=
  (aB gP gX xs stp_264 30 d mm_264 205 _ _ h).trans rfl

set_option maxRecDepth 100000 in
set_option maxHeartbeats 4000000 in
theorem q_264_264 (xs : List Int) (d : Nat) (v0 : Int) (v1 : Int) (v2 : Int) (u3 : Option aV) (v4 : Int) (v5 : Int) (h : aH) : ev xs d mm_264 264 [some (.inr (.inr v0)), some (.inl v1), some (.inr (.inl v2)), u3, some (.inl v4), some (.inl v5)] [] h =
  bif aok h.1 v0 12 then
    bif ain h.1 (h.2 v0.toNat 64) 101 55 then
      bI (cl xs d 236 [.inr (.inl v2)] h) (fun x2 h1 =>
        bif ain h1.1 (h.2 v0.toNat 64) 101 55 then
          ev xs d mm_264 279 [some (.inr (.inr v0)), some (.inl v1), some (.inr (.inl v2)), u3, some (.inl v4), some (.inl v5)] [] (h1.1, aup h1.2 (h.2 v0.toNat 64).toNat (55 : Int).toNat (w64 ((h.2 (h.2 v0.toNat 64).toNat (55 : Int).toNat) + x2)))
        else none)
    else none
  else none :=
  (aB gP gX xs stp_264 11 d mm_264 264 _ _ h).trans rfl

set_option maxRecDepth 100000 in
set_option maxHeartbeats 4000000 in
theorem q_264_279 (xs : List Int) (d : Nat) (v0 : Int) (v1 : Int) (v2 : Int) (u3 : Option aV) (v4 : Int) (v5 : Int) (h : aH) : ev xs d mm_264 279 [some (.inr (.inr v0)), some (.inl v1), some (.inr (.inl v2)), u3, some (.inl v4), some (.inl v5)] [] h =
  bif aok h.1 v0 12 then
    bif aok h.1 v0 12 then
      bif ain h.1 (h.2 v0.toNat 64) 101 56 then
        bif ain h.1 (h.2 v0.toNat 60) 100 4 then
          bif aok h.1 v0 12 then
            bif aok h.1 v0 12 && true then
              bI (cl xs d 234 [.inr (.inr v0)] (h.1, aup h.2 (h.2 v0.toNat 60).toNat (4 : Int).toNat (ol2i (h.2 (h.2 v0.toNat 64).toNat (56 : Int).toNat)))) (fun x2 h1 =>
              bI (cl xs d 235 [.inl x2] h1) (fun x4 h3 =>
                bif ain h3.1 ((aup h.2 (h.2 v0.toNat 60).toNat (4 : Int).toNat (ol2i (h.2 (h.2 v0.toNat 64).toNat (56 : Int).toNat))) v0.toNat 60) 100 5 then
                  bif aok h3.1 v0 12 && true then
                    bI (cl xs d 261 [.inr (.inr v0)] (h3.1, aup h3.2 ((aup h.2 (h.2 v0.toNat 60).toNat (4 : Int).toNat (ol2i (h.2 (h.2 v0.toNat 64).toNat (56 : Int).toNat))) v0.toNat 60).toNat (5 : Int).toNat x4)) (fun x6 h5 =>
                    bif decide (0 ≤ x6) then
                      bif decide (x6 ≤ 999) then
                        ev xs d mm_264 337 [some (.inr (.inr v0)), some (.inl v1), some (.inr (.inl v2)), u3, some (.inl v4), some (.inl x6)] [.inl x6] h5
                      else
                        ev xs d mm_264 337 [some (.inr (.inr v0)), some (.inl v1), some (.inr (.inl v2)), u3, some (.inl v4), some (.inl x6)] [.inl 999] h5
                    else
                      ev xs d mm_264 337 [some (.inr (.inr v0)), some (.inl v1), some (.inr (.inl v2)), u3, some (.inl v4), some (.inl x6)] [.inl 0] h5)
                  else none
                else none))
            else none
          else none
        else none
      else none
    else none
  else none :=
  (aB gP gX xs stp_264 27 d mm_264 279 _ _ h).trans rfl

set_option maxRecDepth 100000 in
set_option maxHeartbeats 4000000 in
theorem q_264_337 (xs : List Int) (d : Nat) (v0 : Int) (v1 : Int) (v2 : Int) (u3 : Option aV) (v4 : Int) (v5 : Int) (s0 : Int) (h : aH) : ev xs d mm_264 337 [some (.inr (.inr v0)), some (.inl v1), some (.inr (.inl v2)), u3, some (.inl v4), some (.inl v5)] [.inl s0] h =
  bif aok h.1 v0 12 then
    bif ain h.1 (h.2 v0.toNat 64) 101 54 then
      bif ain h.1 (h.2 v0.toNat 64) 101 54 then
        bif aok h.1 v0 12 then
          bif ain h.1 ((aup h.2 (h.2 v0.toNat 64).toNat (54 : Int).toNat (w64 ((h.2 (h.2 v0.toNat 64).toNat (54 : Int).toNat) + s0))) v0.toNat 64) 101 56 then
            bif ain h.1 ((aup h.2 (h.2 v0.toNat 64).toNat (54 : Int).toNat (w64 ((h.2 (h.2 v0.toNat 64).toNat (54 : Int).toNat) + s0))) v0.toNat 64) 101 56 then
              bif aok h.1 v0 12 then
                bif ain h.1 ((aup (aup h.2 (h.2 v0.toNat 64).toNat (54 : Int).toNat (w64 ((h.2 (h.2 v0.toNat 64).toNat (54 : Int).toNat) + s0))) ((aup h.2 (h.2 v0.toNat 64).toNat (54 : Int).toNat (w64 ((h.2 (h.2 v0.toNat 64).toNat (54 : Int).toNat) + s0))) v0.toNat 64).toNat (56 : Int).toNat (w64 (((aup h.2 (h.2 v0.toNat 64).toNat (54 : Int).toNat (w64 ((h.2 (h.2 v0.toNat 64).toNat (54 : Int).toNat) + s0))) ((aup h.2 (h.2 v0.toNat 64).toNat (54 : Int).toNat (w64 ((h.2 (h.2 v0.toNat 64).toNat (54 : Int).toNat) + s0))) v0.toNat 64).toNat (56 : Int).toNat) + 1))) v0.toNat 64) 101 (w32 (10 + v1)) then
                  ev xs d mm_264 373 [some (.inr (.inr v0)), some (.inl v1), some (.inr (.inl v2)), u3, some (.inl v4), some (.inl s0)] [] (h.1, aup (aup (aup h.2 (h.2 v0.toNat 64).toNat (54 : Int).toNat (w64 ((h.2 (h.2 v0.toNat 64).toNat (54 : Int).toNat) + s0))) ((aup h.2 (h.2 v0.toNat 64).toNat (54 : Int).toNat (w64 ((h.2 (h.2 v0.toNat 64).toNat (54 : Int).toNat) + s0))) v0.toNat 64).toNat (56 : Int).toNat (w64 (((aup h.2 (h.2 v0.toNat 64).toNat (54 : Int).toNat (w64 ((h.2 (h.2 v0.toNat 64).toNat (54 : Int).toNat) + s0))) ((aup h.2 (h.2 v0.toNat 64).toNat (54 : Int).toNat (w64 ((h.2 (h.2 v0.toNat 64).toNat (54 : Int).toNat) + s0))) v0.toNat 64).toNat (56 : Int).toNat) + 1))) ((aup (aup h.2 (h.2 v0.toNat 64).toNat (54 : Int).toNat (w64 ((h.2 (h.2 v0.toNat 64).toNat (54 : Int).toNat) + s0))) ((aup h.2 (h.2 v0.toNat 64).toNat (54 : Int).toNat (w64 ((h.2 (h.2 v0.toNat 64).toNat (54 : Int).toNat) + s0))) v0.toNat 64).toNat (56 : Int).toNat (w64 (((aup h.2 (h.2 v0.toNat 64).toNat (54 : Int).toNat (w64 ((h.2 (h.2 v0.toNat 64).toNat (54 : Int).toNat) + s0))) ((aup h.2 (h.2 v0.toNat 64).toNat (54 : Int).toNat (w64 ((h.2 (h.2 v0.toNat 64).toNat (54 : Int).toNat) + s0))) v0.toNat 64).toNat (56 : Int).toNat) + 1))) v0.toNat 64).toNat (w32 (10 + v1)).toNat 1)
                else none
              else none
            else none
          else none
        else none
      else none
    else none
  else none :=
  (aB gP gX xs stp_264 26 d mm_264 337 _ _ h).trans rfl

set_option maxRecDepth 100000 in
set_option maxHeartbeats 4000000 in
theorem q_264_373 (xs : List Int) (d : Nat) (v0 : Int) (v1 : Int) (v2 : Int) (u3 : Option aV) (v4 : Int) (v5 : Int) (h : aH) : ev xs d mm_264 373 [some (.inr (.inr v0)), some (.inl v1), some (.inr (.inl v2)), u3, some (.inl v4), some (.inl v5)] [] h =
  bif aok h.1 v0 12 && true then
    bV (cl xs d 258 [.inr (.inr v0)] h) (fun h1 =>
    some (some (.inl v5), h1))
  else none :=
  (aB gP gX xs stp_264 5 d mm_264 373 _ _ h).trans rfl

theorem c_264 (xs : List Int) (d : Nat) (v0 : Int) (v1 : Int) (h : aH) : cl xs (d + 1) 264 [.inr (.inr v0), .inl v1] h =
  bif aok h.1 v0 12 && true then
    bI (cl xs d 230 [.inr (.inr v0), .inl v1] h) (fun x2 h1 =>
    bif decide (¬ x2 = 0) then
      bif aok h1.1 v0 12 && true then
        bV (cl xs d 229 [.inr (.inr v0)] h1) (fun h3 =>
        bif aok h3.1 v0 12 && true then
          bI (cl xs d 233 [.inr (.inr v0), .inl v1] h3) (fun x5 h4 =>
          bif decide (¬ x5 = 0) then
            bif aok h4.1 v0 12 then
              bif ain h4.1 (h4.2 v0.toNat 64) 101 v1 then
                bif aok h4.1 v0 12 && true then
                  bJ (cl xs d 241 [.inr (.inr v0), .inr (.inl (h4.2 (h4.2 v0.toNat 64).toNat v1.toNat))] h4) (fun x7 h6 =>
                  bif aok h6.1 v0 12 && true then
                    bI (cl xs d 263 [.inr (.inr v0), .inr (.inl x7)] h6) (fun x9 h8 =>
                    ev xs d mm_264 46 [some (.inr (.inr v0)), some (.inl v1), some (.inr (.inl x7)), none, some (.inl x9), some (.inl 0)] [] h8)
                  else none)
                else none
              else none
            else none
          else
            some (some (.inl (-2)), h4))
        else none)
      else none
    else
      some (some (.inl (-1)), h1))
  else none :=
  (show _ = ev xs d mm_264 0 [some (.inr (.inr v0)), some (.inl v1), none, none, none, none] [] h from rfl).trans (q_264_0 xs d v0 v1 h)
def stp_265 : List Nat := [0, 5]
set_option maxRecDepth 100000 in
set_option maxHeartbeats 4000000 in
theorem q_265_0 (xs : List Int) (d : Nat) (v0 : Int) (v1 : Int) (v2 : Int) (h : aH) : ev xs d mm_265 0 [some (.inr (.inr v0)), some (.inl v1), some (.inl v2), none, none] [] h =
  ev xs d mm_265 5 [some (.inr (.inr v0)), some (.inl v1), some (.inl v2), some (.inl 0), some (.inl 0)] [] h :=
  (aB gP gX xs stp_265 5 d mm_265 0 _ _ h).trans rfl

set_option maxRecDepth 100000 in
set_option maxHeartbeats 4000000 in
theorem q_265_5 (xs : List Int) (d : Nat) (v0 : Int) (v1 : Int) (v2 : Int) (v3 : Int) (v4 : Int) (h : aH) : ev xs d mm_265 5 [some (.inr (.inr v0)), some (.inl v1), some (.inl v2), some (.inl v3), some (.inl v4)] [] h =
  bif aok h.1 v0 12 then
    bif aok h.1 v0 12 then
      bif ain h.1 (h.2 v0.toNat 41) 100 (w32 ((w32 (5 * (h.2 v0.toNat 18))) + v1)) then
        bif decide ((h.2 (h.2 v0.toNat 41).toNat (w32 ((w32 (5 * (h.2 v0.toNat 18))) + v1)).toNat) ≤ v4) then
          some (some (.inl v3), h)
        else
          bif aok h.1 v0 12 then
            bif aok h.1 v0 12 then
              bif ain h.1 (h.2 v0.toNat 42) 100 (w32 ((w32 (4 * (w32 ((w32 (5 * (h.2 v0.toNat 18))) + v1)))) + v4)) then
                bif decide (¬ (h.2 (h.2 v0.toNat 42).toNat (w32 ((w32 (4 * (w32 ((w32 (5 * (h.2 v0.toNat 18))) + v1)))) + v4)).toNat) = v2) then
                  ev xs d mm_265 5 [some (.inr (.inr v0)), some (.inl v1), some (.inl v2), some (.inl v3), some (.inl (w32 (v4 + 1)))] [] h
                else
                  bif aok h.1 v0 12 then
                    bif aok h.1 v0 12 then
                      bif ain h.1 (h.2 v0.toNat 43) 100 (w32 ((w32 (4 * (w32 ((w32 (5 * (h.2 v0.toNat 18))) + v1)))) + v4)) then
                        ev xs d mm_265 5 [some (.inr (.inr v0)), some (.inl v1), some (.inl v2), some (.inl (w32 (v3 + (h.2 (h.2 v0.toNat 43).toNat (w32 ((w32 (4 * (w32 ((w32 (5 * (h.2 v0.toNat 18))) + v1)))) + v4)).toNat)))), some (.inl (w32 (v4 + 1)))] [] h
                      else none
                    else none
                  else none
              else none
            else none
          else none
      else none
    else none
  else none :=
  (aB gP gX xs stp_265 45 d mm_265 5 _ _ h).trans rfl

theorem c_265 (xs : List Int) (d : Nat) (v0 : Int) (v1 : Int) (v2 : Int) (h : aH) : cl xs (d + 1) 265 [.inr (.inr v0), .inl v1, .inl v2] h =
  ev xs d mm_265 5 [some (.inr (.inr v0)), some (.inl v1), some (.inl v2), some (.inl 0), some (.inl 0)] [] h :=
  (show _ = ev xs d mm_265 0 [some (.inr (.inr v0)), some (.inl v1), some (.inl v2), none, none] [] h from rfl).trans (q_265_0 xs d v0 v1 v2 h)
def stp_266 : List Nat := [0, 5]
set_option maxRecDepth 100000 in
set_option maxHeartbeats 4000000 in
theorem q_266_0 (xs : List Int) (d : Nat) (v0 : Int) (v1 : Int) (v2 : Int) (h : aH) : ev xs d mm_266 0 [some (.inr (.inr v0)), some (.inl v1), some (.inl v2), none, none] [] h =
  ev xs d mm_266 5 [some (.inr (.inr v0)), some (.inl v1), some (.inl v2), some (.inl 0), some (.inl 0)] [] h :=
  (aB gP gX xs stp_266 5 d mm_266 0 _ _ h).trans rfl

set_option maxRecDepth 100000 in
set_option maxHeartbeats 4000000 in
theorem q_266_5 (xs : List Int) (d : Nat) (v0 : Int) (v1 : Int) (v2 : Int) (v3 : Int) (v4 : Int) (h : aH) : ev xs d mm_266 5 [some (.inr (.inr v0)), some (.inl v1), some (.inl v2), some (.inl v3), some (.inl v4)] [] h =
  bif aok h.1 v0 12 then
    bif aok h.1 v0 12 then
      bif ain h.1 (h.2 v0.toNat 39) 100 (h.2 v0.toNat 18) then
        bif decide ((h.2 (h.2 v0.toNat 39).toNat (h.2 v0.toNat 18).toNat) ≤ v4) then
          some (some (.inl v3), h)
        else
          bif decide (¬ (oand (oshr v1 v4) 1) = 1) then
            ev xs d mm_266 5 [some (.inr (.inr v0)), some (.inl v1), some (.inl v2), some (.inl v3), some (.inl (w32 (v4 + 1)))] [] h
          else
            bif aok h.1 v0 12 && true then
              bI (cl xs d 265 [.inr (.inr v0), .inl v4, .inl v2] h) (fun x2 h1 =>
              ev xs d mm_266 5 [some (.inr (.inr v0)), some (.inl v1), some (.inl v2), some (.inl (w32 (v3 + x2))), some (.inl (w32 (v4 + 1)))] [] h1)
            else none
      else none
    else none
  else none :=
  (aB gP gX xs stp_266 24 d mm_266 5 _ _ h).trans rfl

theorem c_266 (xs : List Int) (d : Nat) (v0 : Int) (v1 : Int) (v2 : Int) (h : aH) : cl xs (d + 1) 266 [.inr (.inr v0), .inl v1, .inl v2] h =
  ev xs d mm_266 5 [some (.inr (.inr v0)), some (.inl v1), some (.inl v2), some (.inl 0), some (.inl 0)] [] h :=
  (show _ = ev xs d mm_266 0 [some (.inr (.inr v0)), some (.inl v1), some (.inl v2), none, none] [] h from rfl).trans (q_266_0 xs d v0 v1 v2 h)
def stp_267 : List Nat := [0, 2]
set_option maxRecDepth 100000 in
set_option maxHeartbeats 4000000 in
theorem q_267_0 (xs : List Int) (d : Nat) (v0 : Int) (v1 : Int) (h : aH) : ev xs d mm_267 0 [some (.inr (.inr v0)), some (.inl v1), none] [] h =
  ev xs d mm_267 2 [some (.inr (.inr v0)), some (.inl v1), some (.inl 0)] [] h :=
  (aB gP gX xs stp_267 3 d mm_267 0 _ _ h).trans rfl

set_option maxRecDepth 100000 in
set_option maxHeartbeats 4000000 in
theorem q_267_2 (xs : List Int) (d : Nat) (v0 : Int) (v1 : Int) (v2 : Int) (h : aH) : ev xs d mm_267 2 [some (.inr (.inr v0)), some (.inl v1), some (.inl v2)] [] h =
  bif decide (24 ≤ v2) then
    some (some (.inl 1), h)
  else
    bif aok h.1 v0 12 && true then
      bI (cl xs d 266 [.inr (.inr v0), .inl v1, .inl v2] h) (fun x2 h1 =>
      bif aok h1.1 v0 12 then
        bif ain h1.1 (h1.2 v0.toNat 64) 101 (w32 (20 + v2)) then
          bif decide ((olcmp x2 (h1.2 (h1.2 v0.toNat 64).toNat (w32 (20 + v2)).toNat)) ≤ 0) then
            ev xs d mm_267 2 [some (.inr (.inr v0)), some (.inl v1), some (.inl (w32 (v2 + 1)))] [] h1
          else
            some (some (.inl 0), h1)
        else none
      else none)
    else none :=
  (aB gP gX xs stp_267 19 d mm_267 2 _ _ h).trans rfl

theorem c_267 (xs : List Int) (d : Nat) (v0 : Int) (v1 : Int) (h : aH) : cl xs (d + 1) 267 [.inr (.inr v0), .inl v1] h =
  ev xs d mm_267 2 [some (.inr (.inr v0)), some (.inl v1), some (.inl 0)] [] h :=
  (show _ = ev xs d mm_267 0 [some (.inr (.inr v0)), some (.inl v1), none] [] h from rfl).trans (q_267_0 xs d v0 v1 h)
def stp_268 : List Nat := [0]
set_option maxRecDepth 100000 in
set_option maxHeartbeats 4000000 in
theorem q_268_0 (xs : List Int) (d : Nat) (v0 : Int) (h : aH) : ev xs d mm_268 0 [some (.inr (.inr v0))] [] h =
  bif aok h.1 v0 12 then
    bif aok h.1 v0 12 then
      bif ain h.1 (h.2 v0.toNat 39) 100 (h.2 v0.toNat 18) then
        bif aok h.1 v0 12 then
          bif ain h.1 (h.2 v0.toNat 64) 101 44 then
            some (some (.inl (oand (w32 ((oshl 1 (h.2 (h.2 v0.toNat 39).toNat (h.2 v0.toNat 18).toNat)) - 1)) (oxor (ol2i (h.2 (h.2 v0.toNat 64).toNat (44 : Int).toNat)) (-1)))), h)
          else none
        else none
      else none
    else none
  else none :=
  (aB gP gX xs stp_268 19 d mm_268 0 _ _ h).trans rfl

theorem c_268 (xs : List Int) (d : Nat) (v0 : Int) (h : aH) : cl xs (d + 1) 268 [.inr (.inr v0)] h =
  bif aok h.1 v0 12 then
    bif aok h.1 v0 12 then
      bif ain h.1 (h.2 v0.toNat 39) 100 (h.2 v0.toNat 18) then
        bif aok h.1 v0 12 then
          bif ain h.1 (h.2 v0.toNat 64) 101 44 then
            some (some (.inl (oand (w32 ((oshl 1 (h.2 (h.2 v0.toNat 39).toNat (h.2 v0.toNat 18).toNat)) - 1)) (oxor (ol2i (h.2 (h.2 v0.toNat 64).toNat (44 : Int).toNat)) (-1)))), h)
          else none
        else none
      else none
    else none
  else none :=
  (show _ = ev xs d mm_268 0 [some (.inr (.inr v0))] [] h from rfl).trans (q_268_0 xs d v0 h)
def stp_269 : List Nat := [0, 55, 123]
set_option maxRecDepth 100000 in
set_option maxHeartbeats 4000000 in
theorem q_269_0 (xs : List Int) (d : Nat) (v0 : Int) (v1 : Int) (h : aH) : ev xs d mm_269 0 [some (.inr (.inr v0)), some (.inl v1), none] [] h =
  bif aok h.1 v0 12 then
    bif aok h.1 v0 12 then
      bif ain h.1 (h.2 v0.toNat 39) 100 (h.2 v0.toNat 18) then
        bI (cl xs d 226 [.inl v1, .inl 0, .inl (w32 ((h.2 (h.2 v0.toNat 39).toNat (h.2 v0.toNat 18).toNat) - 1))] h) (fun x2 h1 =>
          bif decide (¬ x2 = 0) then
            bif aok h1.1 v0 12 && true then
              bV (cl xs d 229 [.inr (.inr v0)] h1) (fun h3 =>
              bif aok h3.1 v0 12 then
                bif ain h3.1 (h3.2 v0.toNat 64) 101 44 then
                  bif decide ((olcmp (oland (olshr (h3.2 (h3.2 v0.toNat 64).toNat (44 : Int).toNat) v1) 1) 1) = 0) then
                    some (some (.inl 0), h3)
                  else
                    bif aok h3.1 v0 12 && true then
                      bI (cl xs d 267 [.inr (.inr v0), .inl (oshl 1 v1)] h3) (fun x5 h4 =>
                      bif decide (¬ x5 = 0) then
                        ev xs d mm_269 55 [some (.inr (.inr v0)), some (.inl v1), some (.inl 0)] [] h4
                      else
                        some (some (.inl 0), h4))
                    else none
                else none
              else none)
            else none
          else
            some (some (.inl 0), h1))
      else none
    else none
  else none :=
  (aB gP gX xs stp_269 33 d mm_269 0 _ _ h).trans rfl

set_option maxRecDepth 100000 in
set_option maxHeartbeats 4000000 in
theorem q_269_55 (xs : List Int) (d : Nat) (v0 : Int) (v1 : Int) (v2 : Int) (h : aH) : ev xs d mm_269 55 [some (.inr (.inr v0)), some (.inl v1), some (.inl v2)] [] h =
  bif decide (24 ≤ v2) then
    bif aok h.1 v0 12 then
      bif ain h.1 (h.2 v0.toNat 64) 101 44 then
        bif ain h.1 (h.2 v0.toNat 64) 101 44 then
          bif aok h.1 v0 12 then
            bif ain h.1 ((aup h.2 (h.2 v0.toNat 64).toNat (44 : Int).toNat (olor (h.2 (h.2 v0.toNat 64).toNat (44 : Int).toNat) (olshl 1 v1))) v0.toNat 64) 101 54 then
              bif aok h.1 v0 12 then
                bif aok h.1 v0 12 then
                  bif ain h.1 ((aup h.2 (h.2 v0.toNat 64).toNat (44 : Int).toNat (olor (h.2 (h.2 v0.toNat 64).toNat (44 : Int).toNat) (olshl 1 v1))) v0.toNat 40) 100 (w32 ((w32 (5 * ((aup h.2 (h.2 v0.toNat 64).toNat (44 : Int).toNat (olor (h.2 (h.2 v0.toNat 64).toNat (44 : Int).toNat) (olshl 1 v1))) v0.toNat 18))) + v1)) then
                    bif ain h.1 ((aup h.2 (h.2 v0.toNat 64).toNat (44 : Int).toNat (olor (h.2 (h.2 v0.toNat 64).toNat (44 : Int).toNat) (olshl 1 v1))) v0.toNat 64) 101 54 then
                      ev xs d mm_269 123 [some (.inr (.inr v0)), some (.inl v1), some (.inl v2)] [] (h.1, aup (aup h.2 (h.2 v0.toNat 64).toNat (44 : Int).toNat (olor (h.2 (h.2 v0.toNat 64).toNat (44 : Int).toNat) (olshl 1 v1))) ((aup h.2 (h.2 v0.toNat 64).toNat (44 : Int).toNat (olor (h.2 (h.2 v0.toNat 64).toNat (44 : Int).toNat) (olshl 1 v1))) v0.toNat 64).toNat (54 : Int).toNat (w64 (((aup h.2 (h.2 v0.toNat 64).toNat (44 : Int).toNat (olor (h.2 (h.2 v0.toNat 64).toNat (44 : Int).toNat) (olshl 1 v1))) ((aup h.2 (h.2 v0.toNat 64).toNat (44 : Int).toNat (olor (h.2 (h.2 v0.toNat 64).toNat (44 : Int).toNat) (olshl 1 v1))) v0.toNat 64).toNat (54 : Int).toNat) + ((aup h.2 (h.2 v0.toNat 64).toNat (44 : Int).toNat (olor (h.2 (h.2 v0.toNat 64).toNat (44 : Int).toNat) (olshl 1 v1))) ((aup h.2 (h.2 v0.toNat 64).toNat (44 : Int).toNat (olor (h.2 (h.2 v0.toNat 64).toNat (44 : Int).toNat) (olshl 1 v1))) v0.toNat 40).toNat (w32 ((w32 (5 * ((aup h.2 (h.2 v0.toNat 64).toNat (44 : Int).toNat (olor (h.2 (h.2 v0.toNat 64).toNat (44 : Int).toNat) (olshl 1 v1))) v0.toNat 18))) + v1)).toNat))))
                    else none
                  else none
                else none
              else none
            else none
          else none
        else none
      else none
    else none
  else
    bif aok h.1 v0 12 then
      bif ain h.1 (h.2 v0.toNat 64) 101 (w32 (20 + v2)) then
        bif aok h.1 v0 12 && true then
          bI (cl xs d 265 [.inr (.inr v0), .inl v1, .inl v2] h) (fun x2 h1 =>
          bif ain h1.1 (h.2 v0.toNat 64) 101 (w32 (20 + v2)) then
            ev xs d mm_269 55 [some (.inr (.inr v0)), some (.inl v1), some (.inl (w32 (v2 + 1)))] [] (h1.1, aup h1.2 (h.2 v0.toNat 64).toNat (w32 (20 + v2)).toNat (w64 ((h.2 (h.2 v0.toNat 64).toNat (w32 (20 + v2)).toNat) - x2)))
          else none)
        else none
      else none
    else none :=
  (aB gP gX xs stp_269 31 d mm_269 55 _ _ h).trans rfl

set_option maxRecDepth 100000 in
set_option maxHeartbeats 4000000 in
theorem q_269_123 (xs : List Int) (d : Nat) (v0 : Int) (v1 : Int) (v2 : Int) (h : aH) : ev xs d mm_269 123 [some (.inr (.inr v0)), some (.inl v1), some (.inl v2)] [] h =
  bif aok h.1 v0 12 && true then
    bV (cl xs d 258 [.inr (.inr v0)] h) (fun h1 =>
    some (some (.inl 1), h1))
  else none :=
  (aB gP gX xs stp_269 5 d mm_269 123 _ _ h).trans rfl

theorem c_269 (xs : List Int) (d : Nat) (v0 : Int) (v1 : Int) (h : aH) : cl xs (d + 1) 269 [.inr (.inr v0), .inl v1] h =
  bif aok h.1 v0 12 then
    bif aok h.1 v0 12 then
      bif ain h.1 (h.2 v0.toNat 39) 100 (h.2 v0.toNat 18) then
        bI (cl xs d 226 [.inl v1, .inl 0, .inl (w32 ((h.2 (h.2 v0.toNat 39).toNat (h.2 v0.toNat 18).toNat) - 1))] h) (fun x2 h1 =>
          bif decide (¬ x2 = 0) then
            bif aok h1.1 v0 12 && true then
              bV (cl xs d 229 [.inr (.inr v0)] h1) (fun h3 =>
              bif aok h3.1 v0 12 then
                bif ain h3.1 (h3.2 v0.toNat 64) 101 44 then
                  bif decide ((olcmp (oland (olshr (h3.2 (h3.2 v0.toNat 64).toNat (44 : Int).toNat) v1) 1) 1) = 0) then
                    some (some (.inl 0), h3)
                  else
                    bif aok h3.1 v0 12 && true then
                      bI (cl xs d 267 [.inr (.inr v0), .inl (oshl 1 v1)] h3) (fun x5 h4 =>
                      bif decide (¬ x5 = 0) then
                        ev xs d mm_269 55 [some (.inr (.inr v0)), some (.inl v1), some (.inl 0)] [] h4
                      else
                        some (some (.inl 0), h4))
                    else none
                else none
              else none)
            else none
          else
            some (some (.inl 0), h1))
      else none
    else none
  else none :=
  (show _ = ev xs d mm_269 0 [some (.inr (.inr v0)), some (.inl v1), none] [] h from rfl).trans (q_269_0 xs d v0 v1 h)
def stp_270 : List Nat := [0]
set_option maxRecDepth 100000 in
set_option maxHeartbeats 4000000 in
theorem q_270_0 (xs : List Int) (d : Nat) (v0 : Int) (v1 : Int) (h : aH) : ev xs d mm_270 0 [some (.inl v0), some (.inl v1), none] [] h =
  some (some (.inl (oxor (w32 ((w32 ((oxor v0 v1) * 1103515245)) + 12345)) (oushr (w32 ((w32 ((oxor v0 v1) * 1103515245)) + 12345)) 15))), h) :=
  (aB gP gX xs stp_270 15 d mm_270 0 _ _ h).trans rfl

theorem c_270 (xs : List Int) (d : Nat) (v0 : Int) (v1 : Int) (h : aH) : cl xs (d + 1) 270 [.inl v0, .inl v1] h =
  some (some (.inl (oxor (w32 ((w32 ((oxor v0 v1) * 1103515245)) + 12345)) (oushr (w32 ((w32 ((oxor v0 v1) * 1103515245)) + 12345)) 15))), h) :=
  (show _ = ev xs d mm_270 0 [some (.inl v0), some (.inl v1), none] [] h from rfl).trans (q_270_0 xs d v0 v1 h)
def stp_271 : List Nat := [0]
set_option maxRecDepth 100000 in
set_option maxHeartbeats 4000000 in
theorem q_271_0 (xs : List Int) (d : Nat) (v0 : Int) (v1 : Int) (v2 : Int) (h : aH) : ev xs d mm_271 0 [some (.inl v0), some (.inl v1), some (.inl v2)] [] h =
  bI (cl xs d 270 [.inl v0, .inl 31] h) (fun x2 h1 =>
    bI (cl xs d 270 [.inl x2, .inl v1] h1) (fun x4 h3 =>
      bif decide (v2 = 0) then none else
      some (some (.inl (orem (oushr x4 1) v2)), h3))) :=
  (aB gP gX xs stp_271 11 d mm_271 0 _ _ h).trans rfl

theorem c_271 (xs : List Int) (d : Nat) (v0 : Int) (v1 : Int) (v2 : Int) (h : aH) : cl xs (d + 1) 271 [.inl v0, .inl v1, .inl v2] h =
  bI (cl xs d 270 [.inl v0, .inl 31] h) (fun x2 h1 =>
    bI (cl xs d 270 [.inl x2, .inl v1] h1) (fun x4 h3 =>
      bif decide (v2 = 0) then none else
      some (some (.inl (orem (oushr x4 1) v2)), h3))) :=
  (show _ = ev xs d mm_271 0 [some (.inl v0), some (.inl v1), some (.inl v2)] [] h from rfl).trans (q_271_0 xs d v0 v1 v2 h)
def stp_272 : List Nat := [0, 15]
set_option maxRecDepth 100000 in
set_option maxHeartbeats 4000000 in
theorem q_272_0 (xs : List Int) (d : Nat) (v0 : Int) (v1 : Int) (h : aH) : ev xs d mm_272 0 [some (.inr (.inr v0)), some (.inl v1), none] [] h =
  bif aok h.1 v0 12 then
    bif ain h.1 (h.2 v0.toNat 64) 101 v1 then
      bif decide (¬ (olcmp (h.2 (h.2 v0.toNat 64).toNat v1.toNat) 0) = 0) then
        ev xs d mm_272 15 [some (.inr (.inr v0)), some (.inl v1), some (.inl 0)] [] h
      else
        some (some (.inl 1), h)
    else none
  else none :=
  (aB gP gX xs stp_272 10 d mm_272 0 _ _ h).trans rfl

set_option maxRecDepth 100000 in
set_option maxHeartbeats 4000000 in
theorem q_272_15 (xs : List Int) (d : Nat) (v0 : Int) (v1 : Int) (v2 : Int) (h : aH) : ev xs d mm_272 15 [some (.inr (.inr v0)), some (.inl v1), some (.inl v2)] [] h =
  bif decide (v1 ≤ v2) then
    some (some (.inl 0), h)
  else
    bif aok h.1 v0 12 && true then
      bI (cl xs d 233 [.inr (.inr v0), .inl v2] h) (fun x2 h1 =>
      bif decide (x2 = 0) then
        ev xs d mm_272 15 [some (.inr (.inr v0)), some (.inl v1), some (.inl (w32 (v2 + 1)))] [] h1
      else
        bif aok h1.1 v0 12 then
          bif ain h1.1 (h1.2 v0.toNat 64) 101 v2 then
            bif aok h1.1 v0 12 then
              bif ain h1.1 (h1.2 v0.toNat 64) 101 v1 then
                bif decide (¬ (olcmp (h1.2 (h1.2 v0.toNat 64).toNat v2.toNat) (h1.2 (h1.2 v0.toNat 64).toNat v1.toNat)) = 0) then
                  ev xs d mm_272 15 [some (.inr (.inr v0)), some (.inl v1), some (.inl (w32 (v2 + 1)))] [] h1
                else
                  some (some (.inl 1), h1)
              else none
            else none
          else none
        else none)
    else none :=
  (aB gP gX xs stp_272 20 d mm_272 15 _ _ h).trans rfl

theorem c_272 (xs : List Int) (d : Nat) (v0 : Int) (v1 : Int) (h : aH) : cl xs (d + 1) 272 [.inr (.inr v0), .inl v1] h =
  bif aok h.1 v0 12 then
    bif ain h.1 (h.2 v0.toNat 64) 101 v1 then
      bif decide (¬ (olcmp (h.2 (h.2 v0.toNat 64).toNat v1.toNat) 0) = 0) then
        ev xs d mm_272 15 [some (.inr (.inr v0)), some (.inl v1), some (.inl 0)] [] h
      else
        some (some (.inl 1), h)
    else none
  else none :=
  (show _ = ev xs d mm_272 0 [some (.inr (.inr v0)), some (.inl v1), none] [] h from rfl).trans (q_272_0 xs d v0 v1 h)
def stp_273 : List Nat := [0, 44, 90]
set_option maxRecDepth 100000 in
set_option maxHeartbeats 4000000 in
theorem q_273_0 (xs : List Int) (d : Nat) (v0 : Int) (h : aH) : ev xs d mm_273 0 [some (.inr (.inr v0)), none, none] [] h =
  bif aok h.1 v0 12 then
    bif aok h.1 v0 12 then
      bif ain h.1 (h.2 v0.toNat 23) 100 (h.2 v0.toNat 18) then
        bif decide ((h.2 (h.2 v0.toNat 23).toNat (h.2 v0.toNat 18).toNat) ≤ 0) then
          ev xs d mm_273 90 [some (.inr (.inr v0)), some (.inl 0), none] [] h
        else
          bif aok h.1 v0 12 then
            bif aok h.1 v0 12 then
              bif ain h.1 (h.2 v0.toNat 44) 100 (h.2 v0.toNat 18) then
                bif aok h.1 v0 12 then
                  bif ain h.1 (h.2 v0.toNat 64) 101 53 then
                    bif aok h.1 v0 12 then
                      bif aok h.1 v0 12 then
                        bif ain h.1 (h.2 v0.toNat 23) 100 (h.2 v0.toNat 18) then
                          bI (cl xs d 271 [.inl (h.2 (h.2 v0.toNat 44).toNat (h.2 v0.toNat 18).toNat), .inl (ol2i (h.2 (h.2 v0.toNat 64).toNat (53 : Int).toNat)), .inl (h.2 (h.2 v0.toNat 23).toNat (h.2 v0.toNat 18).toNat)] h) (fun x2 h1 =>
                            ev xs d mm_273 44 [some (.inr (.inr v0)), some (.inl x2), some (.inl 0)] [] h1)
                        else none
                      else none
                    else none
                  else none
                else none
              else none
            else none
          else none
      else none
    else none
  else none :=
  (aB gP gX xs stp_273 26 d mm_273 0 _ _ h).trans rfl

set_option maxRecDepth 100000 in
set_option maxHeartbeats 4000000 in
theorem q_273_44 (xs : List Int) (d : Nat) (v0 : Int) (v1 : Int) (v2 : Int) (h : aH) : ev xs d mm_273 44 [some (.inr (.inr v0)), some (.inl v1), some (.inl v2)] [] h =
  bif aok h.1 v0 12 then
    bif aok h.1 v0 12 then
      bif ain h.1 (h.2 v0.toNat 33) 100 (h.2 v0.toNat 18) then
        bif decide ((h.2 (h.2 v0.toNat 33).toNat (h.2 v0.toNat 18).toNat) ≤ v2) then
          ev xs d mm_273 90 [some (.inr (.inr v0)), some (.inl 0), some (.inl v2)] [] h
        else
          bif aok h.1 v0 12 && true then
            bI (cl xs d 233 [.inr (.inr v0), .inl v2] h) (fun x2 h1 =>
            bif decide (x2 = 0) then
              ev xs d mm_273 44 [some (.inr (.inr v0)), some (.inl v1), some (.inl (w32 (v2 + 1)))] [] h1
            else
              bif aok h1.1 v0 12 then
                bif aok h1.1 v0 12 then
                  bif ain h1.1 (h1.2 v0.toNat 64) 101 v2 then
                    bif aok h1.1 v0 12 && true then
                      bJ (cl xs d 239 [.inr (.inr v0), .inl v1, .inr (.inl (h1.2 (h1.2 v0.toNat 64).toNat v2.toNat))] h1) (fun x4 h3 =>
                      bif ain h3.1 (h1.2 v0.toNat 64) 101 v2 then
                        ev xs d mm_273 44 [some (.inr (.inr v0)), some (.inl v1), some (.inl (w32 (v2 + 1)))] [] (h3.1, aup h3.2 (h1.2 v0.toNat 64).toNat v2.toNat x4)
                      else none)
                    else none
                  else none
                else none
              else none)
          else none
      else none
    else none
  else none :=
  (aB gP gX xs stp_273 25 d mm_273 44 _ _ h).trans rfl

set_option maxRecDepth 100000 in
set_option maxHeartbeats 4000000 in
theorem q_273_90 (xs : List Int) (d : Nat) (v0 : Int) (v1 : Int) (u2 : Option aV) (h : aH) : ev xs d mm_273 90 [some (.inr (.inr v0)), some (.inl v1), u2] [] h =
  bif aok h.1 v0 12 then
    bif aok h.1 v0 12 then
      bif ain h.1 (h.2 v0.toNat 33) 100 (h.2 v0.toNat 18) then
        bif decide ((h.2 (h.2 v0.toNat 33).toNat (h.2 v0.toNat 18).toNat) ≤ v1) then
          bif aok h.1 v0 12 then
            bif ain h.1 (h.2 v0.toNat 64) 101 53 then
              bif ain h.1 (h.2 v0.toNat 64) 101 53 then
                some (none, (h.1, aup h.2 (h.2 v0.toNat 64).toNat (53 : Int).toNat (w64 ((h.2 (h.2 v0.toNat 64).toNat (53 : Int).toNat) + 1))))
              else none
            else none
          else none
        else
          bif aok h.1 v0 12 && true then
            bI (cl xs d 233 [.inr (.inr v0), .inl v1] h) (fun x2 h1 =>
            bif decide (x2 = 0) then
              ev xs d mm_273 90 [some (.inr (.inr v0)), some (.inl (w32 (v1 + 1))), u2] [] h1
            else
              bif aok h1.1 v0 12 && true then
                bI (cl xs d 272 [.inr (.inr v0), .inl v1] h1) (fun x4 h3 =>
                bif decide (x4 = 0) then
                  ev xs d mm_273 90 [some (.inr (.inr v0)), some (.inl (w32 (v1 + 1))), u2] [] h3
                else
                  bif aok h3.1 v0 12 then
                    bif ain h3.1 (h3.2 v0.toNat 64) 101 (w32 (10 + v1)) then
                      ev xs d mm_273 90 [some (.inr (.inr v0)), some (.inl (w32 (v1 + 1))), u2] [] (h3.1, aup h3.2 (h3.2 v0.toNat 64).toNat (w32 (10 + v1)).toNat 2)
                    else none
                  else none)
              else none)
          else none
      else none
    else none
  else none :=
  (aB gP gX xs stp_273 25 d mm_273 90 _ _ h).trans rfl

theorem c_273 (xs : List Int) (d : Nat) (v0 : Int) (h : aH) : cl xs (d + 1) 273 [.inr (.inr v0)] h =
  bif aok h.1 v0 12 then
    bif aok h.1 v0 12 then
      bif ain h.1 (h.2 v0.toNat 23) 100 (h.2 v0.toNat 18) then
        bif decide ((h.2 (h.2 v0.toNat 23).toNat (h.2 v0.toNat 18).toNat) ≤ 0) then
          ev xs d mm_273 90 [some (.inr (.inr v0)), some (.inl 0), none] [] h
        else
          bif aok h.1 v0 12 then
            bif aok h.1 v0 12 then
              bif ain h.1 (h.2 v0.toNat 44) 100 (h.2 v0.toNat 18) then
                bif aok h.1 v0 12 then
                  bif ain h.1 (h.2 v0.toNat 64) 101 53 then
                    bif aok h.1 v0 12 then
                      bif aok h.1 v0 12 then
                        bif ain h.1 (h.2 v0.toNat 23) 100 (h.2 v0.toNat 18) then
                          bI (cl xs d 271 [.inl (h.2 (h.2 v0.toNat 44).toNat (h.2 v0.toNat 18).toNat), .inl (ol2i (h.2 (h.2 v0.toNat 64).toNat (53 : Int).toNat)), .inl (h.2 (h.2 v0.toNat 23).toNat (h.2 v0.toNat 18).toNat)] h) (fun x2 h1 =>
                            ev xs d mm_273 44 [some (.inr (.inr v0)), some (.inl x2), some (.inl 0)] [] h1)
                        else none
                      else none
                    else none
                  else none
                else none
              else none
            else none
          else none
      else none
    else none
  else none :=
  (show _ = ev xs d mm_273 0 [some (.inr (.inr v0)), none, none] [] h from rfl).trans (q_273_0 xs d v0 h)
def stp_274 : List Nat := [0, 31]
set_option maxRecDepth 100000 in
set_option maxHeartbeats 4000000 in
theorem q_274_0 (xs : List Int) (d : Nat) (v0 : Int) (v1 : Int) (h : aH) : ev xs d mm_274 0 [some (.inr (.inr v0)), some (.inl v1), none] [] h =
  bI (cl xs d 226 [.inl v1, .inl 0, .inl 100] h) (fun x2 h1 =>
    bif decide (¬ x2 = 0) then
      bif decide (¬ v1 = 0) then
        bif aok h1.1 v0 12 && true then
          bV (cl xs d 229 [.inr (.inr v0)] h1) (fun h3 =>
          ev xs d mm_274 31 [some (.inr (.inr v0)), some (.inl v1), some (.inl 0)] [] h3)
        else none
      else
        bif aok h1.1 v0 12 then
          bif ain h1.1 (h1.2 v0.toNat 63) 101 53 then
            some (some (.inl (ol2i (h1.2 (h1.2 v0.toNat 63).toNat (53 : Int).toNat))), h1)
          else none
        else none
    else
      some (some (.inl (-1)), h1)) :=
  (aB gP gX xs stp_274 14 d mm_274 0 _ _ h).trans rfl

set_option maxRecDepth 100000 in
set_option maxHeartbeats 4000000 in
theorem q_274_31 (xs : List Int) (d : Nat) (v0 : Int) (v1 : Int) (v2 : Int) (h : aH) : ev xs d mm_274 31 [some (.inr (.inr v0)), some (.inl v1), some (.inl v2)] [] h =
  bif decide (v1 ≤ v2) then
    bif aok h.1 v0 12 && true then
      bV (cl xs d 258 [.inr (.inr v0)] h) (fun h1 =>
      bif aok h1.1 v0 12 then
        bif ain h1.1 (h1.2 v0.toNat 63) 101 53 then
          some (some (.inl (ol2i (h1.2 (h1.2 v0.toNat 63).toNat (53 : Int).toNat))), h1)
        else none
      else none)
    else none
  else
    bif aok h.1 v0 12 && true then
      bV (cl xs d 273 [.inr (.inr v0)] h) (fun h2 =>
      ev xs d mm_274 31 [some (.inr (.inr v0)), some (.inl v1), some (.inl (w32 (v2 + 1)))] [] h2)
    else none :=
  (aB gP gX xs stp_274 12 d mm_274 31 _ _ h).trans rfl

theorem c_274 (xs : List Int) (d : Nat) (v0 : Int) (v1 : Int) (h : aH) : cl xs (d + 1) 274 [.inr (.inr v0), .inl v1] h =
  bI (cl xs d 226 [.inl v1, .inl 0, .inl 100] h) (fun x2 h1 =>
    bif decide (¬ x2 = 0) then
      bif decide (¬ v1 = 0) then
        bif aok h1.1 v0 12 && true then
          bV (cl xs d 229 [.inr (.inr v0)] h1) (fun h3 =>
          ev xs d mm_274 31 [some (.inr (.inr v0)), some (.inl v1), some (.inl 0)] [] h3)
        else none
      else
        bif aok h1.1 v0 12 then
          bif ain h1.1 (h1.2 v0.toNat 63) 101 53 then
            some (some (.inl (ol2i (h1.2 (h1.2 v0.toNat 63).toNat (53 : Int).toNat))), h1)
          else none
        else none
    else
      some (some (.inl (-1)), h1)) :=
  (show _ = ev xs d mm_274 0 [some (.inr (.inr v0)), some (.inl v1), none] [] h from rfl).trans (q_274_0 xs d v0 v1 h)
def stp_275 : List Nat := [0, 21]
set_option maxRecDepth 100000 in
set_option maxHeartbeats 4000000 in
theorem q_275_0 (xs : List Int) (d : Nat) (v0 : Int) (h : aH) : ev xs d mm_275 0 [some (.inr (.inr v0)), none] [] h =
  bif aok h.1 v0 12 then
    bif decide (¬ (h.2 v0.toNat 70) = 0) then
      bif aok h.1 v0 12 then
        bif aok h.1 v0 12 then
          ev xs d mm_275 21 [some (.inr (.inr v0)), some (.inl 0)] [] (h.1, aup h.2 v0.toNat 70 (w32 ((h.2 v0.toNat 70) - 1)))
        else none
      else none
    else
      some (some (.inl 0), h)
  else none :=
  (aB gP gX xs stp_275 12 d mm_275 0 _ _ h).trans rfl

set_option maxRecDepth 100000 in
set_option maxHeartbeats 4000000 in
theorem q_275_21 (xs : List Int) (d : Nat) (v0 : Int) (v1 : Int) (h : aH) : ev xs d mm_275 21 [some (.inr (.inr v0)), some (.inl v1)] [] h =
  bif decide (60 ≤ v1) then
    some (some (.inl 1), h)
  else
    bif aok h.1 v0 12 then
      bif aok h.1 v0 12 then
        bif aok h.1 v0 12 then
          bif ain h.1 (h.2 v0.toNat 71) 101 (w32 ((w32 (60 * (h.2 v0.toNat 70))) + v1)) then
            bif ain h.1 (h.2 v0.toNat 63) 101 v1 then
              ev xs d mm_275 21 [some (.inr (.inr v0)), some (.inl (w32 (v1 + 1)))] [] (h.1, aup h.2 (h.2 v0.toNat 63).toNat v1.toNat (h.2 (h.2 v0.toNat 71).toNat (w32 ((w32 (60 * (h.2 v0.toNat 70))) + v1)).toNat))
            else none
          else none
        else none
      else none
    else none :=
  (aB gP gX xs stp_275 19 d mm_275 21 _ _ h).trans rfl

theorem c_275 (xs : List Int) (d : Nat) (v0 : Int) (h : aH) : cl xs (d + 1) 275 [.inr (.inr v0)] h =
  bif aok h.1 v0 12 then
    bif decide (¬ (h.2 v0.toNat 70) = 0) then
      bif aok h.1 v0 12 then
        bif aok h.1 v0 12 then
          ev xs d mm_275 21 [some (.inr (.inr v0)), some (.inl 0)] [] (h.1, aup h.2 v0.toNat 70 (w32 ((h.2 v0.toNat 70) - 1)))
        else none
      else none
    else
      some (some (.inl 0), h)
  else none :=
  (show _ = ev xs d mm_275 0 [some (.inr (.inr v0)), none] [] h from rfl).trans (q_275_0 xs d v0 h)
def stp_276 : List Nat := [0]
set_option maxRecDepth 100000 in
set_option maxHeartbeats 4000000 in
theorem q_276_0 (xs : List Int) (d : Nat) (v0 : Int) (v1 : Int) (v2 : Int) (h : aH) : ev xs d mm_276 0 [some (.inr (.inr v0)), some (.inl v1), some (.inl v2)] [] h =
  bif aok h.1 v0 12 && true then
    bI (cl xs d 232 [.inr (.inr v0), .inl v1, .inl v2] h) (fun x2 h1 =>
    bif decide (x2 = 0) then
      some (some (.inl (-1)), h1)
    else
      bif aok h1.1 v0 12 then
        bif ain h1.1 (h1.2 v0.toNat 63) 101 (w32 ((w32 (20 + (w32 (8 * v1)))) + v2)) then
          some (some (.inl (ol2i (h1.2 (h1.2 v0.toNat 63).toNat (w32 ((w32 (20 + (w32 (8 * v1)))) + v2)).toNat))), h1)
        else none
      else none)
  else none :=
  (aB gP gX xs stp_276 19 d mm_276 0 _ _ h).trans rfl

theorem c_276 (xs : List Int) (d : Nat) (v0 : Int) (v1 : Int) (v2 : Int) (h : aH) : cl xs (d + 1) 276 [.inr (.inr v0), .inl v1, .inl v2] h =
  bif aok h.1 v0 12 && true then
    bI (cl xs d 232 [.inr (.inr v0), .inl v1, .inl v2] h) (fun x2 h1 =>
    bif decide (x2 = 0) then
      some (some (.inl (-1)), h1)
    else
      bif aok h1.1 v0 12 then
        bif ain h1.1 (h1.2 v0.toNat 63) 101 (w32 ((w32 (20 + (w32 (8 * v1)))) + v2)) then
          some (some (.inl (ol2i (h1.2 (h1.2 v0.toNat 63).toNat (w32 ((w32 (20 + (w32 (8 * v1)))) + v2)).toNat))), h1)
        else none
      else none)
  else none :=
  (show _ = ev xs d mm_276 0 [some (.inr (.inr v0)), some (.inl v1), some (.inl v2)] [] h from rfl).trans (q_276_0 xs d v0 v1 v2 h)
def stp_277 : List Nat := [0, 27, 84, 99]
set_option maxRecDepth 100000 in
set_option maxHeartbeats 4000000 in
theorem q_277_0 (xs : List Int) (d : Nat) (v0 : Int) (v1 : Int) (v2 : Int) (h : aH) : ev xs d mm_277 0 [some (.inr (.inr v0)), some (.inl v1), some (.inl v2), none, none, none, none, none, none, none, none] [] h =
  bI (cl xs d 226 [.inl v1, .inl 1, .inl 12] h) (fun x2 h1 =>
    bif decide (x2 = 0) then
      some (some (.inl (-1)), h1)
    else
      bI (cl xs d 226 [.inl v2, .inl 0, .inl 2] h1) (fun x4 h3 =>
        bif decide (¬ x4 = 0) then
          bif aok h3.1 v0 12 && true then
            bV (cl xs d 248 [.inr (.inr v0)] h3) (fun h5 =>
            ev xs d mm_277 27 [some (.inr (.inr v0)), some (.inl v1), some (.inl v2), some (.inl 0), none, none, none, none, none, none, none] [] h5)
          else none
        else
          some (some (.inl (-1)), h3))) :=
  (aB gP gX xs stp_277 15 d mm_277 0 _ _ h).trans rfl

set_option maxRecDepth 100000 in
set_option maxHeartbeats 4000000 in
theorem q_277_27 (xs : List Int) (d : Nat) (v0 : Int) (v1 : Int) (v2 : Int) (v3 : Int) (u4 : Option aV) (u5 : Option aV) (u6 : Option aV) (u7 : Option aV) (u8 : Option aV) (u9 : Option aV) (u10 : Option aV) (h : aH) : ev xs d mm_277 27 [some (.inr (.inr v0)), some (.inl v1), some (.inl v2), some (.inl v3), u4, u5, u6, u7, u8, u9, u10] [] h =
  bif aok h.1 v0 12 && true then
    bI (cl xs d 249 [.inr (.inr v0)] h) (fun x2 h1 =>
    bif decide (x2 = 0) then
      ev xs d mm_277 84 [some (.inr (.inr v0)), some (.inl v1), some (.inl v2), some (.inl v3), some (.inl 0), some (.inl 0), some (.inl (-2)), some (.inl 0), u8, u9, u10] [] h1
    else
      bif aok h1.1 v0 12 && true then
        bI (cl xs d 250 [.inr (.inr v0)] h1) (fun x4 h3 =>
        bif decide (x4 = v1) then
          bif aok h3.1 v0 12 then
            bif aok h3.1 v0 12 && true then
              bJ (cl xs d 252 [.inr (.inr v0)] h3) (fun x6 h5 =>
              bif ain h5.1 (h3.2 v0.toNat 72) 101 v3 then
                bif aok h5.1 v0 12 then
                  bif aok h5.1 v0 12 && true then
                    bI (cl xs d 253 [.inr (.inr v0)] (h5.1, aup h5.2 (h3.2 v0.toNat 72).toNat v3.toNat x6)) (fun x8 h7 =>
                    bif ain h7.1 ((aup h5.2 (h3.2 v0.toNat 72).toNat v3.toNat x6) v0.toNat 73) 100 v3 then
                      ev xs d mm_277 27 [some (.inr (.inr v0)), some (.inl v1), some (.inl v2), some (.inl (w32 (v3 + 1))), u4, u5, u6, u7, u8, u9, u10] [] (h7.1, aup h7.2 ((aup h5.2 (h3.2 v0.toNat 72).toNat v3.toNat x6) v0.toNat 73).toNat v3.toNat x8)
                    else none)
                  else none
                else none
              else none)
            else none
          else none
        else
          ev xs d mm_277 27 [some (.inr (.inr v0)), some (.inl v1), some (.inl v2), some (.inl v3), u4, u5, u6, u7, u8, u9, u10] [] h3)
      else none)
  else none :=
  (aB gP gX xs stp_277 22 d mm_277 27 _ _ h).trans rfl

set_option maxRecDepth 100000 in
set_option maxHeartbeats 4000000 in
theorem q_277_84 (xs : List Int) (d : Nat) (v0 : Int) (v1 : Int) (v2 : Int) (v3 : Int) (v4 : Int) (v5 : Int) (v6 : Int) (v7 : Int) (u8 : Option aV) (u9 : Option aV) (u10 : Option aV) (h : aH) : ev xs d mm_277 84 [some (.inr (.inr v0)), some (.inl v1), some (.inl v2), some (.inl v3), some (.inl v4), some (.inl v5), some (.inl v6), some (.inl v7), u8, u9, u10] [] h =
  bif decide (v3 ≤ v7) then
    bif decide (¬ v2 = 0) then
      bif decide (¬ v2 = 1) then
        some (some (.inl v6), h)
      else
        some (some (.inl v5), h)
    else
      some (some (.inl v4), h)
  else
    ev xs d mm_277 99 [some (.inr (.inr v0)), some (.inl v1), some (.inl v2), some (.inl v3), some (.inl v4), some (.inl v5), some (.inl v6), some (.inl v7), some (.inl 0), some (.inl 0), some (.inl 0)] [] h :=
  (aB gP gX xs stp_277 12 d mm_277 84 _ _ h).trans rfl

set_option maxRecDepth 100000 in
set_option maxHeartbeats 4000000 in
theorem q_277_99 (xs : List Int) (d : Nat) (v0 : Int) (v1 : Int) (v2 : Int) (v3 : Int) (v4 : Int) (v5 : Int) (v6 : Int) (v7 : Int) (v8 : Int) (v9 : Int) (v10 : Int) (h : aH) : ev xs d mm_277 99 [some (.inr (.inr v0)), some (.inl v1), some (.inl v2), some (.inl v3), some (.inl v4), some (.inl v5), some (.inl v6), some (.inl v7), some (.inl v8), some (.inl v9), some (.inl v10)] [] h =
  bif decide (v3 ≤ v10) then
    bif decide (v8 = 0) then
      bif decide (¬ v9 = 0) then
        bif decide (0 ≤ v6) then
          ev xs d mm_277 84 [some (.inr (.inr v0)), some (.inl v1), some (.inl v2), some (.inl v3), some (.inl (w32 (v4 + 1))), some (.inl (w32 (v5 + 1))), some (.inl v6), some (.inl (w32 (v7 + 1))), some (.inl v8), some (.inl v9), some (.inl v10)] [] h
        else
          bif aok h.1 v0 12 then
            bif ain h.1 (h.2 v0.toNat 73) 100 v7 then
              ev xs d mm_277 84 [some (.inr (.inr v0)), some (.inl v1), some (.inl v2), some (.inl v3), some (.inl (w32 (v4 + 1))), some (.inl (w32 (v5 + 1))), some (.inl (h.2 (h.2 v0.toNat 73).toNat v7.toNat)), some (.inl (w32 (v7 + 1))), some (.inl v8), some (.inl v9), some (.inl v10)] [] h
            else none
          else none
      else
        ev xs d mm_277 84 [some (.inr (.inr v0)), some (.inl v1), some (.inl v2), some (.inl v3), some (.inl (w32 (v4 + 1))), some (.inl v5), some (.inl v6), some (.inl (w32 (v7 + 1))), some (.inl v8), some (.inl v9), some (.inl v10)] [] h
    else
      ev xs d mm_277 84 [some (.inr (.inr v0)), some (.inl v1), some (.inl v2), some (.inl v3), some (.inl v4), some (.inl v5), some (.inl v6), some (.inl (w32 (v7 + 1))), some (.inl v8), some (.inl v9), some (.inl v10)] [] h
  else
    bif decide (v10 = v7) then
      ev xs d mm_277 99 [some (.inr (.inr v0)), some (.inl v1), some (.inl v2), some (.inl v3), some (.inl v4), some (.inl v5), some (.inl v6), some (.inl v7), some (.inl v8), some (.inl v9), some (.inl (w32 (v10 + 1)))] [] h
    else
      bif aok h.1 v0 12 then
        bif ain h.1 (h.2 v0.toNat 72) 101 v10 then
          bif aok h.1 v0 12 then
            bif ain h.1 (h.2 v0.toNat 72) 101 v7 then
              bif decide ((olcmp (h.2 (h.2 v0.toNat 72).toNat v10.toNat) (h.2 (h.2 v0.toNat 72).toNat v7.toNat)) = 0) then
                bif decide (v7 ≤ v10) then
                  ev xs d mm_277 99 [some (.inr (.inr v0)), some (.inl v1), some (.inl v2), some (.inl v3), some (.inl v4), some (.inl v5), some (.inl v6), some (.inl v7), some (.inl v8), some (.inl 1), some (.inl (w32 (v10 + 1)))] [] h
                else
                  ev xs d mm_277 99 [some (.inr (.inr v0)), some (.inl v1), some (.inl v2), some (.inl v3), some (.inl v4), some (.inl v5), some (.inl v6), some (.inl v7), some (.inl 1), some (.inl v9), some (.inl (w32 (v10 + 1)))] [] h
              else
                ev xs d mm_277 99 [some (.inr (.inr v0)), some (.inl v1), some (.inl v2), some (.inl v3), some (.inl v4), some (.inl v5), some (.inl v6), some (.inl v7), some (.inl v8), some (.inl v9), some (.inl (w32 (v10 + 1)))] [] h
            else none
          else none
        else none
      else none :=
  (aB gP gX xs stp_277 25 d mm_277 99 _ _ h).trans rfl

theorem c_277 (xs : List Int) (d : Nat) (v0 : Int) (v1 : Int) (v2 : Int) (h : aH) : cl xs (d + 1) 277 [.inr (.inr v0), .inl v1, .inl v2] h =
  bI (cl xs d 226 [.inl v1, .inl 1, .inl 12] h) (fun x2 h1 =>
    bif decide (x2 = 0) then
      some (some (.inl (-1)), h1)
    else
      bI (cl xs d 226 [.inl v2, .inl 0, .inl 2] h1) (fun x4 h3 =>
        bif decide (¬ x4 = 0) then
          bif aok h3.1 v0 12 && true then
            bV (cl xs d 248 [.inr (.inr v0)] h3) (fun h5 =>
            ev xs d mm_277 27 [some (.inr (.inr v0)), some (.inl v1), some (.inl v2), some (.inl 0), none, none, none, none, none, none, none] [] h5)
          else none
        else
          some (some (.inl (-1)), h3))) :=
  (show _ = ev xs d mm_277 0 [some (.inr (.inr v0)), some (.inl v1), some (.inl v2), none, none, none, none, none, none, none, none] [] h from rfl).trans (q_277_0 xs d v0 v1 v2 h)
def stp_278 : List Nat := [0]
set_option maxRecDepth 100000 in
set_option maxHeartbeats 4000000 in
theorem q_278_0 (xs : List Int) (d : Nat) (v0 : Int) (v1 : Int) (v2 : Int) (v3 : Int) (h : aH) : ev xs d mm_278 0 [some (.inr (.inr v0)), some (.inl v1), some (.inl v2), some (.inl v3), none] [] h =
  bif aok h.1 v0 12 then
    bif aok h.1 v0 12 then
      bif ain h.1 (h.2 v0.toNat 36) 101 (w32 ((w32 (8 * (h.2 v0.toNat 18))) + v1)) then
        bif aok h.1 v0 12 && true then
          bJ (cl xs d 240 [.inr (.inr v0), .inr (.inl (h.2 (h.2 v0.toNat 36).toNat (w32 ((w32 (8 * (h.2 v0.toNat 18))) + v1)).toNat)), .inl v3, .inl 7] h) (fun x2 h1 =>
          bif decide (v2 = 0) then
            bif aok h1.1 v0 12 then
              bif ain h1.1 (h1.2 v0.toNat 37) 101 (w32 ((w32 (8 * (h.2 v0.toNat 18))) + v1)) then
                bif decide (¬ (olcmp x2 (h1.2 (h1.2 v0.toNat 37).toNat (w32 ((w32 (8 * (h.2 v0.toNat 18))) + v1)).toNat)) = 0) then
                  some (some (.inl 0), h1)
                else
                  some (some (.inl 1), h1)
              else none
            else none
          else
            bif aok h1.1 v0 12 then
              bif ain h1.1 (h1.2 v0.toNat 38) 101 (w32 ((w32 (8 * (h.2 v0.toNat 18))) + v1)) then
                bif decide (¬ (olcmp x2 (h1.2 (h1.2 v0.toNat 38).toNat (w32 ((w32 (8 * (h.2 v0.toNat 18))) + v1)).toNat)) = 0) then
                  some (some (.inl 0), h1)
                else
                  some (some (.inl 1), h1)
              else none
            else none)
        else none
      else none
    else none
  else none :=
  (aB gP gX xs stp_278 28 d mm_278 0 _ _ h).trans rfl

theorem c_278 (xs : List Int) (d : Nat) (v0 : Int) (v1 : Int) (v2 : Int) (v3 : Int) (h : aH) : cl xs (d + 1) 278 [.inr (.inr v0), .inl v1, .inl v2, .inl v3] h =
  bif aok h.1 v0 12 then
    bif aok h.1 v0 12 then
      bif ain h.1 (h.2 v0.toNat 36) 101 (w32 ((w32 (8 * (h.2 v0.toNat 18))) + v1)) then
        bif aok h.1 v0 12 && true then
          bJ (cl xs d 240 [.inr (.inr v0), .inr (.inl (h.2 (h.2 v0.toNat 36).toNat (w32 ((w32 (8 * (h.2 v0.toNat 18))) + v1)).toNat)), .inl v3, .inl 7] h) (fun x2 h1 =>
          bif decide (v2 = 0) then
            bif aok h1.1 v0 12 then
              bif ain h1.1 (h1.2 v0.toNat 37) 101 (w32 ((w32 (8 * (h.2 v0.toNat 18))) + v1)) then
                bif decide (¬ (olcmp x2 (h1.2 (h1.2 v0.toNat 37).toNat (w32 ((w32 (8 * (h.2 v0.toNat 18))) + v1)).toNat)) = 0) then
                  some (some (.inl 0), h1)
                else
                  some (some (.inl 1), h1)
              else none
            else none
          else
            bif aok h1.1 v0 12 then
              bif ain h1.1 (h1.2 v0.toNat 38) 101 (w32 ((w32 (8 * (h.2 v0.toNat 18))) + v1)) then
                bif decide (¬ (olcmp x2 (h1.2 (h1.2 v0.toNat 38).toNat (w32 ((w32 (8 * (h.2 v0.toNat 18))) + v1)).toNat)) = 0) then
                  some (some (.inl 0), h1)
                else
                  some (some (.inl 1), h1)
              else none
            else none)
        else none
      else none
    else none
  else none :=
  (show _ = ev xs d mm_278 0 [some (.inr (.inr v0)), some (.inl v1), some (.inl v2), some (.inl v3), none] [] h from rfl).trans (q_278_0 xs d v0 v1 v2 v3 h)
def stp_279 : List Nat := [0, 3, 33]
set_option maxRecDepth 100000 in
set_option maxHeartbeats 4000000 in
theorem q_279_0 (xs : List Int) (d : Nat) (v0 : Int) (v1 : Int) (v2 : Int) (v3 : Int) (h : aH) : ev xs d mm_279 0 [some (.inr (.inr v0)), some (.inl v1), some (.inl v2), some (.inl v3), none] [] h =
  ev xs d mm_279 3 [some (.inr (.inr v0)), some (.inl v1), some (.inl v2), some (.inl v3), some (.inl 0)] [] h :=
  (aB gP gX xs stp_279 3 d mm_279 0 _ _ h).trans rfl

set_option maxRecDepth 100000 in
set_option maxHeartbeats 4000000 in
theorem q_279_3 (xs : List Int) (d : Nat) (v0 : Int) (v1 : Int) (v2 : Int) (v3 : Int) (v4 : Int) (h : aH) : ev xs d mm_279 3 [some (.inr (.inr v0)), some (.inl v1), some (.inl v2), some (.inl v3), some (.inl v4)] [] h =
  bif decide (v1 ≤ v4) then
    some (some (.inl 1), h)
  else
    bif decide (v2 = 0) then
      ev xs d mm_279 33 [some (.inr (.inr v0)), some (.inl v1), some (.inl v2), some (.inl v3), some (.inl v4)] [] h
    else
      bif aok h.1 v0 12 then
        bif aok h.1 v0 12 then
          bif ain h.1 (h.2 v0.toNat 38) 101 (w32 ((w32 (8 * (h.2 v0.toNat 18))) + v4)) then
            bif decide ((olcmp (h.2 (h.2 v0.toNat 38).toNat (w32 ((w32 (8 * (h.2 v0.toNat 18))) + v4)).toNat) 0) = 0) then
              ev xs d mm_279 3 [some (.inr (.inr v0)), some (.inl v1), some (.inl v2), some (.inl v3), some (.inl (w32 (v4 + 1)))] [] h
            else
              ev xs d mm_279 33 [some (.inr (.inr v0)), some (.inl v1), some (.inl v2), some (.inl v3), some (.inl v4)] [] h
          else none
        else none
      else none :=
  (aB gP gX xs stp_279 20 d mm_279 3 _ _ h).trans rfl

set_option maxRecDepth 100000 in
set_option maxHeartbeats 4000000 in
theorem q_279_33 (xs : List Int) (d : Nat) (v0 : Int) (v1 : Int) (v2 : Int) (v3 : Int) (v4 : Int) (h : aH) : ev xs d mm_279 33 [some (.inr (.inr v0)), some (.inl v1), some (.inl v2), some (.inl v3), some (.inl v4)] [] h =
  bif aok h.1 v0 12 && true then
    bI (cl xs d 278 [.inr (.inr v0), .inl v4, .inl v2, .inl v3] h) (fun x2 h1 =>
    bif decide (¬ x2 = 0) then
      ev xs d mm_279 3 [some (.inr (.inr v0)), some (.inl v1), some (.inl v2), some (.inl v3), some (.inl (w32 (v4 + 1)))] [] h1
    else
      some (some (.inl 0), h1))
  else none :=
  (aB gP gX xs stp_279 9 d mm_279 33 _ _ h).trans rfl

theorem c_279 (xs : List Int) (d : Nat) (v0 : Int) (v1 : Int) (v2 : Int) (v3 : Int) (h : aH) : cl xs (d + 1) 279 [.inr (.inr v0), .inl v1, .inl v2, .inl v3] h =
  ev xs d mm_279 3 [some (.inr (.inr v0)), some (.inl v1), some (.inl v2), some (.inl v3), some (.inl 0)] [] h :=
  (show _ = ev xs d mm_279 0 [some (.inr (.inr v0)), some (.inl v1), some (.inl v2), some (.inl v3), none] [] h from rfl).trans (q_279_0 xs d v0 v1 v2 v3 h)
def stp_280 : List Nat := [0]
set_option maxRecDepth 100000 in
set_option maxHeartbeats 4000000 in
theorem q_280_0 (xs : List Int) (d : Nat) (v0 : Int) (v1 : Int) (h : aH) : ev xs d mm_280 0 [some (.inr (.inr v0)), some (.inl v1)] [] h =
  bif aok h.1 v0 12 then
    bif aok h.1 v0 12 then
      bif ain h.1 (h.2 v0.toNat 35) 100 (h.2 v0.toNat 18) then
        bI (cl xs d 226 [.inl v1, .inl 0, .inl (h.2 (h.2 v0.toNat 35).toNat (h.2 v0.toNat 18).toNat)] h) (fun x2 h1 =>
          bif decide (x2 = 0) || decide (x2 = 1) then some (some (.inl x2), h1) else none)
      else none
    else none
  else none :=
  (aB gP gX xs stp_280 10 d mm_280 0 _ _ h).trans rfl

theorem c_280 (xs : List Int) (d : Nat) (v0 : Int) (v1 : Int) (h : aH) : cl xs (d + 1) 280 [.inr (.inr v0), .inl v1] h =
  bif aok h.1 v0 12 then
    bif aok h.1 v0 12 then
      bif ain h.1 (h.2 v0.toNat 35) 100 (h.2 v0.toNat 18) then
        bI (cl xs d 226 [.inl v1, .inl 0, .inl (h.2 (h.2 v0.toNat 35).toNat (h.2 v0.toNat 18).toNat)] h) (fun x2 h1 =>
          bif decide (x2 = 0) || decide (x2 = 1) then some (some (.inl x2), h1) else none)
      else none
    else none
  else none :=
  (show _ = ev xs d mm_280 0 [some (.inr (.inr v0)), some (.inl v1)] [] h from rfl).trans (q_280_0 xs d v0 v1 h)
def stp_281 : List Nat := [0, 47]
set_option maxRecDepth 100000 in
set_option maxHeartbeats 4000000 in
theorem q_281_0 (xs : List Int) (d : Nat) (v0 : Int) (v1 : Int) (v2 : Int) (h : aH) : ev xs d mm_281 0 [some (.inr (.inr v0)), some (.inl v1), some (.inl v2)] [] h =
  bif aok h.1 v0 12 then
    bif aok h.1 v0 12 then
      bif ain h.1 (h.2 v0.toNat 35) 100 (h.2 v0.toNat 18) then
        bI (cl xs d 226 [.inl v1, .inl 0, .inl (w32 ((h.2 (h.2 v0.toNat 35).toNat (h.2 v0.toNat 18).toNat) - 1))] h) (fun x2 h1 =>
          bif decide (¬ x2 = 0) then
            bif decide (v2 = 0) then
              ev xs d mm_281 47 [some (.inr (.inr v0)), some (.inl v1), some (.inl v2)] [] h1
            else
              bif aok h1.1 v0 12 then
                bif aok h1.1 v0 12 then
                  bif ain h1.1 (h1.2 v0.toNat 38) 101 (w32 ((w32 (8 * (h1.2 v0.toNat 18))) + v1)) then
                    bif decide (¬ (olcmp (h1.2 (h1.2 v0.toNat 38).toNat (w32 ((w32 (8 * (h1.2 v0.toNat 18))) + v1)).toNat) 0) = 0) then
                      ev xs d mm_281 47 [some (.inr (.inr v0)), some (.inl v1), some (.inl v2)] [] h1
                    else
                      some (some (.inl (-2)), h1)
                  else none
                else none
              else none
          else
            some (some (.inl (-1)), h1))
      else none
    else none
  else none :=
  (aB gP gX xs stp_281 28 d mm_281 0 _ _ h).trans rfl

set_option maxRecDepth 100000 in
set_option maxHeartbeats 4000000 in
theorem q_281_47 (xs : List Int) (d : Nat) (v0 : Int) (v1 : Int) (v2 : Int) (h : aH) : ev xs d mm_281 47 [some (.inr (.inr v0)), some (.inl v1), some (.inl v2)] [] h =
  bif aok h.1 v0 12 && true then
    bV (cl xs d 229 [.inr (.inr v0)] h) (fun h1 =>
    bif aok h1.1 v0 12 then
      bif ain h1.1 (h1.2 v0.toNat 64) 101 52 then
        bif aok h1.1 v0 12 && true then
          bI (cl xs d 278 [.inr (.inr v0), .inl v1, .inl v2, .inl (ol2i (h1.2 (h1.2 v0.toNat 64).toNat (52 : Int).toNat))] h1) (fun x3 h2 =>
          bif decide (x3 = 0) then
            some (some (.inl 0), h2)
          else
            some (some (.inl 1), h2))
        else none
      else none
    else none)
  else none :=
  (aB gP gX xs stp_281 16 d mm_281 47 _ _ h).trans rfl

theorem c_281 (xs : List Int) (d : Nat) (v0 : Int) (v1 : Int) (v2 : Int) (h : aH) : cl xs (d + 1) 281 [.inr (.inr v0), .inl v1, .inl v2] h =
  bif aok h.1 v0 12 then
    bif aok h.1 v0 12 then
      bif ain h.1 (h.2 v0.toNat 35) 100 (h.2 v0.toNat 18) then
        bI (cl xs d 226 [.inl v1, .inl 0, .inl (w32 ((h.2 (h.2 v0.toNat 35).toNat (h.2 v0.toNat 18).toNat) - 1))] h) (fun x2 h1 =>
          bif decide (¬ x2 = 0) then
            bif decide (v2 = 0) then
              ev xs d mm_281 47 [some (.inr (.inr v0)), some (.inl v1), some (.inl v2)] [] h1
            else
              bif aok h1.1 v0 12 then
                bif aok h1.1 v0 12 then
                  bif ain h1.1 (h1.2 v0.toNat 38) 101 (w32 ((w32 (8 * (h1.2 v0.toNat 18))) + v1)) then
                    bif decide (¬ (olcmp (h1.2 (h1.2 v0.toNat 38).toNat (w32 ((w32 (8 * (h1.2 v0.toNat 18))) + v1)).toNat) 0) = 0) then
                      ev xs d mm_281 47 [some (.inr (.inr v0)), some (.inl v1), some (.inl v2)] [] h1
                    else
                      some (some (.inl (-2)), h1)
                  else none
                else none
              else none
          else
            some (some (.inl (-1)), h1))
      else none
    else none
  else none :=
  (show _ = ev xs d mm_281 0 [some (.inr (.inr v0)), some (.inl v1), some (.inl v2)] [] h from rfl).trans (q_281_0 xs d v0 v1 v2 h)
def stp_282 : List Nat := [0, 7, 56]
set_option maxRecDepth 100000 in
set_option maxHeartbeats 4000000 in
theorem q_282_0 (xs : List Int) (d : Nat) (v0 : Int) (h : aH) : ev xs d mm_282 0 [some (.inr (.inr v0)), none] [] h =
  bif aok h.1 v0 12 then
    ev xs d mm_282 7 [some (.inr (.inr v0)), some (.inl 0)] [] (h.1, aup h.2 v0.toNat 74 0)
  else none :=
  (aB gP gX xs stp_282 6 d mm_282 0 _ _ h).trans rfl

set_option maxRecDepth 100000 in
set_option maxHeartbeats 4000000 in
theorem q_282_7 (xs : List Int) (d : Nat) (v0 : Int) (v1 : Int) (h : aH) : ev xs d mm_282 7 [some (.inr (.inr v0)), some (.inl v1)] [] h =
  bif aok h.1 v0 12 then
    bif aok h.1 v0 12 then
      bif ain h.1 (h.2 v0.toNat 23) 100 (h.2 v0.toNat 18) then
        bif decide ((h.2 (h.2 v0.toNat 23).toNat (h.2 v0.toNat 18).toNat) ≤ v1) then
          some (none, h)
        else
          bif aok h.1 v0 12 then
            bif ain h.1 (h.2 v0.toNat 64) 101 52 then
              bif decide (¬ (olcmp (oland (olshr (h.2 (h.2 v0.toNat 64).toNat (52 : Int).toNat) v1) 1) 1) = 0) then
                ev xs d mm_282 56 [some (.inr (.inr v0)), some (.inl v1)] [] h
              else
                bif aok h.1 v0 12 then
                  bif aok h.1 v0 12 then
                    bif ain h.1 (h.2 v0.toNat 75) 100 (h.2 v0.toNat 74) then
                      bif aok h.1 v0 12 then
                        bif aok h.1 v0 12 then
                          ev xs d mm_282 56 [some (.inr (.inr v0)), some (.inl v1)] [] (h.1, aup (aup h.2 (h.2 v0.toNat 75).toNat (h.2 v0.toNat 74).toNat v1) v0.toNat 74 (w32 (((aup h.2 (h.2 v0.toNat 75).toNat (h.2 v0.toNat 74).toNat v1) v0.toNat 74) + 1)))
                        else none
                      else none
                    else none
                  else none
                else none
            else none
          else none
      else none
    else none
  else none :=
  (aB gP gX xs stp_282 31 d mm_282 7 _ _ h).trans rfl

set_option maxRecDepth 100000 in
set_option maxHeartbeats 4000000 in
theorem q_282_56 (xs : List Int) (d : Nat) (v0 : Int) (v1 : Int) (h : aH) : ev xs d mm_282 56 [some (.inr (.inr v0)), some (.inl v1)] [] h =
  bif aok h.1 v0 12 then
    bif aok h.1 v0 12 then
      bif ain h.1 (h.2 v0.toNat 63) 101 (w32 (45 + v1)) then
        bif ain h.1 (h.2 v0.toNat 76) 100 (ol2i (h.2 (h.2 v0.toNat 63).toNat (w32 (45 + v1)).toNat)) then
          ev xs d mm_282 7 [some (.inr (.inr v0)), some (.inl (w32 (v1 + 1)))] [] (h.1, aup h.2 (h.2 v0.toNat 76).toNat (ol2i (h.2 (h.2 v0.toNat 63).toNat (w32 (45 + v1)).toNat)).toNat v1)
        else none
      else none
    else none
  else none :=
  (aB gP gX xs stp_282 14 d mm_282 56 _ _ h).trans rfl

theorem c_282 (xs : List Int) (d : Nat) (v0 : Int) (h : aH) : cl xs (d + 1) 282 [.inr (.inr v0)] h =
  bif aok h.1 v0 12 then
    ev xs d mm_282 7 [some (.inr (.inr v0)), some (.inl 0)] [] (h.1, aup h.2 v0.toNat 74 0)
  else none :=
  (show _ = ev xs d mm_282 0 [some (.inr (.inr v0)), none] [] h from rfl).trans (q_282_0 xs d v0 h)
def stp_283 : List Nat := [0, 7, 47, 107]
set_option maxRecDepth 100000 in
set_option maxHeartbeats 4000000 in
theorem q_283_0 (xs : List Int) (d : Nat) (v0 : Int) (h : aH) : ev xs d mm_283 0 [some (.inr (.inr v0)), none, none, none, none, none] [] h =
  bif aok h.1 v0 12 then
    ev xs d mm_283 7 [some (.inr (.inr v0)), some (.inl (w32 ((h.2 v0.toNat 74) - 2))), none, none, none, none] [] h
  else none :=
  (aB gP gX xs stp_283 6 d mm_283 0 _ _ h).trans rfl

set_option maxRecDepth 100000 in
set_option maxHeartbeats 4000000 in
theorem q_283_7 (xs : List Int) (d : Nat) (v0 : Int) (v1 : Int) (u2 : Option aV) (u3 : Option aV) (u4 : Option aV) (u5 : Option aV) (h : aH) : ev xs d mm_283 7 [some (.inr (.inr v0)), some (.inl v1), u2, u3, u4, u5] [] h =
  bif decide (v1 < 0) then
    bif decide (0 ≤ v1) then
      bif aok h.1 v0 12 then
        ev xs d mm_283 47 [some (.inr (.inr v0)), some (.inl v1), some (.inl (w32 ((h.2 v0.toNat 74) - 1))), u3, u4, u5] [] h
      else none
    else
      some (some (.inl 0), h)
  else
    bif aok h.1 v0 12 then
      bif ain h.1 (h.2 v0.toNat 75) 100 v1 then
        bif aok h.1 v0 12 then
          bif ain h.1 (h.2 v0.toNat 75) 100 (w32 (v1 + 1)) then
            bif decide ((h.2 (h.2 v0.toNat 75).toNat v1.toNat) ≤ (h.2 (h.2 v0.toNat 75).toNat (w32 (v1 + 1)).toNat)) then
              bif decide (0 ≤ v1) then
                bif aok h.1 v0 12 then
                  ev xs d mm_283 47 [some (.inr (.inr v0)), some (.inl v1), some (.inl (w32 ((h.2 v0.toNat 74) - 1))), u3, u4, u5] [] h
                else none
              else
                some (some (.inl 0), h)
            else
              ev xs d mm_283 7 [some (.inr (.inr v0)), some (.inl (w32 (v1 + (-1)))), u2, u3, u4, u5] [] h
          else none
        else none
      else none
    else none :=
  (aB gP gX xs stp_283 21 d mm_283 7 _ _ h).trans rfl

set_option maxRecDepth 100000 in
set_option maxHeartbeats 4000000 in
theorem q_283_47 (xs : List Int) (d : Nat) (v0 : Int) (v1 : Int) (v2 : Int) (u3 : Option aV) (u4 : Option aV) (u5 : Option aV) (h : aH) : ev xs d mm_283 47 [some (.inr (.inr v0)), some (.inl v1), some (.inl v2), u3, u4, u5] [] h =
  bif aok h.1 v0 12 then
    bif ain h.1 (h.2 v0.toNat 75) 100 v2 then
      bif aok h.1 v0 12 then
        bif ain h.1 (h.2 v0.toNat 75) 100 v1 then
          bif decide ((h.2 (h.2 v0.toNat 75).toNat v1.toNat) ≤ (h.2 (h.2 v0.toNat 75).toNat v2.toNat)) then
            bif aok h.1 v0 12 then
              bif ain h.1 (h.2 v0.toNat 75) 100 v1 then
                bif aok h.1 v0 12 then
                  bif aok h.1 v0 12 then
                    bif ain h.1 (h.2 v0.toNat 75) 100 v2 then
                      bif ain h.1 (h.2 v0.toNat 75) 100 v1 then
                        bif aok h.1 v0 12 then
                          bif ain h.1 ((aup h.2 (h.2 v0.toNat 75).toNat v1.toNat (h.2 (h.2 v0.toNat 75).toNat v2.toNat)) v0.toNat 75) 100 v2 then
                            bif aok h.1 v0 12 then
                              ev xs d mm_283 107 [some (.inr (.inr v0)), some (.inl v1), some (.inl v2), some (.inl (h.2 (h.2 v0.toNat 75).toNat v1.toNat)), some (.inl (w32 (v1 + 1))), some (.inl (w32 (((aup (aup h.2 (h.2 v0.toNat 75).toNat v1.toNat (h.2 (h.2 v0.toNat 75).toNat v2.toNat)) ((aup h.2 (h.2 v0.toNat 75).toNat v1.toNat (h.2 (h.2 v0.toNat 75).toNat v2.toNat)) v0.toNat 75).toNat v2.toNat (h.2 (h.2 v0.toNat 75).toNat v1.toNat)) v0.toNat 74) - 1)))] [] (h.1, aup (aup h.2 (h.2 v0.toNat 75).toNat v1.toNat (h.2 (h.2 v0.toNat 75).toNat v2.toNat)) ((aup h.2 (h.2 v0.toNat 75).toNat v1.toNat (h.2 (h.2 v0.toNat 75).toNat v2.toNat)) v0.toNat 75).toNat v2.toNat (h.2 (h.2 v0.toNat 75).toNat v1.toNat))
                            else none
                          else none
                        else none
                      else none
                    else none
                  else none
                else none
              else none
            else none
          else
            ev xs d mm_283 47 [some (.inr (.inr v0)), some (.inl v1), some (.inl (w32 (v2 + (-1)))), u3, u4, u5] [] h
        else none
      else none
    else none
  else none :=
  (aB gP gX xs stp_283 37 d mm_283 47 _ _ h).trans rfl

set_option maxRecDepth 100000 in
set_option maxHeartbeats 4000000 in
theorem q_283_107 (xs : List Int) (d : Nat) (v0 : Int) (v1 : Int) (v2 : Int) (v3 : Int) (v4 : Int) (v5 : Int) (h : aH) : ev xs d mm_283 107 [some (.inr (.inr v0)), some (.inl v1), some (.inl v2), some (.inl v3), some (.inl v4), some (.inl v5)] [] h =
  bif decide (v5 ≤ v4) then
    some (some (.inl 1), h)
  else
    bif aok h.1 v0 12 then
      bif ain h.1 (h.2 v0.toNat 75) 100 v4 then
        bif aok h.1 v0 12 then
          bif aok h.1 v0 12 then
            bif ain h.1 (h.2 v0.toNat 75) 100 v5 then
              bif ain h.1 (h.2 v0.toNat 75) 100 v4 then
                bif aok h.1 v0 12 then
                  bif ain h.1 ((aup h.2 (h.2 v0.toNat 75).toNat v4.toNat (h.2 (h.2 v0.toNat 75).toNat v5.toNat)) v0.toNat 75) 100 v5 then
                    ev xs d mm_283 107 [some (.inr (.inr v0)), some (.inl v1), some (.inl v2), some (.inl (h.2 (h.2 v0.toNat 75).toNat v4.toNat)), some (.inl (w32 (v4 + 1))), some (.inl (w32 (v5 + (-1))))] [] (h.1, aup (aup h.2 (h.2 v0.toNat 75).toNat v4.toNat (h.2 (h.2 v0.toNat 75).toNat v5.toNat)) ((aup h.2 (h.2 v0.toNat 75).toNat v4.toNat (h.2 (h.2 v0.toNat 75).toNat v5.toNat)) v0.toNat 75).toNat v5.toNat (h.2 (h.2 v0.toNat 75).toNat v4.toNat))
                  else none
                else none
              else none
            else none
          else none
        else none
      else none
    else none :=
  (aB gP gX xs stp_283 25 d mm_283 107 _ _ h).trans rfl

theorem c_283 (xs : List Int) (d : Nat) (v0 : Int) (h : aH) : cl xs (d + 1) 283 [.inr (.inr v0)] h =
  bif aok h.1 v0 12 then
    ev xs d mm_283 7 [some (.inr (.inr v0)), some (.inl (w32 ((h.2 v0.toNat 74) - 2))), none, none, none, none] [] h
  else none :=
  (show _ = ev xs d mm_283 0 [some (.inr (.inr v0)), none, none, none, none, none] [] h from rfl).trans (q_283_0 xs d v0 h)
def stp_284 : List Nat := [0, 2, 25]
set_option maxRecDepth 100000 in
set_option maxHeartbeats 4000000 in
theorem q_284_0 (xs : List Int) (d : Nat) (v0 : Int) (v1 : Int) (h : aH) : ev xs d mm_284 0 [some (.inr (.inr v0)), some (.inl v1), none, none, none, none] [] h =
  ev xs d mm_284 2 [some (.inr (.inr v0)), some (.inl v1), some (.inl 0), none, none, none] [] h :=
  (aB gP gX xs stp_284 3 d mm_284 0 _ _ h).trans rfl

set_option maxRecDepth 100000 in
set_option maxHeartbeats 4000000 in
theorem q_284_2 (xs : List Int) (d : Nat) (v0 : Int) (v1 : Int) (v2 : Int) (u3 : Option aV) (u4 : Option aV) (u5 : Option aV) (h : aH) : ev xs d mm_284 2 [some (.inr (.inr v0)), some (.inl v1), some (.inl v2), u3, u4, u5] [] h =
  bif decide (v1 ≤ v2) then
    some (some (.inl 1), h)
  else
    bif aok h.1 v0 12 then
      bif aok h.1 v0 12 then
        bif ain h.1 (h.2 v0.toNat 36) 101 (w32 ((w32 (8 * (h.2 v0.toNat 18))) + v2)) then
          ev xs d mm_284 25 [some (.inr (.inr v0)), some (.inl v1), some (.inl v2), some (.inr (.inl (h.2 (h.2 v0.toNat 36).toNat (w32 ((w32 (8 * (h.2 v0.toNat 18))) + v2)).toNat))), none, some (.inl 0)] [] h
        else none
      else none
    else none :=
  (aB gP gX xs stp_284 16 d mm_284 2 _ _ h).trans rfl

set_option maxRecDepth 100000 in
set_option maxHeartbeats 4000000 in
theorem q_284_25 (xs : List Int) (d : Nat) (v0 : Int) (v1 : Int) (v2 : Int) (v3 : Int) (u4 : Option aV) (v5 : Int) (h : aH) : ev xs d mm_284 25 [some (.inr (.inr v0)), some (.inl v1), some (.inl v2), some (.inr (.inl v3)), u4, some (.inl v5)] [] h =
  bif aok h.1 v0 12 then
    bif decide ((h.2 v0.toNat 74) ≤ v5) then
      bif aok h.1 v0 12 then
        bif aok h.1 v0 12 then
          bif ain h.1 (h.2 v0.toNat 37) 101 (w32 ((w32 (8 * (h.2 v0.toNat 18))) + v2)) then
            bif decide ((olcmp v3 (h.2 (h.2 v0.toNat 37).toNat (w32 ((w32 (8 * (h.2 v0.toNat 18))) + v2)).toNat)) = 0) then
              ev xs d mm_284 2 [some (.inr (.inr v0)), some (.inl v1), some (.inl (w32 (v2 + 1))), some (.inr (.inl v3)), u4, some (.inl v5)] [] h
            else
              some (some (.inl 0), h)
          else none
        else none
      else none
    else
      bif aok h.1 v0 12 then
        bif ain h.1 (h.2 v0.toNat 75) 100 v5 then
          bif aok h.1 v0 12 && true then
            bJ (cl xs d 239 [.inr (.inr v0), .inl (h.2 (h.2 v0.toNat 75).toNat v5.toNat), .inr (.inl v3)] h) (fun x2 h1 =>
            ev xs d mm_284 25 [some (.inr (.inr v0)), some (.inl v1), some (.inl v2), some (.inr (.inl x2)), none, some (.inl (w32 (v5 + 1)))] [] h1)
          else none
        else none
      else none
  else none :=
  (aB gP gX xs stp_284 19 d mm_284 25 _ _ h).trans rfl

theorem c_284 (xs : List Int) (d : Nat) (v0 : Int) (v1 : Int) (h : aH) : cl xs (d + 1) 284 [.inr (.inr v0), .inl v1] h =
  ev xs d mm_284 2 [some (.inr (.inr v0)), some (.inl v1), some (.inl 0), none, none, none] [] h :=
  (show _ = ev xs d mm_284 0 [some (.inr (.inr v0)), some (.inl v1), none, none, none, none] [] h from rfl).trans (q_284_0 xs d v0 v1 h)
def stp_285 : List Nat := [0, 21, 42, 83, 98, 169]
set_option maxRecDepth 100000 in
set_option maxHeartbeats 4000000 in
theorem q_285_0 (xs : List Int) (d : Nat) (v0 : Int) (v1 : Int) (h : aH) : ev xs d mm_285 0 [some (.inr (.inr v0)), some (.inl v1), none, none, none, none] [] h =
  bif aok h.1 v0 12 && true then
    bV (cl xs d 229 [.inr (.inr v0)] h) (fun h1 =>
    bif aok h1.1 v0 12 && true then
      bV (cl xs d 282 [.inr (.inr v0)] h1) (fun h2 =>
      bif aok h2.1 v0 12 then
        bif aok h2.1 v0 12 then
          ev xs d mm_285 21 [some (.inr (.inr v0)), some (.inl v1), some (.inl 1), none, none, none] [] (h2.1, aup (aup h2.2 v0.toNat 77 0) v0.toNat 79 (-2))
        else none
      else none)
    else none)
  else none :=
  (aB gP gX xs stp_285 13 d mm_285 0 _ _ h).trans rfl

set_option maxRecDepth 100000 in
set_option maxHeartbeats 4000000 in
theorem q_285_21 (xs : List Int) (d : Nat) (v0 : Int) (v1 : Int) (v2 : Int) (u3 : Option aV) (u4 : Option aV) (u5 : Option aV) (h : aH) : ev xs d mm_285 21 [some (.inr (.inr v0)), some (.inl v1), some (.inl v2), u3, u4, u5] [] h =
  bif decide (v2 = 0) then
    some (none, h)
  else
    bif aok h.1 v0 12 && true then
      bI (cl xs d 284 [.inr (.inr v0), .inl v1] h) (fun x2 h1 =>
      bif decide (x2 = 0) then
        ev xs d mm_285 169 [some (.inr (.inr v0)), some (.inl v1), some (.inl v2), u3, u4, u5] [] h1
      else
        bif aok h1.1 v0 12 then
          bif decide (¬ (h1.2 v0.toNat 77) = 0) then
            bif aok h1.1 v0 12 then
              bif aok h1.1 v0 12 then
                ev xs d mm_285 83 [some (.inr (.inr v0)), some (.inl v1), some (.inl v2), some (.inl 0), some (.inl 0), u5] [] (h1.1, aup h1.2 v0.toNat 77 (w32 ((h1.2 v0.toNat 77) + 1)))
              else none
            else none
          else
            ev xs d mm_285 42 [some (.inr (.inr v0)), some (.inl v1), some (.inl v2), some (.inl 0), u4, u5] [] h1
        else none)
    else none :=
  (aB gP gX xs stp_285 20 d mm_285 21 _ _ h).trans rfl

set_option maxRecDepth 100000 in
set_option maxHeartbeats 4000000 in
theorem q_285_42 (xs : List Int) (d : Nat) (v0 : Int) (v1 : Int) (v2 : Int) (v3 : Int) (u4 : Option aV) (u5 : Option aV) (h : aH) : ev xs d mm_285 42 [some (.inr (.inr v0)), some (.inl v1), some (.inl v2), some (.inl v3), u4, u5] [] h =
  bif aok h.1 v0 12 then
    bif decide ((h.2 v0.toNat 74) ≤ v3) then
      bif aok h.1 v0 12 then
        bif aok h.1 v0 12 then
          ev xs d mm_285 83 [some (.inr (.inr v0)), some (.inl v1), some (.inl v2), some (.inl 0), some (.inl 0), u5] [] (h.1, aup h.2 v0.toNat 77 (w32 ((h.2 v0.toNat 77) + 1)))
        else none
      else none
    else
      bif aok h.1 v0 12 then
        bif aok h.1 v0 12 then
          bif ain h.1 (h.2 v0.toNat 75) 100 v3 then
            bif ain h.1 (h.2 v0.toNat 78) 100 v3 then
              ev xs d mm_285 42 [some (.inr (.inr v0)), some (.inl v1), some (.inl v2), some (.inl (w32 (v3 + 1))), u4, u5] [] (h.1, aup h.2 (h.2 v0.toNat 78).toNat v3.toNat (h.2 (h.2 v0.toNat 75).toNat v3.toNat))
            else none
          else none
        else none
      else none
  else none :=
  (aB gP gX xs stp_285 15 d mm_285 42 _ _ h).trans rfl

set_option maxRecDepth 100000 in
set_option maxHeartbeats 4000000 in
theorem q_285_83 (xs : List Int) (d : Nat) (v0 : Int) (v1 : Int) (v2 : Int) (v3 : Int) (v4 : Int) (u5 : Option aV) (h : aH) : ev xs d mm_285 83 [some (.inr (.inr v0)), some (.inl v1), some (.inl v2), some (.inl v3), some (.inl v4), u5] [] h =
  bif aok h.1 v0 12 then
    bif decide ((h.2 v0.toNat 74) ≤ v4) then
      bif aok h.1 v0 12 then
        bif decide ((h.2 v0.toNat 79) < 0) then
          bif aok h.1 v0 12 then
            ev xs d mm_285 169 [some (.inr (.inr v0)), some (.inl v1), some (.inl v2), some (.inl v3), some (.inl v4), u5] [] (h.1, aup h.2 v0.toNat 79 v3)
          else none
        else
          bif aok h.1 v0 12 then
            bif decide ((h.2 v0.toNat 79) ≤ v3) then
              ev xs d mm_285 169 [some (.inr (.inr v0)), some (.inl v1), some (.inl v2), some (.inl v3), some (.inl v4), u5] [] h
            else
              bif aok h.1 v0 12 then
                ev xs d mm_285 169 [some (.inr (.inr v0)), some (.inl v1), some (.inl v2), some (.inl v3), some (.inl v4), u5] [] (h.1, aup h.2 v0.toNat 79 v3)
              else none
          else none
      else none
    else
      ev xs d mm_285 98 [some (.inr (.inr v0)), some (.inl v1), some (.inl v2), some (.inl v3), some (.inl v4), some (.inl (w32 (v4 + 1)))] [] h
  else none :=
  (aB gP gX xs stp_285 15 d mm_285 83 _ _ h).trans rfl

set_option maxRecDepth 100000 in
set_option maxHeartbeats 4000000 in
theorem q_285_98 (xs : List Int) (d : Nat) (v0 : Int) (v1 : Int) (v2 : Int) (v3 : Int) (v4 : Int) (v5 : Int) (h : aH) : ev xs d mm_285 98 [some (.inr (.inr v0)), some (.inl v1), some (.inl v2), some (.inl v3), some (.inl v4), some (.inl v5)] [] h =
  bif aok h.1 v0 12 then
    bif decide ((h.2 v0.toNat 74) ≤ v5) then
      ev xs d mm_285 83 [some (.inr (.inr v0)), some (.inl v1), some (.inl v2), some (.inl v3), some (.inl (w32 (v4 + 1))), some (.inl v5)] [] h
    else
      bif aok h.1 v0 12 then
        bif aok h.1 v0 12 then
          bif ain h.1 (h.2 v0.toNat 75) 100 v4 then
            bif ain h.1 (h.2 v0.toNat 76) 100 (h.2 (h.2 v0.toNat 75).toNat v4.toNat) then
              bif aok h.1 v0 12 then
                bif aok h.1 v0 12 then
                  bif ain h.1 (h.2 v0.toNat 75) 100 v5 then
                    bif ain h.1 (h.2 v0.toNat 76) 100 (h.2 (h.2 v0.toNat 75).toNat v5.toNat) then
                      bif decide ((h.2 (h.2 v0.toNat 76).toNat (h.2 (h.2 v0.toNat 75).toNat v4.toNat).toNat) ≤ (h.2 (h.2 v0.toNat 76).toNat (h.2 (h.2 v0.toNat 75).toNat v5.toNat).toNat)) then
                        ev xs d mm_285 98 [some (.inr (.inr v0)), some (.inl v1), some (.inl v2), some (.inl v3), some (.inl v4), some (.inl (w32 (v5 + 1)))] [] h
                      else
                        ev xs d mm_285 98 [some (.inr (.inr v0)), some (.inl v1), some (.inl v2), some (.inl (w32 (v3 + 1))), some (.inl v4), some (.inl (w32 (v5 + 1)))] [] h
                    else none
                  else none
                else none
              else none
            else none
          else none
        else none
      else none
  else none :=
  (aB gP gX xs stp_285 23 d mm_285 98 _ _ h).trans rfl

set_option maxRecDepth 100000 in
set_option maxHeartbeats 4000000 in
theorem q_285_169 (xs : List Int) (d : Nat) (v0 : Int) (v1 : Int) (v2 : Int) (u3 : Option aV) (u4 : Option aV) (u5 : Option aV) (h : aH) : ev xs d mm_285 169 [some (.inr (.inr v0)), some (.inl v1), some (.inl v2), u3, u4, u5] [] h =
  bif aok h.1 v0 12 && true then
    bI (cl xs d 283 [.inr (.inr v0)] h) (fun x2 h1 =>
    ev xs d mm_285 21 [some (.inr (.inr v0)), some (.inl v1), some (.inl x2), u3, u4, u5] [] h1)
  else none :=
  (aB gP gX xs stp_285 5 d mm_285 169 _ _ h).trans rfl

theorem c_285 (xs : List Int) (d : Nat) (v0 : Int) (v1 : Int) (h : aH) : cl xs (d + 1) 285 [.inr (.inr v0), .inl v1] h =
  bif aok h.1 v0 12 && true then
    bV (cl xs d 229 [.inr (.inr v0)] h) (fun h1 =>
    bif aok h1.1 v0 12 && true then
      bV (cl xs d 282 [.inr (.inr v0)] h1) (fun h2 =>
      bif aok h2.1 v0 12 then
        bif aok h2.1 v0 12 then
          ev xs d mm_285 21 [some (.inr (.inr v0)), some (.inl v1), some (.inl 1), none, none, none] [] (h2.1, aup (aup h2.2 v0.toNat 77 0) v0.toNat 79 (-2))
        else none
      else none)
    else none)
  else none :=
  (show _ = ev xs d mm_285 0 [some (.inr (.inr v0)), some (.inl v1), none, none, none, none] [] h from rfl).trans (q_285_0 xs d v0 v1 h)
def stp_286 : List Nat := [0]
set_option maxRecDepth 100000 in
set_option maxHeartbeats 4000000 in
theorem q_286_0 (xs : List Int) (d : Nat) (v0 : Int) (v1 : Int) (h : aH) : ev xs d mm_286 0 [some (.inr (.inr v0)), some (.inl v1)] [] h =
  bif aok h.1 v0 12 && true then
    bI (cl xs d 280 [.inr (.inr v0), .inl v1] h) (fun x2 h1 =>
    bif decide (¬ x2 = 0) then
      bif aok h1.1 v0 12 && true then
        bV (cl xs d 285 [.inr (.inr v0), .inl v1] h1) (fun h3 =>
        bif aok h3.1 v0 12 then
          some (some (.inl (h3.2 v0.toNat 77)), h3)
        else none)
      else none
    else
      some (some (.inl (-1)), h1))
  else none :=
  (aB gP gX xs stp_286 11 d mm_286 0 _ _ h).trans rfl

theorem c_286 (xs : List Int) (d : Nat) (v0 : Int) (v1 : Int) (h : aH) : cl xs (d + 1) 286 [.inr (.inr v0), .inl v1] h =
  bif aok h.1 v0 12 && true then
    bI (cl xs d 280 [.inr (.inr v0), .inl v1] h) (fun x2 h1 =>
    bif decide (¬ x2 = 0) then
      bif aok h1.1 v0 12 && true then
        bV (cl xs d 285 [.inr (.inr v0), .inl v1] h1) (fun h3 =>
        bif aok h3.1 v0 12 then
          some (some (.inl (h3.2 v0.toNat 77)), h3)
        else none)
      else none
    else
      some (some (.inl (-1)), h1))
  else none :=
  (show _ = ev xs d mm_286 0 [some (.inr (.inr v0)), some (.inl v1)] [] h from rfl).trans (q_286_0 xs d v0 v1 h)
def stp_287 : List Nat := [0]
set_option maxRecDepth 100000 in
set_option maxHeartbeats 4000000 in
theorem q_287_0 (xs : List Int) (d : Nat) (v0 : Int) (v1 : Int) (v2 : Int) (h : aH) : ev xs d mm_287 0 [some (.inr (.inr v0)), some (.inl v1), some (.inl v2)] [] h =
  bif aok h.1 v0 12 && true then
    bI (cl xs d 280 [.inr (.inr v0), .inl v1] h) (fun x2 h1 =>
    bif decide (x2 = 0) then
      some (some (.inl (-1)), h1)
    else
      bif decide (0 ≤ v2) then
        bif aok h1.1 v0 12 && true then
          bV (cl xs d 285 [.inr (.inr v0), .inl v1] h1) (fun h3 =>
          bif aok h3.1 v0 12 then
            bif decide (¬ (h3.2 v0.toNat 77) = 0) then
              bif aok h3.1 v0 12 then
                bif decide ((h3.2 v0.toNat 74) ≤ v2) then
                  some (some (.inl (-1)), h3)
                else
                  bif aok h3.1 v0 12 then
                    bif ain h3.1 (h3.2 v0.toNat 78) 100 v2 then
                      some (some (.inl (h3.2 (h3.2 v0.toNat 78).toNat v2.toNat)), h3)
                    else none
                  else none
              else none
            else
              some (some (.inl (-2)), h3)
          else none)
        else none
      else
        some (some (.inl (-1)), h1))
  else none :=
  (aB gP gX xs stp_287 23 d mm_287 0 _ _ h).trans rfl

theorem c_287 (xs : List Int) (d : Nat) (v0 : Int) (v1 : Int) (v2 : Int) (h : aH) : cl xs (d + 1) 287 [.inr (.inr v0), .inl v1, .inl v2] h =
  bif aok h.1 v0 12 && true then
    bI (cl xs d 280 [.inr (.inr v0), .inl v1] h) (fun x2 h1 =>
    bif decide (x2 = 0) then
      some (some (.inl (-1)), h1)
    else
      bif decide (0 ≤ v2) then
        bif aok h1.1 v0 12 && true then
          bV (cl xs d 285 [.inr (.inr v0), .inl v1] h1) (fun h3 =>
          bif aok h3.1 v0 12 then
            bif decide (¬ (h3.2 v0.toNat 77) = 0) then
              bif aok h3.1 v0 12 then
                bif decide ((h3.2 v0.toNat 74) ≤ v2) then
                  some (some (.inl (-1)), h3)
                else
                  bif aok h3.1 v0 12 then
                    bif ain h3.1 (h3.2 v0.toNat 78) 100 v2 then
                      some (some (.inl (h3.2 (h3.2 v0.toNat 78).toNat v2.toNat)), h3)
                    else none
                  else none
              else none
            else
              some (some (.inl (-2)), h3)
          else none)
        else none
      else
        some (some (.inl (-1)), h1))
  else none :=
  (show _ = ev xs d mm_287 0 [some (.inr (.inr v0)), some (.inl v1), some (.inl v2)] [] h from rfl).trans (q_287_0 xs d v0 v1 v2 h)
def stp_288 : List Nat := [0]
set_option maxRecDepth 100000 in
set_option maxHeartbeats 4000000 in
theorem q_288_0 (xs : List Int) (d : Nat) (v0 : Int) (v1 : Int) (h : aH) : ev xs d mm_288 0 [some (.inr (.inr v0)), some (.inl v1)] [] h =
  bif aok h.1 v0 12 && true then
    bI (cl xs d 280 [.inr (.inr v0), .inl v1] h) (fun x2 h1 =>
    bif decide (¬ x2 = 0) then
      bif aok h1.1 v0 12 && true then
        bV (cl xs d 285 [.inr (.inr v0), .inl v1] h1) (fun h3 =>
        bif aok h3.1 v0 12 then
          some (some (.inl (h3.2 v0.toNat 79)), h3)
        else none)
      else none
    else
      some (some (.inl (-1)), h1))
  else none :=
  (aB gP gX xs stp_288 11 d mm_288 0 _ _ h).trans rfl

theorem c_288 (xs : List Int) (d : Nat) (v0 : Int) (v1 : Int) (h : aH) : cl xs (d + 1) 288 [.inr (.inr v0), .inl v1] h =
  bif aok h.1 v0 12 && true then
    bI (cl xs d 280 [.inr (.inr v0), .inl v1] h) (fun x2 h1 =>
    bif decide (¬ x2 = 0) then
      bif aok h1.1 v0 12 && true then
        bV (cl xs d 285 [.inr (.inr v0), .inl v1] h1) (fun h3 =>
        bif aok h3.1 v0 12 then
          some (some (.inl (h3.2 v0.toNat 79)), h3)
        else none)
      else none
    else
      some (some (.inl (-1)), h1))
  else none :=
  (show _ = ev xs d mm_288 0 [some (.inr (.inr v0)), some (.inl v1)] [] h from rfl).trans (q_288_0 xs d v0 v1 h)
def stp_289 : List Nat := [0, 33]
set_option maxRecDepth 100000 in
set_option maxHeartbeats 4000000 in
theorem q_289_0 (xs : List Int) (d : Nat) (v0 : Int) (v1 : Int) (v2 : Int) (v3 : Int) (h : aH) : ev xs d mm_289 0 [some (.inr (.inr v0)), some (.inl v1), some (.inl v2), some (.inl v3), none, none, none] [] h =
  bif aok h.1 v0 12 && true then
    bI (cl xs d 280 [.inr (.inr v0), .inl v1] h) (fun x2 h1 =>
    bif decide (x2 = 0) then
      some (some (.inl (-1)), h1)
    else
      bI (cl xs d 226 [.inl v3, .inl 0, .inl 1] h1) (fun x4 h3 =>
        bif decide (¬ x4 = 0) then
          bif aok h3.1 v0 12 && true then
            bV (cl xs d 229 [.inr (.inr v0)] h3) (fun h5 =>
            ev xs d mm_289 33 [some (.inr (.inr v0)), some (.inl v1), some (.inl v2), some (.inl v3), some (.inl 0), some (.inl (-2)), some (.inl 0)] [] h5)
          else none
        else
          some (some (.inl (-1)), h3)))
  else none :=
  (aB gP gX xs stp_289 18 d mm_289 0 _ _ h).trans rfl

set_option maxRecDepth 100000 in
set_option maxHeartbeats 4000000 in
theorem q_289_33 (xs : List Int) (d : Nat) (v0 : Int) (v1 : Int) (v2 : Int) (v3 : Int) (v4 : Int) (v5 : Int) (v6 : Int) (h : aH) : ev xs d mm_289 33 [some (.inr (.inr v0)), some (.inl v1), some (.inl v2), some (.inl v3), some (.inl v4), some (.inl v5), some (.inl v6)] [] h =
  bif aok h.1 v0 12 then
    bif aok h.1 v0 12 then
      bif ain h.1 (h.2 v0.toNat 23) 100 (h.2 v0.toNat 18) then
        bif decide ((oshl 1 (h.2 (h.2 v0.toNat 23).toNat (h.2 v0.toNat 18).toNat)) ≤ v6) then
          bif decide (¬ v3 = 0) then
            some (some (.inl v5), h)
          else
            some (some (.inl v4), h)
        else
          bif aok h.1 v0 12 && true then
            bI (cl xs d 279 [.inr (.inr v0), .inl v1, .inl v2, .inl v6] h) (fun x2 h1 =>
            bif decide (¬ x2 = 0) then
              bif decide (¬ v4 = 0) then
                ev xs d mm_289 33 [some (.inr (.inr v0)), some (.inl v1), some (.inl v2), some (.inl v3), some (.inl (w32 (v4 + 1))), some (.inl v5), some (.inl (w32 (v6 + 1)))] [] h1
              else
                ev xs d mm_289 33 [some (.inr (.inr v0)), some (.inl v1), some (.inl v2), some (.inl v3), some (.inl (w32 (v4 + 1))), some (.inl v6), some (.inl (w32 (v6 + 1)))] [] h1
            else
              ev xs d mm_289 33 [some (.inr (.inr v0)), some (.inl v1), some (.inl v2), some (.inl v3), some (.inl v4), some (.inl v5), some (.inl (w32 (v6 + 1)))] [] h1)
          else none
      else none
    else none
  else none :=
  (aB gP gX xs stp_289 23 d mm_289 33 _ _ h).trans rfl

theorem c_289 (xs : List Int) (d : Nat) (v0 : Int) (v1 : Int) (v2 : Int) (v3 : Int) (h : aH) : cl xs (d + 1) 289 [.inr (.inr v0), .inl v1, .inl v2, .inl v3] h =
  bif aok h.1 v0 12 && true then
    bI (cl xs d 280 [.inr (.inr v0), .inl v1] h) (fun x2 h1 =>
    bif decide (x2 = 0) then
      some (some (.inl (-1)), h1)
    else
      bI (cl xs d 226 [.inl v3, .inl 0, .inl 1] h1) (fun x4 h3 =>
        bif decide (¬ x4 = 0) then
          bif aok h3.1 v0 12 && true then
            bV (cl xs d 229 [.inr (.inr v0)] h3) (fun h5 =>
            ev xs d mm_289 33 [some (.inr (.inr v0)), some (.inl v1), some (.inl v2), some (.inl v3), some (.inl 0), some (.inl (-2)), some (.inl 0)] [] h5)
          else none
        else
          some (some (.inl (-1)), h3)))
  else none :=
  (show _ = ev xs d mm_289 0 [some (.inr (.inr v0)), some (.inl v1), some (.inl v2), some (.inl v3), none, none, none] [] h from rfl).trans (q_289_0 xs d v0 v1 v2 v3 h)
def stp_290 : List Nat := [0, 4]
set_option maxRecDepth 100000 in
set_option maxHeartbeats 4000000 in
theorem q_290_0 (xs : List Int) (d : Nat) (v0 : Int) (v1 : Int) (h : aH) : ev xs d mm_290 0 [some (.inr (.inr v0)), some (.inl v1), none, none] [] h =
  ev xs d mm_290 4 [some (.inr (.inr v0)), some (.inl v1), some (.inl 0), some (.inl 0)] [] h :=
  (aB gP gX xs stp_290 5 d mm_290 0 _ _ h).trans rfl

set_option maxRecDepth 100000 in
set_option maxHeartbeats 4000000 in
theorem q_290_4 (xs : List Int) (d : Nat) (v0 : Int) (v1 : Int) (v2 : Int) (v3 : Int) (h : aH) : ev xs d mm_290 4 [some (.inr (.inr v0)), some (.inl v1), some (.inl v2), some (.inl v3)] [] h =
  bif aok h.1 v0 12 then
    bif aok h.1 v0 12 then
      bif ain h.1 (h.2 v0.toNat 35) 100 (h.2 v0.toNat 18) then
        bif decide ((h.2 (h.2 v0.toNat 35).toNat (h.2 v0.toNat 18).toNat) ≤ v3) then
          some (some (.inl v2), h)
        else
          bif aok h.1 v0 12 && true then
            bI (cl xs d 278 [.inr (.inr v0), .inl v3, .inl 0, .inl v1] h) (fun x2 h1 =>
            bif decide (¬ x2 = 0) then
              ev xs d mm_290 4 [some (.inr (.inr v0)), some (.inl v1), some (.inl v2), some (.inl (w32 (v3 + 1)))] [] h1
            else
              ev xs d mm_290 4 [some (.inr (.inr v0)), some (.inl v1), some (.inl (oor v2 (oshl 1 v3))), some (.inl (w32 (v3 + 1)))] [] h1)
          else none
      else none
    else none
  else none :=
  (aB gP gX xs stp_290 22 d mm_290 4 _ _ h).trans rfl

theorem c_290 (xs : List Int) (d : Nat) (v0 : Int) (v1 : Int) (h : aH) : cl xs (d + 1) 290 [.inr (.inr v0), .inl v1] h =
  ev xs d mm_290 4 [some (.inr (.inr v0)), some (.inl v1), some (.inl 0), some (.inl 0)] [] h :=
  (show _ = ev xs d mm_290 0 [some (.inr (.inr v0)), some (.inl v1), none, none] [] h from rfl).trans (q_290_0 xs d v0 v1 h)
def stp_291 : List Nat := [0, 16]
set_option maxRecDepth 100000 in
set_option maxHeartbeats 4000000 in
theorem q_291_0 (xs : List Int) (d : Nat) (v0 : Int) (v1 : Int) (h : aH) : ev xs d mm_291 0 [some (.inr (.inr v0)), some (.inl v1), none, none, none] [] h =
  bI (cl xs d 235 [.inl v1] h) (fun x2 h1 =>
    bif aok h1.1 v0 12 && true then
      bI (cl xs d 290 [.inr (.inr v0), .inl v1] h1) (fun x4 h3 =>
      ev xs d mm_291 16 [some (.inr (.inr v0)), some (.inl v1), some (.inl (w32 (3 * x2))), some (.inl x4), some (.inl 0)] [] h3)
    else none) :=
  (aB gP gX xs stp_291 12 d mm_291 0 _ _ h).trans rfl

set_option maxRecDepth 100000 in
set_option maxHeartbeats 4000000 in
theorem q_291_16 (xs : List Int) (d : Nat) (v0 : Int) (v1 : Int) (v2 : Int) (v3 : Int) (v4 : Int) (h : aH) : ev xs d mm_291 16 [some (.inr (.inr v0)), some (.inl v1), some (.inl v2), some (.inl v3), some (.inl v4)] [] h =
  bif aok h.1 v0 12 then
    bif aok h.1 v0 12 then
      bif ain h.1 (h.2 v0.toNat 35) 100 (h.2 v0.toNat 18) then
        bif decide ((h.2 (h.2 v0.toNat 35).toNat (h.2 v0.toNat 18).toNat) ≤ v4) then
          some (some (.inl v2), h)
        else
          bif decide (¬ (oand (oshr v3 v4) 1) = 1) then
            ev xs d mm_291 16 [some (.inr (.inr v0)), some (.inl v1), some (.inl v2), some (.inl v3), some (.inl (w32 (v4 + 1)))] [] h
          else
            bif aok h.1 v0 12 then
              bif aok h.1 v0 12 then
                bif ain h.1 (h.2 v0.toNat 37) 101 (w32 ((w32 (8 * (h.2 v0.toNat 18))) + v4)) then
                  bI (cl xs d 236 [.inr (.inl (h.2 (h.2 v0.toNat 37).toNat (w32 ((w32 (8 * (h.2 v0.toNat 18))) + v4)).toNat))] h) (fun x2 h1 =>
                    ev xs d mm_291 16 [some (.inr (.inr v0)), some (.inl v1), some (.inl (w32 (v2 + (w32 (1 + x2))))), some (.inl v3), some (.inl (w32 (v4 + 1)))] [] h1)
                else none
              else none
            else none
      else none
    else none
  else none :=
  (aB gP gX xs stp_291 32 d mm_291 16 _ _ h).trans rfl

theorem c_291 (xs : List Int) (d : Nat) (v0 : Int) (v1 : Int) (h : aH) : cl xs (d + 1) 291 [.inr (.inr v0), .inl v1] h =
  bI (cl xs d 235 [.inl v1] h) (fun x2 h1 =>
    bif aok h1.1 v0 12 && true then
      bI (cl xs d 290 [.inr (.inr v0), .inl v1] h1) (fun x4 h3 =>
      ev xs d mm_291 16 [some (.inr (.inr v0)), some (.inl v1), some (.inl (w32 (3 * x2))), some (.inl x4), some (.inl 0)] [] h3)
    else none) :=
  (show _ = ev xs d mm_291 0 [some (.inr (.inr v0)), some (.inl v1), none, none, none] [] h from rfl).trans (q_291_0 xs d v0 v1 h)
def stp_292 : List Nat := [0, 19]
set_option maxRecDepth 100000 in
set_option maxHeartbeats 4000000 in
theorem q_292_0 (xs : List Int) (d : Nat) (v0 : Int) (v1 : Int) (h : aH) : ev xs d mm_292 0 [some (.inr (.inr v0)), some (.inl v1), none, none, none] [] h =
  bI (cl xs d 226 [.inl v1, .inl 0, .inl 2] h) (fun x2 h1 =>
    bif decide (¬ x2 = 0) then
      bif aok h1.1 v0 12 && true then
        bV (cl xs d 229 [.inr (.inr v0)] h1) (fun h3 =>
        ev xs d mm_292 19 [some (.inr (.inr v0)), some (.inl v1), some (.inl 0), some (.inl 1), none] [] h3)
      else none
    else
      some (some (.inl (-1)), h1)) :=
  (aB gP gX xs stp_292 12 d mm_292 0 _ _ h).trans rfl

set_option maxRecDepth 100000 in
set_option maxHeartbeats 4000000 in
theorem q_292_19 (xs : List Int) (d : Nat) (v0 : Int) (v1 : Int) (v2 : Int) (v3 : Int) (u4 : Option aV) (h : aH) : ev xs d mm_292 19 [some (.inr (.inr v0)), some (.inl v1), some (.inl v2), some (.inl v3), u4] [] h =
  bif aok h.1 v0 12 then
    bif aok h.1 v0 12 then
      bif ain h.1 (h.2 v0.toNat 23) 100 (h.2 v0.toNat 18) then
        bif decide ((oshl 1 (h.2 (h.2 v0.toNat 23).toNat (h.2 v0.toNat 18).toNat)) ≤ v3) then
          bif decide (¬ v1 = 0) then
            bif decide (¬ v1 = 1) then
              bif aok h.1 v0 12 && true then
                bI (cl xs d 290 [.inr (.inr v0), .inl v2] h) (fun x2 h1 =>
                some (some (.inl x2), h1))
              else none
            else
              some (some (.inl v2), h)
          else
            bif aok h.1 v0 12 && true then
              bI (cl xs d 291 [.inr (.inr v0), .inl v2] h) (fun x4 h3 =>
              some (some (.inl x4), h3))
            else none
        else
          bif aok h.1 v0 12 && true then
            bI (cl xs d 291 [.inr (.inr v0), .inl v3] h) (fun x6 h5 =>
            bif aok h5.1 v0 12 && true then
              bI (cl xs d 291 [.inr (.inr v0), .inl v2] h5) (fun x8 h7 =>
              bif decide ((w32 (x6 - x8)) < 0) then
                ev xs d mm_292 19 [some (.inr (.inr v0)), some (.inl v1), some (.inl v3), some (.inl (w32 (v3 + 1))), some (.inl (w32 (x6 - x8)))] [] h7
              else
                bif decide (¬ (w32 (x6 - x8)) = 0) then
                  ev xs d mm_292 19 [some (.inr (.inr v0)), some (.inl v1), some (.inl v2), some (.inl (w32 (v3 + 1))), some (.inl (w32 (x6 - x8)))] [] h7
                else
                  bI (cl xs d 235 [.inl v3] h7) (fun x10 h9 =>
                    bI (cl xs d 235 [.inl v2] h9) (fun x12 h11 =>
                      bif decide (x12 ≤ x10) then
                        ev xs d mm_292 19 [some (.inr (.inr v0)), some (.inl v1), some (.inl v2), some (.inl (w32 (v3 + 1))), some (.inl (w32 (x6 - x8)))] [] h11
                      else
                        ev xs d mm_292 19 [some (.inr (.inr v0)), some (.inl v1), some (.inl v3), some (.inl (w32 (v3 + 1))), some (.inl (w32 (x6 - x8)))] [] h11)))
            else none)
          else none
      else none
    else none
  else none :=
  (aB gP gX xs stp_292 31 d mm_292 19 _ _ h).trans rfl

theorem c_292 (xs : List Int) (d : Nat) (v0 : Int) (v1 : Int) (h : aH) : cl xs (d + 1) 292 [.inr (.inr v0), .inl v1] h =
  bI (cl xs d 226 [.inl v1, .inl 0, .inl 2] h) (fun x2 h1 =>
    bif decide (¬ x2 = 0) then
      bif aok h1.1 v0 12 && true then
        bV (cl xs d 229 [.inr (.inr v0)] h1) (fun h3 =>
        ev xs d mm_292 19 [some (.inr (.inr v0)), some (.inl v1), some (.inl 0), some (.inl 1), none] [] h3)
      else none
    else
      some (some (.inl (-1)), h1)) :=
  (show _ = ev xs d mm_292 0 [some (.inr (.inr v0)), some (.inl v1), none, none, none] [] h from rfl).trans (q_292_0 xs d v0 v1 h)
def stp_293 : List Nat := [0, 5, 65]
set_option maxRecDepth 100000 in
set_option maxHeartbeats 4000000 in
theorem q_293_0 (xs : List Int) (d : Nat) (v0 : Int) (v1 : Int) (v2 : Int) (h : aH) : ev xs d mm_293 0 [some (.inr (.inr v0)), some (.inl v1), some (.inl v2), none, none, none, none, none, none] [] h =
  ev xs d mm_293 5 [some (.inr (.inr v0)), some (.inl v1), some (.inl v2), some (.inl 0), some (.inl 0), none, none, none, none] [] h :=
  (aB gP gX xs stp_293 5 d mm_293 0 _ _ h).trans rfl

set_option maxRecDepth 100000 in
set_option maxHeartbeats 4000000 in
theorem q_293_5 (xs : List Int) (d : Nat) (v0 : Int) (v1 : Int) (v2 : Int) (v3 : Int) (v4 : Int) (u5 : Option aV) (u6 : Option aV) (u7 : Option aV) (u8 : Option aV) (h : aH) : ev xs d mm_293 5 [some (.inr (.inr v0)), some (.inl v1), some (.inl v2), some (.inl v3), some (.inl v4), u5, u6, u7, u8] [] h =
  bif aok h.1 v0 12 then
    bif aok h.1 v0 12 then
      bif ain h.1 (h.2 v0.toNat 23) 100 (h.2 v0.toNat 18) then
        bif decide ((oshl 1 (h.2 (h.2 v0.toNat 23).toNat (h.2 v0.toNat 18).toNat)) ≤ v4) then
          some (some (.inl v3), h)
        else
          bif aok h.1 v0 12 && true then
            bI (cl xs d 279 [.inr (.inr v0), .inl v2, .inl 0, .inl v4] h) (fun x2 h1 =>
            bif decide (¬ x2 = 0) then
              bif aok h1.1 v0 12 then
                bif aok h1.1 v0 12 then
                  bif ain h1.1 (h1.2 v0.toNat 36) 101 (w32 ((w32 (8 * (h1.2 v0.toNat 18))) + v1)) then
                    bif aok h1.1 v0 12 && true then
                      bJ (cl xs d 240 [.inr (.inr v0), .inr (.inl (h1.2 (h1.2 v0.toNat 36).toNat (w32 ((w32 (8 * (h1.2 v0.toNat 18))) + v1)).toNat)), .inl v4, .inl 7] h1) (fun x4 h3 =>
                      ev xs d mm_293 65 [some (.inr (.inr v0)), some (.inl v1), some (.inl v2), some (.inl v3), some (.inl v4), some (.inr (.inl x4)), none, some (.inl 0), some (.inl 0)] [] h3)
                    else none
                  else none
                else none
              else none
            else
              ev xs d mm_293 5 [some (.inr (.inr v0)), some (.inl v1), some (.inl v2), some (.inl v3), some (.inl (w32 (v4 + 1))), u5, u6, u7, u8] [] h1)
          else none
      else none
    else none
  else none :=
  (aB gP gX xs stp_293 34 d mm_293 5 _ _ h).trans rfl

set_option maxRecDepth 100000 in
set_option maxHeartbeats 4000000 in
theorem q_293_65 (xs : List Int) (d : Nat) (v0 : Int) (v1 : Int) (v2 : Int) (v3 : Int) (v4 : Int) (v5 : Int) (u6 : Option aV) (v7 : Int) (v8 : Int) (h : aH) : ev xs d mm_293 65 [some (.inr (.inr v0)), some (.inl v1), some (.inl v2), some (.inl v3), some (.inl v4), some (.inr (.inl v5)), u6, some (.inl v7), some (.inl v8)] [] h =
  bif decide (v3 ≤ v8) then
    bif decide (v7 = 0) then
      bif aok h.1 v0 12 then
        bif ain h.1 (h.2 v0.toNat 80) 101 v3 then
          ev xs d mm_293 5 [some (.inr (.inr v0)), some (.inl v1), some (.inl v2), some (.inl (w32 (v3 + 1))), some (.inl (w32 (v4 + 1))), some (.inr (.inl v5)), u6, some (.inl v7), some (.inl v8)] [] (h.1, aup h.2 (h.2 v0.toNat 80).toNat v3.toNat v5)
        else none
      else none
    else
      ev xs d mm_293 5 [some (.inr (.inr v0)), some (.inl v1), some (.inl v2), some (.inl v3), some (.inl (w32 (v4 + 1))), some (.inr (.inl v5)), u6, some (.inl v7), some (.inl v8)] [] h
  else
    bif aok h.1 v0 12 then
      bif ain h.1 (h.2 v0.toNat 80) 101 v8 then
        bif decide (¬ (olcmp (h.2 (h.2 v0.toNat 80).toNat v8.toNat) v5) = 0) then
          ev xs d mm_293 65 [some (.inr (.inr v0)), some (.inl v1), some (.inl v2), some (.inl v3), some (.inl v4), some (.inr (.inl v5)), u6, some (.inl v7), some (.inl (w32 (v8 + 1)))] [] h
        else
          ev xs d mm_293 65 [some (.inr (.inr v0)), some (.inl v1), some (.inl v2), some (.inl v3), some (.inl v4), some (.inr (.inl v5)), acl u6, some (.inl 1), some (.inl (w32 (v8 + 1)))] [] h
      else none
    else none :=
  (aB gP gX xs stp_293 15 d mm_293 65 _ _ h).trans rfl

theorem c_293 (xs : List Int) (d : Nat) (v0 : Int) (v1 : Int) (v2 : Int) (h : aH) : cl xs (d + 1) 293 [.inr (.inr v0), .inl v1, .inl v2] h =
  ev xs d mm_293 5 [some (.inr (.inr v0)), some (.inl v1), some (.inl v2), some (.inl 0), some (.inl 0), none, none, none, none] [] h :=
  (show _ = ev xs d mm_293 0 [some (.inr (.inr v0)), some (.inl v1), some (.inl v2), none, none, none, none, none, none] [] h from rfl).trans (q_293_0 xs d v0 v1 v2 h)
def stp_294 : List Nat := [0, 32]
set_option maxRecDepth 100000 in
set_option maxHeartbeats 4000000 in
theorem q_294_0 (xs : List Int) (d : Nat) (v0 : Int) (v1 : Int) (v2 : Int) (h : aH) : ev xs d mm_294 0 [some (.inr (.inr v0)), some (.inl v1), some (.inl v2), none, none, none, none] [] h =
  bif aok h.1 v0 12 && true then
    bI (cl xs d 280 [.inr (.inr v0), .inl v1] h) (fun x2 h1 =>
    bif decide (x2 = 0) then
      some (some (.inl (-1)), h1)
    else
      bI (cl xs d 226 [.inl v2, .inl 0, .inl 1] h1) (fun x4 h3 =>
        bif decide (¬ x4 = 0) then
          bif aok h3.1 v0 12 && true then
            bV (cl xs d 229 [.inr (.inr v0)] h3) (fun h5 =>
            ev xs d mm_294 32 [some (.inr (.inr v0)), some (.inl v1), some (.inl v2), some (.inl (-2)), some (.inl 0), some (.inl v1), none] [] h5)
          else none
        else
          some (some (.inl (-1)), h3)))
  else none :=
  (aB gP gX xs stp_294 18 d mm_294 0 _ _ h).trans rfl

set_option maxRecDepth 100000 in
set_option maxHeartbeats 4000000 in
theorem q_294_32 (xs : List Int) (d : Nat) (v0 : Int) (v1 : Int) (v2 : Int) (v3 : Int) (v4 : Int) (v5 : Int) (u6 : Option aV) (h : aH) : ev xs d mm_294 32 [some (.inr (.inr v0)), some (.inl v1), some (.inl v2), some (.inl v3), some (.inl v4), some (.inl v5), u6] [] h =
  bif aok h.1 v0 12 then
    bif aok h.1 v0 12 then
      bif ain h.1 (h.2 v0.toNat 35) 100 (h.2 v0.toNat 18) then
        bif decide ((h.2 (h.2 v0.toNat 35).toNat (h.2 v0.toNat 18).toNat) ≤ v5) then
          bif decide (v3 < 0) then
            some (some (.inl v3), h)
          else
            bif decide (¬ v2 = 0) then
              some (some (.inl v4), h)
            else
              some (some (.inl v3), h)
        else
          bif aok h.1 v0 12 && true then
            bI (cl xs d 293 [.inr (.inr v0), .inl v5, .inl v1] h) (fun x2 h1 =>
            bif decide (v4 < x2) then
              ev xs d mm_294 32 [some (.inr (.inr v0)), some (.inl v1), some (.inl v2), some (.inl v5), some (.inl x2), some (.inl (w32 (v5 + 1))), some (.inl x2)] [] h1
            else
              ev xs d mm_294 32 [some (.inr (.inr v0)), some (.inl v1), some (.inl v2), some (.inl v3), some (.inl v4), some (.inl (w32 (v5 + 1))), some (.inl x2)] [] h1)
          else none
      else none
    else none
  else none :=
  (aB gP gX xs stp_294 22 d mm_294 32 _ _ h).trans rfl

theorem c_294 (xs : List Int) (d : Nat) (v0 : Int) (v1 : Int) (v2 : Int) (h : aH) : cl xs (d + 1) 294 [.inr (.inr v0), .inl v1, .inl v2] h =
  bif aok h.1 v0 12 && true then
    bI (cl xs d 280 [.inr (.inr v0), .inl v1] h) (fun x2 h1 =>
    bif decide (x2 = 0) then
      some (some (.inl (-1)), h1)
    else
      bI (cl xs d 226 [.inl v2, .inl 0, .inl 1] h1) (fun x4 h3 =>
        bif decide (¬ x4 = 0) then
          bif aok h3.1 v0 12 && true then
            bV (cl xs d 229 [.inr (.inr v0)] h3) (fun h5 =>
            ev xs d mm_294 32 [some (.inr (.inr v0)), some (.inl v1), some (.inl v2), some (.inl (-2)), some (.inl 0), some (.inl v1), none] [] h5)
          else none
        else
          some (some (.inl (-1)), h3)))
  else none :=
  (show _ = ev xs d mm_294 0 [some (.inr (.inr v0)), some (.inl v1), some (.inl v2), none, none, none, none] [] h from rfl).trans (q_294_0 xs d v0 v1 v2 h)
def stp_295 : List Nat := [0, 3]
set_option maxRecDepth 100000 in
set_option maxHeartbeats 4000000 in
theorem q_295_0 (xs : List Int) (d : Nat) (v0 : Int) (v1 : Int) (v2 : Int) (v3 : Int) (h : aH) : ev xs d mm_295 0 [some (.inr (.inr v0)), some (.inl v1), some (.inl v2), some (.inl v3), none] [] h =
  ev xs d mm_295 3 [some (.inr (.inr v0)), some (.inl v1), some (.inl v2), some (.inl v3), some (.inl 0)] [] h :=
  (aB gP gX xs stp_295 3 d mm_295 0 _ _ h).trans rfl

set_option maxRecDepth 100000 in
set_option maxHeartbeats 4000000 in
theorem q_295_3 (xs : List Int) (d : Nat) (v0 : Int) (v1 : Int) (v2 : Int) (v3 : Int) (v4 : Int) (h : aH) : ev xs d mm_295 3 [some (.inr (.inr v0)), some (.inl v1), some (.inl v2), some (.inl v3), some (.inl v4)] [] h =
  bif aok h.1 v0 12 then
    bif aok h.1 v0 12 then
      bif ain h.1 (h.2 v0.toNat 23) 100 (h.2 v0.toNat 18) then
        bif decide ((oshl 1 (h.2 (h.2 v0.toNat 23).toNat (h.2 v0.toNat 18).toNat)) ≤ v4) then
          some (some (.inl 0), h)
        else
          bif decide (¬ (oand v3 (oxor v4 (-1))) = 0) then
            ev xs d mm_295 3 [some (.inr (.inr v0)), some (.inl v1), some (.inl v2), some (.inl v3), some (.inl (w32 (v4 + 1)))] [] h
          else
            bif aok h.1 v0 12 && true then
              bI (cl xs d 279 [.inr (.inr v0), .inl v1, .inl v2, .inl v4] h) (fun x2 h1 =>
              bif decide (x2 = 0) then
                ev xs d mm_295 3 [some (.inr (.inr v0)), some (.inl v1), some (.inl v2), some (.inl v3), some (.inl (w32 (v4 + 1)))] [] h1
              else
                some (some (.inl 1), h1))
            else none
      else none
    else none
  else none :=
  (aB gP gX xs stp_295 24 d mm_295 3 _ _ h).trans rfl

theorem c_295 (xs : List Int) (d : Nat) (v0 : Int) (v1 : Int) (v2 : Int) (v3 : Int) (h : aH) : cl xs (d + 1) 295 [.inr (.inr v0), .inl v1, .inl v2, .inl v3] h =
  ev xs d mm_295 3 [some (.inr (.inr v0)), some (.inl v1), some (.inl v2), some (.inl v3), some (.inl 0)] [] h :=
  (show _ = ev xs d mm_295 0 [some (.inr (.inr v0)), some (.inl v1), some (.inl v2), some (.inl v3), none] [] h from rfl).trans (q_295_0 xs d v0 v1 v2 v3 h)
def stp_296 : List Nat := [0, 24, 33]
set_option maxRecDepth 100000 in
set_option maxHeartbeats 4000000 in
theorem q_296_0 (xs : List Int) (d : Nat) (v0 : Int) (v1 : Int) (h : aH) : ev xs d mm_296 0 [some (.inr (.inr v0)), some (.inl v1), none, none, none] [] h =
  bif aok h.1 v0 12 && true then
    bI (cl xs d 280 [.inr (.inr v0), .inl v1] h) (fun x2 h1 =>
    bif decide (¬ x2 = 0) then
      bif aok h1.1 v0 12 && true then
        bV (cl xs d 229 [.inr (.inr v0)] h1) (fun h3 =>
        bif aok h3.1 v0 12 then
          bif aok h3.1 v0 12 then
            bif ain h3.1 (h3.2 v0.toNat 23) 100 (h3.2 v0.toNat 18) then
              ev xs d mm_296 24 [some (.inr (.inr v0)), some (.inl v1), some (.inl (h3.2 (h3.2 v0.toNat 23).toNat (h3.2 v0.toNat 18).toNat)), none, none] [] h3
            else none
          else none
        else none)
      else none
    else
      some (some (.inl (-1)), h1))
  else none :=
  (aB gP gX xs stp_296 13 d mm_296 0 _ _ h).trans rfl

set_option maxRecDepth 100000 in
set_option maxHeartbeats 4000000 in
theorem q_296_24 (xs : List Int) (d : Nat) (v0 : Int) (v1 : Int) (v2 : Int) (u3 : Option aV) (u4 : Option aV) (h : aH) : ev xs d mm_296 24 [some (.inr (.inr v0)), some (.inl v1), some (.inl v2), u3, u4] [] h =
  bif decide (v2 < 0) then
    some (some (.inl (-2)), h)
  else
    ev xs d mm_296 33 [some (.inr (.inr v0)), some (.inl v1), some (.inl v2), some (.inl 0), some (.inl 0)] [] h :=
  (aB gP gX xs stp_296 7 d mm_296 24 _ _ h).trans rfl

set_option maxRecDepth 100000 in
set_option maxHeartbeats 4000000 in
theorem q_296_33 (xs : List Int) (d : Nat) (v0 : Int) (v1 : Int) (v2 : Int) (v3 : Int) (v4 : Int) (h : aH) : ev xs d mm_296 33 [some (.inr (.inr v0)), some (.inl v1), some (.inl v2), some (.inl v3), some (.inl v4)] [] h =
  bif decide (v2 ≤ v4) then
    bif aok h.1 v0 12 && true then
      bI (cl xs d 295 [.inr (.inr v0), .inl v1, .inl 0, .inl v3] h) (fun x2 h1 =>
      bif decide (x2 = 0) then
        ev xs d mm_296 24 [some (.inr (.inr v0)), some (.inl v1), some (.inl (w32 (v2 + (-1)))), some (.inl v3), some (.inl v4)] [] h1
      else
        bif aok h1.1 v0 12 && true then
          bI (cl xs d 295 [.inr (.inr v0), .inl v1, .inl 1, .inl v3] h1) (fun x4 h3 =>
          bif decide (x4 = 0) then
            ev xs d mm_296 24 [some (.inr (.inr v0)), some (.inl v1), some (.inl (w32 (v2 + (-1)))), some (.inl v3), some (.inl v4)] [] h3
          else
            some (some (.inl v2), h3))
        else none)
    else none
  else
    bif aok h.1 v0 12 then
      bif ain h.1 (h.2 v0.toNat 64) 101 (w32 (45 + v4)) then
        ev xs d mm_296 33 [some (.inr (.inr v0)), some (.inl v1), some (.inl v2), some (.inl (oor v3 (oshl 1 (ol2i (h.2 (h.2 v0.toNat 64).toNat (w32 (45 + v4)).toNat))))), some (.inl (w32 (v4 + 1)))] [] h
      else none
    else none :=
  (aB gP gX xs stp_296 18 d mm_296 33 _ _ h).trans rfl

theorem c_296 (xs : List Int) (d : Nat) (v0 : Int) (v1 : Int) (h : aH) : cl xs (d + 1) 296 [.inr (.inr v0), .inl v1] h =
  bif aok h.1 v0 12 && true then
    bI (cl xs d 280 [.inr (.inr v0), .inl v1] h) (fun x2 h1 =>
    bif decide (¬ x2 = 0) then
      bif aok h1.1 v0 12 && true then
        bV (cl xs d 229 [.inr (.inr v0)] h1) (fun h3 =>
        bif aok h3.1 v0 12 then
          bif aok h3.1 v0 12 then
            bif ain h3.1 (h3.2 v0.toNat 23) 100 (h3.2 v0.toNat 18) then
              ev xs d mm_296 24 [some (.inr (.inr v0)), some (.inl v1), some (.inl (h3.2 (h3.2 v0.toNat 23).toNat (h3.2 v0.toNat 18).toNat)), none, none] [] h3
            else none
          else none
        else none)
      else none
    else
      some (some (.inl (-1)), h1))
  else none :=
  (show _ = ev xs d mm_296 0 [some (.inr (.inr v0)), some (.inl v1), none, none, none] [] h from rfl).trans (q_296_0 xs d v0 v1 h)
def stp_297 : List Nat := [0]
set_option maxRecDepth 100000 in
set_option maxHeartbeats 4000000 in
theorem q_297_0 (xs : List Int) (d : Nat) (v0 : Int) (v1 : Int) (v2 : Int) (h : aH) : ev xs d mm_297 0 [some (.inr (.inr v0)), some (.inl v1), some (.inl v2)] [] h =
  bif aok h.1 v0 12 && true then
    bI (cl xs d 230 [.inr (.inr v0), .inl v1] h) (fun x2 h1 =>
    bif decide (x2 = 0) then
      some (some (.inl 0), h1)
    else
      bif aok h1.1 v0 12 && true then
        bI (cl xs d 230 [.inr (.inr v0), .inl v2] h1) (fun x4 h3 =>
        bif decide (x4 = 0) then
          some (some (.inl 0), h3)
        else
          some (some (.inl 1), h3))
      else none)
  else none :=
  (aB gP gX xs stp_297 12 d mm_297 0 _ _ h).trans rfl

theorem c_297 (xs : List Int) (d : Nat) (v0 : Int) (v1 : Int) (v2 : Int) (h : aH) : cl xs (d + 1) 297 [.inr (.inr v0), .inl v1, .inl v2] h =
  bif aok h.1 v0 12 && true then
    bI (cl xs d 230 [.inr (.inr v0), .inl v1] h) (fun x2 h1 =>
    bif decide (x2 = 0) then
      some (some (.inl 0), h1)
    else
      bif aok h1.1 v0 12 && true then
        bI (cl xs d 230 [.inr (.inr v0), .inl v2] h1) (fun x4 h3 =>
        bif decide (x4 = 0) then
          some (some (.inl 0), h3)
        else
          some (some (.inl 1), h3))
      else none)
  else none :=
  (show _ = ev xs d mm_297 0 [some (.inr (.inr v0)), some (.inl v1), some (.inl v2)] [] h from rfl).trans (q_297_0 xs d v0 v1 v2 h)
def stp_298 : List Nat := [0, 26, 35, 60, 108]
set_option maxRecDepth 100000 in
set_option maxHeartbeats 4000000 in
theorem q_298_0 (xs : List Int) (d : Nat) (v0 : Int) (v1 : Int) (v2 : Int) (v3 : Int) (h : aH) : ev xs d mm_298 0 [some (.inr (.inr v0)), some (.inl v1), some (.inl v2), some (.inl v3), none, none, none, none, none, none, none, none, none] [] h =
  bif aok h.1 v0 12 && true then
    bI (cl xs d 297 [.inr (.inr v0), .inl v1, .inl v2] h) (fun x2 h1 =>
    bif decide (x2 = 0) then
      some (some (.inl (-1)), h1)
    else
      bif decide ((-1) ≤ v3) then
        bif aok h1.1 v0 12 && true then
          bV (cl xs d 229 [.inr (.inr v0)] h1) (fun h3 =>
          ev xs d mm_298 26 [some (.inr (.inr v0)), some (.inl v1), some (.inl v2), some (.inl v3), some (.inl 1), some (.inl 0), none, none, none, none, none, none, none] [] h3)
        else none
      else
        some (some (.inl (-1)), h1))
  else none :=
  (aB gP gX xs stp_298 15 d mm_298 0 _ _ h).trans rfl

set_option maxRecDepth 100000 in
set_option maxHeartbeats 4000000 in
theorem q_298_26 (xs : List Int) (d : Nat) (v0 : Int) (v1 : Int) (v2 : Int) (v3 : Int) (v4 : Int) (v5 : Int) (u6 : Option aV) (u7 : Option aV) (u8 : Option aV) (u9 : Option aV) (u10 : Option aV) (u11 : Option aV) (u12 : Option aV) (h : aH) : ev xs d mm_298 26 [some (.inr (.inr v0)), some (.inl v1), some (.inl v2), some (.inl v3), some (.inl v4), some (.inl v5), u6, u7, u8, u9, u10, u11, u12] [] h =
  bif decide (5 ≤ v5) then
    some (some (.inl (-2)), h)
  else
    ev xs d mm_298 35 [some (.inr (.inr v0)), some (.inl v1), some (.inl v2), some (.inl v3), some (.inl v4), some (.inl v5), some (.inl 0), u7, u8, u9, u10, u11, u12] [] h :=
  (aB gP gX xs stp_298 6 d mm_298 26 _ _ h).trans rfl

set_option maxRecDepth 100000 in
set_option maxHeartbeats 4000000 in
theorem q_298_35 (xs : List Int) (d : Nat) (v0 : Int) (v1 : Int) (v2 : Int) (v3 : Int) (v4 : Int) (v5 : Int) (v6 : Int) (u7 : Option aV) (u8 : Option aV) (u9 : Option aV) (u10 : Option aV) (u11 : Option aV) (u12 : Option aV) (h : aH) : ev xs d mm_298 35 [some (.inr (.inr v0)), some (.inl v1), some (.inl v2), some (.inl v3), some (.inl v4), some (.inl v5), some (.inl v6), u7, u8, u9, u10, u11, u12] [] h =
  bif decide (v4 ≤ v6) then
    bif aok h.1 v0 12 then
      bif aok h.1 v0 12 then
        bif ain h.1 (h.2 v0.toNat 23) 100 (h.2 v0.toNat 18) then
          ev xs d mm_298 26 [some (.inr (.inr v0)), some (.inl v1), some (.inl v2), some (.inl v3), some (.inl (w32 (v4 * (h.2 (h.2 v0.toNat 23).toNat (h.2 v0.toNat 18).toNat)))), some (.inl (w32 (v5 + 1))), some (.inl v6), u7, u8, u9, u10, u11, u12] [] h
        else none
      else none
    else none
  else
    bif aok h.1 v0 12 then
      bif ain h.1 (h.2 v0.toNat 64) 101 v1 then
        ev xs d mm_298 60 [some (.inr (.inr v0)), some (.inl v1), some (.inl v2), some (.inl v3), some (.inl v4), some (.inl v5), some (.inl v6), some (.inr (.inl (h.2 (h.2 v0.toNat 64).toNat v1.toNat))), none, some (.inl v4), some (.inl (-1)), some (.inl 0), u12] [] h
      else none
    else none :=
  (aB gP gX xs stp_298 15 d mm_298 35 _ _ h).trans rfl

set_option maxRecDepth 100000 in
set_option maxHeartbeats 4000000 in
theorem q_298_60 (xs : List Int) (d : Nat) (v0 : Int) (v1 : Int) (v2 : Int) (v3 : Int) (v4 : Int) (v5 : Int) (v6 : Int) (v7 : Int) (u8 : Option aV) (v9 : Int) (v10 : Int) (v11 : Int) (u12 : Option aV) (h : aH) : ev xs d mm_298 60 [some (.inr (.inr v0)), some (.inl v1), some (.inl v2), some (.inl v3), some (.inl v4), some (.inl v5), some (.inl v6), some (.inr (.inl v7)), u8, some (.inl v9), some (.inl v10), some (.inl v11), u12] [] h =
  bif decide (v5 ≤ v11) then
    bif aok h.1 v0 12 then
      bif ain h.1 (h.2 v0.toNat 64) 101 v2 then
        bif decide (¬ (olcmp v7 (h.2 (h.2 v0.toNat 64).toNat v2.toNat)) = 0) then
          ev xs d mm_298 35 [some (.inr (.inr v0)), some (.inl v1), some (.inl v2), some (.inl v3), some (.inl v4), some (.inl v5), some (.inl (w32 (v6 + 1))), some (.inr (.inl v7)), u8, some (.inl v9), some (.inl v10), some (.inl v11), u12] [] h
        else
          bif decide (¬ v3 = (-1)) then
            some (some (.inl v10), h)
          else
            some (some (.inl v5), h)
      else none
    else none
  else
    bif aok h.1 v0 12 then
      bif aok h.1 v0 12 then
        bif ain h.1 (h.2 v0.toNat 23) 100 (h.2 v0.toNat 18) then
          bif decide ((h.2 (h.2 v0.toNat 23).toNat (h.2 v0.toNat 18).toNat) = 0) then none else
          bif decide ((odiv v9 (h.2 (h.2 v0.toNat 23).toNat (h.2 v0.toNat 18).toNat)) = 0) then none else
          bif aok h.1 v0 12 then
            bif aok h.1 v0 12 then
              bif ain h.1 (h.2 v0.toNat 23) 100 (h.2 v0.toNat 18) then
                bif decide ((h.2 (h.2 v0.toNat 23).toNat (h.2 v0.toNat 18).toNat) = 0) then none else
                bif decide (¬ v11 = v3) then
                  ev xs d mm_298 108 [some (.inr (.inr v0)), some (.inl v1), some (.inl v2), some (.inl v3), some (.inl v4), some (.inl v5), some (.inl v6), some (.inr (.inl v7)), acl u8, some (.inl (odiv v9 (h.2 (h.2 v0.toNat 23).toNat (h.2 v0.toNat 18).toNat))), some (.inl v10), some (.inl v11), some (.inl (orem (odiv v6 (odiv v9 (h.2 (h.2 v0.toNat 23).toNat (h.2 v0.toNat 18).toNat))) (h.2 (h.2 v0.toNat 23).toNat (h.2 v0.toNat 18).toNat)))] [] h
                else
                  ev xs d mm_298 108 [some (.inr (.inr v0)), some (.inl v1), some (.inl v2), some (.inl v3), some (.inl v4), some (.inl v5), some (.inl v6), some (.inr (.inl v7)), acl u8, some (.inl (odiv v9 (h.2 (h.2 v0.toNat 23).toNat (h.2 v0.toNat 18).toNat))), some (.inl (orem (odiv v6 (odiv v9 (h.2 (h.2 v0.toNat 23).toNat (h.2 v0.toNat 18).toNat))) (h.2 (h.2 v0.toNat 23).toNat (h.2 v0.toNat 18).toNat))), some (.inl v11), some (.inl (orem (odiv v6 (odiv v9 (h.2 (h.2 v0.toNat 23).toNat (h.2 v0.toNat 18).toNat))) (h.2 (h.2 v0.toNat 23).toNat (h.2 v0.toNat 18).toNat)))] [] h
              else none
            else none
          else none
        else none
      else none
    else none :=
  (aB gP gX xs stp_298 27 d mm_298 60 _ _ h).trans rfl

set_option maxRecDepth 100000 in
set_option maxHeartbeats 4000000 in
theorem q_298_108 (xs : List Int) (d : Nat) (v0 : Int) (v1 : Int) (v2 : Int) (v3 : Int) (v4 : Int) (v5 : Int) (v6 : Int) (v7 : Int) (u8 : Option aV) (v9 : Int) (v10 : Int) (v11 : Int) (v12 : Int) (h : aH) : ev xs d mm_298 108 [some (.inr (.inr v0)), some (.inl v1), some (.inl v2), some (.inl v3), some (.inl v4), some (.inl v5), some (.inl v6), some (.inr (.inl v7)), u8, some (.inl v9), some (.inl v10), some (.inl v11), some (.inl v12)] [] h =
  bif aok h.1 v0 12 && true then
    bJ (cl xs d 239 [.inr (.inr v0), .inl v12, .inr (.inl v7)] h) (fun x2 h1 =>
    ev xs d mm_298 60 [some (.inr (.inr v0)), some (.inl v1), some (.inl v2), some (.inl v3), some (.inl v4), some (.inl v5), some (.inl v6), some (.inr (.inl x2)), none, some (.inl v9), some (.inl v10), some (.inl (w32 (v11 + 1))), some (.inl v12)] [] h1)
  else none :=
  (aB gP gX xs stp_298 8 d mm_298 108 _ _ h).trans rfl

theorem c_298 (xs : List Int) (d : Nat) (v0 : Int) (v1 : Int) (v2 : Int) (v3 : Int) (h : aH) : cl xs (d + 1) 298 [.inr (.inr v0), .inl v1, .inl v2, .inl v3] h =
  bif aok h.1 v0 12 && true then
    bI (cl xs d 297 [.inr (.inr v0), .inl v1, .inl v2] h) (fun x2 h1 =>
    bif decide (x2 = 0) then
      some (some (.inl (-1)), h1)
    else
      bif decide ((-1) ≤ v3) then
        bif aok h1.1 v0 12 && true then
          bV (cl xs d 229 [.inr (.inr v0)] h1) (fun h3 =>
          ev xs d mm_298 26 [some (.inr (.inr v0)), some (.inl v1), some (.inl v2), some (.inl v3), some (.inl 1), some (.inl 0), none, none, none, none, none, none, none] [] h3)
        else none
      else
        some (some (.inl (-1)), h1))
  else none :=
  (show _ = ev xs d mm_298 0 [some (.inr (.inr v0)), some (.inl v1), some (.inl v2), some (.inl v3), none, none, none, none, none, none, none, none, none] [] h from rfl).trans (q_298_0 xs d v0 v1 v2 v3 h)
def stp_299 : List Nat := [0, 35, 44, 123, 171, 217]
set_option maxRecDepth 100000 in
set_option maxHeartbeats 4000000 in
theorem q_299_0 (xs : List Int) (d : Nat) (v0 : Int) (v1 : Int) (v2 : Int) (h : aH) : ev xs d mm_299 0 [some (.inr (.inr v0)), some (.inl v1), some (.inl v2), none, none, none, none, none] [] h =
  bif aok h.1 v0 12 && true then
    bI (cl xs d 297 [.inr (.inr v0), .inl v1, .inl v2] h) (fun x2 h1 =>
    bif decide (¬ x2 = 0) then
      bif aok h1.1 v0 12 then
        bif ain h1.1 (h1.2 v0.toNat 63) 101 v1 then
          bI (cl xs d 236 [.inr (.inl (h1.2 (h1.2 v0.toNat 63).toNat v1.toNat))] h1) (fun x4 h3 =>
            bif aok h3.1 v0 12 then
              bif ain h3.1 (h3.2 v0.toNat 63) 101 v2 then
                bI (cl xs d 236 [.inr (.inl (h3.2 (h3.2 v0.toNat 63).toNat v2.toNat))] h3) (fun x6 h5 =>
                  ev xs d mm_299 35 [some (.inr (.inr v0)), some (.inl v1), some (.inl v2), some (.inl x4), some (.inl x6), some (.inl 0), none, none] [] h5)
              else none
            else none)
        else none
      else none
    else
      some (some (.inl (-1)), h1))
  else none :=
  (aB gP gX xs stp_299 20 d mm_299 0 _ _ h).trans rfl

set_option maxRecDepth 100000 in
set_option maxHeartbeats 4000000 in
theorem q_299_35 (xs : List Int) (d : Nat) (v0 : Int) (v1 : Int) (v2 : Int) (v3 : Int) (v4 : Int) (v5 : Int) (u6 : Option aV) (u7 : Option aV) (h : aH) : ev xs d mm_299 35 [some (.inr (.inr v0)), some (.inl v1), some (.inl v2), some (.inl v3), some (.inl v4), some (.inl v5), u6, u7] [] h =
  bif decide (v3 < v5) then
    bif aok h.1 v0 12 then
      bif ain h.1 (h.2 v0.toNat 81) 100 (w32 ((w32 (9 * v3)) + v4)) then
        some (some (.inl (h.2 (h.2 v0.toNat 81).toNat (w32 ((w32 (9 * v3)) + v4)).toNat)), h)
      else none
    else none
  else
    ev xs d mm_299 44 [some (.inr (.inr v0)), some (.inl v1), some (.inl v2), some (.inl v3), some (.inl v4), some (.inl v5), some (.inl 0), u7] [] h :=
  (aB gP gX xs stp_299 13 d mm_299 35 _ _ h).trans rfl

set_option maxRecDepth 100000 in
set_option maxHeartbeats 4000000 in
theorem q_299_44 (xs : List Int) (d : Nat) (v0 : Int) (v1 : Int) (v2 : Int) (v3 : Int) (v4 : Int) (v5 : Int) (v6 : Int) (u7 : Option aV) (h : aH) : ev xs d mm_299 44 [some (.inr (.inr v0)), some (.inl v1), some (.inl v2), some (.inl v3), some (.inl v4), some (.inl v5), some (.inl v6), u7] [] h =
  bif decide (v4 < v6) then
    ev xs d mm_299 35 [some (.inr (.inr v0)), some (.inl v1), some (.inl v2), some (.inl v3), some (.inl v4), some (.inl (w32 (v5 + 1))), some (.inl v6), u7] [] h
  else
    bif decide (¬ v5 = 0) then
      bif decide (¬ v6 = 0) then
        bif aok h.1 v0 12 then
          bif ain h.1 (h.2 v0.toNat 81) 100 (w32 ((w32 ((w32 (9 * (w32 (v5 - 1)))) + v6)) - 1)) then
            bif aok h.1 v0 12 then
              bif ain h.1 (h.2 v0.toNat 63) 101 v1 then
                bI (cl xs d 237 [.inr (.inl (h.2 (h.2 v0.toNat 63).toNat v1.toNat)), .inl (w32 (v5 - 1))] h) (fun x2 h1 =>
                  bif aok h1.1 v0 12 then
                    bif ain h1.1 (h1.2 v0.toNat 63) 101 v2 then
                      bI (cl xs d 237 [.inr (.inl (h1.2 (h1.2 v0.toNat 63).toNat v2.toNat)), .inl (w32 (v6 - 1))] h1) (fun x4 h3 =>
                        bif decide (¬ x2 = x4) then
                          ev xs d mm_299 123 [some (.inr (.inr v0)), some (.inl v1), some (.inl v2), some (.inl v3), some (.inl v4), some (.inl v5), some (.inl v6), u7] [.inl (w32 ((h.2 (h.2 v0.toNat 81).toNat (w32 ((w32 ((w32 (9 * (w32 (v5 - 1)))) + v6)) - 1)).toNat) + 1))] h3
                        else
                          ev xs d mm_299 123 [some (.inr (.inr v0)), some (.inl v1), some (.inl v2), some (.inl v3), some (.inl v4), some (.inl v5), some (.inl v6), u7] [.inl (w32 ((h.2 (h.2 v0.toNat 81).toNat (w32 ((w32 ((w32 (9 * (w32 (v5 - 1)))) + v6)) - 1)).toNat) + 0))] h3)
                    else none
                  else none)
              else none
            else none
          else none
        else none
      else
        ev xs d mm_299 123 [some (.inr (.inr v0)), some (.inl v1), some (.inl v2), some (.inl v3), some (.inl v4), some (.inl v5), some (.inl v6), u7] [.inl v5] h
    else
      ev xs d mm_299 123 [some (.inr (.inr v0)), some (.inl v1), some (.inl v2), some (.inl v3), some (.inl v4), some (.inl v5), some (.inl v6), u7] [.inl v6] h :=
  (aB gP gX xs stp_299 40 d mm_299 44 _ _ h).trans rfl

set_option maxRecDepth 100000 in
set_option maxHeartbeats 4000000 in
theorem q_299_123 (xs : List Int) (d : Nat) (v0 : Int) (v1 : Int) (v2 : Int) (v3 : Int) (v4 : Int) (v5 : Int) (v6 : Int) (u7 : Option aV) (s0 : Int) (h : aH) : ev xs d mm_299 123 [some (.inr (.inr v0)), some (.inl v1), some (.inl v2), some (.inl v3), some (.inl v4), some (.inl v5), some (.inl v6), u7] [.inl s0] h =
  bif decide (v5 ≤ 0) then
    ev xs d mm_299 171 [some (.inr (.inr v0)), some (.inl v1), some (.inl v2), some (.inl v3), some (.inl v4), some (.inl v5), some (.inl v6), some (.inl s0)] [] h
  else
    bif aok h.1 v0 12 then
      bif ain h.1 (h.2 v0.toNat 81) 100 (w32 ((w32 (9 * (w32 (v5 - 1)))) + v6)) then
        bif decide (s0 ≤ (w32 ((h.2 (h.2 v0.toNat 81).toNat (w32 ((w32 (9 * (w32 (v5 - 1)))) + v6)).toNat) + 1))) then
          ev xs d mm_299 171 [some (.inr (.inr v0)), some (.inl v1), some (.inl v2), some (.inl v3), some (.inl v4), some (.inl v5), some (.inl v6), some (.inl s0)] [] h
        else
          bif aok h.1 v0 12 then
            bif ain h.1 (h.2 v0.toNat 81) 100 (w32 ((w32 (9 * (w32 (v5 - 1)))) + v6)) then
              ev xs d mm_299 171 [some (.inr (.inr v0)), some (.inl v1), some (.inl v2), some (.inl v3), some (.inl v4), some (.inl v5), some (.inl v6), some (.inl (w32 ((h.2 (h.2 v0.toNat 81).toNat (w32 ((w32 (9 * (w32 (v5 - 1)))) + v6)).toNat) + 1)))] [] h
            else none
          else none
      else none
    else none :=
  (aB gP gX xs stp_299 31 d mm_299 123 _ _ h).trans rfl

set_option maxRecDepth 100000 in
set_option maxHeartbeats 4000000 in
theorem q_299_171 (xs : List Int) (d : Nat) (v0 : Int) (v1 : Int) (v2 : Int) (v3 : Int) (v4 : Int) (v5 : Int) (v6 : Int) (v7 : Int) (h : aH) : ev xs d mm_299 171 [some (.inr (.inr v0)), some (.inl v1), some (.inl v2), some (.inl v3), some (.inl v4), some (.inl v5), some (.inl v6), some (.inl v7)] [] h =
  bif decide (v6 ≤ 0) then
    ev xs d mm_299 217 [some (.inr (.inr v0)), some (.inl v1), some (.inl v2), some (.inl v3), some (.inl v4), some (.inl v5), some (.inl v6), some (.inl v7)] [] h
  else
    bif aok h.1 v0 12 then
      bif ain h.1 (h.2 v0.toNat 81) 100 (w32 ((w32 ((w32 (9 * v5)) + v6)) - 1)) then
        bif decide (v7 ≤ (w32 ((h.2 (h.2 v0.toNat 81).toNat (w32 ((w32 ((w32 (9 * v5)) + v6)) - 1)).toNat) + 1))) then
          ev xs d mm_299 217 [some (.inr (.inr v0)), some (.inl v1), some (.inl v2), some (.inl v3), some (.inl v4), some (.inl v5), some (.inl v6), some (.inl v7)] [] h
        else
          bif aok h.1 v0 12 then
            bif ain h.1 (h.2 v0.toNat 81) 100 (w32 ((w32 ((w32 (9 * v5)) + v6)) - 1)) then
              ev xs d mm_299 217 [some (.inr (.inr v0)), some (.inl v1), some (.inl v2), some (.inl v3), some (.inl v4), some (.inl v5), some (.inl v6), some (.inl (w32 ((h.2 (h.2 v0.toNat 81).toNat (w32 ((w32 ((w32 (9 * v5)) + v6)) - 1)).toNat) + 1)))] [] h
            else none
          else none
      else none
    else none :=
  (aB gP gX xs stp_299 30 d mm_299 171 _ _ h).trans rfl

set_option maxRecDepth 100000 in
set_option maxHeartbeats 4000000 in
theorem q_299_217 (xs : List Int) (d : Nat) (v0 : Int) (v1 : Int) (v2 : Int) (v3 : Int) (v4 : Int) (v5 : Int) (v6 : Int) (v7 : Int) (h : aH) : ev xs d mm_299 217 [some (.inr (.inr v0)), some (.inl v1), some (.inl v2), some (.inl v3), some (.inl v4), some (.inl v5), some (.inl v6), some (.inl v7)] [] h =
  bif aok h.1 v0 12 then
    bif ain h.1 (h.2 v0.toNat 81) 100 (w32 ((w32 (9 * v5)) + v6)) then
      ev xs d mm_299 44 [some (.inr (.inr v0)), some (.inl v1), some (.inl v2), some (.inl v3), some (.inl v4), some (.inl v5), some (.inl (w32 (v6 + 1))), some (.inl v7)] [] (h.1, aup h.2 (h.2 v0.toNat 81).toNat (w32 ((w32 (9 * v5)) + v6)).toNat v7)
    else none
  else none :=
  (aB gP gX xs stp_299 12 d mm_299 217 _ _ h).trans rfl

theorem c_299 (xs : List Int) (d : Nat) (v0 : Int) (v1 : Int) (v2 : Int) (h : aH) : cl xs (d + 1) 299 [.inr (.inr v0), .inl v1, .inl v2] h =
  bif aok h.1 v0 12 && true then
    bI (cl xs d 297 [.inr (.inr v0), .inl v1, .inl v2] h) (fun x2 h1 =>
    bif decide (¬ x2 = 0) then
      bif aok h1.1 v0 12 then
        bif ain h1.1 (h1.2 v0.toNat 63) 101 v1 then
          bI (cl xs d 236 [.inr (.inl (h1.2 (h1.2 v0.toNat 63).toNat v1.toNat))] h1) (fun x4 h3 =>
            bif aok h3.1 v0 12 then
              bif ain h3.1 (h3.2 v0.toNat 63) 101 v2 then
                bI (cl xs d 236 [.inr (.inl (h3.2 (h3.2 v0.toNat 63).toNat v2.toNat))] h3) (fun x6 h5 =>
                  ev xs d mm_299 35 [some (.inr (.inr v0)), some (.inl v1), some (.inl v2), some (.inl x4), some (.inl x6), some (.inl 0), none, none] [] h5)
              else none
            else none)
        else none
      else none
    else
      some (some (.inl (-1)), h1))
  else none :=
  (show _ = ev xs d mm_299 0 [some (.inr (.inr v0)), some (.inl v1), some (.inl v2), none, none, none, none, none] [] h from rfl).trans (q_299_0 xs d v0 v1 v2 h)
def stp_300 : List Nat := [0, 29]
set_option maxRecDepth 100000 in
set_option maxHeartbeats 4000000 in
theorem q_300_0 (xs : List Int) (d : Nat) (v0 : Int) (v1 : Int) (v2 : Int) (h : aH) : ev xs d mm_300 0 [some (.inr (.inr v0)), some (.inl v1), some (.inl v2), none, none, none, none, none] [] h =
  bif aok h.1 v0 12 && true then
    bI (cl xs d 297 [.inr (.inr v0), .inl v1, .inl v2] h) (fun x2 h1 =>
    bif decide (¬ x2 = 0) then
      bif aok h1.1 v0 12 then
        bif ain h1.1 (h1.2 v0.toNat 63) 101 v1 then
          bif aok h1.1 v0 12 then
            bif ain h1.1 (h1.2 v0.toNat 63) 101 v2 then
              ev xs d mm_300 29 [some (.inr (.inr v0)), some (.inl v1), some (.inl v2), some (.inr (.inl (h1.2 (h1.2 v0.toNat 63).toNat v1.toNat))), none, some (.inr (.inl (h1.2 (h1.2 v0.toNat 63).toNat v2.toNat))), none, some (.inl 0)] [] h1
            else none
          else none
        else none
      else none
    else
      some (some (.inl (-1)), h1))
  else none :=
  (aB gP gX xs stp_300 18 d mm_300 0 _ _ h).trans rfl

set_option maxRecDepth 100000 in
set_option maxHeartbeats 4000000 in
theorem q_300_29 (xs : List Int) (d : Nat) (v0 : Int) (v1 : Int) (v2 : Int) (v3 : Int) (u4 : Option aV) (v5 : Int) (u6 : Option aV) (v7 : Int) (h : aH) : ev xs d mm_300 29 [some (.inr (.inr v0)), some (.inl v1), some (.inl v2), some (.inr (.inl v3)), u4, some (.inr (.inl v5)), u6, some (.inl v7)] [] h =
  bif decide ((olcmp v3 0) ≤ 0) then
    some (some (.inl v7), h)
  else
    bif decide ((olcmp v5 0) ≤ 0) then
      some (some (.inl v7), h)
    else
      bif decide (¬ (olcmp (olrem v3 27) (olrem v5 27)) = 0) then
        some (some (.inl v7), h)
      else
        ev xs d mm_300 29 [some (.inr (.inr v0)), some (.inl v1), some (.inl v2), some (.inr (.inl (oldiv v3 27))), none, some (.inr (.inl (oldiv v5 27))), none, some (.inl (w32 (v7 + 1)))] [] h :=
  (aB gP gX xs stp_300 27 d mm_300 29 _ _ h).trans rfl

theorem c_300 (xs : List Int) (d : Nat) (v0 : Int) (v1 : Int) (v2 : Int) (h : aH) : cl xs (d + 1) 300 [.inr (.inr v0), .inl v1, .inl v2] h =
  bif aok h.1 v0 12 && true then
    bI (cl xs d 297 [.inr (.inr v0), .inl v1, .inl v2] h) (fun x2 h1 =>
    bif decide (¬ x2 = 0) then
      bif aok h1.1 v0 12 then
        bif ain h1.1 (h1.2 v0.toNat 63) 101 v1 then
          bif aok h1.1 v0 12 then
            bif ain h1.1 (h1.2 v0.toNat 63) 101 v2 then
              ev xs d mm_300 29 [some (.inr (.inr v0)), some (.inl v1), some (.inl v2), some (.inr (.inl (h1.2 (h1.2 v0.toNat 63).toNat v1.toNat))), none, some (.inr (.inl (h1.2 (h1.2 v0.toNat 63).toNat v2.toNat))), none, some (.inl 0)] [] h1
            else none
          else none
        else none
      else none
    else
      some (some (.inl (-1)), h1))
  else none :=
  (show _ = ev xs d mm_300 0 [some (.inr (.inr v0)), some (.inl v1), some (.inl v2), none, none, none, none, none] [] h from rfl).trans (q_300_0 xs d v0 v1 v2 h)
def stp_301 : List Nat := [0]
set_option maxRecDepth 100000 in
set_option maxHeartbeats 4000000 in
theorem q_301_0 (xs : List Int) (d : Nat) (v0 : Int) (v1 : Int) (h : aH) : ev xs d mm_301 0 [some (.inr (.inr v0)), some (.inl v1)] [] h =
  bif aok h.1 v0 12 then
    bif aok h.1 v0 12 then
      bif ain h.1 (h.2 v0.toNat 35) 100 (h.2 v0.toNat 18) then
        bif aok h.1 v0 12 && true then
          bI (cl xs d 290 [.inr (.inr v0), .inl v1] h) (fun x2 h1 =>
          bI (cl xs d 235 [.inl x2] h1) (fun x4 h3 =>
            some (some (.inl (w32 ((h.2 (h.2 v0.toNat 35).toNat (h.2 v0.toNat 18).toNat) - x4))), h3)))
        else none
      else none
    else none
  else none :=
  (aB gP gX xs stp_301 12 d mm_301 0 _ _ h).trans rfl

theorem c_301 (xs : List Int) (d : Nat) (v0 : Int) (v1 : Int) (h : aH) : cl xs (d + 1) 301 [.inr (.inr v0), .inl v1] h =
  bif aok h.1 v0 12 then
    bif aok h.1 v0 12 then
      bif ain h.1 (h.2 v0.toNat 35) 100 (h.2 v0.toNat 18) then
        bif aok h.1 v0 12 && true then
          bI (cl xs d 290 [.inr (.inr v0), .inl v1] h) (fun x2 h1 =>
          bI (cl xs d 235 [.inl x2] h1) (fun x4 h3 =>
            some (some (.inl (w32 ((h.2 (h.2 v0.toNat 35).toNat (h.2 v0.toNat 18).toNat) - x4))), h3)))
        else none
      else none
    else none
  else none :=
  (show _ = ev xs d mm_301 0 [some (.inr (.inr v0)), some (.inl v1)] [] h from rfl).trans (q_301_0 xs d v0 v1 h)
def stp_302 : List Nat := [0, 37]
set_option maxRecDepth 100000 in
set_option maxHeartbeats 4000000 in
theorem q_302_0 (xs : List Int) (d : Nat) (v0 : Int) (v1 : Int) (h : aH) : ev xs d mm_302 0 [some (.inr (.inr v0)), some (.inl v1), none, none, none, none, none] [] h =
  bI (cl xs d 226 [.inl v1, .inl 0, .inl 1] h) (fun x2 h1 =>
    bif decide (¬ x2 = 0) then
      bif aok h1.1 v0 12 && true then
        bV (cl xs d 229 [.inr (.inr v0)] h1) (fun h3 =>
        bif aok h3.1 v0 12 then
          bif ain h3.1 (h3.2 v0.toNat 64) 101 52 then
            bif aok h3.1 v0 12 && true then
              bI (cl xs d 301 [.inr (.inr v0), .inl (ol2i (h3.2 (h3.2 v0.toNat 64).toNat (52 : Int).toNat))] h3) (fun x5 h4 =>
              ev xs d mm_302 37 [some (.inr (.inr v0)), some (.inl v1), some (.inl (ol2i (h3.2 (h3.2 v0.toNat 64).toNat (52 : Int).toNat))), some (.inl (-2)), some (.inl x5), some (.inl 0), none] [] h4)
            else none
          else none
        else none)
      else none
    else
      some (some (.inl (-1)), h1)) :=
  (aB gP gX xs stp_302 22 d mm_302 0 _ _ h).trans rfl

set_option maxRecDepth 100000 in
set_option maxHeartbeats 4000000 in
theorem q_302_37 (xs : List Int) (d : Nat) (v0 : Int) (v1 : Int) (v2 : Int) (v3 : Int) (v4 : Int) (v5 : Int) (u6 : Option aV) (h : aH) : ev xs d mm_302 37 [some (.inr (.inr v0)), some (.inl v1), some (.inl v2), some (.inl v3), some (.inl v4), some (.inl v5), u6] [] h =
  bif aok h.1 v0 12 then
    bif aok h.1 v0 12 then
      bif ain h.1 (h.2 v0.toNat 23) 100 (h.2 v0.toNat 18) then
        bif decide ((h.2 (h.2 v0.toNat 23).toNat (h.2 v0.toNat 18).toNat) ≤ v5) then
          bif decide (¬ v1 = 0) then
            some (some (.inl v4), h)
          else
            some (some (.inl v3), h)
        else
          bif aok h.1 v0 12 && true then
            bI (cl xs d 301 [.inr (.inr v0), .inl (oxor v2 (oshl 1 v5))] h) (fun x2 h1 =>
            bif decide (v4 < x2) then
              ev xs d mm_302 37 [some (.inr (.inr v0)), some (.inl v1), some (.inl v2), some (.inl v5), some (.inl x2), some (.inl (w32 (v5 + 1))), some (.inl x2)] [] h1
            else
              ev xs d mm_302 37 [some (.inr (.inr v0)), some (.inl v1), some (.inl v2), some (.inl v3), some (.inl v4), some (.inl (w32 (v5 + 1))), some (.inl x2)] [] h1)
          else none
      else none
    else none
  else none :=
  (aB gP gX xs stp_302 25 d mm_302 37 _ _ h).trans rfl

theorem c_302 (xs : List Int) (d : Nat) (v0 : Int) (v1 : Int) (h : aH) : cl xs (d + 1) 302 [.inr (.inr v0), .inl v1] h =
  bI (cl xs d 226 [.inl v1, .inl 0, .inl 1] h) (fun x2 h1 =>
    bif decide (¬ x2 = 0) then
      bif aok h1.1 v0 12 && true then
        bV (cl xs d 229 [.inr (.inr v0)] h1) (fun h3 =>
        bif aok h3.1 v0 12 then
          bif ain h3.1 (h3.2 v0.toNat 64) 101 52 then
            bif aok h3.1 v0 12 && true then
              bI (cl xs d 301 [.inr (.inr v0), .inl (ol2i (h3.2 (h3.2 v0.toNat 64).toNat (52 : Int).toNat))] h3) (fun x5 h4 =>
              ev xs d mm_302 37 [some (.inr (.inr v0)), some (.inl v1), some (.inl (ol2i (h3.2 (h3.2 v0.toNat 64).toNat (52 : Int).toNat))), some (.inl (-2)), some (.inl x5), some (.inl 0), none] [] h4)
            else none
          else none
        else none)
      else none
    else
      some (some (.inl (-1)), h1)) :=
  (show _ = ev xs d mm_302 0 [some (.inr (.inr v0)), some (.inl v1), none, none, none, none, none] [] h from rfl).trans (q_302_0 xs d v0 v1 h)
def stp_303 : List Nat := [0, 2, 23, 62, 103, 139]
set_option maxRecDepth 100000 in
set_option maxHeartbeats 4000000 in
theorem q_303_0 (xs : List Int) (d : Nat) (v0 : Int) (h : aH) : ev xs d mm_303 0 [some (.inr (.inr v0)), none, none, none] [] h =
  ev xs d mm_303 2 [some (.inr (.inr v0)), some (.inl 0), none, none] [] h :=
  (aB gP gX xs stp_303 3 d mm_303 0 _ _ h).trans rfl

set_option maxRecDepth 100000 in
set_option maxHeartbeats 4000000 in
theorem q_303_2 (xs : List Int) (d : Nat) (v0 : Int) (v1 : Int) (u2 : Option aV) (u3 : Option aV) (h : aH) : ev xs d mm_303 2 [some (.inr (.inr v0)), some (.inl v1), u2, u3] [] h =
  bif decide (24 ≤ v1) then
    ev xs d mm_303 23 [some (.inr (.inr v0)), some (.inl 0), u2, u3] [] h
  else
    bif aok h.1 v0 12 then
      bif ain h.1 (h.2 v0.toNat 82) 100 v1 then
        ev xs d mm_303 2 [some (.inr (.inr v0)), some (.inl (w32 (v1 + 1))), u2, u3] [] (h.1, aup h.2 (h.2 v0.toNat 82).toNat v1.toNat 0)
      else none
    else none :=
  (aB gP gX xs stp_303 11 d mm_303 2 _ _ h).trans rfl

set_option maxRecDepth 100000 in
set_option maxHeartbeats 4000000 in
theorem q_303_23 (xs : List Int) (d : Nat) (v0 : Int) (v1 : Int) (u2 : Option aV) (u3 : Option aV) (h : aH) : ev xs d mm_303 23 [some (.inr (.inr v0)), some (.inl v1), u2, u3] [] h =
  bif aok h.1 v0 12 then
    bif aok h.1 v0 12 then
      bif ain h.1 (h.2 v0.toNat 33) 100 (h.2 v0.toNat 18) then
        bif decide ((h.2 (h.2 v0.toNat 33).toNat (h.2 v0.toNat 18).toNat) ≤ v1) then
          some (none, h)
        else
          bif aok h.1 v0 12 && true then
            bI (cl xs d 233 [.inr (.inr v0), .inl v1] h) (fun x2 h1 =>
            bif decide (¬ x2 = 0) then
              bif aok h1.1 v0 12 then
                bif ain h1.1 (h1.2 v0.toNat 64) 101 v1 then
                  bif aok h1.1 v0 12 && true then
                    bJ (cl xs d 241 [.inr (.inr v0), .inr (.inl (h1.2 (h1.2 v0.toNat 64).toNat v1.toNat))] h1) (fun x4 h3 =>
                    bif aok h3.1 v0 12 && true then
                      bV (cl xs d 248 [.inr (.inr v0)] h3) (fun h5 =>
                      ev xs d mm_303 62 [some (.inr (.inr v0)), some (.inl v1), some (.inr (.inl x4)), none] [] h5)
                    else none)
                  else none
                else none
              else none
            else
              ev xs d mm_303 23 [some (.inr (.inr v0)), some (.inl (w32 (v1 + 1))), u2, u3] [] h1)
          else none
      else none
    else none
  else none :=
  (aB gP gX xs stp_303 21 d mm_303 23 _ _ h).trans rfl

set_option maxRecDepth 100000 in
set_option maxHeartbeats 4000000 in
theorem q_303_62 (xs : List Int) (d : Nat) (v0 : Int) (v1 : Int) (v2 : Int) (u3 : Option aV) (h : aH) : ev xs d mm_303 62 [some (.inr (.inr v0)), some (.inl v1), some (.inr (.inl v2)), u3] [] h =
  bif aok h.1 v0 12 && true then
    bI (cl xs d 249 [.inr (.inr v0)] h) (fun x2 h1 =>
    bif decide (x2 = 0) then
      ev xs d mm_303 23 [some (.inr (.inr v0)), some (.inl (w32 (v1 + 1))), some (.inr (.inl v2)), u3] [] h1
    else
      bif aok h1.1 v0 12 && true then
        bI (cl xs d 254 [.inr (.inr v0), .inr (.inl v2)] h1) (fun x4 h3 =>
        bif decide (¬ x4 = 0) then
          bif aok h3.1 v0 12 then
            bif decide ((h3.2 v0.toNat 66) < 0) then
              ev xs d mm_303 103 [some (.inr (.inr v0)), some (.inl v1), some (.inr (.inl v2)), u3] [] h3
            else
              bif aok h3.1 v0 12 then
                bif aok h3.1 v0 12 then
                  bif ain h3.1 (h3.2 v0.toNat 82) 100 (w32 (16 + (h3.2 v0.toNat 66))) then
                    bif ain h3.1 (h3.2 v0.toNat 82) 100 (w32 (16 + (h3.2 v0.toNat 66))) then
                      ev xs d mm_303 103 [some (.inr (.inr v0)), some (.inl v1), some (.inr (.inl v2)), u3] [] (h3.1, aup h3.2 (h3.2 v0.toNat 82).toNat (w32 (16 + (h3.2 v0.toNat 66))).toNat (w32 ((h3.2 (h3.2 v0.toNat 82).toNat (w32 (16 + (h3.2 v0.toNat 66))).toNat) + 1)))
                    else none
                  else none
                else none
              else none
          else none
        else
          ev xs d mm_303 62 [some (.inr (.inr v0)), some (.inl v1), some (.inr (.inl v2)), u3] [] h3)
      else none)
  else none :=
  (aB gP gX xs stp_303 22 d mm_303 62 _ _ h).trans rfl

set_option maxRecDepth 100000 in
set_option maxHeartbeats 4000000 in
theorem q_303_103 (xs : List Int) (d : Nat) (v0 : Int) (v1 : Int) (v2 : Int) (u3 : Option aV) (h : aH) : ev xs d mm_303 103 [some (.inr (.inr v0)), some (.inl v1), some (.inr (.inl v2)), u3] [] h =
  bif aok h.1 v0 12 then
    bif aok h.1 v0 12 then
      bif ain h.1 (h.2 v0.toNat 82) 100 (h.2 v0.toNat 67) then
        bif ain h.1 (h.2 v0.toNat 82) 100 (h.2 v0.toNat 67) then
          bif aok h.1 v0 12 then
            bif decide (((aup h.2 (h.2 v0.toNat 82).toNat (h.2 v0.toNat 67).toNat (w32 ((h.2 (h.2 v0.toNat 82).toNat (h.2 v0.toNat 67).toNat) + 1))) v0.toNat 68) < 0) then
              ev xs d mm_303 139 [some (.inr (.inr v0)), some (.inl v1), some (.inr (.inl v2)), u3] [] (h.1, aup h.2 (h.2 v0.toNat 82).toNat (h.2 v0.toNat 67).toNat (w32 ((h.2 (h.2 v0.toNat 82).toNat (h.2 v0.toNat 67).toNat) + 1)))
            else
              bif aok h.1 v0 12 then
                bif aok h.1 v0 12 then
                  bif ain h.1 ((aup h.2 (h.2 v0.toNat 82).toNat (h.2 v0.toNat 67).toNat (w32 ((h.2 (h.2 v0.toNat 82).toNat (h.2 v0.toNat 67).toNat) + 1))) v0.toNat 82) 100 (w32 (8 + ((aup h.2 (h.2 v0.toNat 82).toNat (h.2 v0.toNat 67).toNat (w32 ((h.2 (h.2 v0.toNat 82).toNat (h.2 v0.toNat 67).toNat) + 1))) v0.toNat 68))) then
                    bif ain h.1 ((aup h.2 (h.2 v0.toNat 82).toNat (h.2 v0.toNat 67).toNat (w32 ((h.2 (h.2 v0.toNat 82).toNat (h.2 v0.toNat 67).toNat) + 1))) v0.toNat 82) 100 (w32 (8 + ((aup h.2 (h.2 v0.toNat 82).toNat (h.2 v0.toNat 67).toNat (w32 ((h.2 (h.2 v0.toNat 82).toNat (h.2 v0.toNat 67).toNat) + 1))) v0.toNat 68))) then
                      ev xs d mm_303 139 [some (.inr (.inr v0)), some (.inl v1), some (.inr (.inl v2)), u3] [] (h.1, aup (aup h.2 (h.2 v0.toNat 82).toNat (h.2 v0.toNat 67).toNat (w32 ((h.2 (h.2 v0.toNat 82).toNat (h.2 v0.toNat 67).toNat) + 1))) ((aup h.2 (h.2 v0.toNat 82).toNat (h.2 v0.toNat 67).toNat (w32 ((h.2 (h.2 v0.toNat 82).toNat (h.2 v0.toNat 67).toNat) + 1))) v0.toNat 82).toNat (w32 (8 + ((aup h.2 (h.2 v0.toNat 82).toNat (h.2 v0.toNat 67).toNat (w32 ((h.2 (h.2 v0.toNat 82).toNat (h.2 v0.toNat 67).toNat) + 1))) v0.toNat 68))).toNat (w32 (((aup h.2 (h.2 v0.toNat 82).toNat (h.2 v0.toNat 67).toNat (w32 ((h.2 (h.2 v0.toNat 82).toNat (h.2 v0.toNat 67).toNat) + 1))) ((aup h.2 (h.2 v0.toNat 82).toNat (h.2 v0.toNat 67).toNat (w32 ((h.2 (h.2 v0.toNat 82).toNat (h.2 v0.toNat 67).toNat) + 1))) v0.toNat 82).toNat (w32 (8 + ((aup h.2 (h.2 v0.toNat 82).toNat (h.2 v0.toNat 67).toNat (w32 ((h.2 (h.2 v0.toNat 82).toNat (h.2 v0.toNat 67).toNat) + 1))) v0.toNat 68))).toNat) + 1)))
                    else none
                  else none
                else none
              else none
          else none
        else none
      else none
    else none
  else none :=
  (aB gP gX xs stp_303 24 d mm_303 103 _ _ h).trans rfl

set_option maxRecDepth 100000 in
set_option maxHeartbeats 4000000 in
theorem q_303_139 (xs : List Int) (d : Nat) (v0 : Int) (v1 : Int) (v2 : Int) (u3 : Option aV) (h : aH) : ev xs d mm_303 139 [some (.inr (.inr v0)), some (.inl v1), some (.inr (.inl v2)), u3] [] h =
  bif aok h.1 v0 12 then
    bif decide ((h.2 v0.toNat 69) < 0) then
      ev xs d mm_303 62 [some (.inr (.inr v0)), some (.inl v1), some (.inr (.inl v2)), u3] [] h
    else
      bif aok h.1 v0 12 then
        bif aok h.1 v0 12 then
          bif ain h.1 (h.2 v0.toNat 82) 100 (w32 (8 + (h.2 v0.toNat 69))) then
            bif ain h.1 (h.2 v0.toNat 82) 100 (w32 (8 + (h.2 v0.toNat 69))) then
              ev xs d mm_303 62 [some (.inr (.inr v0)), some (.inl v1), some (.inr (.inl v2)), u3] [] (h.1, aup h.2 (h.2 v0.toNat 82).toNat (w32 (8 + (h.2 v0.toNat 69))).toNat (w32 ((h.2 (h.2 v0.toNat 82).toNat (w32 (8 + (h.2 v0.toNat 69))).toNat) + 1)))
            else none
          else none
        else none
      else none
  else none :=
  (aB gP gX xs stp_303 16 d mm_303 139 _ _ h).trans rfl

theorem c_303 (xs : List Int) (d : Nat) (v0 : Int) (h : aH) : cl xs (d + 1) 303 [.inr (.inr v0)] h =
  ev xs d mm_303 2 [some (.inr (.inr v0)), some (.inl 0), none, none] [] h :=
  (show _ = ev xs d mm_303 0 [some (.inr (.inr v0)), none, none, none] [] h from rfl).trans (q_303_0 xs d v0 h)
def stp_304 : List Nat := [0, 52]
set_option maxRecDepth 100000 in
set_option maxHeartbeats 4000000 in
theorem q_304_0 (xs : List Int) (d : Nat) (v0 : Int) (v1 : Int) (v2 : Int) (h : aH) : ev xs d mm_304 0 [some (.inr (.inr v0)), some (.inl v1), some (.inl v2), none, none] [] h =
  bI (cl xs d 226 [.inl v1, .inl 0, .inl 2] h) (fun x2 h1 =>
    bif decide (x2 = 0) then
      some (some (.inl (-1)), h1)
    else
      bI (cl xs d 226 [.inl v2, .inl 0, .inl 1] h1) (fun x4 h3 =>
        bif decide (¬ x4 = 0) then
          bif aok h3.1 v0 12 then
            bif aok h3.1 v0 12 then
              bif ain h3.1 (h3.2 v0.toNat 30) 100 (w32 ((w32 (3 * (h3.2 v0.toNat 18))) + v1)) then
                bif decide (¬ (h3.2 (h3.2 v0.toNat 30).toNat (w32 ((w32 (3 * (h3.2 v0.toNat 18))) + v1)).toNat) = 0) then
                  bif aok h3.1 v0 12 && true then
                    bV (cl xs d 229 [.inr (.inr v0)] h3) (fun h5 =>
                    bif aok h5.1 v0 12 && true then
                      bV (cl xs d 303 [.inr (.inr v0)] h5) (fun h6 =>
                      ev xs d mm_304 52 [some (.inr (.inr v0)), some (.inl v1), some (.inl v2), some (.inl 0), some (.inl 1)] [] h6)
                    else none)
                  else none
                else
                  some (some (.inl (-2)), h3)
              else none
            else none
          else none
        else
          some (some (.inl (-1)), h3))) :=
  (aB gP gX xs stp_304 29 d mm_304 0 _ _ h).trans rfl

set_option maxRecDepth 100000 in
set_option maxHeartbeats 4000000 in
theorem q_304_52 (xs : List Int) (d : Nat) (v0 : Int) (v1 : Int) (v2 : Int) (v3 : Int) (v4 : Int) (h : aH) : ev xs d mm_304 52 [some (.inr (.inr v0)), some (.inl v1), some (.inl v2), some (.inl v3), some (.inl v4)] [] h =
  bif aok h.1 v0 12 then
    bif aok h.1 v0 12 then
      bif ain h.1 (h.2 v0.toNat 30) 100 (w32 ((w32 (3 * (h.2 v0.toNat 18))) + v1)) then
        bif decide ((h.2 (h.2 v0.toNat 30).toNat (w32 ((w32 (3 * (h.2 v0.toNat 18))) + v1)).toNat) ≤ v4) then
          bif decide (¬ v2 = 0) then
            bif aok h.1 v0 12 then
              bif ain h.1 (h.2 v0.toNat 82) 100 (w32 ((w32 (8 * v1)) + v3)) then
                some (some (.inl (h.2 (h.2 v0.toNat 82).toNat (w32 ((w32 (8 * v1)) + v3)).toNat)), h)
              else none
            else none
          else
            some (some (.inl v3), h)
        else
          bif aok h.1 v0 12 then
            bif ain h.1 (h.2 v0.toNat 82) 100 (w32 ((w32 (8 * v1)) + v4)) then
              bif aok h.1 v0 12 then
                bif ain h.1 (h.2 v0.toNat 82) 100 (w32 ((w32 (8 * v1)) + v3)) then
                  bif decide ((h.2 (h.2 v0.toNat 82).toNat (w32 ((w32 (8 * v1)) + v4)).toNat) ≤ (h.2 (h.2 v0.toNat 82).toNat (w32 ((w32 (8 * v1)) + v3)).toNat)) then
                    ev xs d mm_304 52 [some (.inr (.inr v0)), some (.inl v1), some (.inl v2), some (.inl v3), some (.inl (w32 (v4 + 1)))] [] h
                  else
                    ev xs d mm_304 52 [some (.inr (.inr v0)), some (.inl v1), some (.inl v2), some (.inl v4), some (.inl (w32 (v4 + 1)))] [] h
                else none
              else none
            else none
          else none
      else none
    else none
  else none :=
  (aB gP gX xs stp_304 33 d mm_304 52 _ _ h).trans rfl

theorem c_304 (xs : List Int) (d : Nat) (v0 : Int) (v1 : Int) (v2 : Int) (h : aH) : cl xs (d + 1) 304 [.inr (.inr v0), .inl v1, .inl v2] h =
  bI (cl xs d 226 [.inl v1, .inl 0, .inl 2] h) (fun x2 h1 =>
    bif decide (x2 = 0) then
      some (some (.inl (-1)), h1)
    else
      bI (cl xs d 226 [.inl v2, .inl 0, .inl 1] h1) (fun x4 h3 =>
        bif decide (¬ x4 = 0) then
          bif aok h3.1 v0 12 then
            bif aok h3.1 v0 12 then
              bif ain h3.1 (h3.2 v0.toNat 30) 100 (w32 ((w32 (3 * (h3.2 v0.toNat 18))) + v1)) then
                bif decide (¬ (h3.2 (h3.2 v0.toNat 30).toNat (w32 ((w32 (3 * (h3.2 v0.toNat 18))) + v1)).toNat) = 0) then
                  bif aok h3.1 v0 12 && true then
                    bV (cl xs d 229 [.inr (.inr v0)] h3) (fun h5 =>
                    bif aok h5.1 v0 12 && true then
                      bV (cl xs d 303 [.inr (.inr v0)] h5) (fun h6 =>
                      ev xs d mm_304 52 [some (.inr (.inr v0)), some (.inl v1), some (.inl v2), some (.inl 0), some (.inl 1)] [] h6)
                    else none)
                  else none
                else
                  some (some (.inl (-2)), h3)
              else none
            else none
          else none
        else
          some (some (.inl (-1)), h3))) :=
  (show _ = ev xs d mm_304 0 [some (.inr (.inr v0)), some (.inl v1), some (.inl v2), none, none] [] h from rfl).trans (q_304_0 xs d v0 v1 v2 h)
def stp_305 : List Nat := [0, 12]
set_option maxRecDepth 100000 in
set_option maxHeartbeats 4000000 in
theorem q_305_0 (xs : List Int) (d : Nat) (v0 : Int) (h : aH) : ev xs d mm_305 0 [some (.inr (.inr v0)), none, none] [] h =
  bif aok h.1 v0 12 && true then
    bV (cl xs d 229 [.inr (.inr v0)] h) (fun h1 =>
    bif aok h1.1 v0 12 && true then
      bV (cl xs d 303 [.inr (.inr v0)] h1) (fun h2 =>
      ev xs d mm_305 12 [some (.inr (.inr v0)), some (.inl 0), some (.inl 0)] [] h2)
    else none)
  else none :=
  (aB gP gX xs stp_305 9 d mm_305 0 _ _ h).trans rfl

set_option maxRecDepth 100000 in
set_option maxHeartbeats 4000000 in
theorem q_305_12 (xs : List Int) (d : Nat) (v0 : Int) (v1 : Int) (v2 : Int) (h : aH) : ev xs d mm_305 12 [some (.inr (.inr v0)), some (.inl v1), some (.inl v2)] [] h =
  bif aok h.1 v0 12 then
    bif aok h.1 v0 12 then
      bif ain h.1 (h.2 v0.toNat 30) 100 (w32 (3 * (h.2 v0.toNat 18))) then
        bif decide ((h.2 (h.2 v0.toNat 30).toNat (w32 (3 * (h.2 v0.toNat 18))).toNat) ≤ v2) then
          some (some (.inl v1), h)
        else
          bif aok h.1 v0 12 then
            bif ain h.1 (h.2 v0.toNat 82) 100 v2 then
              bif decide (¬ (h.2 (h.2 v0.toNat 82).toNat v2.toNat) = 0) then
                ev xs d mm_305 12 [some (.inr (.inr v0)), some (.inl v1), some (.inl (w32 (v2 + 1)))] [] h
              else
                ev xs d mm_305 12 [some (.inr (.inr v0)), some (.inl (oor v1 (oshl 1 v2))), some (.inl (w32 (v2 + 1)))] [] h
            else none
          else none
      else none
    else none
  else none :=
  (aB gP gX xs stp_305 23 d mm_305 12 _ _ h).trans rfl

theorem c_305 (xs : List Int) (d : Nat) (v0 : Int) (h : aH) : cl xs (d + 1) 305 [.inr (.inr v0)] h =
  bif aok h.1 v0 12 && true then
    bV (cl xs d 229 [.inr (.inr v0)] h) (fun h1 =>
    bif aok h1.1 v0 12 && true then
      bV (cl xs d 303 [.inr (.inr v0)] h1) (fun h2 =>
      ev xs d mm_305 12 [some (.inr (.inr v0)), some (.inl 0), some (.inl 0)] [] h2)
    else none)
  else none :=
  (show _ = ev xs d mm_305 0 [some (.inr (.inr v0)), none, none] [] h from rfl).trans (q_305_0 xs d v0 h)
def stp_306 : List Nat := [0]
set_option maxRecDepth 100000 in
set_option maxHeartbeats 4000000 in
theorem q_306_0 (xs : List Int) (d : Nat) (v0 : Int) (v1 : Int) (v2 : Int) (h : aH) : ev xs d mm_306 0 [some (.inr (.inr v0)), some (.inl v1), some (.inl v2), none] [] h =
  bif aok h.1 v0 12 && true then
    bI (cl xs d 232 [.inr (.inr v0), .inl v1, .inl v2] h) (fun x2 h1 =>
    bif decide (¬ x2 = 0) then
      bif aok h1.1 v0 12 && true then
        bV (cl xs d 229 [.inr (.inr v0)] h1) (fun h3 =>
        bif aok h3.1 v0 12 && true then
          bI (cl xs d 268 [.inr (.inr v0)] h3) (fun x5 h4 =>
          bif aok h4.1 v0 12 && true then
            bI (cl xs d 266 [.inr (.inr v0), .inl x5, .inl (w32 ((w32 (8 * v1)) + v2))] h4) (fun x7 h6 =>
            bif aok h6.1 v0 12 then
              bif ain h6.1 (h6.2 v0.toNat 64) 101 (w32 ((w32 (20 + (w32 (8 * v1)))) + v2)) then
                bif decide (0 ≤ (w32 (x7 - (ol2i (h6.2 (h6.2 v0.toNat 64).toNat (w32 ((w32 (20 + (w32 (8 * v1)))) + v2)).toNat))))) then
                  some (some (.inl (w32 (x7 - (ol2i (h6.2 (h6.2 v0.toNat 64).toNat (w32 ((w32 (20 + (w32 (8 * v1)))) + v2)).toNat))))), h6)
                else
                  some (some (.inl 0), h6)
              else none
            else none)
          else none)
        else none)
      else none
    else
      some (some (.inl (-1)), h1))
  else none :=
  (aB gP gX xs stp_306 35 d mm_306 0 _ _ h).trans rfl

theorem c_306 (xs : List Int) (d : Nat) (v0 : Int) (v1 : Int) (v2 : Int) (h : aH) : cl xs (d + 1) 306 [.inr (.inr v0), .inl v1, .inl v2] h =
  bif aok h.1 v0 12 && true then
    bI (cl xs d 232 [.inr (.inr v0), .inl v1, .inl v2] h) (fun x2 h1 =>
    bif decide (¬ x2 = 0) then
      bif aok h1.1 v0 12 && true then
        bV (cl xs d 229 [.inr (.inr v0)] h1) (fun h3 =>
        bif aok h3.1 v0 12 && true then
          bI (cl xs d 268 [.inr (.inr v0)] h3) (fun x5 h4 =>
          bif aok h4.1 v0 12 && true then
            bI (cl xs d 266 [.inr (.inr v0), .inl x5, .inl (w32 ((w32 (8 * v1)) + v2))] h4) (fun x7 h6 =>
            bif aok h6.1 v0 12 then
              bif ain h6.1 (h6.2 v0.toNat 64) 101 (w32 ((w32 (20 + (w32 (8 * v1)))) + v2)) then
                bif decide (0 ≤ (w32 (x7 - (ol2i (h6.2 (h6.2 v0.toNat 64).toNat (w32 ((w32 (20 + (w32 (8 * v1)))) + v2)).toNat))))) then
                  some (some (.inl (w32 (x7 - (ol2i (h6.2 (h6.2 v0.toNat 64).toNat (w32 ((w32 (20 + (w32 (8 * v1)))) + v2)).toNat))))), h6)
                else
                  some (some (.inl 0), h6)
              else none
            else none)
          else none)
        else none)
      else none
    else
      some (some (.inl (-1)), h1))
  else none :=
  (show _ = ev xs d mm_306 0 [some (.inr (.inr v0)), some (.inl v1), some (.inl v2), none] [] h from rfl).trans (q_306_0 xs d v0 v1 v2 h)
def stp_307 : List Nat := [0, 4]
set_option maxRecDepth 100000 in
set_option maxHeartbeats 4000000 in
theorem q_307_0 (xs : List Int) (d : Nat) (v0 : Int) (v1 : Int) (h : aH) : ev xs d mm_307 0 [some (.inr (.inr v0)), some (.inl v1), none, none] [] h =
  ev xs d mm_307 4 [some (.inr (.inr v0)), some (.inl v1), some (.inl 0), some (.inl 0)] [] h :=
  (aB gP gX xs stp_307 5 d mm_307 0 _ _ h).trans rfl

set_option maxRecDepth 100000 in
set_option maxHeartbeats 4000000 in
theorem q_307_4 (xs : List Int) (d : Nat) (v0 : Int) (v1 : Int) (v2 : Int) (v3 : Int) (h : aH) : ev xs d mm_307 4 [some (.inr (.inr v0)), some (.inl v1), some (.inl v2), some (.inl v3)] [] h =
  bif aok h.1 v0 12 then
    bif aok h.1 v0 12 then
      bif ain h.1 (h.2 v0.toNat 39) 100 (h.2 v0.toNat 18) then
        bif decide ((h.2 (h.2 v0.toNat 39).toNat (h.2 v0.toNat 18).toNat) ≤ v3) then
          some (some (.inl v2), h)
        else
          bif decide (¬ (oand (oshr v1 v3) 1) = 1) then
            ev xs d mm_307 4 [some (.inr (.inr v0)), some (.inl v1), some (.inl v2), some (.inl (w32 (v3 + 1)))] [] h
          else
            bif aok h.1 v0 12 then
              bif aok h.1 v0 12 then
                bif ain h.1 (h.2 v0.toNat 40) 100 (w32 ((w32 (5 * (h.2 v0.toNat 18))) + v3)) then
                  ev xs d mm_307 4 [some (.inr (.inr v0)), some (.inl v1), some (.inl (w32 (v2 + (h.2 (h.2 v0.toNat 40).toNat (w32 ((w32 (5 * (h.2 v0.toNat 18))) + v3)).toNat)))), some (.inl (w32 (v3 + 1)))] [] h
                else none
              else none
            else none
      else none
    else none
  else none :=
  (aB gP gX xs stp_307 29 d mm_307 4 _ _ h).trans rfl

theorem c_307 (xs : List Int) (d : Nat) (v0 : Int) (v1 : Int) (h : aH) : cl xs (d + 1) 307 [.inr (.inr v0), .inl v1] h =
  ev xs d mm_307 4 [some (.inr (.inr v0)), some (.inl v1), some (.inl 0), some (.inl 0)] [] h :=
  (show _ = ev xs d mm_307 0 [some (.inr (.inr v0)), some (.inl v1), none, none] [] h from rfl).trans (q_307_0 xs d v0 v1 h)
def stp_308 : List Nat := [0, 19]
set_option maxRecDepth 100000 in
set_option maxHeartbeats 4000000 in
theorem q_308_0 (xs : List Int) (d : Nat) (v0 : Int) (v1 : Int) (h : aH) : ev xs d mm_308 0 [some (.inr (.inr v0)), some (.inl v1), none, none] [] h =
  bI (cl xs d 226 [.inl v1, .inl 0, .inl 1] h) (fun x2 h1 =>
    bif decide (¬ x2 = 0) then
      bif aok h1.1 v0 12 && true then
        bV (cl xs d 229 [.inr (.inr v0)] h1) (fun h3 =>
        ev xs d mm_308 19 [some (.inr (.inr v0)), some (.inl v1), some (.inl 0), some (.inl 1)] [] h3)
      else none
    else
      some (some (.inl (-1)), h1)) :=
  (aB gP gX xs stp_308 12 d mm_308 0 _ _ h).trans rfl

set_option maxRecDepth 100000 in
set_option maxHeartbeats 4000000 in
theorem q_308_19 (xs : List Int) (d : Nat) (v0 : Int) (v1 : Int) (v2 : Int) (v3 : Int) (h : aH) : ev xs d mm_308 19 [some (.inr (.inr v0)), some (.inl v1), some (.inl v2), some (.inl v3)] [] h =
  bif aok h.1 v0 12 then
    bif aok h.1 v0 12 then
      bif ain h.1 (h.2 v0.toNat 39) 100 (h.2 v0.toNat 18) then
        bif decide ((oshl 1 (h.2 (h.2 v0.toNat 39).toNat (h.2 v0.toNat 18).toNat)) ≤ v3) then
          bif decide (¬ v1 = 0) then
            some (some (.inl v2), h)
          else
            bif aok h.1 v0 12 && true then
              bI (cl xs d 307 [.inr (.inr v0), .inl v2] h) (fun x2 h1 =>
              some (some (.inl x2), h1))
            else none
        else
          bif aok h.1 v0 12 && true then
            bI (cl xs d 268 [.inr (.inr v0)] h) (fun x4 h3 =>
            bif decide (¬ (oand v3 (oxor x4 (-1))) = 0) then
              ev xs d mm_308 19 [some (.inr (.inr v0)), some (.inl v1), some (.inl v2), some (.inl (w32 (v3 + 1)))] [] h3
            else
              bif aok h3.1 v0 12 && true then
                bI (cl xs d 267 [.inr (.inr v0), .inl v3] h3) (fun x6 h5 =>
                bif decide (x6 = 0) then
                  ev xs d mm_308 19 [some (.inr (.inr v0)), some (.inl v1), some (.inl v2), some (.inl (w32 (v3 + 1)))] [] h5
                else
                  bif aok h5.1 v0 12 && true then
                    bI (cl xs d 307 [.inr (.inr v0), .inl v3] h5) (fun x8 h7 =>
                    bif aok h7.1 v0 12 && true then
                      bI (cl xs d 307 [.inr (.inr v0), .inl v2] h7) (fun x10 h9 =>
                      bif decide (x8 ≤ x10) then
                        ev xs d mm_308 19 [some (.inr (.inr v0)), some (.inl v1), some (.inl v2), some (.inl (w32 (v3 + 1)))] [] h9
                      else
                        ev xs d mm_308 19 [some (.inr (.inr v0)), some (.inl v1), some (.inl v3), some (.inl (w32 (v3 + 1)))] [] h9)
                    else none)
                  else none)
              else none)
          else none
      else none
    else none
  else none :=
  (aB gP gX xs stp_308 32 d mm_308 19 _ _ h).trans rfl

theorem c_308 (xs : List Int) (d : Nat) (v0 : Int) (v1 : Int) (h : aH) : cl xs (d + 1) 308 [.inr (.inr v0), .inl v1] h =
  bI (cl xs d 226 [.inl v1, .inl 0, .inl 1] h) (fun x2 h1 =>
    bif decide (¬ x2 = 0) then
      bif aok h1.1 v0 12 && true then
        bV (cl xs d 229 [.inr (.inr v0)] h1) (fun h3 =>
        ev xs d mm_308 19 [some (.inr (.inr v0)), some (.inl v1), some (.inl 0), some (.inl 1)] [] h3)
      else none
    else
      some (some (.inl (-1)), h1)) :=
  (show _ = ev xs d mm_308 0 [some (.inr (.inr v0)), some (.inl v1), none, none] [] h from rfl).trans (q_308_0 xs d v0 v1 h)
def stp_309 : List Nat := [0, 6]
set_option maxRecDepth 100000 in
set_option maxHeartbeats 4000000 in
theorem q_309_0 (xs : List Int) (d : Nat) (v0 : Int) (v1 : Int) (h : aH) : ev xs d mm_309 0 [some (.inr (.inr v0)), some (.inl v1), none] [] h =
  bif aok h.1 v0 12 && true then
    bV (cl xs d 229 [.inr (.inr v0)] h) (fun h1 =>
    ev xs d mm_309 6 [some (.inr (.inr v0)), some (.inl v1), some (.inl 0)] [] h1)
  else none :=
  (aB gP gX xs stp_309 5 d mm_309 0 _ _ h).trans rfl

set_option maxRecDepth 100000 in
set_option maxHeartbeats 4000000 in
theorem q_309_6 (xs : List Int) (d : Nat) (v0 : Int) (v1 : Int) (v2 : Int) (h : aH) : ev xs d mm_309 6 [some (.inr (.inr v0)), some (.inl v1), some (.inl v2)] [] h =
  bif decide (v1 ≤ v2) then
    some (none, h)
  else
    bif aok h.1 v0 12 && true then
      bV (cl xs d 273 [.inr (.inr v0)] h) (fun h1 =>
      ev xs d mm_309 6 [some (.inr (.inr v0)), some (.inl v1), some (.inl (w32 (v2 + 1)))] [] h1)
    else none :=
  (aB gP gX xs stp_309 8 d mm_309 6 _ _ h).trans rfl

theorem c_309 (xs : List Int) (d : Nat) (v0 : Int) (v1 : Int) (h : aH) : cl xs (d + 1) 309 [.inr (.inr v0), .inl v1] h =
  bif aok h.1 v0 12 && true then
    bV (cl xs d 229 [.inr (.inr v0)] h) (fun h1 =>
    ev xs d mm_309 6 [some (.inr (.inr v0)), some (.inl v1), some (.inl 0)] [] h1)
  else none :=
  (show _ = ev xs d mm_309 0 [some (.inr (.inr v0)), some (.inl v1), none] [] h from rfl).trans (q_309_0 xs d v0 v1 h)
def stp_310 : List Nat := [0]
set_option maxRecDepth 100000 in
set_option maxHeartbeats 4000000 in
theorem q_310_0 (xs : List Int) (d : Nat) (v0 : Int) (v1 : Int) (v2 : Int) (v3 : Int) (h : aH) : ev xs d mm_310 0 [some (.inr (.inr v0)), some (.inl v1), some (.inl v2), some (.inl v3)] [] h =
  bif aok h.1 v0 12 && true then
    bI (cl xs d 230 [.inr (.inr v0), .inl v1] h) (fun x2 h1 =>
    bif decide (x2 = 0) then
      some (some (.inl (-1)), h1)
    else
      bI (cl xs d 226 [.inl v2, .inl 0, .inl 300] h1) (fun x4 h3 =>
        bif decide (x4 = 0) then
          some (some (.inl (-1)), h3)
        else
          bI (cl xs d 226 [.inl v3, .inl 0, .inl 9] h3) (fun x6 h5 =>
            bif decide (¬ x6 = 0) then
              bif aok h5.1 v0 12 && true then
                bV (cl xs d 309 [.inr (.inr v0), .inl v2] h5) (fun h7 =>
                bif decide (¬ v3 = 9) then
                  bif aok h7.1 v0 12 then
                    bif ain h7.1 (h7.2 v0.toNat 64) 101 v1 then
                      bI (cl xs d 242 [.inr (.inl (h7.2 (h7.2 v0.toNat 64).toNat v1.toNat)), .inl v3] h7) (fun x9 h8 =>
                        some (some (.inl x9), h8))
                    else none
                  else none
                else
                  bif aok h7.1 v0 12 then
                    bif ain h7.1 (h7.2 v0.toNat 64) 101 (w32 (10 + v1)) then
                      some (some (.inl (ol2i (h7.2 (h7.2 v0.toNat 64).toNat (w32 (10 + v1)).toNat))), h7)
                    else none
                  else none)
              else none
            else
              some (some (.inl (-1)), h5))))
  else none :=
  (aB gP gX xs stp_310 30 d mm_310 0 _ _ h).trans rfl

theorem c_310 (xs : List Int) (d : Nat) (v0 : Int) (v1 : Int) (v2 : Int) (v3 : Int) (h : aH) : cl xs (d + 1) 310 [.inr (.inr v0), .inl v1, .inl v2, .inl v3] h =
  bif aok h.1 v0 12 && true then
    bI (cl xs d 230 [.inr (.inr v0), .inl v1] h) (fun x2 h1 =>
    bif decide (x2 = 0) then
      some (some (.inl (-1)), h1)
    else
      bI (cl xs d 226 [.inl v2, .inl 0, .inl 300] h1) (fun x4 h3 =>
        bif decide (x4 = 0) then
          some (some (.inl (-1)), h3)
        else
          bI (cl xs d 226 [.inl v3, .inl 0, .inl 9] h3) (fun x6 h5 =>
            bif decide (¬ x6 = 0) then
              bif aok h5.1 v0 12 && true then
                bV (cl xs d 309 [.inr (.inr v0), .inl v2] h5) (fun h7 =>
                bif decide (¬ v3 = 9) then
                  bif aok h7.1 v0 12 then
                    bif ain h7.1 (h7.2 v0.toNat 64) 101 v1 then
                      bI (cl xs d 242 [.inr (.inl (h7.2 (h7.2 v0.toNat 64).toNat v1.toNat)), .inl v3] h7) (fun x9 h8 =>
                        some (some (.inl x9), h8))
                    else none
                  else none
                else
                  bif aok h7.1 v0 12 then
                    bif ain h7.1 (h7.2 v0.toNat 64) 101 (w32 (10 + v1)) then
                      some (some (.inl (ol2i (h7.2 (h7.2 v0.toNat 64).toNat (w32 (10 + v1)).toNat))), h7)
                    else none
                  else none)
              else none
            else
              some (some (.inl (-1)), h5))))
  else none :=
  (show _ = ev xs d mm_310 0 [some (.inr (.inr v0)), some (.inl v1), some (.inl v2), some (.inl v3)] [] h from rfl).trans (q_310_0 xs d v0 v1 v2 v3 h)
def stp_311 : List Nat := [0]
set_option maxRecDepth 100000 in
set_option maxHeartbeats 4000000 in
theorem q_311_0 (xs : List Int) (d : Nat) (v0 : Int) (v1 : Int) (h : aH) : ev xs d mm_311 0 [some (.inr (.inr v0)), some (.inl v1)] [] h =
  bI (cl xs d 226 [.inl v1, .inl 0, .inl 300] h) (fun x2 h1 =>
    bif decide (¬ x2 = 0) then
      bif aok h1.1 v0 12 && true then
        bV (cl xs d 309 [.inr (.inr v0), .inl v1] h1) (fun h3 =>
        bif aok h3.1 v0 12 && true then
          bI (cl xs d 234 [.inr (.inr v0)] h3) (fun x5 h4 =>
          some (some (.inl x5), h4))
        else none)
      else none
    else
      some (some (.inl (-1)), h1)) :=
  (aB gP gX xs stp_311 12 d mm_311 0 _ _ h).trans rfl

theorem c_311 (xs : List Int) (d : Nat) (v0 : Int) (v1 : Int) (h : aH) : cl xs (d + 1) 311 [.inr (.inr v0), .inl v1] h =
  bI (cl xs d 226 [.inl v1, .inl 0, .inl 300] h) (fun x2 h1 =>
    bif decide (¬ x2 = 0) then
      bif aok h1.1 v0 12 && true then
        bV (cl xs d 309 [.inr (.inr v0), .inl v1] h1) (fun h3 =>
        bif aok h3.1 v0 12 && true then
          bI (cl xs d 234 [.inr (.inr v0)] h3) (fun x5 h4 =>
          some (some (.inl x5), h4))
        else none)
      else none
    else
      some (some (.inl (-1)), h1)) :=
  (show _ = ev xs d mm_311 0 [some (.inr (.inr v0)), some (.inl v1)] [] h from rfl).trans (q_311_0 xs d v0 v1 h)
def stp_312 : List Nat := [0, 27]
set_option maxRecDepth 100000 in
set_option maxHeartbeats 4000000 in
theorem q_312_0 (xs : List Int) (d : Nat) (v0 : Int) (v1 : Int) (h : aH) : ev xs d mm_312 0 [some (.inr (.inr v0)), some (.inl v1), none] [] h =
  bif aok h.1 v0 12 && true then
    bI (cl xs d 230 [.inr (.inr v0), .inl v1] h) (fun x2 h1 =>
    bif decide (¬ x2 = 0) then
      bif aok h1.1 v0 12 && true then
        bV (cl xs d 229 [.inr (.inr v0)] h1) (fun h3 =>
        bif aok h3.1 v0 12 && true then
          bI (cl xs d 233 [.inr (.inr v0), .inl v1] h3) (fun x5 h4 =>
          bif decide (¬ x5 = 0) then
            ev xs d mm_312 27 [some (.inr (.inr v0)), some (.inl v1), some (.inl 1)] [] h4
          else
            some (some (.inl (-2)), h4))
        else none)
      else none
    else
      some (some (.inl (-1)), h1))
  else none :=
  (aB gP gX xs stp_312 13 d mm_312 0 _ _ h).trans rfl

set_option maxRecDepth 100000 in
set_option maxHeartbeats 4000000 in
theorem q_312_27 (xs : List Int) (d : Nat) (v0 : Int) (v1 : Int) (v2 : Int) (h : aH) : ev xs d mm_312 27 [some (.inr (.inr v0)), some (.inl v1), some (.inl v2)] [] h =
  bif decide (300 < v2) then
    some (some (.inl (-2)), h)
  else
    bif aok h.1 v0 12 && true then
      bV (cl xs d 273 [.inr (.inr v0)] h) (fun h1 =>
      bif aok h1.1 v0 12 && true then
        bI (cl xs d 233 [.inr (.inr v0), .inl v1] h1) (fun x3 h2 =>
        bif decide (¬ x3 = 0) then
          ev xs d mm_312 27 [some (.inr (.inr v0)), some (.inl v1), some (.inl (w32 (v2 + 1)))] [] h2
        else
          some (some (.inl v2), h2))
      else none)
    else none :=
  (aB gP gX xs stp_312 12 d mm_312 27 _ _ h).trans rfl

theorem c_312 (xs : List Int) (d : Nat) (v0 : Int) (v1 : Int) (h : aH) : cl xs (d + 1) 312 [.inr (.inr v0), .inl v1] h =
  bif aok h.1 v0 12 && true then
    bI (cl xs d 230 [.inr (.inr v0), .inl v1] h) (fun x2 h1 =>
    bif decide (¬ x2 = 0) then
      bif aok h1.1 v0 12 && true then
        bV (cl xs d 229 [.inr (.inr v0)] h1) (fun h3 =>
        bif aok h3.1 v0 12 && true then
          bI (cl xs d 233 [.inr (.inr v0), .inl v1] h3) (fun x5 h4 =>
          bif decide (¬ x5 = 0) then
            ev xs d mm_312 27 [some (.inr (.inr v0)), some (.inl v1), some (.inl 1)] [] h4
          else
            some (some (.inl (-2)), h4))
        else none)
      else none
    else
      some (some (.inl (-1)), h1))
  else none :=
  (show _ = ev xs d mm_312 0 [some (.inr (.inr v0)), some (.inl v1), none] [] h from rfl).trans (q_312_0 xs d v0 v1 h)
def stp_313 : List Nat := [0, 20]
set_option maxRecDepth 100000 in
set_option maxHeartbeats 4000000 in
theorem q_313_0 (xs : List Int) (d : Nat) (v0 : Int) (v1 : Int) (h : aH) : ev xs d mm_313 0 [some (.inr (.inr v0)), some (.inl v1), none] [] h =
  bI (cl xs d 226 [.inl v1, .inl 0, .inl 2] h) (fun x2 h1 =>
    bif decide (¬ x2 = 0) then
      bif aok h1.1 v0 12 then
        bif ain h1.1 (h1.2 v0.toNat 83) 103 v1 && true then
          ev xs d mm_313 20 [some (.inr (.inr v0)), some (.inl v1), some (.inl 0)] [] (h1.1, aup h1.2 (h1.2 v0.toNat 83).toNat v1.toNat 1)
        else none
      else none
    else
      some (some (.inl 0), h1)) :=
  (aB gP gX xs stp_313 13 d mm_313 0 _ _ h).trans rfl

set_option maxRecDepth 100000 in
set_option maxHeartbeats 4000000 in
theorem q_313_20 (xs : List Int) (d : Nat) (v0 : Int) (v1 : Int) (v2 : Int) (h : aH) : ev xs d mm_313 20 [some (.inr (.inr v0)), some (.inl v1), some (.inl v2)] [] h =
  bif decide (60 ≤ v2) then
    some (some (.inl 1), h)
  else
    bif aok h.1 v0 12 then
      bif aok h.1 v0 12 then
        bif ain h.1 (h.2 v0.toNat 63) 101 v2 then
          bif ain h.1 (h.2 v0.toNat 84) 101 (w32 ((w32 (60 * v1)) + v2)) then
            ev xs d mm_313 20 [some (.inr (.inr v0)), some (.inl v1), some (.inl (w32 (v2 + 1)))] [] (h.1, aup h.2 (h.2 v0.toNat 84).toNat (w32 ((w32 (60 * v1)) + v2)).toNat (h.2 (h.2 v0.toNat 63).toNat v2.toNat))
          else none
        else none
      else none
    else none :=
  (aB gP gX xs stp_313 18 d mm_313 20 _ _ h).trans rfl

theorem c_313 (xs : List Int) (d : Nat) (v0 : Int) (v1 : Int) (h : aH) : cl xs (d + 1) 313 [.inr (.inr v0), .inl v1] h =
  bI (cl xs d 226 [.inl v1, .inl 0, .inl 2] h) (fun x2 h1 =>
    bif decide (¬ x2 = 0) then
      bif aok h1.1 v0 12 then
        bif ain h1.1 (h1.2 v0.toNat 83) 103 v1 && true then
          ev xs d mm_313 20 [some (.inr (.inr v0)), some (.inl v1), some (.inl 0)] [] (h1.1, aup h1.2 (h1.2 v0.toNat 83).toNat v1.toNat 1)
        else none
      else none
    else
      some (some (.inl 0), h1)) :=
  (show _ = ev xs d mm_313 0 [some (.inr (.inr v0)), some (.inl v1), none] [] h from rfl).trans (q_313_0 xs d v0 v1 h)
def stp_314 : List Nat := [0, 22]
set_option maxRecDepth 100000 in
set_option maxHeartbeats 4000000 in
theorem q_314_0 (xs : List Int) (d : Nat) (v0 : Int) (v1 : Int) (h : aH) : ev xs d mm_314 0 [some (.inr (.inr v0)), some (.inl v1), none] [] h =
  bI (cl xs d 226 [.inl v1, .inl 0, .inl 2] h) (fun x2 h1 =>
    bif decide (x2 = 0) then
      some (some (.inl 0), h1)
    else
      bif aok h1.1 v0 12 then
        bif ain h1.1 (h1.2 v0.toNat 83) 103 v1 then
          bif decide (¬ (h1.2 (h1.2 v0.toNat 83).toNat v1.toNat) = 0) then
            ev xs d mm_314 22 [some (.inr (.inr v0)), some (.inl v1), some (.inl 0)] [] h1
          else
            some (some (.inl 0), h1)
        else none
      else none) :=
  (aB gP gX xs stp_314 13 d mm_314 0 _ _ h).trans rfl

set_option maxRecDepth 100000 in
set_option maxHeartbeats 4000000 in
theorem q_314_22 (xs : List Int) (d : Nat) (v0 : Int) (v1 : Int) (v2 : Int) (h : aH) : ev xs d mm_314 22 [some (.inr (.inr v0)), some (.inl v1), some (.inl v2)] [] h =
  bif decide (60 ≤ v2) then
    bif aok h.1 v0 12 then
      some (some (.inl 1), (h.1, aup h.2 v0.toNat 70 0))
    else none
  else
    bif aok h.1 v0 12 then
      bif aok h.1 v0 12 then
        bif ain h.1 (h.2 v0.toNat 84) 101 (w32 ((w32 (60 * v1)) + v2)) then
          bif ain h.1 (h.2 v0.toNat 63) 101 v2 then
            ev xs d mm_314 22 [some (.inr (.inr v0)), some (.inl v1), some (.inl (w32 (v2 + 1)))] [] (h.1, aup h.2 (h.2 v0.toNat 63).toNat v2.toNat (h.2 (h.2 v0.toNat 84).toNat (w32 ((w32 (60 * v1)) + v2)).toNat))
          else none
        else none
      else none
    else none :=
  (aB gP gX xs stp_314 18 d mm_314 22 _ _ h).trans rfl

theorem c_314 (xs : List Int) (d : Nat) (v0 : Int) (v1 : Int) (h : aH) : cl xs (d + 1) 314 [.inr (.inr v0), .inl v1] h =
  bI (cl xs d 226 [.inl v1, .inl 0, .inl 2] h) (fun x2 h1 =>
    bif decide (x2 = 0) then
      some (some (.inl 0), h1)
    else
      bif aok h1.1 v0 12 then
        bif ain h1.1 (h1.2 v0.toNat 83) 103 v1 then
          bif decide (¬ (h1.2 (h1.2 v0.toNat 83).toNat v1.toNat) = 0) then
            ev xs d mm_314 22 [some (.inr (.inr v0)), some (.inl v1), some (.inl 0)] [] h1
          else
            some (some (.inl 0), h1)
        else none
      else none) :=
  (show _ = ev xs d mm_314 0 [some (.inr (.inr v0)), some (.inl v1), none] [] h from rfl).trans (q_314_0 xs d v0 v1 h)
def stp_315 : List Nat := [0, 108, 171, 198, 226, 247, 255]
set_option maxRecDepth 100000 in
set_option maxHeartbeats 4000000 in
theorem q_315_0 (xs : List Int) (d : Nat) (v0 : Int) (v1 : Int) (h : aH) : ev xs d mm_315 0 [some (.inr (.inr v0)), some (.inl v1), none, none, none] [] h =
  bif aok h.1 v0 12 && true then
    bV (cl xs d 229 [.inr (.inr v0)] h) (fun h1 =>
    ev xs d mm_315 (asw 5 319 0 16 #[83, 93, 103, 103, 103, 119, 129, 139, 148, 157, 166, 174, 183, 188, 193, 238, 309] v1) [some (.inr (.inr v0)), some (.inl v1), none, none, none] [] h1)
  else none :=
  (aB gP gX xs stp_315 3 d mm_315 0 _ _ h).trans rfl

set_option maxRecDepth 100000 in
set_option maxHeartbeats 4000000 in
theorem q_315_108 (xs : List Int) (d : Nat) (v0 : Int) (v1 : Int) (u2 : Option aV) (u3 : Option aV) (u4 : Option aV) (h : aH) : ev xs d mm_315 108 [some (.inr (.inr v0)), some (.inl v1), u2, u3, u4] [] h =
  bif aok h.1 v0 12 then
    bif aok h.1 v0 12 then
      bif ain h.1 (h.2 v0.toNat 30) 100 (w32 ((w32 ((w32 (3 * (h.2 v0.toNat 18))) + v1)) - 2)) then
        some (some (.inl (h.2 (h.2 v0.toNat 30).toNat (w32 ((w32 ((w32 (3 * (h.2 v0.toNat 18))) + v1)) - 2)).toNat)), h)
      else none
    else none
  else none :=
  (aB gP gX xs stp_315 13 d mm_315 108 _ _ h).trans rfl

set_option maxRecDepth 100000 in
set_option maxHeartbeats 4000000 in
theorem q_315_171 (xs : List Int) (d : Nat) (v0 : Int) (v1 : Int) (u2 : Option aV) (u3 : Option aV) (u4 : Option aV) (h : aH) : ev xs d mm_315 171 [some (.inr (.inr v0)), some (.inl v1), u2, u3, u4] [] h =
  bif aok h.1 v0 12 && true then
    bI (cl xs d 234 [.inr (.inr v0)] h) (fun x2 h1 =>
    bI (cl xs d 235 [.inl x2] h1) (fun x4 h3 =>
      some (some (.inl x4), h3)))
  else none :=
  (aB gP gX xs stp_315 5 d mm_315 171 _ _ h).trans rfl

set_option maxRecDepth 100000 in
set_option maxHeartbeats 4000000 in
theorem q_315_198 (xs : List Int) (d : Nat) (v0 : Int) (v1 : Int) (u2 : Option aV) (u3 : Option aV) (u4 : Option aV) (h : aH) : ev xs d mm_315 198 [some (.inr (.inr v0)), some (.inl v1), u2, u3, u4] [] h =
  bif aok h.1 v0 12 then
    bif ain h.1 (h.2 v0.toNat 83) 103 0 then
      bif decide ((h.2 (h.2 v0.toNat 83).toNat (0 : Int).toNat) = 0) then
        bif aok h.1 v0 12 then
          bif ain h.1 (h.2 v0.toNat 83) 103 1 then
            bif decide ((h.2 (h.2 v0.toNat 83).toNat (1 : Int).toNat) = 0) then
              ev xs d mm_315 226 [some (.inr (.inr v0)), some (.inl v1), u2, u3, u4] [.inl 0, .inl 0] h
            else
              ev xs d mm_315 226 [some (.inr (.inr v0)), some (.inl v1), u2, u3, u4] [.inl 1, .inl 0] h
          else none
        else none
      else
        bif aok h.1 v0 12 then
          bif ain h.1 (h.2 v0.toNat 83) 103 1 then
            bif decide ((h.2 (h.2 v0.toNat 83).toNat (1 : Int).toNat) = 0) then
              ev xs d mm_315 226 [some (.inr (.inr v0)), some (.inl v1), u2, u3, u4] [.inl 0, .inl 1] h
            else
              ev xs d mm_315 226 [some (.inr (.inr v0)), some (.inl v1), u2, u3, u4] [.inl 1, .inl 1] h
          else none
        else none
    else none
  else none :=
  (aB gP gX xs stp_315 15 d mm_315 198 _ _ h).trans rfl

set_option maxRecDepth 100000 in
set_option maxHeartbeats 4000000 in
theorem q_315_226 (xs : List Int) (d : Nat) (v0 : Int) (v1 : Int) (u2 : Option aV) (u3 : Option aV) (u4 : Option aV) (s0 : Int) (s1 : Int) (h : aH) : ev xs d mm_315 226 [some (.inr (.inr v0)), some (.inl v1), u2, u3, u4] [.inl s1, .inl s0] h =
  bif aok h.1 v0 12 then
    bif ain h.1 (h.2 v0.toNat 83) 103 2 then
      bif decide ((h.2 (h.2 v0.toNat 83).toNat (2 : Int).toNat) = 0) then
        some (some (.inl (w32 ((w32 (s0 + s1)) + 0))), h)
      else
        some (some (.inl (w32 ((w32 (s0 + s1)) + 1))), h)
    else none
  else none :=
  (aB gP gX xs stp_315 11 d mm_315 226 _ _ h).trans rfl

set_option maxRecDepth 100000 in
set_option maxHeartbeats 4000000 in
theorem q_315_247 (xs : List Int) (d : Nat) (v0 : Int) (v1 : Int) (v2 : Int) (v3 : Int) (u4 : Option aV) (h : aH) : ev xs d mm_315 247 [some (.inr (.inr v0)), some (.inl v1), some (.inl v2), some (.inl v3), u4] [] h =
  bif decide (3 ≤ v3) then
    some (some (.inl v2), h)
  else
    ev xs d mm_315 255 [some (.inr (.inr v0)), some (.inl v1), some (.inl v2), some (.inl v3), some (.inl 0)] [] h :=
  (aB gP gX xs stp_315 6 d mm_315 247 _ _ h).trans rfl

set_option maxRecDepth 100000 in
set_option maxHeartbeats 4000000 in
theorem q_315_255 (xs : List Int) (d : Nat) (v0 : Int) (v1 : Int) (v2 : Int) (v3 : Int) (v4 : Int) (h : aH) : ev xs d mm_315 255 [some (.inr (.inr v0)), some (.inl v1), some (.inl v2), some (.inl v3), some (.inl v4)] [] h =
  bif aok h.1 v0 12 then
    bif aok h.1 v0 12 then
      bif ain h.1 (h.2 v0.toNat 30) 100 (w32 ((w32 (3 * (h.2 v0.toNat 18))) + v3)) then
        bif decide ((h.2 (h.2 v0.toNat 30).toNat (w32 ((w32 (3 * (h.2 v0.toNat 18))) + v3)).toNat) ≤ v4) then
          ev xs d mm_315 247 [some (.inr (.inr v0)), some (.inl v1), some (.inl v2), some (.inl (w32 (v3 + 1))), some (.inl v4)] [] h
        else
          bif aok h.1 v0 12 then
            bif ain h.1 (h.2 v0.toNat 64) 101 (w32 ((w32 (20 + (w32 (8 * v3)))) + v4)) then
              bif aok h.1 v0 12 && true then
                bI (cl xs d 262 [.inr (.inr v0), .inl v3, .inl v4] h) (fun x2 h1 =>
                ev xs d mm_315 255 [some (.inr (.inr v0)), some (.inl v1), some (.inl (w32 (v2 + (w32 ((ol2i (h.2 (h.2 v0.toNat 64).toNat (w32 ((w32 (20 + (w32 (8 * v3)))) + v4)).toNat)) * x2))))), some (.inl v3), some (.inl (w32 (v4 + 1)))] [] h1)
              else none
            else none
          else none
      else none
    else none
  else none :=
  (aB gP gX xs stp_315 33 d mm_315 255 _ _ h).trans rfl

theorem c_315 (xs : List Int) (d : Nat) (v0 : Int) (v1 : Int) (h : aH) : cl xs (d + 1) 315 [.inr (.inr v0), .inl v1] h =
  bif aok h.1 v0 12 && true then
    bV (cl xs d 229 [.inr (.inr v0)] h) (fun h1 =>
    ev xs d mm_315 (asw 5 319 0 16 #[83, 93, 103, 103, 103, 119, 129, 139, 148, 157, 166, 174, 183, 188, 193, 238, 309] v1) [some (.inr (.inr v0)), some (.inl v1), none, none, none] [] h1)
  else none :=
  (show _ = ev xs d mm_315 0 [some (.inr (.inr v0)), some (.inl v1), none, none, none] [] h from rfl).trans (q_315_0 xs d v0 v1 h)
def stp_316 : List Nat := [0]
set_option maxRecDepth 100000 in
set_option maxHeartbeats 4000000 in
theorem q_316_0 (xs : List Int) (d : Nat) (v0 : Int) (h : aH) : ev xs d mm_316 0 [some (.inl v0)] [] h =
  some (some (.inl (oand (w32 ((w32 ((oand (w32 ((w32 ((oand (w32 (v0 - (oand (oushr v0 1) 1431655765))) 858993459) + (oand (oushr (w32 (v0 - (oand (oushr v0 1) 1431655765))) 2) 858993459))) + (oushr (w32 ((oand (w32 (v0 - (oand (oushr v0 1) 1431655765))) 858993459) + (oand (oushr (w32 (v0 - (oand (oushr v0 1) 1431655765))) 2) 858993459))) 4))) 252645135) + (oushr (oand (w32 ((w32 ((oand (w32 (v0 - (oand (oushr v0 1) 1431655765))) 858993459) + (oand (oushr (w32 (v0 - (oand (oushr v0 1) 1431655765))) 2) 858993459))) + (oushr (w32 ((oand (w32 (v0 - (oand (oushr v0 1) 1431655765))) 858993459) + (oand (oushr (w32 (v0 - (oand (oushr v0 1) 1431655765))) 2) 858993459))) 4))) 252645135) 8))) + (oushr (w32 ((oand (w32 ((w32 ((oand (w32 (v0 - (oand (oushr v0 1) 1431655765))) 858993459) + (oand (oushr (w32 (v0 - (oand (oushr v0 1) 1431655765))) 2) 858993459))) + (oushr (w32 ((oand (w32 (v0 - (oand (oushr v0 1) 1431655765))) 858993459) + (oand (oushr (w32 (v0 - (oand (oushr v0 1) 1431655765))) 2) 858993459))) 4))) 252645135) + (oushr (oand (w32 ((w32 ((oand (w32 (v0 - (oand (oushr v0 1) 1431655765))) 858993459) + (oand (oushr (w32 (v0 - (oand (oushr v0 1) 1431655765))) 2) 858993459))) + (oushr (w32 ((oand (w32 (v0 - (oand (oushr v0 1) 1431655765))) 858993459) + (oand (oushr (w32 (v0 - (oand (oushr v0 1) 1431655765))) 2) 858993459))) 4))) 252645135) 8))) 16))) 63)), h) :=
  (aB gP gX xs stp_316 43 d mm_316 0 _ _ h).trans rfl

theorem c_316 (xs : List Int) (d : Nat) (v0 : Int) (h : aH) : cl xs (d + 1) 316 [.inl v0] h =
  some (some (.inl (oand (w32 ((w32 ((oand (w32 ((w32 ((oand (w32 (v0 - (oand (oushr v0 1) 1431655765))) 858993459) + (oand (oushr (w32 (v0 - (oand (oushr v0 1) 1431655765))) 2) 858993459))) + (oushr (w32 ((oand (w32 (v0 - (oand (oushr v0 1) 1431655765))) 858993459) + (oand (oushr (w32 (v0 - (oand (oushr v0 1) 1431655765))) 2) 858993459))) 4))) 252645135) + (oushr (oand (w32 ((w32 ((oand (w32 (v0 - (oand (oushr v0 1) 1431655765))) 858993459) + (oand (oushr (w32 (v0 - (oand (oushr v0 1) 1431655765))) 2) 858993459))) + (oushr (w32 ((oand (w32 (v0 - (oand (oushr v0 1) 1431655765))) 858993459) + (oand (oushr (w32 (v0 - (oand (oushr v0 1) 1431655765))) 2) 858993459))) 4))) 252645135) 8))) + (oushr (w32 ((oand (w32 ((w32 ((oand (w32 (v0 - (oand (oushr v0 1) 1431655765))) 858993459) + (oand (oushr (w32 (v0 - (oand (oushr v0 1) 1431655765))) 2) 858993459))) + (oushr (w32 ((oand (w32 (v0 - (oand (oushr v0 1) 1431655765))) 858993459) + (oand (oushr (w32 (v0 - (oand (oushr v0 1) 1431655765))) 2) 858993459))) 4))) 252645135) + (oushr (oand (w32 ((w32 ((oand (w32 (v0 - (oand (oushr v0 1) 1431655765))) 858993459) + (oand (oushr (w32 (v0 - (oand (oushr v0 1) 1431655765))) 2) 858993459))) + (oushr (w32 ((oand (w32 (v0 - (oand (oushr v0 1) 1431655765))) 858993459) + (oand (oushr (w32 (v0 - (oand (oushr v0 1) 1431655765))) 2) 858993459))) 4))) 252645135) 8))) 16))) 63)), h) :=
  (show _ = ev xs d mm_316 0 [some (.inl v0)] [] h from rfl).trans (q_316_0 xs d v0 h)
def stp_317 : List Nat := [0, 6]
set_option maxRecDepth 100000 in
set_option maxHeartbeats 4000000 in
theorem q_317_0 (xs : List Int) (d : Nat) (v0 : Int) (v1 : Int) (h : aH) : ev xs d mm_317 0 [some (.inr (.inr v0)), some (.inr (.inl v1)), none, none, none] [] h =
  bif aoa h.1 v0 then
    ev xs d mm_317 6 [some (.inr (.inr v0)), some (.inr (.inl v1)), none, some (.inl 0), some (.inl (aln h.1 v0 : Int))] [] h
  else none :=
  (aB gP gX xs stp_317 6 d mm_317 0 _ _ h).trans rfl

set_option maxRecDepth 100000 in
set_option maxHeartbeats 4000000 in
theorem q_317_6 (xs : List Int) (d : Nat) (v0 : Int) (v1 : Int) (u2 : Option aV) (v3 : Int) (v4 : Int) (h : aH) : ev xs d mm_317 6 [some (.inr (.inr v0)), some (.inr (.inl v1)), u2, some (.inl v3), some (.inl v4)] [] h =
  bif decide (v4 ≤ v3) then
    some (none, h)
  else
    bif ain h.1 v0 101 v3 then
      ev xs d mm_317 6 [some (.inr (.inr v0)), some (.inr (.inl v1)), acl u2, some (.inl (w32 (v3 + 1))), some (.inl v4)] [] (h.1, aup h.2 v0.toNat v3.toNat v1)
    else none :=
  (aB gP gX xs stp_317 10 d mm_317 6 _ _ h).trans rfl

theorem c_317 (xs : List Int) (d : Nat) (v0 : Int) (v1 : Int) (h : aH) : cl xs (d + 1) 317 [.inr (.inr v0), .inr (.inl v1)] h =
  bif aoa h.1 v0 then
    ev xs d mm_317 6 [some (.inr (.inr v0)), some (.inr (.inl v1)), none, some (.inl 0), some (.inl (aln h.1 v0 : Int))] [] h
  else none :=
  (show _ = ev xs d mm_317 0 [some (.inr (.inr v0)), some (.inr (.inl v1)), none, none, none] [] h from rfl).trans (q_317_0 xs d v0 v1 h)
def stp_318 : List Nat := [0, 5]
set_option maxRecDepth 100000 in
set_option maxHeartbeats 4000000 in
theorem q_318_0 (xs : List Int) (d : Nat) (v0 : Int) (v1 : Int) (h : aH) : ev xs d mm_318 0 [some (.inr (.inr v0)), some (.inl v1), none, none] [] h =
  bif aoa h.1 v0 then
    ev xs d mm_318 5 [some (.inr (.inr v0)), some (.inl v1), some (.inl 0), some (.inl (aln h.1 v0 : Int))] [] h
  else none :=
  (aB gP gX xs stp_318 6 d mm_318 0 _ _ h).trans rfl

set_option maxRecDepth 100000 in
set_option maxHeartbeats 4000000 in
theorem q_318_5 (xs : List Int) (d : Nat) (v0 : Int) (v1 : Int) (v2 : Int) (v3 : Int) (h : aH) : ev xs d mm_318 5 [some (.inr (.inr v0)), some (.inl v1), some (.inl v2), some (.inl v3)] [] h =
  bif decide (v3 ≤ v2) then
    some (none, h)
  else
    bif ain h.1 v0 100 v2 then
      ev xs d mm_318 5 [some (.inr (.inr v0)), some (.inl v1), some (.inl (w32 (v2 + 1))), some (.inl v3)] [] (h.1, aup h.2 v0.toNat v2.toNat v1)
    else none :=
  (aB gP gX xs stp_318 10 d mm_318 5 _ _ h).trans rfl

theorem c_318 (xs : List Int) (d : Nat) (v0 : Int) (v1 : Int) (h : aH) : cl xs (d + 1) 318 [.inr (.inr v0), .inl v1] h =
  bif aoa h.1 v0 then
    ev xs d mm_318 5 [some (.inr (.inr v0)), some (.inl v1), some (.inl 0), some (.inl (aln h.1 v0 : Int))] [] h
  else none :=
  (show _ = ev xs d mm_318 0 [some (.inr (.inr v0)), some (.inl v1), none, none] [] h from rfl).trans (q_318_0 xs d v0 v1 h)
def stp_319 : List Nat := [0, 7, 10, 17]
set_option maxRecDepth 100000 in
set_option maxHeartbeats 4000000 in
theorem q_319_0 (xs : List Int) (d : Nat) (v0 : Int) (v1 : Int) (h : aH) : ev xs d mm_319 0 [some (.inr (.inr v0)), some (.inl v1), none] [] h =
  bif aoa h.1 v0 then
    bif decide (¬ v1 = (aln h.1 v0 : Int)) then
      bif decide (0 ≤ v1) && decide (v1 ≤ 1000000) then
        ev xs d mm_319 17 [some (.inr (.inr v0)), some (.inl v1), none] [.inr (.inr (h.1.1 : Int))] ((h.1.1 + 1, h.1.2.1 + v1.toNat, fun q => if q = h.1.1 then (100, v1.toNat) else h.1.2.2 q), fun q j => if q = h.1.1 then 0 else h.2 q j)
      else none
    else
      ev xs d mm_319 7 [some (.inr (.inr v0)), some (.inl v1), none] [.inr (.inr v0)] h
  else none :=
  (aB gP gX xs stp_319 7 d mm_319 0 _ _ h).trans rfl

set_option maxRecDepth 100000 in
set_option maxHeartbeats 4000000 in
theorem q_319_17 (xs : List Int) (d : Nat) (v0 : Int) (v1 : Int) (u2 : Option aV) (s0 : Int) (h : aH) : ev xs d mm_319 17 [some (.inr (.inr v0)), some (.inl v1), u2] [.inr (.inr s0)] h =
  bif aoa h.1 v0 then
    bif aok h.1 v0 100 && (aok h.1 s0 100 && (decide (0 ≤ 0) && (decide (0 ≤ 0) && (decide (0 ≤ (omin (aln h.1 v0 : Int) v1)) && (decide ((0 : Int).toNat + (omin (aln h.1 v0 : Int) v1).toNat ≤ aln h.1 v0) && (decide ((0 : Int).toNat + (omin (aln h.1 v0 : Int) v1).toNat ≤ aln h.1 s0) && true)))))) then
      some (some (.inr (.inr s0)), (h.1, fun q j => if q = s0.toNat then acpy (h.2 v0.toNat) (h.2 s0.toNat) (0 : Int).toNat (0 : Int).toNat (omin (aln h.1 v0 : Int) v1).toNat j else h.2 q j))
    else none
  else none :=
  (aB gP gX xs stp_319 13 d mm_319 17 _ _ h).trans rfl

theorem c_319 (xs : List Int) (d : Nat) (v0 : Int) (v1 : Int) (h : aH) : cl xs (d + 1) 319 [.inr (.inr v0), .inl v1] h =
  bif aoa h.1 v0 then
    bif decide (¬ v1 = (aln h.1 v0 : Int)) then
      bif decide (0 ≤ v1) && decide (v1 ≤ 1000000) then
        ev xs d mm_319 17 [some (.inr (.inr v0)), some (.inl v1), none] [.inr (.inr (h.1.1 : Int))] ((h.1.1 + 1, h.1.2.1 + v1.toNat, fun q => if q = h.1.1 then (100, v1.toNat) else h.1.2.2 q), fun q j => if q = h.1.1 then 0 else h.2 q j)
      else none
    else
      ev xs d mm_319 7 [some (.inr (.inr v0)), some (.inl v1), none] [.inr (.inr v0)] h
  else none :=
  (show _ = ev xs d mm_319 0 [some (.inr (.inr v0)), some (.inl v1), none] [] h from rfl).trans (q_319_0 xs d v0 v1 h)
def stp_320 : List Nat := [0, 7, 10, 17]
set_option maxRecDepth 100000 in
set_option maxHeartbeats 4000000 in
theorem q_320_0 (xs : List Int) (d : Nat) (v0 : Int) (v1 : Int) (h : aH) : ev xs d mm_320 0 [some (.inr (.inr v0)), some (.inl v1), none] [] h =
  bif aoa h.1 v0 then
    bif decide (¬ v1 = (aln h.1 v0 : Int)) then
      bif decide (0 ≤ v1) && decide (v1 ≤ 1000000) then
        ev xs d mm_320 17 [some (.inr (.inr v0)), some (.inl v1), none] [.inr (.inr (h.1.1 : Int))] ((h.1.1 + 1, h.1.2.1 + v1.toNat, fun q => if q = h.1.1 then (101, v1.toNat) else h.1.2.2 q), fun q j => if q = h.1.1 then 0 else h.2 q j)
      else none
    else
      ev xs d mm_320 7 [some (.inr (.inr v0)), some (.inl v1), none] [.inr (.inr v0)] h
  else none :=
  (aB gP gX xs stp_320 7 d mm_320 0 _ _ h).trans rfl

set_option maxRecDepth 100000 in
set_option maxHeartbeats 4000000 in
theorem q_320_17 (xs : List Int) (d : Nat) (v0 : Int) (v1 : Int) (u2 : Option aV) (s0 : Int) (h : aH) : ev xs d mm_320 17 [some (.inr (.inr v0)), some (.inl v1), u2] [.inr (.inr s0)] h =
  bif aoa h.1 v0 then
    bif aok h.1 v0 101 && (aok h.1 s0 101 && (decide (0 ≤ 0) && (decide (0 ≤ 0) && (decide (0 ≤ (omin (aln h.1 v0 : Int) v1)) && (decide ((0 : Int).toNat + (omin (aln h.1 v0 : Int) v1).toNat ≤ aln h.1 v0) && (decide ((0 : Int).toNat + (omin (aln h.1 v0 : Int) v1).toNat ≤ aln h.1 s0) && true)))))) then
      some (some (.inr (.inr s0)), (h.1, fun q j => if q = s0.toNat then acpy (h.2 v0.toNat) (h.2 s0.toNat) (0 : Int).toNat (0 : Int).toNat (omin (aln h.1 v0 : Int) v1).toNat j else h.2 q j))
    else none
  else none :=
  (aB gP gX xs stp_320 13 d mm_320 17 _ _ h).trans rfl

theorem c_320 (xs : List Int) (d : Nat) (v0 : Int) (v1 : Int) (h : aH) : cl xs (d + 1) 320 [.inr (.inr v0), .inl v1] h =
  bif aoa h.1 v0 then
    bif decide (¬ v1 = (aln h.1 v0 : Int)) then
      bif decide (0 ≤ v1) && decide (v1 ≤ 1000000) then
        ev xs d mm_320 17 [some (.inr (.inr v0)), some (.inl v1), none] [.inr (.inr (h.1.1 : Int))] ((h.1.1 + 1, h.1.2.1 + v1.toNat, fun q => if q = h.1.1 then (101, v1.toNat) else h.1.2.2 q), fun q j => if q = h.1.1 then 0 else h.2 q j)
      else none
    else
      ev xs d mm_320 7 [some (.inr (.inr v0)), some (.inl v1), none] [.inr (.inr v0)] h
  else none :=
  (show _ = ev xs d mm_320 0 [some (.inr (.inr v0)), some (.inl v1), none] [] h from rfl).trans (q_320_0 xs d v0 v1 h)
