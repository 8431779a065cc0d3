def stp_0 : List Nat := [0, 9, 23, 32, 45]
set_option maxRecDepth 100000 in
set_option maxHeartbeats 4000000 in
theorem q_0_0 (xs : List Int) (d : Nat) (v0 : Int) (h : aH) : ev xs d mm_0 0 [some (.inr (.inr v0))] [] h =
  bif decide (0 ≤ v0) && true then
    ev xs d mm_0 9 [some (.inr (.inr v0))] [.inr (.inr (h.1.1 : Int)), .inr (.inr v0)] ((h.1.1 + 1, h.1.2.1 + (6 : Int).toNat, fun q => if q = h.1.1 then (100, (6 : Int).toNat) else h.1.2.2 q), fun q j => if q = h.1.1 then 0 else h.2 q j)
  else none :=
  (aB gP gX xs stp_0 6 d mm_0 0 _ _ h).trans rfl

set_option maxRecDepth 100000 in
set_option maxHeartbeats 4000000 in
theorem q_0_9 (xs : List Int) (d : Nat) (v0 : Int) (s0 : Int) (s1 : Int) (h : aH) : ev xs d mm_0 9 [some (.inr (.inr v0))] [.inr (.inr s1), .inr (.inr s0)] h =
  bif aok h.1 s0 0 then
    bif aok h.1 v0 0 then
      ev xs d mm_0 23 [some (.inr (.inr v0))] [.inr (.inr (h.1.1 : Int)), .inr (.inr v0)] ((h.1.1 + 1, h.1.2.1 + (400 : Int).toNat, fun q => if q = h.1.1 then (100, (400 : Int).toNat) else h.1.2.2 q), fun q j => if q = h.1.1 then 0 else (aup (aup h.2 s0.toNat 0 s1) v0.toNat 1 0) q j)
    else none
  else none :=
  (aB gP gX xs stp_0 8 d mm_0 9 _ _ h).trans rfl

set_option maxRecDepth 100000 in
set_option maxHeartbeats 4000000 in
theorem q_0_23 (xs : List Int) (d : Nat) (v0 : Int) (s0 : Int) (s1 : Int) (h : aH) : ev xs d mm_0 23 [some (.inr (.inr v0))] [.inr (.inr s1), .inr (.inr s0)] h =
  bif aok h.1 s0 0 then
    ev xs d mm_0 32 [some (.inr (.inr v0))] [.inr (.inr (h.1.1 : Int)), .inr (.inr v0)] ((h.1.1 + 1, h.1.2.1 + (400 : Int).toNat, fun q => if q = h.1.1 then (100, (400 : Int).toNat) else h.1.2.2 q), fun q j => if q = h.1.1 then 0 else (aup h.2 s0.toNat 2 s1) q j)
  else none :=
  (aB gP gX xs stp_0 5 d mm_0 23 _ _ h).trans rfl

set_option maxRecDepth 100000 in
set_option maxHeartbeats 4000000 in
theorem q_0_32 (xs : List Int) (d : Nat) (v0 : Int) (s0 : Int) (s1 : Int) (h : aH) : ev xs d mm_0 32 [some (.inr (.inr v0))] [.inr (.inr s1), .inr (.inr s0)] h =
  bif aok h.1 s0 0 then
    bif aok h.1 v0 0 then
      bif aok h.1 v0 0 && true then
        ev xs d mm_0 45 [some (.inr (.inr v0))] [] (h.1, aup (aup (aup h.2 s0.toNat 3 s1) v0.toNat 4 0) v0.toNat 5 0)
      else none
    else none
  else none :=
  (aB gP gX xs stp_0 8 d mm_0 32 _ _ h).trans rfl

set_option maxRecDepth 100000 in
set_option maxHeartbeats 4000000 in
theorem q_0_45 (xs : List Int) (d : Nat) (v0 : Int) (h : aH) : ev xs d mm_0 45 [some (.inr (.inr v0))] [] h =
  some (none, h) :=
  (aB gP gX xs stp_0 2 d mm_0 45 _ _ h).trans rfl

theorem c_0 (xs : List Int) (d : Nat) (v0 : Int) (h : aH) : cl xs (d + 1) 0 [.inr (.inr v0)] h =
  bif decide (0 ≤ v0) && true then
    ev xs d mm_0 9 [some (.inr (.inr v0))] [.inr (.inr (h.1.1 : Int)), .inr (.inr v0)] ((h.1.1 + 1, h.1.2.1 + (6 : Int).toNat, fun q => if q = h.1.1 then (100, (6 : Int).toNat) else h.1.2.2 q), fun q j => if q = h.1.1 then 0 else h.2 q j)
  else none :=
  (show _ = ev xs d mm_0 0 [some (.inr (.inr v0))] [] h from rfl).trans (q_0_0 xs d v0 h)
def stp_1 : List Nat := [0]
set_option maxRecDepth 100000 in
set_option maxHeartbeats 4000000 in
theorem q_1_0 (xs : List Int) (d : Nat) (v0 : Int) (h : aH) : ev xs d mm_1 0 [some (.inr (.inr v0))] [] h =
  bif aok h.1 v0 0 then
    some (none, (h.1, aup h.2 v0.toNat 1 0))
  else none :=
  (aB gP gX xs stp_1 5 d mm_1 0 _ _ h).trans rfl

theorem c_1 (xs : List Int) (d : Nat) (v0 : Int) (h : aH) : cl xs (d + 1) 1 [.inr (.inr v0)] h =
  bif aok h.1 v0 0 then
    some (none, (h.1, aup h.2 v0.toNat 1 0))
  else none :=
  (show _ = ev xs d mm_1 0 [some (.inr (.inr v0))] [] h from rfl).trans (q_1_0 xs d v0 h)
def stp_2 : List Nat := [0, 40]
set_option maxRecDepth 100000 in
set_option maxHeartbeats 4000000 in
theorem q_2_0 (xs : List Int) (d : Nat) (v0 : Int) (v1 : Int) (v2 : Int) (h : aH) : ev xs d mm_2 0 [some (.inr (.inr v0)), some (.inl v1), some (.inl v2)] [] h =
  bif aok h.1 v0 0 then
    bif decide (400 ≤ (h.2 v0.toNat 1)) then
      ev xs d mm_2 40 [some (.inr (.inr v0)), some (.inl v1), some (.inl v2)] [] h
    else
      bif aok h.1 v0 0 then
        bif aok h.1 v0 0 then
          bif ain h.1 (h.2 v0.toNat 2) 100 (h.2 v0.toNat 1) then
            bif aok h.1 v0 0 then
              bif aok h.1 v0 0 then
                bif ain h.1 ((aup h.2 (h.2 v0.toNat 2).toNat (h.2 v0.toNat 1).toNat v1) v0.toNat 3) 100 ((aup h.2 (h.2 v0.toNat 2).toNat (h.2 v0.toNat 1).toNat v1) v0.toNat 1) then
                  bif aok h.1 v0 0 then
                    bif aok h.1 v0 0 then
                      ev xs d mm_2 40 [some (.inr (.inr v0)), some (.inl v1), some (.inl v2)] [] (h.1, aup (aup (aup h.2 (h.2 v0.toNat 2).toNat (h.2 v0.toNat 1).toNat v1) ((aup h.2 (h.2 v0.toNat 2).toNat (h.2 v0.toNat 1).toNat v1) v0.toNat 3).toNat ((aup h.2 (h.2 v0.toNat 2).toNat (h.2 v0.toNat 1).toNat v1) v0.toNat 1).toNat v2) v0.toNat 1 (w32 (((aup (aup h.2 (h.2 v0.toNat 2).toNat (h.2 v0.toNat 1).toNat v1) ((aup h.2 (h.2 v0.toNat 2).toNat (h.2 v0.toNat 1).toNat v1) v0.toNat 3).toNat ((aup h.2 (h.2 v0.toNat 2).toNat (h.2 v0.toNat 1).toNat v1) v0.toNat 1).toNat v2) v0.toNat 1) + 1)))
                    else none
                  else none
                else none
              else none
            else none
          else none
        else none
      else none
  else none :=
  (aB gP gX xs stp_2 23 d mm_2 0 _ _ h).trans rfl

set_option maxRecDepth 100000 in
set_option maxHeartbeats 4000000 in
theorem q_2_40 (xs : List Int) (d : Nat) (v0 : Int) (v1 : Int) (v2 : Int) (h : aH) : ev xs d mm_2 40 [some (.inr (.inr v0)), some (.inl v1), some (.inl v2)] [] h =
  some (none, h) :=
  (aB gP gX xs stp_2 2 d mm_2 40 _ _ h).trans rfl

theorem c_2 (xs : List Int) (d : Nat) (v0 : Int) (v1 : Int) (v2 : Int) (h : aH) : cl xs (d + 1) 2 [.inr (.inr v0), .inl v1, .inl v2] h =
  bif aok h.1 v0 0 then
    bif decide (400 ≤ (h.2 v0.toNat 1)) then
      ev xs d mm_2 40 [some (.inr (.inr v0)), some (.inl v1), some (.inl v2)] [] h
    else
      bif aok h.1 v0 0 then
        bif aok h.1 v0 0 then
          bif ain h.1 (h.2 v0.toNat 2) 100 (h.2 v0.toNat 1) then
            bif aok h.1 v0 0 then
              bif aok h.1 v0 0 then
                bif ain h.1 ((aup h.2 (h.2 v0.toNat 2).toNat (h.2 v0.toNat 1).toNat v1) v0.toNat 3) 100 ((aup h.2 (h.2 v0.toNat 2).toNat (h.2 v0.toNat 1).toNat v1) v0.toNat 1) then
                  bif aok h.1 v0 0 then
                    bif aok h.1 v0 0 then
                      ev xs d mm_2 40 [some (.inr (.inr v0)), some (.inl v1), some (.inl v2)] [] (h.1, aup (aup (aup h.2 (h.2 v0.toNat 2).toNat (h.2 v0.toNat 1).toNat v1) ((aup h.2 (h.2 v0.toNat 2).toNat (h.2 v0.toNat 1).toNat v1) v0.toNat 3).toNat ((aup h.2 (h.2 v0.toNat 2).toNat (h.2 v0.toNat 1).toNat v1) v0.toNat 1).toNat v2) v0.toNat 1 (w32 (((aup (aup h.2 (h.2 v0.toNat 2).toNat (h.2 v0.toNat 1).toNat v1) ((aup h.2 (h.2 v0.toNat 2).toNat (h.2 v0.toNat 1).toNat v1) v0.toNat 3).toNat ((aup h.2 (h.2 v0.toNat 2).toNat (h.2 v0.toNat 1).toNat v1) v0.toNat 1).toNat v2) v0.toNat 1) + 1)))
                    else none
                  else none
                else none
              else none
            else none
          else none
        else none
      else none
  else none :=
  (show _ = ev xs d mm_2 0 [some (.inr (.inr v0)), some (.inl v1), some (.inl v2)] [] h from rfl).trans (q_2_0 xs d v0 v1 v2 h)
def stp_3 : List Nat := [0]
set_option maxRecDepth 100000 in
set_option maxHeartbeats 4000000 in
theorem q_3_0 (xs : List Int) (d : Nat) (v0 : Int) (h : aH) : ev xs d mm_3 0 [some (.inr (.inr v0)), none] [] h =
  bif aok h.1 v0 0 then
    bif decide (¬ (h.2 v0.toNat 1) = 0) then
      bif aok h.1 v0 0 then
        bif aok h.1 v0 0 && true then
          bif aok h.1 v0 0 && true then
            bI (cl xs d 4 [.inr (.inr v0)] (h.1, aup (aup h.2 v0.toNat 4 0) v0.toNat 5 0)) (fun x2 h1 =>
            bif aok h1.1 v0 0 then
              bif decide ((h1.2 v0.toNat 5) = 0) then
                some (some (.inl x2), h1)
              else
                some (some (.inl 0), h1)
            else none)
          else none
        else none
      else none
    else
      bif aok h.1 v0 0 then
        bif ain h.1 (h.2 v0.toNat 0) 100 2 then
          some (some (.inl (h.2 (h.2 v0.toNat 0).toNat (2 : Int).toNat)), h)
        else none
      else none
  else none :=
  (aB gP gX xs stp_3 19 d mm_3 0 _ _ h).trans rfl

theorem c_3 (xs : List Int) (d : Nat) (v0 : Int) (h : aH) : cl xs (d + 1) 3 [.inr (.inr v0)] h =
  bif aok h.1 v0 0 then
    bif decide (¬ (h.2 v0.toNat 1) = 0) then
      bif aok h.1 v0 0 then
        bif aok h.1 v0 0 && true then
          bif aok h.1 v0 0 && true then
            bI (cl xs d 4 [.inr (.inr v0)] (h.1, aup (aup h.2 v0.toNat 4 0) v0.toNat 5 0)) (fun x2 h1 =>
            bif aok h1.1 v0 0 then
              bif decide ((h1.2 v0.toNat 5) = 0) then
                some (some (.inl x2), h1)
              else
                some (some (.inl 0), h1)
            else none)
          else none
        else none
      else none
    else
      bif aok h.1 v0 0 then
        bif ain h.1 (h.2 v0.toNat 0) 100 2 then
          some (some (.inl (h.2 (h.2 v0.toNat 0).toNat (2 : Int).toNat)), h)
        else none
      else none
  else none :=
  (show _ = ev xs d mm_3 0 [some (.inr (.inr v0)), none] [] h from rfl).trans (q_3_0 xs d v0 h)
def stp_4 : List Nat := [0, 2, 59, 77]
set_option maxRecDepth 100000 in
set_option maxHeartbeats 4000000 in
theorem q_4_0 (xs : List Int) (d : Nat) (v0 : Int) (h : aH) : ev xs d mm_4 0 [some (.inr (.inr v0)), none, none, none] [] h =
  ev xs d mm_4 2 [some (.inr (.inr v0)), some (.inl 0), none, none] [] h :=
  (aB gP gX xs stp_4 3 d mm_4 0 _ _ h).trans rfl

set_option maxRecDepth 100000 in
set_option maxHeartbeats 4000000 in
theorem q_4_2 (xs : List Int) (d : Nat) (v0 : Int) (v1 : Int) (u2 : Option aV) (u3 : Option aV) (h : aH) : ev xs d mm_4 2 [some (.inr (.inr v0)), some (.inl v1), u2, u3] [] h =
  bif decide (4 ≤ v1) then
    ev xs d mm_4 77 [some (.inr (.inr v0)), some (.inl v1), u2, u3] [] h
  else
    bif aok h.1 v0 0 && true then
      bI (cl xs d 6 [.inr (.inr v0)] h) (fun x2 h1 =>
      bif decide (¬ x2 = 143) then
        ev xs d mm_4 77 [some (.inr (.inr v0)), some (.inl v1), u2, u3] [] h1
      else
        bif aok h1.1 v0 0 then
          bif aok h1.1 v0 0 then
            bif aok h1.1 v0 0 && true then
              bI (cl xs d 7 [.inr (.inr v0), .inl 0] (h1.1, aup h1.2 v0.toNat 4 (w32 ((h1.2 v0.toNat 4) + 1)))) (fun x4 h3 =>
              bif aok h3.1 v0 0 then
                bif aok h3.1 v0 0 then
                  bif aok h3.1 v0 0 && true then
                    bI (cl xs d 7 [.inr (.inr v0), .inl 0] (h3.1, aup h3.2 v0.toNat 4 (w32 ((h3.2 v0.toNat 4) + 1)))) (fun x6 h5 =>
                    bif aok h5.1 v0 0 then
                      bif aok h5.1 v0 0 then
                        ev xs d mm_4 59 [some (.inr (.inr v0)), some (.inl v1), some (.inl x4), some (.inl x6)] [] (h5.1, aup h5.2 v0.toNat 4 (w32 ((h5.2 v0.toNat 4) + 1)))
                      else none
                    else none)
                  else none
                else none
              else none)
            else none
          else none
        else none)
    else none :=
  (aB gP gX xs stp_4 34 d mm_4 2 _ _ h).trans rfl

set_option maxRecDepth 100000 in
set_option maxHeartbeats 4000000 in
theorem q_4_59 (xs : List Int) (d : Nat) (v0 : Int) (v1 : Int) (v2 : Int) (v3 : Int) (h : aH) : ev xs d mm_4 59 [some (.inr (.inr v0)), some (.inl v1), some (.inl v2), some (.inl v3)] [] h =
  bif decide (v3 ≤ v2) then
    bif aok h.1 v0 0 && true then
      bV (cl xs d 5 [.inr (.inr v0)] h) (fun h1 =>
      ev xs d mm_4 2 [some (.inr (.inr v0)), some (.inl (w32 (v1 + 1))), some (.inl v2), some (.inl v3)] [] h1)
    else none
  else
    ev xs d mm_4 77 [some (.inr (.inr v0)), some (.inl v1), some (.inl v2), some (.inl v3)] [] h :=
  (aB gP gX xs stp_4 8 d mm_4 59 _ _ h).trans rfl

set_option maxRecDepth 100000 in
set_option maxHeartbeats 4000000 in
theorem q_4_77 (xs : List Int) (d : Nat) (v0 : Int) (v1 : Int) (u2 : Option aV) (u3 : Option aV) (h : aH) : ev xs d mm_4 77 [some (.inr (.inr v0)), some (.inl v1), u2, u3] [] h =
  bif aok h.1 v0 0 && true then
    bI (cl xs d 7 [.inr (.inr v0), .inl 0] h) (fun x2 h1 =>
    some (some (.inl x2), h1))
  else none :=
  (aB gP gX xs stp_4 5 d mm_4 77 _ _ h).trans rfl

theorem c_4 (xs : List Int) (d : Nat) (v0 : Int) (h : aH) : cl xs (d + 1) 4 [.inr (.inr v0)] h =
  ev xs d mm_4 2 [some (.inr (.inr v0)), some (.inl 0), none, none] [] h :=
  (show _ = ev xs d mm_4 0 [some (.inr (.inr v0)), none, none, none] [] h from rfl).trans (q_4_0 xs d v0 h)
def stp_5 : List Nat := [0]
set_option maxRecDepth 100000 in
set_option maxHeartbeats 4000000 in
theorem q_5_0 (xs : List Int) (d : Nat) (v0 : Int) (h : aH) : ev xs d mm_5 0 [some (.inr (.inr v0))] [] h =
  bif aok h.1 v0 0 then
    bif aok h.1 v0 0 then
      bif decide ((h.2 v0.toNat 1) ≤ (h.2 v0.toNat 4)) then
        bif aok h.1 v0 0 then
          bif aok h.1 v0 0 then
            some (none, (h.1, aup h.2 v0.toNat 4 (w32 ((h.2 v0.toNat 4) + 1))))
          else none
        else none
      else
        bif aok h.1 v0 0 && true then
          bI (cl xs d 6 [.inr (.inr v0)] h) (fun x2 h1 =>
          bif decide (x2 = 145) then
            bif aok h1.1 v0 0 then
              bif aok h1.1 v0 0 then
                some (none, (h1.1, aup h1.2 v0.toNat 4 (w32 ((h1.2 v0.toNat 4) + 1))))
              else none
            else none
          else
            bif aok h1.1 v0 0 then
              bif aok h1.1 v0 0 then
                ev xs d mm_5 0 [some (.inr (.inr v0))] [] (h1.1, aup h1.2 v0.toNat 4 (w32 ((h1.2 v0.toNat 4) + 1)))
              else none
            else none)
        else none
    else none
  else none :=
  (aB gP gX xs stp_5 17 d mm_5 0 _ _ h).trans rfl

theorem c_5 (xs : List Int) (d : Nat) (v0 : Int) (h : aH) : cl xs (d + 1) 5 [.inr (.inr v0)] h =
  bif aok h.1 v0 0 then
    bif aok h.1 v0 0 then
      bif decide ((h.2 v0.toNat 1) ≤ (h.2 v0.toNat 4)) then
        bif aok h.1 v0 0 then
          bif aok h.1 v0 0 then
            some (none, (h.1, aup h.2 v0.toNat 4 (w32 ((h.2 v0.toNat 4) + 1))))
          else none
        else none
      else
        bif aok h.1 v0 0 && true then
          bI (cl xs d 6 [.inr (.inr v0)] h) (fun x2 h1 =>
          bif decide (x2 = 145) then
            bif aok h1.1 v0 0 then
              bif aok h1.1 v0 0 then
                some (none, (h1.1, aup h1.2 v0.toNat 4 (w32 ((h1.2 v0.toNat 4) + 1))))
              else none
            else none
          else
            bif aok h1.1 v0 0 then
              bif aok h1.1 v0 0 then
                ev xs d mm_5 0 [some (.inr (.inr v0))] [] (h1.1, aup h1.2 v0.toNat 4 (w32 ((h1.2 v0.toNat 4) + 1)))
              else none
            else none)
        else none
    else none
  else none :=
  (show _ = ev xs d mm_5 0 [some (.inr (.inr v0))] [] h from rfl).trans (q_5_0 xs d v0 h)
def stp_6 : List Nat := [0]
set_option maxRecDepth 100000 in
set_option maxHeartbeats 4000000 in
theorem q_6_0 (xs : List Int) (d : Nat) (v0 : Int) (h : aH) : ev xs d mm_6 0 [some (.inr (.inr v0))] [] h =
  bif aok h.1 v0 0 then
    bif decide ((h.2 v0.toNat 4) < 0) then
      some (some (.inl 0), h)
    else
      bif aok h.1 v0 0 then
        bif aok h.1 v0 0 then
          bif decide ((h.2 v0.toNat 1) ≤ (h.2 v0.toNat 4)) then
            some (some (.inl 0), h)
          else
            bif aok h.1 v0 0 then
              bif aok h.1 v0 0 then
                bif ain h.1 (h.2 v0.toNat 2) 100 (h.2 v0.toNat 4) then
                  some (some (.inl (h.2 (h.2 v0.toNat 2).toNat (h.2 v0.toNat 4).toNat)), h)
                else none
              else none
            else none
        else none
      else none
  else none :=
  (aB gP gX xs stp_6 16 d mm_6 0 _ _ h).trans rfl

theorem c_6 (xs : List Int) (d : Nat) (v0 : Int) (h : aH) : cl xs (d + 1) 6 [.inr (.inr v0)] h =
  bif aok h.1 v0 0 then
    bif decide ((h.2 v0.toNat 4) < 0) then
      some (some (.inl 0), h)
    else
      bif aok h.1 v0 0 then
        bif aok h.1 v0 0 then
          bif decide ((h.2 v0.toNat 1) ≤ (h.2 v0.toNat 4)) then
            some (some (.inl 0), h)
          else
            bif aok h.1 v0 0 then
              bif aok h.1 v0 0 then
                bif ain h.1 (h.2 v0.toNat 2) 100 (h.2 v0.toNat 4) then
                  some (some (.inl (h.2 (h.2 v0.toNat 2).toNat (h.2 v0.toNat 4).toNat)), h)
                else none
              else none
            else none
        else none
      else none
  else none :=
  (show _ = ev xs d mm_6 0 [some (.inr (.inr v0))] [] h from rfl).trans (q_6_0 xs d v0 h)
def stp_7 : List Nat := [0, 8, 38]
set_option maxRecDepth 100000 in
set_option maxHeartbeats 4000000 in
theorem q_7_0 (xs : List Int) (d : Nat) (v0 : Int) (v1 : Int) (h : aH) : ev xs d mm_7 0 [some (.inr (.inr v0)), some (.inl v1), none, none, none, none] [] h =
  bif aok h.1 v0 0 && true then
    bI (cl xs d 8 [.inr (.inr v0), .inl v1] h) (fun x2 h1 =>
    ev xs d mm_7 8 [some (.inr (.inr v0)), some (.inl v1), some (.inl x2), some (.inl 0), none, none] [] h1)
  else none :=
  (aB gP gX xs stp_7 7 d mm_7 0 _ _ h).trans rfl

set_option maxRecDepth 100000 in
set_option maxHeartbeats 4000000 in
theorem q_7_8 (xs : List Int) (d : Nat) (v0 : Int) (v1 : Int) (v2 : Int) (v3 : Int) (u4 : Option aV) (u5 : Option aV) (h : aH) : ev xs d mm_7 8 [some (.inr (.inr v0)), some (.inl v1), some (.inl v2), some (.inl v3), u4, u5] [] h =
  bif decide (400 ≤ v3) then
    some (some (.inl v2), h)
  else
    bif aok h.1 v0 0 && true then
      bI (cl xs d 6 [.inr (.inr v0)] h) (fun x2 h1 =>
      bif decide (x2 = 43) then
        ev xs d mm_7 38 [some (.inr (.inr v0)), some (.inl v1), some (.inl v2), some (.inl v3), some (.inl x2), u5] [] h1
      else
        bif decide (x2 = 45) then
          ev xs d mm_7 38 [some (.inr (.inr v0)), some (.inl v1), some (.inl v2), some (.inl v3), some (.inl x2), u5] [] h1
        else
          some (some (.inl v2), h1))
    else none :=
  (aB gP gX xs stp_7 16 d mm_7 8 _ _ h).trans rfl

set_option maxRecDepth 100000 in
set_option maxHeartbeats 4000000 in
theorem q_7_38 (xs : List Int) (d : Nat) (v0 : Int) (v1 : Int) (v2 : Int) (v3 : Int) (v4 : Int) (u5 : Option aV) (h : aH) : ev xs d mm_7 38 [some (.inr (.inr v0)), some (.inl v1), some (.inl v2), some (.inl v3), some (.inl v4), u5] [] h =
  bif aok h.1 v0 0 then
    bif aok h.1 v0 0 then
      bif aok h.1 v0 0 && true then
        bI (cl xs d 8 [.inr (.inr v0), .inl v1] (h.1, aup h.2 v0.toNat 4 (w32 ((h.2 v0.toNat 4) + 1)))) (fun x2 h1 =>
        bif decide (¬ v4 = 43) then
          ev xs d mm_7 8 [some (.inr (.inr v0)), some (.inl v1), some (.inl (w32 (v2 - x2))), some (.inl (w32 (v3 + 1))), some (.inl v4), some (.inl x2)] [] h1
        else
          ev xs d mm_7 8 [some (.inr (.inr v0)), some (.inl v1), some (.inl (w32 (v2 + x2))), some (.inl (w32 (v3 + 1))), some (.inl v4), some (.inl x2)] [] h1)
      else none
    else none
  else none :=
  (aB gP gX xs stp_7 21 d mm_7 38 _ _ h).trans rfl

theorem c_7 (xs : List Int) (d : Nat) (v0 : Int) (v1 : Int) (h : aH) : cl xs (d + 1) 7 [.inr (.inr v0), .inl v1] h =
  bif aok h.1 v0 0 && true then
    bI (cl xs d 8 [.inr (.inr v0), .inl v1] h) (fun x2 h1 =>
    ev xs d mm_7 8 [some (.inr (.inr v0)), some (.inl v1), some (.inl x2), some (.inl 0), none, none] [] h1)
  else none :=
  (show _ = ev xs d mm_7 0 [some (.inr (.inr v0)), some (.inl v1), none, none, none, none] [] h from rfl).trans (q_7_0 xs d v0 v1 h)
def stp_8 : List Nat := [0, 8, 38]
set_option maxRecDepth 100000 in
set_option maxHeartbeats 4000000 in
theorem q_8_0 (xs : List Int) (d : Nat) (v0 : Int) (v1 : Int) (h : aH) : ev xs d mm_8 0 [some (.inr (.inr v0)), some (.inl v1), none, none, none, none] [] h =
  bif aok h.1 v0 0 && true then
    bI (cl xs d 10 [.inr (.inr v0), .inl v1] h) (fun x2 h1 =>
    ev xs d mm_8 8 [some (.inr (.inr v0)), some (.inl v1), some (.inl x2), some (.inl 0), none, none] [] h1)
  else none :=
  (aB gP gX xs stp_8 7 d mm_8 0 _ _ h).trans rfl

set_option maxRecDepth 100000 in
set_option maxHeartbeats 4000000 in
theorem q_8_8 (xs : List Int) (d : Nat) (v0 : Int) (v1 : Int) (v2 : Int) (v3 : Int) (u4 : Option aV) (u5 : Option aV) (h : aH) : ev xs d mm_8 8 [some (.inr (.inr v0)), some (.inl v1), some (.inl v2), some (.inl v3), u4, u5] [] h =
  bif decide (400 ≤ v3) then
    some (some (.inl v2), h)
  else
    bif aok h.1 v0 0 && true then
      bI (cl xs d 6 [.inr (.inr v0)] h) (fun x2 h1 =>
      bif decide (x2 = 42) then
        ev xs d mm_8 38 [some (.inr (.inr v0)), some (.inl v1), some (.inl v2), some (.inl v3), some (.inl x2), u5] [] h1
      else
        bif decide (x2 = 47) then
          ev xs d mm_8 38 [some (.inr (.inr v0)), some (.inl v1), some (.inl v2), some (.inl v3), some (.inl x2), u5] [] h1
        else
          some (some (.inl v2), h1))
    else none :=
  (aB gP gX xs stp_8 16 d mm_8 8 _ _ h).trans rfl

set_option maxRecDepth 100000 in
set_option maxHeartbeats 4000000 in
theorem q_8_38 (xs : List Int) (d : Nat) (v0 : Int) (v1 : Int) (v2 : Int) (v3 : Int) (v4 : Int) (u5 : Option aV) (h : aH) : ev xs d mm_8 38 [some (.inr (.inr v0)), some (.inl v1), some (.inl v2), some (.inl v3), some (.inl v4), u5] [] h =
  bif aok h.1 v0 0 then
    bif aok h.1 v0 0 then
      bif aok h.1 v0 0 && true then
        bI (cl xs d 10 [.inr (.inr v0), .inl v1] (h.1, aup h.2 v0.toNat 4 (w32 ((h.2 v0.toNat 4) + 1)))) (fun x2 h1 =>
        bif decide (¬ v4 = 42) then
          bif aok h1.1 v0 0 && true then
            bI (cl xs d 9 [.inr (.inr v0), .inl v2, .inl x2] h1) (fun x4 h3 =>
            ev xs d mm_8 8 [some (.inr (.inr v0)), some (.inl v1), some (.inl x4), some (.inl (w32 (v3 + 1))), some (.inl v4), some (.inl x2)] [] h3)
          else none
        else
          ev xs d mm_8 8 [some (.inr (.inr v0)), some (.inl v1), some (.inl (w32 (v2 * x2))), some (.inl (w32 (v3 + 1))), some (.inl v4), some (.inl x2)] [] h1)
      else none
    else none
  else none :=
  (aB gP gX xs stp_8 21 d mm_8 38 _ _ h).trans rfl

theorem c_8 (xs : List Int) (d : Nat) (v0 : Int) (v1 : Int) (h : aH) : cl xs (d + 1) 8 [.inr (.inr v0), .inl v1] h =
  bif aok h.1 v0 0 && true then
    bI (cl xs d 10 [.inr (.inr v0), .inl v1] h) (fun x2 h1 =>
    ev xs d mm_8 8 [some (.inr (.inr v0)), some (.inl v1), some (.inl x2), some (.inl 0), none, none] [] h1)
  else none :=
  (show _ = ev xs d mm_8 0 [some (.inr (.inr v0)), some (.inl v1), none, none, none, none] [] h from rfl).trans (q_8_0 xs d v0 v1 h)
def stp_9 : List Nat := [0]
set_option maxRecDepth 100000 in
set_option maxHeartbeats 4000000 in
theorem q_9_0 (xs : List Int) (d : Nat) (v0 : Int) (v1 : Int) (v2 : Int) (h : aH) : ev xs d mm_9 0 [some (.inr (.inr v0)), some (.inl v1), some (.inl v2)] [] h =
  bif decide (¬ v2 = 0) then
    bif decide (v2 = 0) then none else
    some (some (.inl (odiv v1 v2)), h)
  else
    bif aok h.1 v0 0 && true then
      some (some (.inl 0), (h.1, aup h.2 v0.toNat 5 1))
    else none :=
  (aB gP gX xs stp_9 8 d mm_9 0 _ _ h).trans rfl

theorem c_9 (xs : List Int) (d : Nat) (v0 : Int) (v1 : Int) (v2 : Int) (h : aH) : cl xs (d + 1) 9 [.inr (.inr v0), .inl v1, .inl v2] h =
  bif decide (¬ v2 = 0) then
    bif decide (v2 = 0) then none else
    some (some (.inl (odiv v1 v2)), h)
  else
    bif aok h.1 v0 0 && true then
      some (some (.inl 0), (h.1, aup h.2 v0.toNat 5 1))
    else none :=
  (show _ = ev xs d mm_9 0 [some (.inr (.inr v0)), some (.inl v1), some (.inl v2)] [] h from rfl).trans (q_9_0 xs d v0 v1 v2 h)
def stp_10 : List Nat := [0, 36]
set_option maxRecDepth 100000 in
set_option maxHeartbeats 4000000 in
theorem q_10_0 (xs : List Int) (d : Nat) (v0 : Int) (v1 : Int) (h : aH) : ev xs d mm_10 0 [some (.inr (.inr v0)), some (.inl v1), none, none] [] h =
  bif aok h.1 v0 0 && true then
    bI (cl xs d 6 [.inr (.inr v0)] h) (fun x2 h1 =>
    bif aok h1.1 v0 0 then
      bif decide ((h1.2 v0.toNat 4) < 0) then
        ev xs d mm_10 36 [some (.inr (.inr v0)), some (.inl v1), some (.inl x2), none] [.inl 0] h1
      else
        bif aok h1.1 v0 0 then
          bif aok h1.1 v0 0 then
            bif decide ((h1.2 v0.toNat 1) ≤ (h1.2 v0.toNat 4)) then
              ev xs d mm_10 36 [some (.inr (.inr v0)), some (.inl v1), some (.inl x2), none] [.inl 0] h1
            else
              bif aok h1.1 v0 0 then
                bif aok h1.1 v0 0 then
                  bif ain h1.1 (h1.2 v0.toNat 3) 100 (h1.2 v0.toNat 4) then
                    ev xs d mm_10 36 [some (.inr (.inr v0)), some (.inl v1), some (.inl x2), none] [.inl (h1.2 (h1.2 v0.toNat 3).toNat (h1.2 v0.toNat 4).toNat)] h1
                  else none
                else none
              else none
          else none
        else none
    else none)
  else none :=
  (aB gP gX xs stp_10 18 d mm_10 0 _ _ h).trans rfl

set_option maxRecDepth 100000 in
set_option maxHeartbeats 4000000 in
theorem q_10_36 (xs : List Int) (d : Nat) (v0 : Int) (v1 : Int) (v2 : Int) (u3 : Option aV) (s0 : Int) (h : aH) : ev xs d mm_10 36 [some (.inr (.inr v0)), some (.inl v1), some (.inl v2), u3] [.inl s0] h =
  bif aok h.1 v0 0 then
    bif aok h.1 v0 0 then
      bI (cl xs d 59 [.inl v2] (h.1, aup h.2 v0.toNat 4 (w32 ((h.2 v0.toNat 4) + 1)))) (fun x2 h1 =>
        bif decide (x2 = 0) then
          bif decide (¬ v2 = 40) then
            some (some (.inl s0), h1)
          else
            bif decide (6 ≤ v1) then
              some (some (.inl s0), h1)
            else
              bif aok h1.1 v0 0 && true then
                bI (cl xs d 7 [.inr (.inr v0), .inl (w32 (v1 + 1))] h1) (fun x4 h3 =>
                bif aok h3.1 v0 0 then
                  bif aok h3.1 v0 0 then
                    some (some (.inl x4), (h3.1, aup h3.2 v0.toNat 4 (w32 ((h3.2 v0.toNat 4) + 1))))
                  else none
                else none)
              else none
        else
          bif aok h1.1 v0 0 then
            bif ain h1.1 (h1.2 v0.toNat 0) 100 (w32 (v2 - 146)) then
              some (some (.inl (h1.2 (h1.2 v0.toNat 0).toNat (w32 (v2 - 146)).toNat)), h1)
            else none
          else none)
    else none
  else none :=
  (aB gP gX xs stp_10 31 d mm_10 36 _ _ h).trans rfl

theorem c_10 (xs : List Int) (d : Nat) (v0 : Int) (v1 : Int) (h : aH) : cl xs (d + 1) 10 [.inr (.inr v0), .inl v1] h =
  bif aok h.1 v0 0 && true then
    bI (cl xs d 6 [.inr (.inr v0)] h) (fun x2 h1 =>
    bif aok h1.1 v0 0 then
      bif decide ((h1.2 v0.toNat 4) < 0) then
        ev xs d mm_10 36 [some (.inr (.inr v0)), some (.inl v1), some (.inl x2), none] [.inl 0] h1
      else
        bif aok h1.1 v0 0 then
          bif aok h1.1 v0 0 then
            bif decide ((h1.2 v0.toNat 1) ≤ (h1.2 v0.toNat 4)) then
              ev xs d mm_10 36 [some (.inr (.inr v0)), some (.inl v1), some (.inl x2), none] [.inl 0] h1
            else
              bif aok h1.1 v0 0 then
                bif aok h1.1 v0 0 then
                  bif ain h1.1 (h1.2 v0.toNat 3) 100 (h1.2 v0.toNat 4) then
                    ev xs d mm_10 36 [some (.inr (.inr v0)), some (.inl v1), some (.inl x2), none] [.inl (h1.2 (h1.2 v0.toNat 3).toNat (h1.2 v0.toNat 4).toNat)] h1
                  else none
                else none
              else none
          else none
        else none
    else none)
  else none :=
  (show _ = ev xs d mm_10 0 [some (.inr (.inr v0)), some (.inl v1), none, none] [] h from rfl).trans (q_10_0 xs d v0 v1 h)
def stp_11 : List Nat := [0, 14, 21, 28, 41]
set_option maxRecDepth 100000 in
set_option maxHeartbeats 4000000 in
theorem q_11_0 (xs : List Int) (d : Nat) (v0 : Int) (h : aH) : ev xs d mm_11 0 [some (.inr (.inr v0))] [] h =
  bif decide (0 ≤ v0) && true then
    bif aok h.1 v0 1 then
      ev xs d mm_11 14 [some (.inr (.inr v0))] [.inr (.inr (h.1.1 : Int)), .inr (.inr v0)] ((h.1.1 + 1, h.1.2.1 + (39 : Int).toNat, fun q => if q = h.1.1 then (100, (39 : Int).toNat) else h.1.2.2 q), fun q j => if q = h.1.1 then 0 else (aup h.2 v0.toNat 0 0) q j)
    else none
  else none :=
  (aB gP gX xs stp_11 9 d mm_11 0 _ _ h).trans rfl

set_option maxRecDepth 100000 in
set_option maxHeartbeats 4000000 in
theorem q_11_14 (xs : List Int) (d : Nat) (v0 : Int) (s0 : Int) (s1 : Int) (h : aH) : ev xs d mm_11 14 [some (.inr (.inr v0))] [.inr (.inr s1), .inr (.inr s0)] h =
  bif aok h.1 s0 1 then
    ev xs d mm_11 21 [some (.inr (.inr v0))] [.inr (.inr (h.1.1 : Int)), .inr (.inr v0)] ((h.1.1 + 1, h.1.2.1 + (0 : Int).toNat, fun q => if q = h.1.1 then (101, (0 : Int).toNat) else h.1.2.2 q), fun q j => if q = h.1.1 then 0 else (aup h.2 s0.toNat 1 s1) q j)
  else none :=
  (aB gP gX xs stp_11 5 d mm_11 14 _ _ h).trans rfl

set_option maxRecDepth 100000 in
set_option maxHeartbeats 4000000 in
theorem q_11_21 (xs : List Int) (d : Nat) (v0 : Int) (s0 : Int) (s1 : Int) (h : aH) : ev xs d mm_11 21 [some (.inr (.inr v0))] [.inr (.inr s1), .inr (.inr s0)] h =
  bif aok h.1 s0 1 then
    ev xs d mm_11 28 [some (.inr (.inr v0))] [.inr (.inr (h.1.1 : Int)), .inr (.inr v0)] ((h.1.1 + 1, h.1.2.1 + (0 : Int).toNat, fun q => if q = h.1.1 then (100, (0 : Int).toNat) else h.1.2.2 q), fun q j => if q = h.1.1 then 0 else (aup h.2 s0.toNat 2 s1) q j)
  else none :=
  (aB gP gX xs stp_11 5 d mm_11 21 _ _ h).trans rfl

set_option maxRecDepth 100000 in
set_option maxHeartbeats 4000000 in
theorem q_11_28 (xs : List Int) (d : Nat) (v0 : Int) (s0 : Int) (s1 : Int) (h : aH) : ev xs d mm_11 28 [some (.inr (.inr v0))] [.inr (.inr s1), .inr (.inr s0)] h =
  bif aok h.1 s0 1 then
    bif aok h.1 v0 1 then
      bif aok h.1 v0 1 then
        ev xs d mm_11 41 [some (.inr (.inr v0))] [] (h.1, aup (aup (aup h.2 s0.toNat 3 s1) v0.toNat 4 0) v0.toNat 5 0)
      else none
    else none
  else none :=
  (aB gP gX xs stp_11 8 d mm_11 28 _ _ h).trans rfl

set_option maxRecDepth 100000 in
set_option maxHeartbeats 4000000 in
theorem q_11_41 (xs : List Int) (d : Nat) (v0 : Int) (h : aH) : ev xs d mm_11 41 [some (.inr (.inr v0))] [] h =
  bif aok h.1 v0 1 then
    some (none, (h.1, aup h.2 v0.toNat 6 (-2)))
  else none :=
  (aB gP gX xs stp_11 5 d mm_11 41 _ _ h).trans rfl

theorem c_11 (xs : List Int) (d : Nat) (v0 : Int) (h : aH) : cl xs (d + 1) 11 [.inr (.inr v0)] h =
  bif decide (0 ≤ v0) && true then
    bif aok h.1 v0 1 then
      ev xs d mm_11 14 [some (.inr (.inr v0))] [.inr (.inr (h.1.1 : Int)), .inr (.inr v0)] ((h.1.1 + 1, h.1.2.1 + (39 : Int).toNat, fun q => if q = h.1.1 then (100, (39 : Int).toNat) else h.1.2.2 q), fun q j => if q = h.1.1 then 0 else (aup h.2 v0.toNat 0 0) q j)
    else none
  else none :=
  (show _ = ev xs d mm_11 0 [some (.inr (.inr v0))] [] h from rfl).trans (q_11_0 xs d v0 h)
def stp_12 : List Nat := [0]
set_option maxRecDepth 100000 in
set_option maxHeartbeats 4000000 in
theorem q_12_0 (xs : List Int) (d : Nat) (v0 : Int) (h : aH) : ev xs d mm_12 0 [some (.inr (.inr v0))] [] h =
  bif aok h.1 v0 1 then
    some (none, (h.1, aup h.2 v0.toNat 0 0))
  else none :=
  (aB gP gX xs stp_12 5 d mm_12 0 _ _ h).trans rfl

theorem c_12 (xs : List Int) (d : Nat) (v0 : Int) (h : aH) : cl xs (d + 1) 12 [.inr (.inr v0)] h =
  bif aok h.1 v0 1 then
    some (none, (h.1, aup h.2 v0.toNat 0 0))
  else none :=
  (show _ = ev xs d mm_12 0 [some (.inr (.inr v0))] [] h from rfl).trans (q_12_0 xs d v0 h)
def stp_13 : List Nat := [0, 55]
set_option maxRecDepth 100000 in
set_option maxHeartbeats 4000000 in
theorem q_13_0 (xs : List Int) (d : Nat) (v0 : Int) (v1 : Int) (v2 : Int) (v3 : Int) (h : aH) : ev xs d mm_13 0 [some (.inr (.inr v0)), some (.inr (.inr v1)), some (.inl v2), some (.inl v3)] [] h =
  bif aok h.1 v0 1 then
    bif decide (¬ (oand (oushr (h.2 v0.toNat 0) v2) 1) = 0) then
      bif aok h.1 v0 1 then
        bif ain h.1 (h.2 v0.toNat 1) 100 (w32 ((w32 (v2 * 3)) + v3)) then
          some (some (.inl (h.2 (h.2 v0.toNat 1).toNat (w32 ((w32 (v2 * 3)) + v3)).toNat)), h)
        else none
      else none
    else
      bif aok h.1 v0 1 && true then
        bV (cl xs d 14 [.inr (.inr v0), .inr (.inr v1), .inl v2] h) (fun h1 =>
        bif aok h1.1 v0 1 then
          bif aok h1.1 v0 1 then
            bif aok h1.1 v0 1 then
              bif aok h1.1 v0 1 then
                bif ain h1.1 ((aup h1.2 v0.toNat 0 (oor (h1.2 v0.toNat 0) (oshl 1 v2))) v0.toNat 1) 100 (w32 (v2 * 3)) then
                  bif aok h1.1 v0 1 then
                    bif aok h1.1 v0 1 then
                      bif ain h1.1 ((aup (aup h1.2 v0.toNat 0 (oor (h1.2 v0.toNat 0) (oshl 1 v2))) ((aup h1.2 v0.toNat 0 (oor (h1.2 v0.toNat 0) (oshl 1 v2))) v0.toNat 1).toNat (w32 (v2 * 3)).toNat ((aup h1.2 v0.toNat 0 (oor (h1.2 v0.toNat 0) (oshl 1 v2))) v0.toNat 4)) v0.toNat 1) 100 (w32 ((w32 (v2 * 3)) + 1)) then
                        ev xs d mm_13 55 [some (.inr (.inr v0)), some (.inr (.inr v1)), some (.inl v2), some (.inl v3)] [] (h1.1, aup (aup (aup h1.2 v0.toNat 0 (oor (h1.2 v0.toNat 0) (oshl 1 v2))) ((aup h1.2 v0.toNat 0 (oor (h1.2 v0.toNat 0) (oshl 1 v2))) v0.toNat 1).toNat (w32 (v2 * 3)).toNat ((aup h1.2 v0.toNat 0 (oor (h1.2 v0.toNat 0) (oshl 1 v2))) v0.toNat 4)) ((aup (aup h1.2 v0.toNat 0 (oor (h1.2 v0.toNat 0) (oshl 1 v2))) ((aup h1.2 v0.toNat 0 (oor (h1.2 v0.toNat 0) (oshl 1 v2))) v0.toNat 1).toNat (w32 (v2 * 3)).toNat ((aup h1.2 v0.toNat 0 (oor (h1.2 v0.toNat 0) (oshl 1 v2))) v0.toNat 4)) v0.toNat 1).toNat (w32 ((w32 (v2 * 3)) + 1)).toNat ((aup (aup h1.2 v0.toNat 0 (oor (h1.2 v0.toNat 0) (oshl 1 v2))) ((aup h1.2 v0.toNat 0 (oor (h1.2 v0.toNat 0) (oshl 1 v2))) v0.toNat 1).toNat (w32 (v2 * 3)).toNat ((aup h1.2 v0.toNat 0 (oor (h1.2 v0.toNat 0) (oshl 1 v2))) v0.toNat 4)) v0.toNat 5))
                      else none
                    else none
                  else none
                else none
              else none
            else none
          else none
        else none)
      else none
  else none :=
  (aB gP gX xs stp_13 38 d mm_13 0 _ _ h).trans rfl

set_option maxRecDepth 100000 in
set_option maxHeartbeats 4000000 in
theorem q_13_55 (xs : List Int) (d : Nat) (v0 : Int) (v1 : Int) (v2 : Int) (v3 : Int) (h : aH) : ev xs d mm_13 55 [some (.inr (.inr v0)), some (.inr (.inr v1)), some (.inl v2), some (.inl v3)] [] h =
  bif aok h.1 v0 1 then
    bif aok h.1 v0 1 then
      bif ain h.1 (h.2 v0.toNat 1) 100 (w32 ((w32 (v2 * 3)) + 2)) then
        bif aok h.1 v0 1 then
          bif ain h.1 ((aup h.2 (h.2 v0.toNat 1).toNat (w32 ((w32 (v2 * 3)) + 2)).toNat (h.2 v0.toNat 6)) v0.toNat 1) 100 (w32 ((w32 (v2 * 3)) + v3)) then
            some (some (.inl ((aup h.2 (h.2 v0.toNat 1).toNat (w32 ((w32 (v2 * 3)) + 2)).toNat (h.2 v0.toNat 6)) ((aup h.2 (h.2 v0.toNat 1).toNat (w32 ((w32 (v2 * 3)) + 2)).toNat (h.2 v0.toNat 6)) v0.toNat 1).toNat (w32 ((w32 (v2 * 3)) + v3)).toNat)), (h.1, aup h.2 (h.2 v0.toNat 1).toNat (w32 ((w32 (v2 * 3)) + 2)).toNat (h.2 v0.toNat 6)))
          else none
        else none
      else none
    else none
  else none :=
  (aB gP gX xs stp_13 20 d mm_13 55 _ _ h).trans rfl

theorem c_13 (xs : List Int) (d : Nat) (v0 : Int) (v1 : Int) (v2 : Int) (v3 : Int) (h : aH) : cl xs (d + 1) 13 [.inr (.inr v0), .inr (.inr v1), .inl v2, .inl v3] h =
  bif aok h.1 v0 1 then
    bif decide (¬ (oand (oushr (h.2 v0.toNat 0) v2) 1) = 0) then
      bif aok h.1 v0 1 then
        bif ain h.1 (h.2 v0.toNat 1) 100 (w32 ((w32 (v2 * 3)) + v3)) then
          some (some (.inl (h.2 (h.2 v0.toNat 1).toNat (w32 ((w32 (v2 * 3)) + v3)).toNat)), h)
        else none
      else none
    else
      bif aok h.1 v0 1 && true then
        bV (cl xs d 14 [.inr (.inr v0), .inr (.inr v1), .inl v2] h) (fun h1 =>
        bif aok h1.1 v0 1 then
          bif aok h1.1 v0 1 then
            bif aok h1.1 v0 1 then
              bif aok h1.1 v0 1 then
                bif ain h1.1 ((aup h1.2 v0.toNat 0 (oor (h1.2 v0.toNat 0) (oshl 1 v2))) v0.toNat 1) 100 (w32 (v2 * 3)) then
                  bif aok h1.1 v0 1 then
                    bif aok h1.1 v0 1 then
                      bif ain h1.1 ((aup (aup h1.2 v0.toNat 0 (oor (h1.2 v0.toNat 0) (oshl 1 v2))) ((aup h1.2 v0.toNat 0 (oor (h1.2 v0.toNat 0) (oshl 1 v2))) v0.toNat 1).toNat (w32 (v2 * 3)).toNat ((aup h1.2 v0.toNat 0 (oor (h1.2 v0.toNat 0) (oshl 1 v2))) v0.toNat 4)) v0.toNat 1) 100 (w32 ((w32 (v2 * 3)) + 1)) then
                        ev xs d mm_13 55 [some (.inr (.inr v0)), some (.inr (.inr v1)), some (.inl v2), some (.inl v3)] [] (h1.1, aup (aup (aup h1.2 v0.toNat 0 (oor (h1.2 v0.toNat 0) (oshl 1 v2))) ((aup h1.2 v0.toNat 0 (oor (h1.2 v0.toNat 0) (oshl 1 v2))) v0.toNat 1).toNat (w32 (v2 * 3)).toNat ((aup h1.2 v0.toNat 0 (oor (h1.2 v0.toNat 0) (oshl 1 v2))) v0.toNat 4)) ((aup (aup h1.2 v0.toNat 0 (oor (h1.2 v0.toNat 0) (oshl 1 v2))) ((aup h1.2 v0.toNat 0 (oor (h1.2 v0.toNat 0) (oshl 1 v2))) v0.toNat 1).toNat (w32 (v2 * 3)).toNat ((aup h1.2 v0.toNat 0 (oor (h1.2 v0.toNat 0) (oshl 1 v2))) v0.toNat 4)) v0.toNat 1).toNat (w32 ((w32 (v2 * 3)) + 1)).toNat ((aup (aup h1.2 v0.toNat 0 (oor (h1.2 v0.toNat 0) (oshl 1 v2))) ((aup h1.2 v0.toNat 0 (oor (h1.2 v0.toNat 0) (oshl 1 v2))) v0.toNat 1).toNat (w32 (v2 * 3)).toNat ((aup h1.2 v0.toNat 0 (oor (h1.2 v0.toNat 0) (oshl 1 v2))) v0.toNat 4)) v0.toNat 5))
                      else none
                    else none
                  else none
                else none
              else none
            else none
          else none
        else none)
      else none
  else none :=
  (show _ = ev xs d mm_13 0 [some (.inr (.inr v0)), some (.inr (.inr v1)), some (.inl v2), some (.inl v3)] [] h from rfl).trans (q_13_0 xs d v0 v1 v2 v3 h)
def stp_14 : List Nat := [0, 17, 26, 29, 53, 55, 89]
set_option maxRecDepth 100000 in
set_option maxHeartbeats 4000000 in
theorem q_14_0 (xs : List Int) (d : Nat) (v0 : Int) (v1 : Int) (v2 : Int) (h : aH) : ev xs d mm_14 0 [some (.inr (.inr v0)), some (.inr (.inr v1)), some (.inl v2), none, none, none, none, none, none, none] [] h =
  bif aok h.1 v0 1 then
    bif aoa h.1 (h.2 v0.toNat 2) then
      bif decide (4096 ≤ (aln h.1 (h.2 v0.toNat 2) : Int)) then
        ev xs d mm_14 29 [some (.inr (.inr v0)), some (.inr (.inr v1)), some (.inl v2), none, none, none, none, none, none, none] [] h
      else
        ev xs d mm_14 17 [some (.inr (.inr v0)), some (.inr (.inr v1)), some (.inl v2), none, none, none, none, none, none, none] [.inr (.inr (h.1.1 : Int)), .inr (.inr v0)] ((h.1.1 + 1, h.1.2.1 + (4096 : Int).toNat, fun q => if q = h.1.1 then (101, (4096 : Int).toNat) else h.1.2.2 q), fun q j => if q = h.1.1 then 0 else h.2 q j)
    else none
  else none :=
  (aB gP gX xs stp_14 9 d mm_14 0 _ _ h).trans rfl

set_option maxRecDepth 100000 in
set_option maxHeartbeats 4000000 in
theorem q_14_17 (xs : List Int) (d : Nat) (v0 : Int) (v1 : Int) (v2 : Int) (u3 : Option aV) (u4 : Option aV) (u5 : Option aV) (u6 : Option aV) (u7 : Option aV) (u8 : Option aV) (u9 : Option aV) (s0 : Int) (s1 : Int) (h : aH) : ev xs d mm_14 17 [some (.inr (.inr v0)), some (.inr (.inr v1)), some (.inl v2), u3, u4, u5, u6, u7, u8, u9] [.inr (.inr s1), .inr (.inr s0)] h =
  bif aok h.1 s0 1 then
    ev xs d mm_14 26 [some (.inr (.inr v0)), some (.inr (.inr v1)), some (.inl v2), u3, u4, u5, u6, u7, u8, u9] [.inr (.inr (h.1.1 : Int)), .inr (.inr v0)] ((h.1.1 + 1, h.1.2.1 + (4096 : Int).toNat, fun q => if q = h.1.1 then (100, (4096 : Int).toNat) else h.1.2.2 q), fun q j => if q = h.1.1 then 0 else (aup h.2 s0.toNat 2 s1) q j)
  else none :=
  (aB gP gX xs stp_14 5 d mm_14 17 _ _ h).trans rfl

set_option maxRecDepth 100000 in
set_option maxHeartbeats 4000000 in
theorem q_14_26 (xs : List Int) (d : Nat) (v0 : Int) (v1 : Int) (v2 : Int) (u3 : Option aV) (u4 : Option aV) (u5 : Option aV) (u6 : Option aV) (u7 : Option aV) (u8 : Option aV) (u9 : Option aV) (s0 : Int) (s1 : Int) (h : aH) : ev xs d mm_14 26 [some (.inr (.inr v0)), some (.inr (.inr v1)), some (.inl v2), u3, u4, u5, u6, u7, u8, u9] [.inr (.inr s1), .inr (.inr s0)] h =
  bif aok h.1 s0 1 then
    ev xs d mm_14 29 [some (.inr (.inr v0)), some (.inr (.inr v1)), some (.inl v2), u3, u4, u5, u6, u7, u8, u9] [] (h.1, aup h.2 s0.toNat 3 s1)
  else none :=
  (aB gP gX xs stp_14 2 d mm_14 26 _ _ h).trans rfl

set_option maxRecDepth 100000 in
set_option maxHeartbeats 4000000 in
theorem q_14_29 (xs : List Int) (d : Nat) (v0 : Int) (v1 : Int) (v2 : Int) (u3 : Option aV) (u4 : Option aV) (u5 : Option aV) (u6 : Option aV) (u7 : Option aV) (u8 : Option aV) (u9 : Option aV) (h : aH) : ev xs d mm_14 29 [some (.inr (.inr v0)), some (.inr (.inr v1)), some (.inl v2), u3, u4, u5, u6, u7, u8, u9] [] h =
  bif aok h.1 v0 1 then
    bV (cl xs d 317 [.inr (.inr (h.2 v0.toNat 2)), .inr (.inl 0)] h) (fun h1 =>
      bif aok h1.1 v0 1 then
        bif aok h1.1 v0 1 then
          bif aok h1.1 v0 1 then
            ev xs d mm_14 53 [some (.inr (.inr v0)), some (.inr (.inr v1)), some (.inl v2), u3, u4, u5, u6, u7, u8, u9] [] (h1.1, aup (aup (aup h1.2 v0.toNat 4 0) v0.toNat 5 0) v0.toNat 6 (-2))
          else none
        else none
      else none)
  else none :=
  (aB gP gX xs stp_14 14 d mm_14 29 _ _ h).trans rfl

set_option maxRecDepth 100000 in
set_option maxHeartbeats 4000000 in
theorem q_14_53 (xs : List Int) (d : Nat) (v0 : Int) (v1 : Int) (v2 : Int) (u3 : Option aV) (u4 : Option aV) (u5 : Option aV) (u6 : Option aV) (u7 : Option aV) (u8 : Option aV) (u9 : Option aV) (h : aH) : ev xs d mm_14 53 [some (.inr (.inr v0)), some (.inr (.inr v1)), some (.inl v2), u3, u4, u5, u6, u7, u8, u9] [] h =
  ev xs d mm_14 55 [some (.inr (.inr v0)), some (.inr (.inr v1)), some (.inl v2), some (.inl 0), u4, u5, u6, u7, u8, u9] [] h :=
  (aB gP gX xs stp_14 3 d mm_14 53 _ _ h).trans rfl

set_option maxRecDepth 100000 in
set_option maxHeartbeats 4000000 in
theorem q_14_55 (xs : List Int) (d : Nat) (v0 : Int) (v1 : Int) (v2 : Int) (v3 : Int) (u4 : Option aV) (u5 : Option aV) (u6 : Option aV) (u7 : Option aV) (u8 : Option aV) (u9 : Option aV) (h : aH) : ev xs d mm_14 55 [some (.inr (.inr v0)), some (.inr (.inr v1)), some (.inl v2), some (.inl v3), u4, u5, u6, u7, u8, u9] [] h =
  bif aok h.1 v1 3 then
    bif ain h.1 (h.2 v1.toNat 0) 100 2 then
      bif decide ((h.2 (h.2 v1.toNat 0).toNat (2 : Int).toNat) < v3) then
        some (none, h)
      else
        bif decide (¬ v3 = 0) then
          bif aok h.1 v1 3 then
            bif ain h.1 (h.2 v1.toNat 1) 101 (w32 ((w32 (16 + v3)) - 1)) then
              ev xs d mm_14 89 [some (.inr (.inr v0)), some (.inr (.inr v1)), some (.inl v2), some (.inl v3), some (.inr (.inl (h.2 (h.2 v1.toNat 1).toNat (w32 ((w32 (16 + v3)) - 1)).toNat))), none, some (.inl 0), u7, u8, u9] [] h
            else none
          else none
        else
          ev xs d mm_14 89 [some (.inr (.inr v0)), some (.inr (.inr v1)), some (.inl v2), some (.inl v3), some (.inr (.inl 0)), none, some (.inl 0), u7, u8, u9] [] h
    else none
  else none :=
  (aB gP gX xs stp_14 20 d mm_14 55 _ _ h).trans rfl

set_option maxRecDepth 100000 in
set_option maxHeartbeats 4000000 in
theorem q_14_89 (xs : List Int) (d : Nat) (v0 : Int) (v1 : Int) (v2 : Int) (v3 : Int) (v4 : Int) (u5 : Option aV) (v6 : Int) (u7 : Option aV) (u8 : Option aV) (u9 : Option aV) (h : aH) : ev xs d mm_14 89 [some (.inr (.inr v0)), some (.inr (.inr v1)), some (.inl v2), some (.inl v3), some (.inr (.inl v4)), u5, some (.inl v6), u7, u8, u9] [] h =
  bif aok h.1 v1 3 then
    bif ain h.1 (h.2 v1.toNat 0) 100 0 then
      bif decide ((h.2 (h.2 v1.toNat 0).toNat (0 : Int).toNat) ≤ v6) then
        ev xs d mm_14 55 [some (.inr (.inr v0)), some (.inr (.inr v1)), some (.inl v2), some (.inl (w32 (v3 + 1))), some (.inr (.inl v4)), u5, some (.inl v6), u7, u8, u9] [] h
      else
        bif aok h.1 v1 3 then
          bif ain h.1 (h.2 v1.toNat 1) 101 (w32 (0 + v6)) then
            bI (cl xs d 121 [.inr (.inl v4)] h) (fun x2 h1 =>
              bI (cl xs d 121 [.inr (.inl (h.2 (h.2 v1.toNat 1).toNat (w32 (0 + v6)).toNat))] h1) (fun x4 h3 =>
                bif decide (v2 < (w32 (x2 + x4))) then
                  ev xs d mm_14 89 [some (.inr (.inr v0)), some (.inr (.inr v1)), some (.inl v2), some (.inl v3), some (.inr (.inl v4)), acl u5, some (.inl (w32 (v6 + 1))), some (.inr (.inl (h.2 (h.2 v1.toNat 1).toNat (w32 (0 + v6)).toNat))), none, some (.inl (w32 (x2 + x4)))] [] h3
                else
                  bJ (cl xs d 15 [.inr (.inl v4), .inr (.inl (h.2 (h.2 v1.toNat 1).toNat (w32 (0 + v6)).toNat))] h3) (fun x6 h5 =>
                    bif aok h5.1 v0 1 && true then
                      bV (cl xs d 16 [.inr (.inr v0), .inr (.inr v1), .inr (.inl x6), .inl v2, .inl (w32 ((w32 (1000 * v3)) + (w32 (100 * (w32 (v6 + 1))))))] h5) (fun h7 =>
                      ev xs d mm_14 89 [some (.inr (.inr v0)), some (.inr (.inr v1)), some (.inl v2), some (.inl v3), some (.inr (.inl v4)), acl u5, some (.inl (w32 (v6 + 1))), some (.inr (.inl (h.2 (h.2 v1.toNat 1).toNat (w32 (0 + v6)).toNat))), none, some (.inl (w32 (x2 + x4)))] [] h7)
                    else none)))
          else none
        else none
    else none
  else none :=
  (aB gP gX xs stp_14 41 d mm_14 89 _ _ h).trans rfl

theorem c_14 (xs : List Int) (d : Nat) (v0 : Int) (v1 : Int) (v2 : Int) (h : aH) : cl xs (d + 1) 14 [.inr (.inr v0), .inr (.inr v1), .inl v2] h =
  bif aok h.1 v0 1 then
    bif aoa h.1 (h.2 v0.toNat 2) then
      bif decide (4096 ≤ (aln h.1 (h.2 v0.toNat 2) : Int)) then
        ev xs d mm_14 29 [some (.inr (.inr v0)), some (.inr (.inr v1)), some (.inl v2), none, none, none, none, none, none, none] [] h
      else
        ev xs d mm_14 17 [some (.inr (.inr v0)), some (.inr (.inr v1)), some (.inl v2), none, none, none, none, none, none, none] [.inr (.inr (h.1.1 : Int)), .inr (.inr v0)] ((h.1.1 + 1, h.1.2.1 + (4096 : Int).toNat, fun q => if q = h.1.1 then (101, (4096 : Int).toNat) else h.1.2.2 q), fun q j => if q = h.1.1 then 0 else h.2 q j)
    else none
  else none :=
  (show _ = ev xs d mm_14 0 [some (.inr (.inr v0)), some (.inr (.inr v1)), some (.inl v2), none, none, none, none, none, none, none] [] h from rfl).trans (q_14_0 xs d v0 v1 v2 h)
def stp_15 : List Nat := [0]
set_option maxRecDepth 100000 in
set_option maxHeartbeats 4000000 in
theorem q_15_0 (xs : List Int) (d : Nat) (v0 : Int) (v2 : Int) (h : aH) : ev xs d mm_15 0 [some (.inr (.inl v0)), none, some (.inr (.inl v2)), none] [] h =
  bI (cl xs d 121 [.inr (.inl v0)] h) (fun x2 h1 =>
    some (some (.inr (.inl (olor v0 (olshl v2 (w32 (5 * x2)))))), h1)) :=
  (aB gP gX xs stp_15 10 d mm_15 0 _ _ h).trans rfl

theorem c_15 (xs : List Int) (d : Nat) (v0 : Int) (v2 : Int) (h : aH) : cl xs (d + 1) 15 [.inr (.inl v0), .inr (.inl v2)] h =
  bI (cl xs d 121 [.inr (.inl v0)] h) (fun x2 h1 =>
    some (some (.inr (.inl (olor v0 (olshl v2 (w32 (5 * x2)))))), h1)) :=
  (show _ = ev xs d mm_15 0 [some (.inr (.inl v0)), none, some (.inr (.inl v2)), none] [] h from rfl).trans (q_15_0 xs d v0 v2 h)
def stp_16 : List Nat := [0, 25, 86]
set_option maxRecDepth 100000 in
set_option maxHeartbeats 4000000 in
theorem q_16_0 (xs : List Int) (d : Nat) (v0 : Int) (v1 : Int) (v2 : Int) (v4 : Int) (v5 : Int) (h : aH) : ev xs d mm_16 0 [some (.inr (.inr v0)), some (.inr (.inr v1)), some (.inr (.inl v2)), none, some (.inl v4), some (.inl v5), none, none, none, none, none, none, none, none] [] h =
  bI (cl xs d 121 [.inr (.inl v2)] h) (fun x2 h1 =>
    bif decide (¬ (w32 (v4 - x2)) = 0) then
      ev xs d mm_16 25 [some (.inr (.inr v0)), some (.inr (.inr v1)), some (.inr (.inl v2)), none, some (.inl v4), some (.inl v5), some (.inl (w32 (v4 - x2))), some (.inl 0), none, none, none, none, none, none] [] h1
    else
      bif aok h1.1 v0 1 && true then
        bV (cl xs d 17 [.inr (.inr v0), .inr (.inl v2), .inl v5] h1) (fun h3 =>
        some (none, h3))
      else none) :=
  (aB gP gX xs stp_16 13 d mm_16 0 _ _ h).trans rfl

set_option maxRecDepth 100000 in
set_option maxHeartbeats 4000000 in
theorem q_16_25 (xs : List Int) (d : Nat) (v0 : Int) (v1 : Int) (v2 : Int) (u3 : Option aV) (v4 : Int) (v5 : Int) (v6 : Int) (v7 : Int) (u8 : Option aV) (u9 : Option aV) (u10 : Option aV) (u11 : Option aV) (u12 : Option aV) (u13 : Option aV) (h : aH) : ev xs d mm_16 25 [some (.inr (.inr v0)), some (.inr (.inr v1)), some (.inr (.inl v2)), u3, some (.inl v4), some (.inl v5), some (.inl v6), some (.inl v7), u8, u9, u10, u11, u12, u13] [] h =
  bif aok h.1 v1 3 then
    bif ain h.1 (h.2 v1.toNat 0) 100 1 then
      bif decide ((h.2 (h.2 v1.toNat 0).toNat (1 : Int).toNat) ≤ v7) then
        some (none, h)
      else
        bif aok h.1 v1 3 then
          bif ain h.1 (h.2 v1.toNat 1) 101 (w32 (8 + v7)) then
            bI (cl xs d 121 [.inr (.inl (h.2 (h.2 v1.toNat 1).toNat (w32 (8 + v7)).toNat))] h) (fun x2 h1 =>
              bif decide (¬ (w32 (v6 - x2)) = 0) then
                ev xs d mm_16 86 [some (.inr (.inr v0)), some (.inr (.inr v1)), some (.inr (.inl v2)), u3, some (.inl v4), some (.inl v5), some (.inl v6), some (.inl v7), some (.inr (.inl (h.2 (h.2 v1.toNat 1).toNat (w32 (8 + v7)).toNat))), none, some (.inl (w32 (v6 - x2))), some (.inl 0), u12, u13] [] h1
              else
                bJ (cl xs d 15 [.inr (.inl v2), .inr (.inl (h.2 (h.2 v1.toNat 1).toNat (w32 (8 + v7)).toNat))] h1) (fun x4 h3 =>
                  bif aok h3.1 v0 1 && true then
                    bV (cl xs d 17 [.inr (.inr v0), .inr (.inl x4), .inl (w32 (v5 + (w32 (10 * (w32 (v7 + 1))))))] h3) (fun h5 =>
                    ev xs d mm_16 86 [some (.inr (.inr v0)), some (.inr (.inr v1)), some (.inr (.inl v2)), u3, some (.inl v4), some (.inl v5), some (.inl v6), some (.inl v7), some (.inr (.inl (h.2 (h.2 v1.toNat 1).toNat (w32 (8 + v7)).toNat))), none, some (.inl (w32 (v6 - x2))), some (.inl 0), u12, u13] [] h5)
                  else none))
          else none
        else none
    else none
  else none :=
  (aB gP gX xs stp_16 35 d mm_16 25 _ _ h).trans rfl

set_option maxRecDepth 100000 in
set_option maxHeartbeats 4000000 in
theorem q_16_86 (xs : List Int) (d : Nat) (v0 : Int) (v1 : Int) (v2 : Int) (u3 : Option aV) (v4 : Int) (v5 : Int) (v6 : Int) (v7 : Int) (v8 : Int) (u9 : Option aV) (v10 : Int) (v11 : Int) (u12 : Option aV) (u13 : Option aV) (h : aH) : ev xs d mm_16 86 [some (.inr (.inr v0)), some (.inr (.inr v1)), some (.inr (.inl v2)), u3, some (.inl v4), some (.inl v5), some (.inl v6), some (.inl v7), some (.inr (.inl v8)), u9, some (.inl v10), some (.inl v11), u12, u13] [] h =
  bif aok h.1 v1 3 then
    bif ain h.1 (h.2 v1.toNat 0) 100 1 then
      bif decide ((h.2 (h.2 v1.toNat 0).toNat (1 : Int).toNat) ≤ v11) then
        ev xs d mm_16 25 [some (.inr (.inr v0)), some (.inr (.inr v1)), some (.inr (.inl v2)), u3, some (.inl v4), some (.inl v5), some (.inl v6), some (.inl (w32 (v7 + 1))), some (.inr (.inl v8)), u9, some (.inl v10), some (.inl v11), u12, u13] [] h
      else
        bif aok h.1 v1 3 then
          bif ain h.1 (h.2 v1.toNat 1) 101 (w32 (8 + v11)) then
            bI (cl xs d 121 [.inr (.inl (h.2 (h.2 v1.toNat 1).toNat (w32 (8 + v11)).toNat))] h) (fun x2 h1 =>
              bif decide (¬ v10 = x2) then
                ev xs d mm_16 86 [some (.inr (.inr v0)), some (.inr (.inr v1)), some (.inr (.inl v2)), u3, some (.inl v4), some (.inl v5), some (.inl v6), some (.inl v7), some (.inr (.inl v8)), u9, some (.inl v10), some (.inl (w32 (v11 + 1))), some (.inr (.inl (h.2 (h.2 v1.toNat 1).toNat (w32 (8 + v11)).toNat))), none] [] h1
              else
                bJ (cl xs d 15 [.inr (.inl v2), .inr (.inl v8)] h1) (fun x4 h3 =>
                  bJ (cl xs d 15 [.inr (.inl x4), .inr (.inl (h.2 (h.2 v1.toNat 1).toNat (w32 (8 + v11)).toNat))] h3) (fun x6 h5 =>
                    bif aok h5.1 v0 1 && true then
                      bV (cl xs d 17 [.inr (.inr v0), .inr (.inl x6), .inl (w32 ((w32 ((w32 (v5 + (w32 (10 * (w32 (v7 + 1)))))) + v11)) + 1))] h5) (fun h7 =>
                      ev xs d mm_16 86 [some (.inr (.inr v0)), some (.inr (.inr v1)), some (.inr (.inl v2)), u3, some (.inl v4), some (.inl v5), some (.inl v6), some (.inl v7), some (.inr (.inl v8)), u9, some (.inl v10), some (.inl (w32 (v11 + 1))), some (.inr (.inl (h.2 (h.2 v1.toNat 1).toNat (w32 (8 + v11)).toNat))), none] [] h7)
                    else none)))
          else none
        else none
    else none
  else none :=
  (aB gP gX xs stp_16 38 d mm_16 86 _ _ h).trans rfl

theorem c_16 (xs : List Int) (d : Nat) (v0 : Int) (v1 : Int) (v2 : Int) (v4 : Int) (v5 : Int) (h : aH) : cl xs (d + 1) 16 [.inr (.inr v0), .inr (.inr v1), .inr (.inl v2), .inl v4, .inl v5] h =
  bI (cl xs d 121 [.inr (.inl v2)] h) (fun x2 h1 =>
    bif decide (¬ (w32 (v4 - x2)) = 0) then
      ev xs d mm_16 25 [some (.inr (.inr v0)), some (.inr (.inr v1)), some (.inr (.inl v2)), none, some (.inl v4), some (.inl v5), some (.inl (w32 (v4 - x2))), some (.inl 0), none, none, none, none, none, none] [] h1
    else
      bif aok h1.1 v0 1 && true then
        bV (cl xs d 17 [.inr (.inr v0), .inr (.inl v2), .inl v5] h1) (fun h3 =>
        some (none, h3))
      else none) :=
  (show _ = ev xs d mm_16 0 [some (.inr (.inr v0)), some (.inr (.inr v1)), some (.inr (.inl v2)), none, some (.inl v4), some (.inl v5), none, none, none, none, none, none, none, none] [] h from rfl).trans (q_16_0 xs d v0 v1 v2 v4 v5 h)
def stp_17 : List Nat := [0, 45, 92]
set_option maxRecDepth 100000 in
set_option maxHeartbeats 4000000 in
theorem q_17_0 (xs : List Int) (d : Nat) (v0 : Int) (v1 : Int) (v3 : Int) (h : aH) : ev xs d mm_17 0 [some (.inr (.inr v0)), some (.inr (.inl v1)), none, some (.inl v3), none] [] h =
  bif aok h.1 v0 1 && true then
    bI (cl xs d 18 [.inr (.inr v0), .inr (.inl v1)] h) (fun x2 h1 =>
    bif aok h1.1 v0 1 then
      bif ain h1.1 (h1.2 v0.toNat 2) 101 x2 then
        bif decide (¬ (olcmp (h1.2 (h1.2 v0.toNat 2).toNat x2.toNat) 0) = 0) then
          bif aok h1.1 v0 1 then
            bif ain h1.1 (h1.2 v0.toNat 3) 100 x2 then
              bif decide ((h1.2 (h1.2 v0.toNat 3).toNat x2.toNat) ≤ 0) then
                some (none, h1)
              else
                bif aok h1.1 v0 1 then
                  bif decide ((h1.2 v0.toNat 6) = (-2)) then
                    bif aok h1.1 v0 1 then
                      bif ain h1.1 (h1.2 v0.toNat 3) 100 x2 then
                        bif aok h1.1 v0 1 then
                          ev xs d mm_17 92 [some (.inr (.inr v0)), some (.inr (.inl v1)), none, some (.inl v3), some (.inl x2)] [] (h1.1, aup h1.2 v0.toNat 6 (h1.2 (h1.2 v0.toNat 3).toNat x2.toNat))
                        else none
                      else none
                    else none
                  else
                    bif aok h1.1 v0 1 then
                      bif ain h1.1 (h1.2 v0.toNat 3) 100 x2 then
                        bif aok h1.1 v0 1 then
                          bif decide ((h1.2 v0.toNat 6) ≤ (h1.2 (h1.2 v0.toNat 3).toNat x2.toNat)) then
                            ev xs d mm_17 92 [some (.inr (.inr v0)), some (.inr (.inl v1)), none, some (.inl v3), some (.inl x2)] [] h1
                          else
                            bif aok h1.1 v0 1 then
                              bif ain h1.1 (h1.2 v0.toNat 3) 100 x2 then
                                bif aok h1.1 v0 1 then
                                  ev xs d mm_17 92 [some (.inr (.inr v0)), some (.inr (.inl v1)), none, some (.inl v3), some (.inl x2)] [] (h1.1, aup h1.2 v0.toNat 6 (h1.2 (h1.2 v0.toNat 3).toNat x2.toNat))
                                else none
                              else none
                            else none
                        else none
                      else none
                    else none
                else none
            else none
          else none
        else
          bif aok h1.1 v0 1 then
            bif ain h1.1 (h1.2 v0.toNat 2) 101 x2 then
              bif aok h1.1 v0 1 then
                bif ain h1.1 ((aup h1.2 (h1.2 v0.toNat 2).toNat x2.toNat v1) v0.toNat 3) 100 x2 then
                  bif aok h1.1 v0 1 then
                    bif aok h1.1 v0 1 then
                      ev xs d mm_17 45 [some (.inr (.inr v0)), some (.inr (.inl v1)), none, some (.inl v3), some (.inl x2)] [] (h1.1, aup (aup (aup h1.2 (h1.2 v0.toNat 2).toNat x2.toNat v1) ((aup h1.2 (h1.2 v0.toNat 2).toNat x2.toNat v1) v0.toNat 3).toNat x2.toNat v3) v0.toNat 4 (w32 (((aup (aup h1.2 (h1.2 v0.toNat 2).toNat x2.toNat v1) ((aup h1.2 (h1.2 v0.toNat 2).toNat x2.toNat v1) v0.toNat 3).toNat x2.toNat v3) v0.toNat 4) + 1)))
                    else none
                  else none
                else none
              else none
            else none
          else none
      else none
    else none)
  else none :=
  (aB gP gX xs stp_17 34 d mm_17 0 _ _ h).trans rfl

set_option maxRecDepth 100000 in
set_option maxHeartbeats 4000000 in
theorem q_17_45 (xs : List Int) (d : Nat) (v0 : Int) (v1 : Int) (u2 : Option aV) (v3 : Int) (v4 : Int) (h : aH) : ev xs d mm_17 45 [some (.inr (.inr v0)), some (.inr (.inl v1)), u2, some (.inl v3), some (.inl v4)] [] h =
  some (none, h) :=
  (aB gP gX xs stp_17 3 d mm_17 45 _ _ h).trans rfl

set_option maxRecDepth 100000 in
set_option maxHeartbeats 4000000 in
theorem q_17_92 (xs : List Int) (d : Nat) (v0 : Int) (v1 : Int) (u2 : Option aV) (v3 : Int) (v4 : Int) (h : aH) : ev xs d mm_17 92 [some (.inr (.inr v0)), some (.inr (.inl v1)), u2, some (.inl v3), some (.inl v4)] [] h =
  bif aok h.1 v0 1 then
    bif aok h.1 v0 1 then
      bif ain h.1 (h.2 v0.toNat 3) 100 v4 then
        bif ain h.1 (h.2 v0.toNat 3) 100 v4 then
          bif aok h.1 v0 1 then
            bif aok h.1 v0 1 then
              some (none, (h.1, aup (aup h.2 (h.2 v0.toNat 3).toNat v4.toNat (w32 (-(h.2 (h.2 v0.toNat 3).toNat v4.toNat)))) v0.toNat 5 (w32 (((aup h.2 (h.2 v0.toNat 3).toNat v4.toNat (w32 (-(h.2 (h.2 v0.toNat 3).toNat v4.toNat)))) v0.toNat 5) + 1))))
            else none
          else none
        else none
      else none
    else none
  else none :=
  (aB gP gX xs stp_17 17 d mm_17 92 _ _ h).trans rfl

theorem c_17 (xs : List Int) (d : Nat) (v0 : Int) (v1 : Int) (v3 : Int) (h : aH) : cl xs (d + 1) 17 [.inr (.inr v0), .inr (.inl v1), .inl v3] h =
  bif aok h.1 v0 1 && true then
    bI (cl xs d 18 [.inr (.inr v0), .inr (.inl v1)] h) (fun x2 h1 =>
    bif aok h1.1 v0 1 then
      bif ain h1.1 (h1.2 v0.toNat 2) 101 x2 then
        bif decide (¬ (olcmp (h1.2 (h1.2 v0.toNat 2).toNat x2.toNat) 0) = 0) then
          bif aok h1.1 v0 1 then
            bif ain h1.1 (h1.2 v0.toNat 3) 100 x2 then
              bif decide ((h1.2 (h1.2 v0.toNat 3).toNat x2.toNat) ≤ 0) then
                some (none, h1)
              else
                bif aok h1.1 v0 1 then
                  bif decide ((h1.2 v0.toNat 6) = (-2)) then
                    bif aok h1.1 v0 1 then
                      bif ain h1.1 (h1.2 v0.toNat 3) 100 x2 then
                        bif aok h1.1 v0 1 then
                          ev xs d mm_17 92 [some (.inr (.inr v0)), some (.inr (.inl v1)), none, some (.inl v3), some (.inl x2)] [] (h1.1, aup h1.2 v0.toNat 6 (h1.2 (h1.2 v0.toNat 3).toNat x2.toNat))
                        else none
                      else none
                    else none
                  else
                    bif aok h1.1 v0 1 then
                      bif ain h1.1 (h1.2 v0.toNat 3) 100 x2 then
                        bif aok h1.1 v0 1 then
                          bif decide ((h1.2 v0.toNat 6) ≤ (h1.2 (h1.2 v0.toNat 3).toNat x2.toNat)) then
                            ev xs d mm_17 92 [some (.inr (.inr v0)), some (.inr (.inl v1)), none, some (.inl v3), some (.inl x2)] [] h1
                          else
                            bif aok h1.1 v0 1 then
                              bif ain h1.1 (h1.2 v0.toNat 3) 100 x2 then
                                bif aok h1.1 v0 1 then
                                  ev xs d mm_17 92 [some (.inr (.inr v0)), some (.inr (.inl v1)), none, some (.inl v3), some (.inl x2)] [] (h1.1, aup h1.2 v0.toNat 6 (h1.2 (h1.2 v0.toNat 3).toNat x2.toNat))
                                else none
                              else none
                            else none
                        else none
                      else none
                    else none
                else none
            else none
          else none
        else
          bif aok h1.1 v0 1 then
            bif ain h1.1 (h1.2 v0.toNat 2) 101 x2 then
              bif aok h1.1 v0 1 then
                bif ain h1.1 ((aup h1.2 (h1.2 v0.toNat 2).toNat x2.toNat v1) v0.toNat 3) 100 x2 then
                  bif aok h1.1 v0 1 then
                    bif aok h1.1 v0 1 then
                      ev xs d mm_17 45 [some (.inr (.inr v0)), some (.inr (.inl v1)), none, some (.inl v3), some (.inl x2)] [] (h1.1, aup (aup (aup h1.2 (h1.2 v0.toNat 2).toNat x2.toNat v1) ((aup h1.2 (h1.2 v0.toNat 2).toNat x2.toNat v1) v0.toNat 3).toNat x2.toNat v3) v0.toNat 4 (w32 (((aup (aup h1.2 (h1.2 v0.toNat 2).toNat x2.toNat v1) ((aup h1.2 (h1.2 v0.toNat 2).toNat x2.toNat v1) v0.toNat 3).toNat x2.toNat v3) v0.toNat 4) + 1)))
                    else none
                  else none
                else none
              else none
            else none
          else none
      else none
    else none)
  else none :=
  (show _ = ev xs d mm_17 0 [some (.inr (.inr v0)), some (.inr (.inl v1)), none, some (.inl v3), none] [] h from rfl).trans (q_17_0 xs d v0 v1 v3 h)
def stp_18 : List Nat := [0, 18]
set_option maxRecDepth 100000 in
set_option maxHeartbeats 4000000 in
theorem q_18_0 (xs : List Int) (d : Nat) (v0 : Int) (v1 : Int) (h : aH) : ev xs d mm_18 0 [some (.inr (.inr v0)), some (.inr (.inl v1)), none, none, none] [] h =
  ev xs d mm_18 18 [some (.inr (.inr v0)), some (.inr (.inl v1)), none, some (.inl (ol2i (olushr (w64 ((olxor v1 (olushr v1 23)) * (-7046029254386353131))) 52))), some (.inl 0)] [] h :=
  (aB gP gX xs stp_18 14 d mm_18 0 _ _ h).trans rfl

set_option maxRecDepth 100000 in
set_option maxHeartbeats 4000000 in
theorem q_18_18 (xs : List Int) (d : Nat) (v0 : Int) (v1 : Int) (u2 : Option aV) (v3 : Int) (v4 : Int) (h : aH) : ev xs d mm_18 18 [some (.inr (.inr v0)), some (.inr (.inl v1)), u2, some (.inl v3), some (.inl v4)] [] h =
  bif decide (4096 ≤ v4) then
    some (some (.inl v3), h)
  else
    bif aok h.1 v0 1 then
      bif ain h.1 (h.2 v0.toNat 2) 101 v3 then
        bif decide ((olcmp (h.2 (h.2 v0.toNat 2).toNat v3.toNat) 0) = 0) then
          some (some (.inl v3), h)
        else
          bif aok h.1 v0 1 then
            bif ain h.1 (h.2 v0.toNat 2) 101 v3 then
              bif decide ((olcmp (h.2 (h.2 v0.toNat 2).toNat v3.toNat) v1) = 0) then
                some (some (.inl v3), h)
              else
                ev xs d mm_18 18 [some (.inr (.inr v0)), some (.inr (.inl v1)), acl u2, some (.inl (oand (w32 (v3 + 1)) 4095)), some (.inl (w32 (v4 + 1)))] [] h
            else none
          else none
      else none
    else none :=
  (aB gP gX xs stp_18 26 d mm_18 18 _ _ h).trans rfl

theorem c_18 (xs : List Int) (d : Nat) (v0 : Int) (v1 : Int) (h : aH) : cl xs (d + 1) 18 [.inr (.inr v0), .inr (.inl v1)] h =
  ev xs d mm_18 18 [some (.inr (.inr v0)), some (.inr (.inl v1)), none, some (.inl (ol2i (olushr (w64 ((olxor v1 (olushr v1 23)) * (-7046029254386353131))) 52))), some (.inl 0)] [] h :=
  (show _ = ev xs d mm_18 0 [some (.inr (.inr v0)), some (.inr (.inl v1)), none, none, none] [] h from rfl).trans (q_18_0 xs d v0 v1 h)
def stp_19 : List Nat := [0, 14, 22, 30, 39, 47, 55, 68, 76, 84, 92, 101]
set_option maxRecDepth 100000 in
set_option maxHeartbeats 4000000 in
theorem q_19_0 (xs : List Int) (d : Nat) (v0 : Int) (h : aH) : ev xs d mm_19 0 [some (.inr (.inr v0))] [] h =
  bif decide (0 ≤ v0) && true then
    bif aok h.1 v0 2 && true then
      ev xs d mm_19 14 [some (.inr (.inr v0))] [.inr (.inr (h.1.1 : Int)), .inr (.inr v0)] ((h.1.1 + 1, h.1.2.1 + (9 : Int).toNat, fun q => if q = h.1.1 then (100, (9 : Int).toNat) else h.1.2.2 q), fun q j => if q = h.1.1 then 0 else (aup h.2 v0.toNat 0 0) q j)
    else none
  else none :=
  (aB gP gX xs stp_19 9 d mm_19 0 _ _ h).trans rfl

set_option maxRecDepth 100000 in
set_option maxHeartbeats 4000000 in
theorem q_19_14 (xs : List Int) (d : Nat) (v0 : Int) (s0 : Int) (s1 : Int) (h : aH) : ev xs d mm_19 14 [some (.inr (.inr v0))] [.inr (.inr s1), .inr (.inr s0)] h =
  bif aok h.1 s0 2 then
    ev xs d mm_19 22 [some (.inr (.inr v0))] [.inr (.inr (h.1.1 : Int)), .inr (.inr v0)] ((h.1.1 + 1, h.1.2.1 + (9 : Int).toNat, fun q => if q = h.1.1 then (100, (9 : Int).toNat) else h.1.2.2 q), fun q j => if q = h.1.1 then 0 else (aup h.2 s0.toNat 1 s1) q j)
  else none :=
  (aB gP gX xs stp_19 5 d mm_19 14 _ _ h).trans rfl

set_option maxRecDepth 100000 in
set_option maxHeartbeats 4000000 in
theorem q_19_22 (xs : List Int) (d : Nat) (v0 : Int) (s0 : Int) (s1 : Int) (h : aH) : ev xs d mm_19 22 [some (.inr (.inr v0))] [.inr (.inr s1), .inr (.inr s0)] h =
  bif aok h.1 s0 2 then
    ev xs d mm_19 30 [some (.inr (.inr v0))] [.inr (.inr (h.1.1 : Int)), .inr (.inr v0)] ((h.1.1 + 1, h.1.2.1 + (9 : Int).toNat, fun q => if q = h.1.1 then (100, (9 : Int).toNat) else h.1.2.2 q), fun q j => if q = h.1.1 then 0 else (aup h.2 s0.toNat 2 s1) q j)
  else none :=
  (aB gP gX xs stp_19 5 d mm_19 22 _ _ h).trans rfl

set_option maxRecDepth 100000 in
set_option maxHeartbeats 4000000 in
theorem q_19_30 (xs : List Int) (d : Nat) (v0 : Int) (s0 : Int) (s1 : Int) (h : aH) : ev xs d mm_19 30 [some (.inr (.inr v0))] [.inr (.inr s1), .inr (.inr s0)] h =
  bif aok h.1 s0 2 then
    ev xs d mm_19 39 [some (.inr (.inr v0))] [.inr (.inr (h.1.1 : Int)), .inr (.inr v0)] ((h.1.1 + 1, h.1.2.1 + (128 : Int).toNat, fun q => if q = h.1.1 then (100, (128 : Int).toNat) else h.1.2.2 q), fun q j => if q = h.1.1 then 0 else (aup h.2 s0.toNat 3 s1) q j)
  else none :=
  (aB gP gX xs stp_19 5 d mm_19 30 _ _ h).trans rfl

set_option maxRecDepth 100000 in
set_option maxHeartbeats 4000000 in
theorem q_19_39 (xs : List Int) (d : Nat) (v0 : Int) (s0 : Int) (s1 : Int) (h : aH) : ev xs d mm_19 39 [some (.inr (.inr v0))] [.inr (.inr s1), .inr (.inr s0)] h =
  bif aok h.1 s0 2 then
    ev xs d mm_19 47 [some (.inr (.inr v0))] [.inr (.inr (h.1.1 : Int)), .inr (.inr v0)] ((h.1.1 + 1, h.1.2.1 + (7 : Int).toNat, fun q => if q = h.1.1 then (100, (7 : Int).toNat) else h.1.2.2 q), fun q j => if q = h.1.1 then 0 else (aup h.2 s0.toNat 4 s1) q j)
  else none :=
  (aB gP gX xs stp_19 5 d mm_19 39 _ _ h).trans rfl

set_option maxRecDepth 100000 in
set_option maxHeartbeats 4000000 in
theorem q_19_47 (xs : List Int) (d : Nat) (v0 : Int) (s0 : Int) (s1 : Int) (h : aH) : ev xs d mm_19 47 [some (.inr (.inr v0))] [.inr (.inr s1), .inr (.inr s0)] h =
  bif aok h.1 s0 2 then
    ev xs d mm_19 55 [some (.inr (.inr v0))] [.inr (.inr (h.1.1 : Int)), .inr (.inr v0)] ((h.1.1 + 1, h.1.2.1 + (8 : Int).toNat, fun q => if q = h.1.1 then (101, (8 : Int).toNat) else h.1.2.2 q), fun q j => if q = h.1.1 then 0 else (aup h.2 s0.toNat 5 s1) q j)
  else none :=
  (aB gP gX xs stp_19 5 d mm_19 47 _ _ h).trans rfl

set_option maxRecDepth 100000 in
set_option maxHeartbeats 4000000 in
theorem q_19_55 (xs : List Int) (d : Nat) (v0 : Int) (s0 : Int) (s1 : Int) (h : aH) : ev xs d mm_19 55 [some (.inr (.inr v0))] [.inr (.inr s1), .inr (.inr s0)] h =
  bif aok h.1 s0 2 then
    bif aok h.1 v0 2 then
      ev xs d mm_19 68 [some (.inr (.inr v0))] [.inr (.inr (h.1.1 : Int)), .inr (.inr v0)] ((h.1.1 + 1, h.1.2.1 + (64 : Int).toNat, fun q => if q = h.1.1 then (100, (64 : Int).toNat) else h.1.2.2 q), fun q j => if q = h.1.1 then 0 else (aup (aup h.2 s0.toNat 6 s1) v0.toNat 7 0) q j)
    else none
  else none :=
  (aB gP gX xs stp_19 8 d mm_19 55 _ _ h).trans rfl

set_option maxRecDepth 100000 in
set_option maxHeartbeats 4000000 in
theorem q_19_68 (xs : List Int) (d : Nat) (v0 : Int) (s0 : Int) (s1 : Int) (h : aH) : ev xs d mm_19 68 [some (.inr (.inr v0))] [.inr (.inr s1), .inr (.inr s0)] h =
  bif aok h.1 s0 2 then
    ev xs d mm_19 76 [some (.inr (.inr v0))] [.inr (.inr (h.1.1 : Int)), .inr (.inr v0)] ((h.1.1 + 1, h.1.2.1 + (64 : Int).toNat, fun q => if q = h.1.1 then (100, (64 : Int).toNat) else h.1.2.2 q), fun q j => if q = h.1.1 then 0 else (aup h.2 s0.toNat 8 s1) q j)
  else none :=
  (aB gP gX xs stp_19 5 d mm_19 68 _ _ h).trans rfl

set_option maxRecDepth 100000 in
set_option maxHeartbeats 4000000 in
theorem q_19_76 (xs : List Int) (d : Nat) (v0 : Int) (s0 : Int) (s1 : Int) (h : aH) : ev xs d mm_19 76 [some (.inr (.inr v0))] [.inr (.inr s1), .inr (.inr s0)] h =
  bif aok h.1 s0 2 then
    ev xs d mm_19 84 [some (.inr (.inr v0))] [.inr (.inr (h.1.1 : Int)), .inr (.inr v0)] ((h.1.1 + 1, h.1.2.1 + (64 : Int).toNat, fun q => if q = h.1.1 then (100, (64 : Int).toNat) else h.1.2.2 q), fun q j => if q = h.1.1 then 0 else (aup h.2 s0.toNat 9 s1) q j)
  else none :=
  (aB gP gX xs stp_19 5 d mm_19 76 _ _ h).trans rfl

set_option maxRecDepth 100000 in
set_option maxHeartbeats 4000000 in
theorem q_19_84 (xs : List Int) (d : Nat) (v0 : Int) (s0 : Int) (s1 : Int) (h : aH) : ev xs d mm_19 84 [some (.inr (.inr v0))] [.inr (.inr s1), .inr (.inr s0)] h =
  bif aok h.1 s0 2 then
    ev xs d mm_19 92 [some (.inr (.inr v0))] [.inr (.inr (h.1.1 : Int)), .inr (.inr v0)] ((h.1.1 + 1, h.1.2.1 + (64 : Int).toNat, fun q => if q = h.1.1 then (100, (64 : Int).toNat) else h.1.2.2 q), fun q j => if q = h.1.1 then 0 else (aup h.2 s0.toNat 10 s1) q j)
  else none :=
  (aB gP gX xs stp_19 5 d mm_19 84 _ _ h).trans rfl

set_option maxRecDepth 100000 in
set_option maxHeartbeats 4000000 in
theorem q_19_92 (xs : List Int) (d : Nat) (v0 : Int) (s0 : Int) (s1 : Int) (h : aH) : ev xs d mm_19 92 [some (.inr (.inr v0))] [.inr (.inr s1), .inr (.inr s0)] h =
  bif aok h.1 s0 2 then
    ev xs d mm_19 101 [some (.inr (.inr v0))] [.inr (.inr (h.1.1 : Int)), .inr (.inr v0)] ((h.1.1 + 1, h.1.2.1 + (512 : Int).toNat, fun q => if q = h.1.1 then (101, (512 : Int).toNat) else h.1.2.2 q), fun q j => if q = h.1.1 then 0 else (aup h.2 s0.toNat 11 s1) q j)
  else none :=
  (aB gP gX xs stp_19 5 d mm_19 92 _ _ h).trans rfl

set_option maxRecDepth 100000 in
set_option maxHeartbeats 4000000 in
theorem q_19_101 (xs : List Int) (d : Nat) (v0 : Int) (s0 : Int) (s1 : Int) (h : aH) : ev xs d mm_19 101 [some (.inr (.inr v0))] [.inr (.inr s1), .inr (.inr s0)] h =
  bif aok h.1 s0 2 then
    some (none, (h.1, aup h.2 s0.toNat 12 s1))
  else none :=
  (aB gP gX xs stp_19 3 d mm_19 101 _ _ h).trans rfl

theorem c_19 (xs : List Int) (d : Nat) (v0 : Int) (h : aH) : cl xs (d + 1) 19 [.inr (.inr v0)] h =
  bif decide (0 ≤ v0) && true then
    bif aok h.1 v0 2 && true then
      ev xs d mm_19 14 [some (.inr (.inr v0))] [.inr (.inr (h.1.1 : Int)), .inr (.inr v0)] ((h.1.1 + 1, h.1.2.1 + (9 : Int).toNat, fun q => if q = h.1.1 then (100, (9 : Int).toNat) else h.1.2.2 q), fun q j => if q = h.1.1 then 0 else (aup h.2 v0.toNat 0 0) q j)
    else none
  else none :=
  (show _ = ev xs d mm_19 0 [some (.inr (.inr v0))] [] h from rfl).trans (q_19_0 xs d v0 h)
def stp_20 : List Nat := [0]
set_option maxRecDepth 100000 in
set_option maxHeartbeats 4000000 in
theorem q_20_0 (xs : List Int) (d : Nat) (v0 : Int) (v1 : Int) (v2 : Int) (h : aH) : ev xs d mm_20 0 [some (.inl v0), some (.inl v1), some (.inl v2)] [] h =
  bI (cl xs d 126 [.inl 3] h) (fun x2 h1 =>
    some (some (.inl (oand (oushr v0 (w32 (3 * (w32 ((w32 (v1 - 1)) - v2))))) x2)), h1)) :=
  (aB gP gX xs stp_20 14 d mm_20 0 _ _ h).trans rfl

theorem c_20 (xs : List Int) (d : Nat) (v0 : Int) (v1 : Int) (v2 : Int) (h : aH) : cl xs (d + 1) 20 [.inl v0, .inl v1, .inl v2] h =
  bI (cl xs d 126 [.inl 3] h) (fun x2 h1 =>
    some (some (.inl (oand (oushr v0 (w32 (3 * (w32 ((w32 (v1 - 1)) - v2))))) x2)), h1)) :=
  (show _ = ev xs d mm_20 0 [some (.inl v0), some (.inl v1), some (.inl v2)] [] h from rfl).trans (q_20_0 xs d v0 v1 v2 h)
def stp_21 : List Nat := [0, 71]
set_option maxRecDepth 100000 in
set_option maxHeartbeats 4000000 in
theorem q_21_0 (xs : List Int) (d : Nat) (v0 : Int) (v1 : Int) (v2 : Int) (h : aH) : ev xs d mm_21 0 [some (.inr (.inr v0)), some (.inr (.inr v1)), some (.inr (.inr v2)), none] [] h =
  bif aok h.1 v0 2 then
    bV (cl xs d 318 [.inr (.inr (h.2 v0.toNat 1)), .inl 0] h) (fun h1 =>
      bif aok h1.1 v0 2 then
        bV (cl xs d 318 [.inr (.inr (h1.2 v0.toNat 4)), .inl (-1)] h1) (fun h2 =>
          bif aok h2.1 v0 2 then
            bif aok h2.1 v0 2 && true then
              bV (cl xs d 22 [.inr (.inr v0), .inr (.inr v1), .inr (.inr v2)] (h2.1, aup h2.2 v0.toNat 7 0)) (fun h3 =>
              bif aok h3.1 v1 9 then
                bif aok h3.1 v0 2 then
                  bif aok h3.1 (h3.2 v1.toNat 8) 101 && (aok h3.1 (h3.2 v0.toNat 6) 101 && (decide (0 ≤ 0) && (decide (0 ≤ 0) && (decide (0 ≤ 8) && (decide ((0 : Int).toNat + (8 : Int).toNat ≤ aln h3.1 (h3.2 v1.toNat 8)) && (decide ((0 : Int).toNat + (8 : Int).toNat ≤ aln h3.1 (h3.2 v0.toNat 6)) && true)))))) then
                    bif aok h3.1 v2 6 then
                      bif decide (¬ ((fun q j => if q = (h3.2 v0.toNat 6).toNat then acpy (h3.2 (h3.2 v1.toNat 8).toNat) (h3.2 (h3.2 v0.toNat 6).toNat) (0 : Int).toNat (0 : Int).toNat (8 : Int).toNat j else h3.2 q j) v2.toNat 0) = 0) then
                        bif aok h3.1 v0 2 && true then
                          bV (cl xs d 25 [.inr (.inr v0), .inr (.inr v1), .inl 0, .inl 1, .inl 0, .inl 0] (h3.1, fun q j => if q = (h3.2 v0.toNat 6).toNat then acpy (h3.2 (h3.2 v1.toNat 8).toNat) (h3.2 (h3.2 v0.toNat 6).toNat) (0 : Int).toNat (0 : Int).toNat (8 : Int).toNat j else h3.2 q j)) (fun h4 =>
                          ev xs d mm_21 71 [some (.inr (.inr v0)), some (.inr (.inr v1)), some (.inr (.inr v2)), some (.inl 0)] [] h4)
                        else none
                      else
                        bif aok h3.1 v0 2 && true then
                          bV (cl xs d 28 [.inr (.inr v0), .inr (.inr v1), .inl 1, .inl 0, .inl 0] (h3.1, fun q j => if q = (h3.2 v0.toNat 6).toNat then acpy (h3.2 (h3.2 v1.toNat 8).toNat) (h3.2 (h3.2 v0.toNat 6).toNat) (0 : Int).toNat (0 : Int).toNat (8 : Int).toNat j else h3.2 q j)) (fun h5 =>
                          ev xs d mm_21 71 [some (.inr (.inr v0)), some (.inr (.inr v1)), some (.inr (.inr v2)), some (.inl 0)] [] h5)
                        else none
                    else none
                  else none
                else none
              else none)
            else none
          else none)
      else none)
  else none :=
  (aB gP gX xs stp_21 36 d mm_21 0 _ _ h).trans rfl

set_option maxRecDepth 100000 in
set_option maxHeartbeats 4000000 in
theorem q_21_71 (xs : List Int) (d : Nat) (v0 : Int) (v1 : Int) (v2 : Int) (v3 : Int) (h : aH) : ev xs d mm_21 71 [some (.inr (.inr v0)), some (.inr (.inr v1)), some (.inr (.inr v2)), some (.inl v3)] [] h =
  bif aok h.1 v2 6 then
    bif decide ((h.2 v2.toNat 0) ≤ v3) then
      bif aok h.1 v0 2 && true then
        some (none, (h.1, aup h.2 v0.toNat 0 1))
      else none
    else
      bif aok h.1 v2 6 then
        bif decide (¬ (oand v3 (oxor (h.2 v2.toNat 0) (-1))) = 0) then
          ev xs d mm_21 71 [some (.inr (.inr v0)), some (.inr (.inr v1)), some (.inr (.inr v2)), some (.inl (w32 (v3 + 1)))] [] h
        else
          bif aok h.1 v2 6 then
            bif aok h.1 v0 2 && true then
              bV (cl xs d 23 [.inr (.inr v0), .inr (.inr v1), .inl v3, .inl (h.2 v2.toNat 0)] h) (fun h1 =>
              ev xs d mm_21 71 [some (.inr (.inr v0)), some (.inr (.inr v1)), some (.inr (.inr v2)), some (.inl (w32 (v3 + 1)))] [] h1)
            else none
          else none
      else none
  else none :=
  (aB gP gX xs stp_21 20 d mm_21 71 _ _ h).trans rfl

theorem c_21 (xs : List Int) (d : Nat) (v0 : Int) (v1 : Int) (v2 : Int) (h : aH) : cl xs (d + 1) 21 [.inr (.inr v0), .inr (.inr v1), .inr (.inr v2)] h =
  bif aok h.1 v0 2 then
    bV (cl xs d 318 [.inr (.inr (h.2 v0.toNat 1)), .inl 0] h) (fun h1 =>
      bif aok h1.1 v0 2 then
        bV (cl xs d 318 [.inr (.inr (h1.2 v0.toNat 4)), .inl (-1)] h1) (fun h2 =>
          bif aok h2.1 v0 2 then
            bif aok h2.1 v0 2 && true then
              bV (cl xs d 22 [.inr (.inr v0), .inr (.inr v1), .inr (.inr v2)] (h2.1, aup h2.2 v0.toNat 7 0)) (fun h3 =>
              bif aok h3.1 v1 9 then
                bif aok h3.1 v0 2 then
                  bif aok h3.1 (h3.2 v1.toNat 8) 101 && (aok h3.1 (h3.2 v0.toNat 6) 101 && (decide (0 ≤ 0) && (decide (0 ≤ 0) && (decide (0 ≤ 8) && (decide ((0 : Int).toNat + (8 : Int).toNat ≤ aln h3.1 (h3.2 v1.toNat 8)) && (decide ((0 : Int).toNat + (8 : Int).toNat ≤ aln h3.1 (h3.2 v0.toNat 6)) && true)))))) then
                    bif aok h3.1 v2 6 then
                      bif decide (¬ ((fun q j => if q = (h3.2 v0.toNat 6).toNat then acpy (h3.2 (h3.2 v1.toNat 8).toNat) (h3.2 (h3.2 v0.toNat 6).toNat) (0 : Int).toNat (0 : Int).toNat (8 : Int).toNat j else h3.2 q j) v2.toNat 0) = 0) then
                        bif aok h3.1 v0 2 && true then
                          bV (cl xs d 25 [.inr (.inr v0), .inr (.inr v1), .inl 0, .inl 1, .inl 0, .inl 0] (h3.1, fun q j => if q = (h3.2 v0.toNat 6).toNat then acpy (h3.2 (h3.2 v1.toNat 8).toNat) (h3.2 (h3.2 v0.toNat 6).toNat) (0 : Int).toNat (0 : Int).toNat (8 : Int).toNat j else h3.2 q j)) (fun h4 =>
                          ev xs d mm_21 71 [some (.inr (.inr v0)), some (.inr (.inr v1)), some (.inr (.inr v2)), some (.inl 0)] [] h4)
                        else none
                      else
                        bif aok h3.1 v0 2 && true then
                          bV (cl xs d 28 [.inr (.inr v0), .inr (.inr v1), .inl 1, .inl 0, .inl 0] (h3.1, fun q j => if q = (h3.2 v0.toNat 6).toNat then acpy (h3.2 (h3.2 v1.toNat 8).toNat) (h3.2 (h3.2 v0.toNat 6).toNat) (0 : Int).toNat (0 : Int).toNat (8 : Int).toNat j else h3.2 q j)) (fun h5 =>
                          ev xs d mm_21 71 [some (.inr (.inr v0)), some (.inr (.inr v1)), some (.inr (.inr v2)), some (.inl 0)] [] h5)
                        else none
                    else none
                  else none
                else none
              else none)
            else none
          else none)
      else none)
  else none :=
  (show _ = ev xs d mm_21 0 [some (.inr (.inr v0)), some (.inr (.inr v1)), some (.inr (.inr v2)), none] [] h from rfl).trans (q_21_0 xs d v0 v1 v2 h)
def stp_22 : List Nat := [0, 13]
set_option maxRecDepth 100000 in
set_option maxHeartbeats 4000000 in
theorem q_22_0 (xs : List Int) (d : Nat) (v0 : Int) (v1 : Int) (v2 : Int) (h : aH) : ev xs d mm_22 0 [some (.inr (.inr v0)), some (.inr (.inr v1)), some (.inr (.inr v2)), none, none, none] [] h =
  bif aok h.1 v1 9 then
    bif aok h.1 (h.2 v1.toNat 3) 7 then
      ev xs d mm_22 13 [some (.inr (.inr v0)), some (.inr (.inr v1)), some (.inr (.inr v2)), some (.inl 0), some (.inl (w32 ((h.2 (h.2 v1.toNat 3).toNat 0) - 1))), none] [] h
    else none
  else none :=
  (aB gP gX xs stp_22 9 d mm_22 0 _ _ h).trans rfl

set_option maxRecDepth 100000 in
set_option maxHeartbeats 4000000 in
theorem q_22_13 (xs : List Int) (d : Nat) (v0 : Int) (v1 : Int) (v2 : Int) (v3 : Int) (v4 : Int) (u5 : Option aV) (h : aH) : ev xs d mm_22 13 [some (.inr (.inr v0)), some (.inr (.inr v1)), some (.inr (.inr v2)), some (.inl v3), some (.inl v4), u5] [] h =
  bif decide (v4 < 0) then
    some (none, h)
  else
    bif aok h.1 v2 6 then
      bif ain h.1 (h.2 v2.toNat 1) 100 v4 then
        bif aok h.1 v0 2 then
          bif ain h.1 (h.2 v0.toNat 5) 100 (h.2 (h.2 v2.toNat 1).toNat v4.toNat) then
            ev xs d mm_22 13 [some (.inr (.inr v0)), some (.inr (.inr v1)), some (.inr (.inr v2)), some (.inl (oor v3 (oshl 1 (h.2 (h.2 v2.toNat 1).toNat v4.toNat)))), some (.inl (w32 (v4 + (-1)))), some (.inl (h.2 (h.2 v2.toNat 1).toNat v4.toNat))] [] (h.1, aup h.2 (h.2 v0.toNat 5).toNat (h.2 (h.2 v2.toNat 1).toNat v4.toNat).toNat v3)
          else none
        else none
      else none
    else none :=
  (aB gP gX xs stp_22 21 d mm_22 13 _ _ h).trans rfl

theorem c_22 (xs : List Int) (d : Nat) (v0 : Int) (v1 : Int) (v2 : Int) (h : aH) : cl xs (d + 1) 22 [.inr (.inr v0), .inr (.inr v1), .inr (.inr v2)] h =
  bif aok h.1 v1 9 then
    bif aok h.1 (h.2 v1.toNat 3) 7 then
      ev xs d mm_22 13 [some (.inr (.inr v0)), some (.inr (.inr v1)), some (.inr (.inr v2)), some (.inl 0), some (.inl (w32 ((h.2 (h.2 v1.toNat 3).toNat 0) - 1))), none] [] h
    else none
  else none :=
  (show _ = ev xs d mm_22 0 [some (.inr (.inr v0)), some (.inr (.inr v1)), some (.inr (.inr v2)), none, none, none] [] h from rfl).trans (q_22_0 xs d v0 v1 v2 h)
def stp_23 : List Nat := [0, 17, 39]
set_option maxRecDepth 100000 in
set_option maxHeartbeats 4000000 in
theorem q_23_0 (xs : List Int) (d : Nat) (v0 : Int) (v1 : Int) (v2 : Int) (v3 : Int) (h : aH) : ev xs d mm_23 0 [some (.inr (.inr v0)), some (.inr (.inr v1)), some (.inl v2), some (.inl v3), none, none, none, none, none] [] h =
  bif aok h.1 v0 2 then
    bif aok h.1 v0 2 then
      bif ain h.1 (h.2 v0.toNat 4) 100 v2 then
        ev xs d mm_23 17 [some (.inr (.inr v0)), some (.inr (.inr v1)), some (.inl v2), some (.inl v3), some (.inl (h.2 v0.toNat 7)), some (.inl (h.2 (h.2 v0.toNat 4).toNat v2.toNat)), some (.inl 0), none, none] [] h
      else none
    else none
  else none :=
  (aB gP gX xs stp_23 11 d mm_23 0 _ _ h).trans rfl

set_option maxRecDepth 100000 in
set_option maxHeartbeats 4000000 in
theorem q_23_17 (xs : List Int) (d : Nat) (v0 : Int) (v1 : Int) (v2 : Int) (v3 : Int) (v4 : Int) (v5 : Int) (v6 : Int) (u7 : Option aV) (u8 : Option aV) (h : aH) : ev xs d mm_23 17 [some (.inr (.inr v0)), some (.inr (.inr v1)), some (.inl v2), some (.inl v3), some (.inl v4), some (.inl v5), some (.inl v6), u7, u8] [] h =
  bif decide (v4 ≤ v6) then
    some (none, h)
  else
    bif decide (v5 < 0) then
      some (none, h)
    else
      bif decide (v4 ≤ v5) then
        some (none, h)
      else
        ev xs d mm_23 39 [some (.inr (.inr v0)), some (.inr (.inr v1)), some (.inl v2), some (.inl v3), some (.inl v4), some (.inl v5), some (.inl v6), some (.inl 0), u8] [] h :=
  (aB gP gX xs stp_23 11 d mm_23 17 _ _ h).trans rfl

set_option maxRecDepth 100000 in
set_option maxHeartbeats 4000000 in
theorem q_23_39 (xs : List Int) (d : Nat) (v0 : Int) (v1 : Int) (v2 : Int) (v3 : Int) (v4 : Int) (v5 : Int) (v6 : Int) (v7 : Int) (u8 : Option aV) (h : aH) : ev xs d mm_23 39 [some (.inr (.inr v0)), some (.inr (.inr v1)), some (.inl v2), some (.inl v3), some (.inl v4), some (.inl v5), some (.inl v6), some (.inl v7), u8] [] h =
  bif aok h.1 v1 9 then
    bif aok h.1 (h.2 v1.toNat 3) 7 then
      bif decide ((h.2 (h.2 v1.toNat 3).toNat 0) ≤ v7) then
        bif aok h.1 v0 2 then
          bif ain h.1 (h.2 v0.toNat 8) 100 v5 then
            ev xs d mm_23 17 [some (.inr (.inr v0)), some (.inr (.inr v1)), some (.inl v2), some (.inl v3), some (.inl v4), some (.inl (h.2 (h.2 v0.toNat 8).toNat v5.toNat)), some (.inl (w32 (v6 + 1))), some (.inl v7), u8] [] h
          else none
        else none
      else
        bif decide ((oor v2 (oshl 1 v7)) = v2) then
          ev xs d mm_23 39 [some (.inr (.inr v0)), some (.inr (.inr v1)), some (.inl v2), some (.inl v3), some (.inl v4), some (.inl v5), some (.inl v6), some (.inl (w32 (v7 + 1))), some (.inl (oor v2 (oshl 1 v7)))] [] h
        else
          bif decide (¬ (oand (oor v2 (oshl 1 v7)) (oxor v3 (-1))) = 0) then
            ev xs d mm_23 39 [some (.inr (.inr v0)), some (.inr (.inr v1)), some (.inl v2), some (.inl v3), some (.inl v4), some (.inl v5), some (.inl v6), some (.inl (w32 (v7 + 1))), some (.inl (oor v2 (oshl 1 v7)))] [] h
          else
            bif aok h.1 v0 2 && true then
              bV (cl xs d 24 [.inr (.inr v0), .inr (.inr v1), .inl v5, .inl v2, .inl v7, .inl v3] h) (fun h1 =>
              ev xs d mm_23 39 [some (.inr (.inr v0)), some (.inr (.inr v1)), some (.inl v2), some (.inl v3), some (.inl v4), some (.inl v5), some (.inl v6), some (.inl (w32 (v7 + 1))), some (.inl (oor v2 (oshl 1 v7)))] [] h1)
            else none
    else none
  else none :=
  (aB gP gX xs stp_23 30 d mm_23 39 _ _ h).trans rfl

theorem c_23 (xs : List Int) (d : Nat) (v0 : Int) (v1 : Int) (v2 : Int) (v3 : Int) (h : aH) : cl xs (d + 1) 23 [.inr (.inr v0), .inr (.inr v1), .inl v2, .inl v3] h =
  bif aok h.1 v0 2 then
    bif aok h.1 v0 2 then
      bif ain h.1 (h.2 v0.toNat 4) 100 v2 then
        ev xs d mm_23 17 [some (.inr (.inr v0)), some (.inr (.inr v1)), some (.inl v2), some (.inl v3), some (.inl (h.2 v0.toNat 7)), some (.inl (h.2 (h.2 v0.toNat 4).toNat v2.toNat)), some (.inl 0), none, none] [] h
      else none
    else none
  else none :=
  (show _ = ev xs d mm_23 0 [some (.inr (.inr v0)), some (.inr (.inr v1)), some (.inl v2), some (.inl v3), none, none, none, none, none] [] h from rfl).trans (q_23_0 xs d v0 v1 v2 v3 h)
def stp_24 : List Nat := [0, 3]
set_option maxRecDepth 100000 in
set_option maxHeartbeats 4000000 in
theorem q_24_0 (xs : List Int) (d : Nat) (v0 : Int) (v1 : Int) (v2 : Int) (v3 : Int) (v4 : Int) (v5 : Int) (h : aH) : ev xs d mm_24 0 [some (.inr (.inr v0)), some (.inr (.inr v1)), some (.inl v2), some (.inl v3), some (.inl v4), some (.inl v5), none, none, none] [] h =
  ev xs d mm_24 3 [some (.inr (.inr v0)), some (.inr (.inr v1)), some (.inl v2), some (.inl v3), some (.inl v4), some (.inl v5), some (.inl 0), none, none] [] h :=
  (aB gP gX xs stp_24 3 d mm_24 0 _ _ h).trans rfl

set_option maxRecDepth 100000 in
set_option maxHeartbeats 4000000 in
theorem q_24_3 (xs : List Int) (d : Nat) (v0 : Int) (v1 : Int) (v2 : Int) (v3 : Int) (v4 : Int) (v5 : Int) (v6 : Int) (u7 : Option aV) (u8 : Option aV) (h : aH) : ev xs d mm_24 3 [some (.inr (.inr v0)), some (.inr (.inr v1)), some (.inl v2), some (.inl v3), some (.inl v4), some (.inl v5), some (.inl v6), u7, u8] [] h =
  bif aok h.1 v1 9 then
    bif decide ((h.2 v1.toNat 7) ≤ v6) then
      bif aok h.1 v0 2 then
        bif ain h.1 (h.2 v0.toNat 10) 100 v2 then
          bif aok h.1 v0 2 then
            bif ain h.1 (h.2 v0.toNat 11) 100 v2 then
              bif aok h.1 v0 2 then
                bif ain h.1 (h.2 v0.toNat 5) 100 v4 then
                  bI (cl xs d 316 [.inl (oand v3 (h.2 (h.2 v0.toNat 5).toNat v4.toNat))] h) (fun x2 h1 =>
                    bif decide (¬ (oor v3 (oshl 1 v4)) = v5) then
                      bif aok h1.1 v0 2 then
                        bif ain h1.1 (h1.2 v0.toNat 9) 100 v2 then
                          bif aok h1.1 v0 2 && true then
                            bV (cl xs d 25 [.inr (.inr v0), .inr (.inr v1), .inl (oor v3 (oshl 1 v4)), .inl (h1.2 (h1.2 v0.toNat 9).toNat v2.toNat), .inl (oor (oshl (h.2 (h.2 v0.toNat 10).toNat v2.toNat) 3) v4), .inl (w32 ((h.2 (h.2 v0.toNat 11).toNat v2.toNat) + x2))] h1) (fun h3 =>
                            some (none, h3))
                          else none
                        else none
                      else none
                    else
                      bif aok h1.1 v0 2 then
                        bif ain h1.1 (h1.2 v0.toNat 9) 100 v2 then
                          bif aok h1.1 v0 2 && true then
                            bV (cl xs d 28 [.inr (.inr v0), .inr (.inr v1), .inl (h1.2 (h1.2 v0.toNat 9).toNat v2.toNat), .inl (oor (oshl (h.2 (h.2 v0.toNat 10).toNat v2.toNat) 3) v4), .inl (w32 ((h.2 (h.2 v0.toNat 11).toNat v2.toNat) + x2))] h1) (fun h4 =>
                            some (none, h4))
                          else none
                        else none
                      else none)
                else none
              else none
            else none
          else none
        else none
      else none
    else
      bif aok h.1 v0 2 then
        bif aok h.1 v1 9 then
          bif aok h.1 v0 2 then
            bif ain h.1 (h.2 v0.toNat 12) 101 (w32 ((w32 (v2 * 8)) + v6)) then
              bif aok h.1 (h.2 v1.toNat 3) 7 && true then
                bJ (cl xs d 86 [.inr (.inr (h.2 v1.toNat 3)), .inl v4, .inr (.inl (h.2 (h.2 v0.toNat 12).toNat (w32 ((w32 (v2 * 8)) + v6)).toNat))] h) (fun x6 h5 =>
                bif ain h5.1 (h.2 v0.toNat 6) 101 v6 then
                  ev xs d mm_24 3 [some (.inr (.inr v0)), some (.inr (.inr v1)), some (.inl v2), some (.inl v3), some (.inl v4), some (.inl v5), some (.inl (w32 (v6 + 1))), u7, u8] [] (h5.1, aup h5.2 (h.2 v0.toNat 6).toNat v6.toNat x6)
                else none)
              else none
            else none
          else none
        else none
      else none
  else none :=
  (aB gP gX xs stp_24 47 d mm_24 3 _ _ h).trans rfl

theorem c_24 (xs : List Int) (d : Nat) (v0 : Int) (v1 : Int) (v2 : Int) (v3 : Int) (v4 : Int) (v5 : Int) (h : aH) : cl xs (d + 1) 24 [.inr (.inr v0), .inr (.inr v1), .inl v2, .inl v3, .inl v4, .inl v5] h =
  ev xs d mm_24 3 [some (.inr (.inr v0)), some (.inr (.inr v1)), some (.inl v2), some (.inl v3), some (.inl v4), some (.inl v5), some (.inl 0), none, none] [] h :=
  (show _ = ev xs d mm_24 0 [some (.inr (.inr v0)), some (.inr (.inr v1)), some (.inl v2), some (.inl v3), some (.inl v4), some (.inl v5), none, none, none] [] h from rfl).trans (q_24_0 xs d v0 v1 v2 v3 v4 v5 h)
def stp_25 : List Nat := [0, 11, 93, 109, 155, 191]
set_option maxRecDepth 100000 in
set_option maxHeartbeats 4000000 in
theorem q_25_0 (xs : List Int) (d : Nat) (v0 : Int) (v1 : Int) (v2 : Int) (v3 : Int) (v4 : Int) (v5 : Int) (h : aH) : ev xs d mm_25 0 [some (.inr (.inr v0)), some (.inr (.inr v1)), some (.inl v2), some (.inl v3), some (.inl v4), some (.inl v5), none, none] [] h =
  bif aok h.1 v0 2 then
    bif ain h.1 (h.2 v0.toNat 4) 100 v2 then
      ev xs d mm_25 11 [some (.inr (.inr v0)), some (.inr (.inr v1)), some (.inl v2), some (.inl v3), some (.inl v4), some (.inl v5), some (.inl (h.2 (h.2 v0.toNat 4).toNat v2.toNat)), some (.inl 0)] [] h
    else none
  else none :=
  (aB gP gX xs stp_25 8 d mm_25 0 _ _ h).trans rfl

set_option maxRecDepth 100000 in
set_option maxHeartbeats 4000000 in
theorem q_25_11 (xs : List Int) (d : Nat) (v0 : Int) (v1 : Int) (v2 : Int) (v3 : Int) (v4 : Int) (v5 : Int) (v6 : Int) (v7 : Int) (h : aH) : ev xs d mm_25 11 [some (.inr (.inr v0)), some (.inr (.inr v1)), some (.inl v2), some (.inl v3), some (.inl v4), some (.inl v5), some (.inl v6), some (.inl v7)] [] h =
  bif aok h.1 v0 2 then
    bif decide ((h.2 v0.toNat 7) ≤ v7) then
      ev xs d mm_25 109 [some (.inr (.inr v0)), some (.inr (.inr v1)), some (.inl v2), some (.inl v3), some (.inl v4), some (.inl v5), some (.inl v6), some (.inl v7)] [] h
    else
      bif decide (v6 < 0) then
        ev xs d mm_25 109 [some (.inr (.inr v0)), some (.inr (.inr v1)), some (.inl v2), some (.inl v3), some (.inl v4), some (.inl v5), some (.inl v6), some (.inl v7)] [] h
      else
        bif aok h.1 v0 2 then
          bif decide ((h.2 v0.toNat 7) ≤ v6) then
            ev xs d mm_25 109 [some (.inr (.inr v0)), some (.inr (.inr v1)), some (.inl v2), some (.inl v3), some (.inl v4), some (.inl v5), some (.inl v6), some (.inl v7)] [] h
          else
            bif aok h.1 v0 2 && true then
              bI (cl xs d 26 [.inr (.inr v0), .inr (.inr v1), .inl v6] h) (fun x2 h1 =>
              bif decide (x2 = 0) then
                bif aok h1.1 v0 2 then
                  bif ain h1.1 (h1.2 v0.toNat 8) 100 v6 then
                    ev xs d mm_25 11 [some (.inr (.inr v0)), some (.inr (.inr v1)), some (.inl v2), some (.inl v3), some (.inl v4), some (.inl v5), some (.inl (h1.2 (h1.2 v0.toNat 8).toNat v6.toNat)), some (.inl (w32 (v7 + 1)))] [] h1
                  else none
                else none
              else
                bif aok h1.1 v0 2 then
                  bif ain h1.1 (h1.2 v0.toNat 9) 100 v6 then
                    bif ain h1.1 (h1.2 v0.toNat 9) 100 v6 then
                      bif aok h1.1 v0 2 then
                        bif aok h1.1 v0 2 then
                          bif ain h1.1 ((aup h1.2 (h1.2 v0.toNat 9).toNat v6.toNat (w32 ((h1.2 (h1.2 v0.toNat 9).toNat v6.toNat) + v3))) v0.toNat 10) 100 v6 then
                            bif ain h1.1 ((aup h1.2 (h1.2 v0.toNat 9).toNat v6.toNat (w32 ((h1.2 (h1.2 v0.toNat 9).toNat v6.toNat) + v3))) v0.toNat 10) 100 v6 then
                              bif aok h1.1 v0 2 then
                                bif aok h1.1 v0 2 then
                                  bif ain h1.1 ((aup (aup h1.2 (h1.2 v0.toNat 9).toNat v6.toNat (w32 ((h1.2 (h1.2 v0.toNat 9).toNat v6.toNat) + v3))) ((aup h1.2 (h1.2 v0.toNat 9).toNat v6.toNat (w32 ((h1.2 (h1.2 v0.toNat 9).toNat v6.toNat) + v3))) v0.toNat 10).toNat v6.toNat (omin ((aup h1.2 (h1.2 v0.toNat 9).toNat v6.toNat (w32 ((h1.2 (h1.2 v0.toNat 9).toNat v6.toNat) + v3))) ((aup h1.2 (h1.2 v0.toNat 9).toNat v6.toNat (w32 ((h1.2 (h1.2 v0.toNat 9).toNat v6.toNat) + v3))) v0.toNat 10).toNat v6.toNat) v4)) v0.toNat 11) 100 v6 then
                                    bif ain h1.1 ((aup (aup h1.2 (h1.2 v0.toNat 9).toNat v6.toNat (w32 ((h1.2 (h1.2 v0.toNat 9).toNat v6.toNat) + v3))) ((aup h1.2 (h1.2 v0.toNat 9).toNat v6.toNat (w32 ((h1.2 (h1.2 v0.toNat 9).toNat v6.toNat) + v3))) v0.toNat 10).toNat v6.toNat (omin ((aup h1.2 (h1.2 v0.toNat 9).toNat v6.toNat (w32 ((h1.2 (h1.2 v0.toNat 9).toNat v6.toNat) + v3))) ((aup h1.2 (h1.2 v0.toNat 9).toNat v6.toNat (w32 ((h1.2 (h1.2 v0.toNat 9).toNat v6.toNat) + v3))) v0.toNat 10).toNat v6.toNat) v4)) v0.toNat 11) 100 v6 then
                                      ev xs d mm_25 93 [some (.inr (.inr v0)), some (.inr (.inr v1)), some (.inl v2), some (.inl v3), some (.inl v4), some (.inl v5), some (.inl v6), some (.inl v7)] [] (h1.1, aup (aup (aup h1.2 (h1.2 v0.toNat 9).toNat v6.toNat (w32 ((h1.2 (h1.2 v0.toNat 9).toNat v6.toNat) + v3))) ((aup h1.2 (h1.2 v0.toNat 9).toNat v6.toNat (w32 ((h1.2 (h1.2 v0.toNat 9).toNat v6.toNat) + v3))) v0.toNat 10).toNat v6.toNat (omin ((aup h1.2 (h1.2 v0.toNat 9).toNat v6.toNat (w32 ((h1.2 (h1.2 v0.toNat 9).toNat v6.toNat) + v3))) ((aup h1.2 (h1.2 v0.toNat 9).toNat v6.toNat (w32 ((h1.2 (h1.2 v0.toNat 9).toNat v6.toNat) + v3))) v0.toNat 10).toNat v6.toNat) v4)) ((aup (aup h1.2 (h1.2 v0.toNat 9).toNat v6.toNat (w32 ((h1.2 (h1.2 v0.toNat 9).toNat v6.toNat) + v3))) ((aup h1.2 (h1.2 v0.toNat 9).toNat v6.toNat (w32 ((h1.2 (h1.2 v0.toNat 9).toNat v6.toNat) + v3))) v0.toNat 10).toNat v6.toNat (omin ((aup h1.2 (h1.2 v0.toNat 9).toNat v6.toNat (w32 ((h1.2 (h1.2 v0.toNat 9).toNat v6.toNat) + v3))) ((aup h1.2 (h1.2 v0.toNat 9).toNat v6.toNat (w32 ((h1.2 (h1.2 v0.toNat 9).toNat v6.toNat) + v3))) v0.toNat 10).toNat v6.toNat) v4)) v0.toNat 11).toNat v6.toNat (omin ((aup (aup h1.2 (h1.2 v0.toNat 9).toNat v6.toNat (w32 ((h1.2 (h1.2 v0.toNat 9).toNat v6.toNat) + v3))) ((aup h1.2 (h1.2 v0.toNat 9).toNat v6.toNat (w32 ((h1.2 (h1.2 v0.toNat 9).toNat v6.toNat) + v3))) v0.toNat 10).toNat v6.toNat (omin ((aup h1.2 (h1.2 v0.toNat 9).toNat v6.toNat (w32 ((h1.2 (h1.2 v0.toNat 9).toNat v6.toNat) + v3))) ((aup h1.2 (h1.2 v0.toNat 9).toNat v6.toNat (w32 ((h1.2 (h1.2 v0.toNat 9).toNat v6.toNat) + v3))) v0.toNat 10).toNat v6.toNat) v4)) ((aup (aup h1.2 (h1.2 v0.toNat 9).toNat v6.toNat (w32 ((h1.2 (h1.2 v0.toNat 9).toNat v6.toNat) + v3))) ((aup h1.2 (h1.2 v0.toNat 9).toNat v6.toNat (w32 ((h1.2 (h1.2 v0.toNat 9).toNat v6.toNat) + v3))) v0.toNat 10).toNat v6.toNat (omin ((aup h1.2 (h1.2 v0.toNat 9).toNat v6.toNat (w32 ((h1.2 (h1.2 v0.toNat 9).toNat v6.toNat) + v3))) ((aup h1.2 (h1.2 v0.toNat 9).toNat v6.toNat (w32 ((h1.2 (h1.2 v0.toNat 9).toNat v6.toNat) + v3))) v0.toNat 10).toNat v6.toNat) v4)) v0.toNat 11).toNat v6.toNat) v5))
                                    else none
                                  else none
                                else none
                              else none
                            else none
                          else none
                        else none
                      else none
                    else none
                  else none
                else none)
            else none
        else none
  else none :=
  (aB gP gX xs stp_25 44 d mm_25 11 _ _ h).trans rfl

set_option maxRecDepth 100000 in
set_option maxHeartbeats 4000000 in
theorem q_25_93 (xs : List Int) (d : Nat) (v0 : Int) (v1 : Int) (v2 : Int) (v3 : Int) (v4 : Int) (v5 : Int) (v6 : Int) (v7 : Int) (h : aH) : ev xs d mm_25 93 [some (.inr (.inr v0)), some (.inr (.inr v1)), some (.inl v2), some (.inl v3), some (.inl v4), some (.inl v5), some (.inl v6), some (.inl v7)] [] h =
  some (none, h) :=
  (aB gP gX xs stp_25 2 d mm_25 93 _ _ h).trans rfl

set_option maxRecDepth 100000 in
set_option maxHeartbeats 4000000 in
theorem q_25_109 (xs : List Int) (d : Nat) (v0 : Int) (v1 : Int) (v2 : Int) (v3 : Int) (v4 : Int) (v5 : Int) (v6 : Int) (v7 : Int) (h : aH) : ev xs d mm_25 109 [some (.inr (.inr v0)), some (.inr (.inr v1)), some (.inl v2), some (.inl v3), some (.inl v4), some (.inl v5), some (.inl v6), some (.inl v7)] [] h =
  bif aok h.1 v0 2 && true then
    bV (cl xs d 27 [.inr (.inr v0)] h) (fun h1 =>
    bif aok h1.1 v0 2 then
      bif aok h1.1 v0 2 then
        bif aok h1.1 v0 2 then
          bif aok h1.1 (h1.2 v0.toNat 6) 101 && (aok h1.1 (h1.2 v0.toNat 12) 101 && (decide (0 ≤ 0) && (decide (0 ≤ (w32 ((h1.2 v0.toNat 7) * 8))) && (decide (0 ≤ 8) && (decide ((0 : Int).toNat + (8 : Int).toNat ≤ aln h1.1 (h1.2 v0.toNat 6)) && (decide ((w32 ((h1.2 v0.toNat 7) * 8)).toNat + (8 : Int).toNat ≤ aln h1.1 (h1.2 v0.toNat 12)) && true)))))) then
            bif aok h1.1 v0 2 then
              bif aok h1.1 v0 2 then
                bif ain h1.1 ((fun q j => if q = (h1.2 v0.toNat 12).toNat then acpy (h1.2 (h1.2 v0.toNat 6).toNat) (h1.2 (h1.2 v0.toNat 12).toNat) (0 : Int).toNat (w32 ((h1.2 v0.toNat 7) * 8)).toNat (8 : Int).toNat j else h1.2 q j) v0.toNat 9) 100 ((fun q j => if q = (h1.2 v0.toNat 12).toNat then acpy (h1.2 (h1.2 v0.toNat 6).toNat) (h1.2 (h1.2 v0.toNat 12).toNat) (0 : Int).toNat (w32 ((h1.2 v0.toNat 7) * 8)).toNat (8 : Int).toNat j else h1.2 q j) v0.toNat 7) then
                  bif aok h1.1 v0 2 then
                    bif aok h1.1 v0 2 then
                      bif ain h1.1 ((aup (fun q j => if q = (h1.2 v0.toNat 12).toNat then acpy (h1.2 (h1.2 v0.toNat 6).toNat) (h1.2 (h1.2 v0.toNat 12).toNat) (0 : Int).toNat (w32 ((h1.2 v0.toNat 7) * 8)).toNat (8 : Int).toNat j else h1.2 q j) ((fun q j => if q = (h1.2 v0.toNat 12).toNat then acpy (h1.2 (h1.2 v0.toNat 6).toNat) (h1.2 (h1.2 v0.toNat 12).toNat) (0 : Int).toNat (w32 ((h1.2 v0.toNat 7) * 8)).toNat (8 : Int).toNat j else h1.2 q j) v0.toNat 9).toNat ((fun q j => if q = (h1.2 v0.toNat 12).toNat then acpy (h1.2 (h1.2 v0.toNat 6).toNat) (h1.2 (h1.2 v0.toNat 12).toNat) (0 : Int).toNat (w32 ((h1.2 v0.toNat 7) * 8)).toNat (8 : Int).toNat j else h1.2 q j) v0.toNat 7).toNat v3) v0.toNat 10) 100 ((aup (fun q j => if q = (h1.2 v0.toNat 12).toNat then acpy (h1.2 (h1.2 v0.toNat 6).toNat) (h1.2 (h1.2 v0.toNat 12).toNat) (0 : Int).toNat (w32 ((h1.2 v0.toNat 7) * 8)).toNat (8 : Int).toNat j else h1.2 q j) ((fun q j => if q = (h1.2 v0.toNat 12).toNat then acpy (h1.2 (h1.2 v0.toNat 6).toNat) (h1.2 (h1.2 v0.toNat 12).toNat) (0 : Int).toNat (w32 ((h1.2 v0.toNat 7) * 8)).toNat (8 : Int).toNat j else h1.2 q j) v0.toNat 9).toNat ((fun q j => if q = (h1.2 v0.toNat 12).toNat then acpy (h1.2 (h1.2 v0.toNat 6).toNat) (h1.2 (h1.2 v0.toNat 12).toNat) (0 : Int).toNat (w32 ((h1.2 v0.toNat 7) * 8)).toNat (8 : Int).toNat j else h1.2 q j) v0.toNat 7).toNat v3) v0.toNat 7) then
                        ev xs d mm_25 155 [some (.inr (.inr v0)), some (.inr (.inr v1)), some (.inl v2), some (.inl v3), some (.inl v4), some (.inl v5), some (.inl v6), some (.inl v7)] [] (h1.1, aup (aup (fun q j => if q = (h1.2 v0.toNat 12).toNat then acpy (h1.2 (h1.2 v0.toNat 6).toNat) (h1.2 (h1.2 v0.toNat 12).toNat) (0 : Int).toNat (w32 ((h1.2 v0.toNat 7) * 8)).toNat (8 : Int).toNat j else h1.2 q j) ((fun q j => if q = (h1.2 v0.toNat 12).toNat then acpy (h1.2 (h1.2 v0.toNat 6).toNat) (h1.2 (h1.2 v0.toNat 12).toNat) (0 : Int).toNat (w32 ((h1.2 v0.toNat 7) * 8)).toNat (8 : Int).toNat j else h1.2 q j) v0.toNat 9).toNat ((fun q j => if q = (h1.2 v0.toNat 12).toNat then acpy (h1.2 (h1.2 v0.toNat 6).toNat) (h1.2 (h1.2 v0.toNat 12).toNat) (0 : Int).toNat (w32 ((h1.2 v0.toNat 7) * 8)).toNat (8 : Int).toNat j else h1.2 q j) v0.toNat 7).toNat v3) ((aup (fun q j => if q = (h1.2 v0.toNat 12).toNat then acpy (h1.2 (h1.2 v0.toNat 6).toNat) (h1.2 (h1.2 v0.toNat 12).toNat) (0 : Int).toNat (w32 ((h1.2 v0.toNat 7) * 8)).toNat (8 : Int).toNat j else h1.2 q j) ((fun q j => if q = (h1.2 v0.toNat 12).toNat then acpy (h1.2 (h1.2 v0.toNat 6).toNat) (h1.2 (h1.2 v0.toNat 12).toNat) (0 : Int).toNat (w32 ((h1.2 v0.toNat 7) * 8)).toNat (8 : Int).toNat j else h1.2 q j) v0.toNat 9).toNat ((fun q j => if q = (h1.2 v0.toNat 12).toNat then acpy (h1.2 (h1.2 v0.toNat 6).toNat) (h1.2 (h1.2 v0.toNat 12).toNat) (0 : Int).toNat (w32 ((h1.2 v0.toNat 7) * 8)).toNat (8 : Int).toNat j else h1.2 q j) v0.toNat 7).toNat v3) v0.toNat 10).toNat ((aup (fun q j => if q = (h1.2 v0.toNat 12).toNat then acpy (h1.2 (h1.2 v0.toNat 6).toNat) (h1.2 (h1.2 v0.toNat 12).toNat) (0 : Int).toNat (w32 ((h1.2 v0.toNat 7) * 8)).toNat (8 : Int).toNat j else h1.2 q j) ((fun q j => if q = (h1.2 v0.toNat 12).toNat then acpy (h1.2 (h1.2 v0.toNat 6).toNat) (h1.2 (h1.2 v0.toNat 12).toNat) (0 : Int).toNat (w32 ((h1.2 v0.toNat 7) * 8)).toNat (8 : Int).toNat j else h1.2 q j) v0.toNat 9).toNat ((fun q j => if q = (h1.2 v0.toNat 12).toNat then acpy (h1.2 (h1.2 v0.toNat 6).toNat) (h1.2 (h1.2 v0.toNat 12).toNat) (0 : Int).toNat (w32 ((h1.2 v0.toNat 7) * 8)).toNat (8 : Int).toNat j else h1.2 q j) v0.toNat 7).toNat v3) v0.toNat 7).toNat v4)
                      else none
                    else none
                  else none
                else none
              else none
            else none
          else none
        else none
      else none
    else none)
  else none :=
  (aB gP gX xs stp_25 26 d mm_25 109 _ _ h).trans rfl

set_option maxRecDepth 100000 in
set_option maxHeartbeats 4000000 in
theorem q_25_155 (xs : List Int) (d : Nat) (v0 : Int) (v1 : Int) (v2 : Int) (v3 : Int) (v4 : Int) (v5 : Int) (v6 : Int) (v7 : Int) (h : aH) : ev xs d mm_25 155 [some (.inr (.inr v0)), some (.inr (.inr v1)), some (.inl v2), some (.inl v3), some (.inl v4), some (.inl v5), some (.inl v6), some (.inl v7)] [] h =
  bif aok h.1 v0 2 then
    bif aok h.1 v0 2 then
      bif ain h.1 (h.2 v0.toNat 11) 100 (h.2 v0.toNat 7) then
        bif aok h.1 v0 2 then
          bif aok h.1 v0 2 then
            bif aok h.1 v0 2 then
              bif ain h.1 ((aup h.2 (h.2 v0.toNat 11).toNat (h.2 v0.toNat 7).toNat v5) v0.toNat 4) 100 v2 then
                bif ain h.1 ((aup h.2 (h.2 v0.toNat 11).toNat (h.2 v0.toNat 7).toNat v5) v0.toNat 8) 100 ((aup h.2 (h.2 v0.toNat 11).toNat (h.2 v0.toNat 7).toNat v5) v0.toNat 7) then
                  bif aok h.1 v0 2 then
                    bif aok h.1 v0 2 then
                      bif ain h.1 ((aup (aup h.2 (h.2 v0.toNat 11).toNat (h.2 v0.toNat 7).toNat v5) ((aup h.2 (h.2 v0.toNat 11).toNat (h.2 v0.toNat 7).toNat v5) v0.toNat 8).toNat ((aup h.2 (h.2 v0.toNat 11).toNat (h.2 v0.toNat 7).toNat v5) v0.toNat 7).toNat ((aup h.2 (h.2 v0.toNat 11).toNat (h.2 v0.toNat 7).toNat v5) ((aup h.2 (h.2 v0.toNat 11).toNat (h.2 v0.toNat 7).toNat v5) v0.toNat 4).toNat v2.toNat)) v0.toNat 4) 100 v2 then
                        ev xs d mm_25 191 [some (.inr (.inr v0)), some (.inr (.inr v1)), some (.inl v2), some (.inl v3), some (.inl v4), some (.inl v5), some (.inl v6), some (.inl v7)] [] (h.1, aup (aup (aup h.2 (h.2 v0.toNat 11).toNat (h.2 v0.toNat 7).toNat v5) ((aup h.2 (h.2 v0.toNat 11).toNat (h.2 v0.toNat 7).toNat v5) v0.toNat 8).toNat ((aup h.2 (h.2 v0.toNat 11).toNat (h.2 v0.toNat 7).toNat v5) v0.toNat 7).toNat ((aup h.2 (h.2 v0.toNat 11).toNat (h.2 v0.toNat 7).toNat v5) ((aup h.2 (h.2 v0.toNat 11).toNat (h.2 v0.toNat 7).toNat v5) v0.toNat 4).toNat v2.toNat)) ((aup (aup h.2 (h.2 v0.toNat 11).toNat (h.2 v0.toNat 7).toNat v5) ((aup h.2 (h.2 v0.toNat 11).toNat (h.2 v0.toNat 7).toNat v5) v0.toNat 8).toNat ((aup h.2 (h.2 v0.toNat 11).toNat (h.2 v0.toNat 7).toNat v5) v0.toNat 7).toNat ((aup h.2 (h.2 v0.toNat 11).toNat (h.2 v0.toNat 7).toNat v5) ((aup h.2 (h.2 v0.toNat 11).toNat (h.2 v0.toNat 7).toNat v5) v0.toNat 4).toNat v2.toNat)) v0.toNat 4).toNat v2.toNat ((aup (aup h.2 (h.2 v0.toNat 11).toNat (h.2 v0.toNat 7).toNat v5) ((aup h.2 (h.2 v0.toNat 11).toNat (h.2 v0.toNat 7).toNat v5) v0.toNat 8).toNat ((aup h.2 (h.2 v0.toNat 11).toNat (h.2 v0.toNat 7).toNat v5) v0.toNat 7).toNat ((aup h.2 (h.2 v0.toNat 11).toNat (h.2 v0.toNat 7).toNat v5) ((aup h.2 (h.2 v0.toNat 11).toNat (h.2 v0.toNat 7).toNat v5) v0.toNat 4).toNat v2.toNat)) v0.toNat 7))
                      else none
                    else none
                  else none
                else none
              else none
            else none
          else none
        else none
      else none
    else none
  else none :=
  (aB gP gX xs stp_25 22 d mm_25 155 _ _ h).trans rfl

set_option maxRecDepth 100000 in
set_option maxHeartbeats 4000000 in
theorem q_25_191 (xs : List Int) (d : Nat) (v0 : Int) (v1 : Int) (v2 : Int) (v3 : Int) (v4 : Int) (v5 : Int) (v6 : Int) (v7 : Int) (h : aH) : ev xs d mm_25 191 [some (.inr (.inr v0)), some (.inr (.inr v1)), some (.inl v2), some (.inl v3), some (.inl v4), some (.inl v5), some (.inl v6), some (.inl v7)] [] h =
  bif aok h.1 v0 2 then
    bif aok h.1 v0 2 then
      some (none, (h.1, aup h.2 v0.toNat 7 (w32 ((h.2 v0.toNat 7) + 1))))
    else none
  else none :=
  (aB gP gX xs stp_25 8 d mm_25 191 _ _ h).trans rfl

theorem c_25 (xs : List Int) (d : Nat) (v0 : Int) (v1 : Int) (v2 : Int) (v3 : Int) (v4 : Int) (v5 : Int) (h : aH) : cl xs (d + 1) 25 [.inr (.inr v0), .inr (.inr v1), .inl v2, .inl v3, .inl v4, .inl v5] h =
  bif aok h.1 v0 2 then
    bif ain h.1 (h.2 v0.toNat 4) 100 v2 then
      ev xs d mm_25 11 [some (.inr (.inr v0)), some (.inr (.inr v1)), some (.inl v2), some (.inl v3), some (.inl v4), some (.inl v5), some (.inl (h.2 (h.2 v0.toNat 4).toNat v2.toNat)), some (.inl 0)] [] h
    else none
  else none :=
  (show _ = ev xs d mm_25 0 [some (.inr (.inr v0)), some (.inr (.inr v1)), some (.inl v2), some (.inl v3), some (.inl v4), some (.inl v5), none, none] [] h from rfl).trans (q_25_0 xs d v0 v1 v2 v3 v4 v5 h)
def stp_26 : List Nat := [0, 2]
set_option maxRecDepth 100000 in
set_option maxHeartbeats 4000000 in
theorem q_26_0 (xs : List Int) (d : Nat) (v0 : Int) (v1 : Int) (v2 : Int) (h : aH) : ev xs d mm_26 0 [some (.inr (.inr v0)), some (.inr (.inr v1)), some (.inl v2), none] [] h =
  ev xs d mm_26 2 [some (.inr (.inr v0)), some (.inr (.inr v1)), some (.inl v2), some (.inl 0)] [] h :=
  (aB gP gX xs stp_26 3 d mm_26 0 _ _ h).trans rfl

set_option maxRecDepth 100000 in
set_option maxHeartbeats 4000000 in
theorem q_26_2 (xs : List Int) (d : Nat) (v0 : Int) (v1 : Int) (v2 : Int) (v3 : Int) (h : aH) : ev xs d mm_26 2 [some (.inr (.inr v0)), some (.inr (.inr v1)), some (.inl v2), some (.inl v3)] [] h =
  bif aok h.1 v1 9 then
    bif decide ((h.2 v1.toNat 7) ≤ v3) then
      some (some (.inl 1), h)
    else
      bif aok h.1 v0 2 then
        bif ain h.1 (h.2 v0.toNat 12) 101 (w32 ((w32 (v2 * 8)) + v3)) then
          bif aok h.1 v0 2 then
            bif ain h.1 (h.2 v0.toNat 6) 101 v3 then
              bif decide ((olcmp (h.2 (h.2 v0.toNat 12).toNat (w32 ((w32 (v2 * 8)) + v3)).toNat) (h.2 (h.2 v0.toNat 6).toNat v3.toNat)) = 0) then
                ev xs d mm_26 2 [some (.inr (.inr v0)), some (.inr (.inr v1)), some (.inl v2), some (.inl (w32 (v3 + 1)))] [] h
              else
                some (some (.inl 0), h)
            else none
          else none
        else none
      else none
  else none :=
  (aB gP gX xs stp_26 21 d mm_26 2 _ _ h).trans rfl

theorem c_26 (xs : List Int) (d : Nat) (v0 : Int) (v1 : Int) (v2 : Int) (h : aH) : cl xs (d + 1) 26 [.inr (.inr v0), .inr (.inr v1), .inl v2] h =
  ev xs d mm_26 2 [some (.inr (.inr v0)), some (.inr (.inr v1)), some (.inl v2), some (.inl 0)] [] h :=
  (show _ = ev xs d mm_26 0 [some (.inr (.inr v0)), some (.inr (.inr v1)), some (.inl v2), none] [] h from rfl).trans (q_26_0 xs d v0 v1 v2 h)
def stp_27 : List Nat := [0, 56]
set_option maxRecDepth 100000 in
set_option maxHeartbeats 4000000 in
theorem q_27_0 (xs : List Int) (d : Nat) (v0 : Int) (h : aH) : ev xs d mm_27 0 [some (.inr (.inr v0)), none] [] h =
  bif aok h.1 v0 2 then
    bif aok h.1 v0 2 then
      bif aoa h.1 (h.2 v0.toNat 8) then
        bif decide ((h.2 v0.toNat 7) < (aln h.1 (h.2 v0.toNat 8) : Int)) then
          some (none, h)
        else
          bif aok h.1 v0 2 then
            bif aoa h.1 (h.2 v0.toNat 8) then
              bif aok h.1 v0 2 then
                bR (cl xs d 319 [.inr (.inr (h.2 v0.toNat 8)), .inl (w32 (2 * (aln h.1 (h.2 v0.toNat 8) : Int)))] h) (fun x2 h1 =>
                  bif aok h1.1 v0 2 then
                    bif aok h1.1 v0 2 then
                      bR (cl xs d 319 [.inr (.inr ((aup h1.2 v0.toNat 8 x2) v0.toNat 9)), .inl (w32 (2 * (aln h.1 (h.2 v0.toNat 8) : Int)))] (h1.1, aup h1.2 v0.toNat 8 x2)) (fun x4 h3 =>
                        bif aok h3.1 v0 2 then
                          bif aok h3.1 v0 2 then
                            bR (cl xs d 319 [.inr (.inr ((aup h3.2 v0.toNat 9 x4) v0.toNat 10)), .inl (w32 (2 * (aln h.1 (h.2 v0.toNat 8) : Int)))] (h3.1, aup h3.2 v0.toNat 9 x4)) (fun x6 h5 =>
                              bif aok h5.1 v0 2 then
                                ev xs d mm_27 56 [some (.inr (.inr v0)), some (.inl (w32 (2 * (aln h.1 (h.2 v0.toNat 8) : Int))))] [] (h5.1, aup h5.2 v0.toNat 10 x6)
                              else none)
                          else none
                        else none)
                    else none
                  else none)
              else none
            else none
          else none
      else none
    else none
  else none :=
  (aB gP gX xs stp_27 31 d mm_27 0 _ _ h).trans rfl

set_option maxRecDepth 100000 in
set_option maxHeartbeats 4000000 in
theorem q_27_56 (xs : List Int) (d : Nat) (v0 : Int) (v1 : Int) (h : aH) : ev xs d mm_27 56 [some (.inr (.inr v0)), some (.inl v1)] [] h =
  bif aok h.1 v0 2 then
    bR (cl xs d 319 [.inr (.inr (h.2 v0.toNat 11)), .inl v1] h) (fun x2 h1 =>
      bif aok h1.1 v0 2 then
        bif aok h1.1 v0 2 then
          bR (cl xs d 320 [.inr (.inr ((aup h1.2 v0.toNat 11 x2) v0.toNat 12)), .inl (w32 (v1 * 8))] (h1.1, aup h1.2 v0.toNat 11 x2)) (fun x4 h3 =>
            bif aok h3.1 v0 2 then
              some (none, (h3.1, aup h3.2 v0.toNat 12 x4))
            else none)
        else none
      else none)
  else none :=
  (aB gP gX xs stp_27 16 d mm_27 56 _ _ h).trans rfl

theorem c_27 (xs : List Int) (d : Nat) (v0 : Int) (h : aH) : cl xs (d + 1) 27 [.inr (.inr v0)] h =
  bif aok h.1 v0 2 then
    bif aok h.1 v0 2 then
      bif aoa h.1 (h.2 v0.toNat 8) then
        bif decide ((h.2 v0.toNat 7) < (aln h.1 (h.2 v0.toNat 8) : Int)) then
          some (none, h)
        else
          bif aok h.1 v0 2 then
            bif aoa h.1 (h.2 v0.toNat 8) then
              bif aok h.1 v0 2 then
                bR (cl xs d 319 [.inr (.inr (h.2 v0.toNat 8)), .inl (w32 (2 * (aln h.1 (h.2 v0.toNat 8) : Int)))] h) (fun x2 h1 =>
                  bif aok h1.1 v0 2 then
                    bif aok h1.1 v0 2 then
                      bR (cl xs d 319 [.inr (.inr ((aup h1.2 v0.toNat 8 x2) v0.toNat 9)), .inl (w32 (2 * (aln h.1 (h.2 v0.toNat 8) : Int)))] (h1.1, aup h1.2 v0.toNat 8 x2)) (fun x4 h3 =>
                        bif aok h3.1 v0 2 then
                          bif aok h3.1 v0 2 then
                            bR (cl xs d 319 [.inr (.inr ((aup h3.2 v0.toNat 9 x4) v0.toNat 10)), .inl (w32 (2 * (aln h.1 (h.2 v0.toNat 8) : Int)))] (h3.1, aup h3.2 v0.toNat 9 x4)) (fun x6 h5 =>
                              bif aok h5.1 v0 2 then
                                ev xs d mm_27 56 [some (.inr (.inr v0)), some (.inl (w32 (2 * (aln h.1 (h.2 v0.toNat 8) : Int))))] [] (h5.1, aup h5.2 v0.toNat 10 x6)
                              else none)
                          else none
                        else none)
                    else none
                  else none)
              else none
            else none
          else none
      else none
    else none
  else none :=
  (show _ = ev xs d mm_27 0 [some (.inr (.inr v0)), none] [] h from rfl).trans (q_27_0 xs d v0 h)
def stp_28 : List Nat := [0, 3, 39, 87]
set_option maxRecDepth 100000 in
set_option maxHeartbeats 4000000 in
theorem q_28_0 (xs : List Int) (d : Nat) (v0 : Int) (v1 : Int) (v2 : Int) (v3 : Int) (v4 : Int) (h : aH) : ev xs d mm_28 0 [some (.inr (.inr v0)), some (.inr (.inr v1)), some (.inl v2), some (.inl v3), some (.inl v4), none] [] h =
  ev xs d mm_28 3 [some (.inr (.inr v0)), some (.inr (.inr v1)), some (.inl v2), some (.inl v3), some (.inl v4), some (.inl 0)] [] h :=
  (aB gP gX xs stp_28 3 d mm_28 0 _ _ h).trans rfl

set_option maxRecDepth 100000 in
set_option maxHeartbeats 4000000 in
theorem q_28_3 (xs : List Int) (d : Nat) (v0 : Int) (v1 : Int) (v2 : Int) (v3 : Int) (v4 : Int) (v5 : Int) (h : aH) : ev xs d mm_28 3 [some (.inr (.inr v0)), some (.inr (.inr v1)), some (.inl v2), some (.inl v3), some (.inl v4), some (.inl v5)] [] h =
  bif aok h.1 v1 9 then
    bif decide ((h.2 v1.toNat 7) < v5) then
      some (none, h)
    else
      bif aok h.1 v0 2 then
        bif ain h.1 (h.2 v0.toNat 1) 100 v5 then
          bif decide (¬ (h.2 (h.2 v0.toNat 1).toNat v5.toNat) = 0) then
            ev xs d mm_28 39 [some (.inr (.inr v0)), some (.inr (.inr v1)), some (.inl v2), some (.inl v3), some (.inl v4), some (.inl v5)] [] h
          else
            bif aok h.1 v0 2 then
              bif ain h.1 (h.2 v0.toNat 2) 100 v5 then
                bif aok h.1 v0 2 then
                  bif ain h.1 ((aup h.2 (h.2 v0.toNat 2).toNat v5.toNat v3) v0.toNat 3) 100 v5 then
                    ev xs d mm_28 39 [some (.inr (.inr v0)), some (.inr (.inr v1)), some (.inl v2), some (.inl v3), some (.inl v4), some (.inl v5)] [] (h.1, aup (aup h.2 (h.2 v0.toNat 2).toNat v5.toNat v3) ((aup h.2 (h.2 v0.toNat 2).toNat v5.toNat v3) v0.toNat 3).toNat v5.toNat v4)
                  else none
                else none
              else none
            else none
        else none
      else none
  else none :=
  (aB gP gX xs stp_28 20 d mm_28 3 _ _ h).trans rfl

set_option maxRecDepth 100000 in
set_option maxHeartbeats 4000000 in
theorem q_28_39 (xs : List Int) (d : Nat) (v0 : Int) (v1 : Int) (v2 : Int) (v3 : Int) (v4 : Int) (v5 : Int) (h : aH) : ev xs d mm_28 39 [some (.inr (.inr v0)), some (.inr (.inr v1)), some (.inl v2), some (.inl v3), some (.inl v4), some (.inl v5)] [] h =
  bif aok h.1 v0 2 then
    bif ain h.1 (h.2 v0.toNat 1) 100 v5 then
      bif ain h.1 (h.2 v0.toNat 1) 100 v5 then
        bif aok h.1 v0 2 then
          bif aok h.1 v0 2 then
            bif ain h.1 ((aup h.2 (h.2 v0.toNat 1).toNat v5.toNat (w32 ((h.2 (h.2 v0.toNat 1).toNat v5.toNat) + v2))) v0.toNat 2) 100 v5 then
              bif ain h.1 ((aup h.2 (h.2 v0.toNat 1).toNat v5.toNat (w32 ((h.2 (h.2 v0.toNat 1).toNat v5.toNat) + v2))) v0.toNat 2) 100 v5 then
                bif aok h.1 v0 2 then
                  bif aok h.1 v0 2 then
                    bif ain h.1 ((aup (aup h.2 (h.2 v0.toNat 1).toNat v5.toNat (w32 ((h.2 (h.2 v0.toNat 1).toNat v5.toNat) + v2))) ((aup h.2 (h.2 v0.toNat 1).toNat v5.toNat (w32 ((h.2 (h.2 v0.toNat 1).toNat v5.toNat) + v2))) v0.toNat 2).toNat v5.toNat (omin ((aup h.2 (h.2 v0.toNat 1).toNat v5.toNat (w32 ((h.2 (h.2 v0.toNat 1).toNat v5.toNat) + v2))) ((aup h.2 (h.2 v0.toNat 1).toNat v5.toNat (w32 ((h.2 (h.2 v0.toNat 1).toNat v5.toNat) + v2))) v0.toNat 2).toNat v5.toNat) v3)) v0.toNat 3) 100 v5 then
                      bif ain h.1 ((aup (aup h.2 (h.2 v0.toNat 1).toNat v5.toNat (w32 ((h.2 (h.2 v0.toNat 1).toNat v5.toNat) + v2))) ((aup h.2 (h.2 v0.toNat 1).toNat v5.toNat (w32 ((h.2 (h.2 v0.toNat 1).toNat v5.toNat) + v2))) v0.toNat 2).toNat v5.toNat (omin ((aup h.2 (h.2 v0.toNat 1).toNat v5.toNat (w32 ((h.2 (h.2 v0.toNat 1).toNat v5.toNat) + v2))) ((aup h.2 (h.2 v0.toNat 1).toNat v5.toNat (w32 ((h.2 (h.2 v0.toNat 1).toNat v5.toNat) + v2))) v0.toNat 2).toNat v5.toNat) v3)) v0.toNat 3) 100 v5 then
                        ev xs d mm_28 87 [some (.inr (.inr v0)), some (.inr (.inr v1)), some (.inl v2), some (.inl v3), some (.inl v4), some (.inl v5)] [] (h.1, aup (aup (aup h.2 (h.2 v0.toNat 1).toNat v5.toNat (w32 ((h.2 (h.2 v0.toNat 1).toNat v5.toNat) + v2))) ((aup h.2 (h.2 v0.toNat 1).toNat v5.toNat (w32 ((h.2 (h.2 v0.toNat 1).toNat v5.toNat) + v2))) v0.toNat 2).toNat v5.toNat (omin ((aup h.2 (h.2 v0.toNat 1).toNat v5.toNat (w32 ((h.2 (h.2 v0.toNat 1).toNat v5.toNat) + v2))) ((aup h.2 (h.2 v0.toNat 1).toNat v5.toNat (w32 ((h.2 (h.2 v0.toNat 1).toNat v5.toNat) + v2))) v0.toNat 2).toNat v5.toNat) v3)) ((aup (aup h.2 (h.2 v0.toNat 1).toNat v5.toNat (w32 ((h.2 (h.2 v0.toNat 1).toNat v5.toNat) + v2))) ((aup h.2 (h.2 v0.toNat 1).toNat v5.toNat (w32 ((h.2 (h.2 v0.toNat 1).toNat v5.toNat) + v2))) v0.toNat 2).toNat v5.toNat (omin ((aup h.2 (h.2 v0.toNat 1).toNat v5.toNat (w32 ((h.2 (h.2 v0.toNat 1).toNat v5.toNat) + v2))) ((aup h.2 (h.2 v0.toNat 1).toNat v5.toNat (w32 ((h.2 (h.2 v0.toNat 1).toNat v5.toNat) + v2))) v0.toNat 2).toNat v5.toNat) v3)) v0.toNat 3).toNat v5.toNat (omin ((aup (aup h.2 (h.2 v0.toNat 1).toNat v5.toNat (w32 ((h.2 (h.2 v0.toNat 1).toNat v5.toNat) + v2))) ((aup h.2 (h.2 v0.toNat 1).toNat v5.toNat (w32 ((h.2 (h.2 v0.toNat 1).toNat v5.toNat) + v2))) v0.toNat 2).toNat v5.toNat (omin ((aup h.2 (h.2 v0.toNat 1).toNat v5.toNat (w32 ((h.2 (h.2 v0.toNat 1).toNat v5.toNat) + v2))) ((aup h.2 (h.2 v0.toNat 1).toNat v5.toNat (w32 ((h.2 (h.2 v0.toNat 1).toNat v5.toNat) + v2))) v0.toNat 2).toNat v5.toNat) v3)) ((aup (aup h.2 (h.2 v0.toNat 1).toNat v5.toNat (w32 ((h.2 (h.2 v0.toNat 1).toNat v5.toNat) + v2))) ((aup h.2 (h.2 v0.toNat 1).toNat v5.toNat (w32 ((h.2 (h.2 v0.toNat 1).toNat v5.toNat) + v2))) v0.toNat 2).toNat v5.toNat (omin ((aup h.2 (h.2 v0.toNat 1).toNat v5.toNat (w32 ((h.2 (h.2 v0.toNat 1).toNat v5.toNat) + v2))) ((aup h.2 (h.2 v0.toNat 1).toNat v5.toNat (w32 ((h.2 (h.2 v0.toNat 1).toNat v5.toNat) + v2))) v0.toNat 2).toNat v5.toNat) v3)) v0.toNat 3).toNat v5.toNat) v4))
                      else none
                    else none
                  else none
                else none
              else none
            else none
          else none
        else none
      else none
    else none
  else none :=
  (aB gP gX xs stp_28 29 d mm_28 39 _ _ h).trans rfl

set_option maxRecDepth 100000 in
set_option maxHeartbeats 4000000 in
theorem q_28_87 (xs : List Int) (d : Nat) (v0 : Int) (v1 : Int) (v2 : Int) (v3 : Int) (v4 : Int) (v5 : Int) (h : aH) : ev xs d mm_28 87 [some (.inr (.inr v0)), some (.inr (.inr v1)), some (.inl v2), some (.inl v3), some (.inl v4), some (.inl v5)] [] h =
  bif aok h.1 v1 9 then
    bif decide ((h.2 v1.toNat 7) ≤ v5) then
      ev xs d mm_28 3 [some (.inr (.inr v0)), some (.inr (.inr v1)), some (.inl v2), some (.inl v3), some (.inl v4), some (.inl (w32 (v5 + 1)))] [] h
    else
      bif aok h.1 v0 2 then
        bif ain h.1 (h.2 v0.toNat 6) 101 v5 then
          bif aok h.1 v1 9 then
            bif ain h.1 (h.2 v1.toNat 9) 101 v5 then
              bif decide ((olcmp (h.2 (h.2 v0.toNat 6).toNat v5.toNat) (h.2 (h.2 v1.toNat 9).toNat v5.toNat)) = 0) then
                ev xs d mm_28 3 [some (.inr (.inr v0)), some (.inr (.inr v1)), some (.inl v2), some (.inl v3), some (.inl v4), some (.inl (w32 (v5 + 1)))] [] h
              else
                some (none, h)
            else none
          else none
        else none
      else none
  else none :=
  (aB gP gX xs stp_28 17 d mm_28 87 _ _ h).trans rfl

theorem c_28 (xs : List Int) (d : Nat) (v0 : Int) (v1 : Int) (v2 : Int) (v3 : Int) (v4 : Int) (h : aH) : cl xs (d + 1) 28 [.inr (.inr v0), .inr (.inr v1), .inl v2, .inl v3, .inl v4] h =
  ev xs d mm_28 3 [some (.inr (.inr v0)), some (.inr (.inr v1)), some (.inl v2), some (.inl v3), some (.inl v4), some (.inl 0)] [] h :=
  (show _ = ev xs d mm_28 0 [some (.inr (.inr v0)), some (.inr (.inr v1)), some (.inl v2), some (.inl v3), some (.inl v4), none] [] h from rfl).trans (q_28_0 xs d v0 v1 v2 v3 v4 h)
def stp_29 : List Nat := [0, 8, 16, 24]
set_option maxRecDepth 100000 in
set_option maxHeartbeats 4000000 in
theorem q_29_0 (xs : List Int) (d : Nat) (v0 : Int) (h : aH) : ev xs d mm_29 0 [some (.inr (.inr v0))] [] h =
  bif decide (0 ≤ v0) && true then
    ev xs d mm_29 8 [some (.inr (.inr v0))] [.inr (.inr (h.1.1 : Int)), .inr (.inr v0)] ((h.1.1 + 1, h.1.2.1 + (3 : Int).toNat, fun q => if q = h.1.1 then (100, (3 : Int).toNat) else h.1.2.2 q), fun q j => if q = h.1.1 then 0 else h.2 q j)
  else none :=
  (aB gP gX xs stp_29 6 d mm_29 0 _ _ h).trans rfl

set_option maxRecDepth 100000 in
set_option maxHeartbeats 4000000 in
theorem q_29_8 (xs : List Int) (d : Nat) (v0 : Int) (s0 : Int) (s1 : Int) (h : aH) : ev xs d mm_29 8 [some (.inr (.inr v0))] [.inr (.inr s1), .inr (.inr s0)] h =
  bif aok h.1 s0 3 then
    ev xs d mm_29 16 [some (.inr (.inr v0))] [.inr (.inr (h.1.1 : Int)), .inr (.inr v0)] ((h.1.1 + 1, h.1.2.1 + (24 : Int).toNat, fun q => if q = h.1.1 then (101, (24 : Int).toNat) else h.1.2.2 q), fun q j => if q = h.1.1 then 0 else (aup h.2 s0.toNat 0 s1) q j)
  else none :=
  (aB gP gX xs stp_29 5 d mm_29 8 _ _ h).trans rfl

set_option maxRecDepth 100000 in
set_option maxHeartbeats 4000000 in
theorem q_29_16 (xs : List Int) (d : Nat) (v0 : Int) (s0 : Int) (s1 : Int) (h : aH) : ev xs d mm_29 16 [some (.inr (.inr v0))] [.inr (.inr s1), .inr (.inr s0)] h =
  bif aok h.1 s0 3 then
    ev xs d mm_29 24 [some (.inr (.inr v0))] [.inr (.inr (h.1.1 : Int)), .inr (.inr v0)] ((h.1.1 + 1, h.1.2.1 + (24 : Int).toNat, fun q => if q = h.1.1 then (100, (24 : Int).toNat) else h.1.2.2 q), fun q j => if q = h.1.1 then 0 else (aup h.2 s0.toNat 1 s1) q j)
  else none :=
  (aB gP gX xs stp_29 5 d mm_29 16 _ _ h).trans rfl

set_option maxRecDepth 100000 in
set_option maxHeartbeats 4000000 in
theorem q_29_24 (xs : List Int) (d : Nat) (v0 : Int) (s0 : Int) (s1 : Int) (h : aH) : ev xs d mm_29 24 [some (.inr (.inr v0))] [.inr (.inr s1), .inr (.inr s0)] h =
  bif aok h.1 s0 3 then
    some (none, (h.1, aup h.2 s0.toNat 2 s1))
  else none :=
  (aB gP gX xs stp_29 3 d mm_29 24 _ _ h).trans rfl

theorem c_29 (xs : List Int) (d : Nat) (v0 : Int) (h : aH) : cl xs (d + 1) 29 [.inr (.inr v0)] h =
  bif decide (0 ≤ v0) && true then
    ev xs d mm_29 8 [some (.inr (.inr v0))] [.inr (.inr (h.1.1 : Int)), .inr (.inr v0)] ((h.1.1 + 1, h.1.2.1 + (3 : Int).toNat, fun q => if q = h.1.1 then (100, (3 : Int).toNat) else h.1.2.2 q), fun q j => if q = h.1.1 then 0 else h.2 q j)
  else none :=
  (show _ = ev xs d mm_29 0 [some (.inr (.inr v0))] [] h from rfl).trans (q_29_0 xs d v0 h)
def stp_30 : List Nat := [0]
set_option maxRecDepth 100000 in
set_option maxHeartbeats 4000000 in
theorem q_30_0 (xs : List Int) (d : Nat) (v0 : Int) (h : aH) : ev xs d mm_30 0 [some (.inl v0)] [] h =
  bif decide (¬ v0 = 0) then
    bif decide (¬ v0 = 1) then
      some (some (.inl 4), h)
    else
      some (some (.inl 6), h)
  else
    some (some (.inl 8), h) :=
  (aB gP gX xs stp_30 9 d mm_30 0 _ _ h).trans rfl

theorem c_30 (xs : List Int) (d : Nat) (v0 : Int) (h : aH) : cl xs (d + 1) 30 [.inl v0] h =
  bif decide (¬ v0 = 0) then
    bif decide (¬ v0 = 1) then
      some (some (.inl 4), h)
    else
      some (some (.inl 6), h)
  else
    some (some (.inl 8), h) :=
  (show _ = ev xs d mm_30 0 [some (.inl v0)] [] h from rfl).trans (q_30_0 xs d v0 h)
def stp_31 : List Nat := [0]
set_option maxRecDepth 100000 in
set_option maxHeartbeats 4000000 in
theorem q_31_0 (xs : List Int) (d : Nat) (v0 : Int) (v1 : Int) (v2 : Int) (h : aH) : ev xs d mm_31 0 [some (.inr (.inr v0)), some (.inl v1), some (.inl v2)] [] h =
  bif decide (v1 < 0) then
    some (some (.inl 0), h)
  else
    bif decide (3 ≤ v1) then
      some (some (.inl 0), h)
    else
      bif decide (v2 < 0) then
        some (some (.inl 0), h)
      else
        bif aok h.1 v0 3 then
          bif ain h.1 (h.2 v0.toNat 0) 100 v1 then
            bif decide ((h.2 (h.2 v0.toNat 0).toNat v1.toNat) ≤ v2) then
              some (some (.inl 0), h)
            else
              some (some (.inl 1), h)
          else none
        else none :=
  (aB gP gX xs stp_31 17 d mm_31 0 _ _ h).trans rfl

theorem c_31 (xs : List Int) (d : Nat) (v0 : Int) (v1 : Int) (v2 : Int) (h : aH) : cl xs (d + 1) 31 [.inr (.inr v0), .inl v1, .inl v2] h =
  bif decide (v1 < 0) then
    some (some (.inl 0), h)
  else
    bif decide (3 ≤ v1) then
      some (some (.inl 0), h)
    else
      bif decide (v2 < 0) then
        some (some (.inl 0), h)
      else
        bif aok h.1 v0 3 then
          bif ain h.1 (h.2 v0.toNat 0) 100 v1 then
            bif decide ((h.2 (h.2 v0.toNat 0).toNat v1.toNat) ≤ v2) then
              some (some (.inl 0), h)
            else
              some (some (.inl 1), h)
          else none
        else none :=
  (show _ = ev xs d mm_31 0 [some (.inr (.inr v0)), some (.inl v1), some (.inl v2)] [] h from rfl).trans (q_31_0 xs d v0 v1 v2 h)
def stp_32 : List Nat := [0, 62]
set_option maxRecDepth 100000 in
set_option maxHeartbeats 4000000 in
theorem q_32_0 (xs : List Int) (d : Nat) (v0 : Int) (v1 : Int) (v2 : Int) (v4 : Int) (h : aH) : ev xs d mm_32 0 [some (.inr (.inr v0)), some (.inl v1), some (.inr (.inl v2)), none, some (.inl v4), none] [] h =
  bif decide (v1 < 0) then
    ev xs d mm_32 62 [some (.inr (.inr v0)), some (.inl v1), some (.inr (.inl v2)), none, some (.inl v4), none] [] h
  else
    bif decide (3 ≤ v1) then
      ev xs d mm_32 62 [some (.inr (.inr v0)), some (.inl v1), some (.inr (.inl v2)), none, some (.inl v4), none] [] h
    else
      bif aok h.1 v0 3 then
        bif ain h.1 (h.2 v0.toNat 0) 100 v1 then
          bI (cl xs d 30 [.inl v1] h) (fun x2 h1 =>
            bif decide (x2 ≤ (h.2 (h.2 v0.toNat 0).toNat v1.toNat)) then
              ev xs d mm_32 62 [some (.inr (.inr v0)), some (.inl v1), some (.inr (.inl v2)), none, some (.inl v4), none] [] h1
            else
              bif aok h1.1 v0 3 then
                bif ain h1.1 (h1.2 v0.toNat 0) 100 v1 then
                  bif aok h1.1 v0 3 then
                    bif ain h1.1 (h1.2 v0.toNat 1) 101 (w32 ((w32 (v1 * 8)) + (h1.2 (h1.2 v0.toNat 0).toNat v1.toNat))) then
                      bif aok h1.1 v0 3 then
                        bif ain h1.1 ((aup h1.2 (h1.2 v0.toNat 1).toNat (w32 ((w32 (v1 * 8)) + (h1.2 (h1.2 v0.toNat 0).toNat v1.toNat))).toNat v2) v0.toNat 2) 100 (w32 ((w32 (v1 * 8)) + (h1.2 (h1.2 v0.toNat 0).toNat v1.toNat))) then
                          bif aok h1.1 v0 3 then
                            bif ain h1.1 ((aup (aup h1.2 (h1.2 v0.toNat 1).toNat (w32 ((w32 (v1 * 8)) + (h1.2 (h1.2 v0.toNat 0).toNat v1.toNat))).toNat v2) ((aup h1.2 (h1.2 v0.toNat 1).toNat (w32 ((w32 (v1 * 8)) + (h1.2 (h1.2 v0.toNat 0).toNat v1.toNat))).toNat v2) v0.toNat 2).toNat (w32 ((w32 (v1 * 8)) + (h1.2 (h1.2 v0.toNat 0).toNat v1.toNat))).toNat v4) v0.toNat 0) 100 v1 then
                              bif ain h1.1 ((aup (aup h1.2 (h1.2 v0.toNat 1).toNat (w32 ((w32 (v1 * 8)) + (h1.2 (h1.2 v0.toNat 0).toNat v1.toNat))).toNat v2) ((aup h1.2 (h1.2 v0.toNat 1).toNat (w32 ((w32 (v1 * 8)) + (h1.2 (h1.2 v0.toNat 0).toNat v1.toNat))).toNat v2) v0.toNat 2).toNat (w32 ((w32 (v1 * 8)) + (h1.2 (h1.2 v0.toNat 0).toNat v1.toNat))).toNat v4) v0.toNat 0) 100 v1 then
                                ev xs d mm_32 62 [some (.inr (.inr v0)), some (.inl v1), some (.inr (.inl v2)), none, some (.inl v4), some (.inl (w32 ((w32 (v1 * 8)) + (h1.2 (h1.2 v0.toNat 0).toNat v1.toNat))))] [] (h1.1, aup (aup (aup h1.2 (h1.2 v0.toNat 1).toNat (w32 ((w32 (v1 * 8)) + (h1.2 (h1.2 v0.toNat 0).toNat v1.toNat))).toNat v2) ((aup h1.2 (h1.2 v0.toNat 1).toNat (w32 ((w32 (v1 * 8)) + (h1.2 (h1.2 v0.toNat 0).toNat v1.toNat))).toNat v2) v0.toNat 2).toNat (w32 ((w32 (v1 * 8)) + (h1.2 (h1.2 v0.toNat 0).toNat v1.toNat))).toNat v4) ((aup (aup h1.2 (h1.2 v0.toNat 1).toNat (w32 ((w32 (v1 * 8)) + (h1.2 (h1.2 v0.toNat 0).toNat v1.toNat))).toNat v2) ((aup h1.2 (h1.2 v0.toNat 1).toNat (w32 ((w32 (v1 * 8)) + (h1.2 (h1.2 v0.toNat 0).toNat v1.toNat))).toNat v2) v0.toNat 2).toNat (w32 ((w32 (v1 * 8)) + (h1.2 (h1.2 v0.toNat 0).toNat v1.toNat))).toNat v4) v0.toNat 0).toNat v1.toNat (w32 (((aup (aup h1.2 (h1.2 v0.toNat 1).toNat (w32 ((w32 (v1 * 8)) + (h1.2 (h1.2 v0.toNat 0).toNat v1.toNat))).toNat v2) ((aup h1.2 (h1.2 v0.toNat 1).toNat (w32 ((w32 (v1 * 8)) + (h1.2 (h1.2 v0.toNat 0).toNat v1.toNat))).toNat v2) v0.toNat 2).toNat (w32 ((w32 (v1 * 8)) + (h1.2 (h1.2 v0.toNat 0).toNat v1.toNat))).toNat v4) ((aup (aup h1.2 (h1.2 v0.toNat 1).toNat (w32 ((w32 (v1 * 8)) + (h1.2 (h1.2 v0.toNat 0).toNat v1.toNat))).toNat v2) ((aup h1.2 (h1.2 v0.toNat 1).toNat (w32 ((w32 (v1 * 8)) + (h1.2 (h1.2 v0.toNat 0).toNat v1.toNat))).toNat v2) v0.toNat 2).toNat (w32 ((w32 (v1 * 8)) + (h1.2 (h1.2 v0.toNat 0).toNat v1.toNat))).toNat v4) v0.toNat 0).toNat v1.toNat) + 1)))
                              else none
                            else none
                          else none
                        else none
                      else none
                    else none
                  else none
                else none
              else none)
        else none
      else none :=
  (aB gP gX xs stp_32 40 d mm_32 0 _ _ h).trans rfl

set_option maxRecDepth 100000 in
set_option maxHeartbeats 4000000 in
theorem q_32_62 (xs : List Int) (d : Nat) (v0 : Int) (v1 : Int) (v2 : Int) (u3 : Option aV) (v4 : Int) (u5 : Option aV) (h : aH) : ev xs d mm_32 62 [some (.inr (.inr v0)), some (.inl v1), some (.inr (.inl v2)), u3, some (.inl v4), u5] [] h =
  some (none, h) :=
  (aB gP gX xs stp_32 2 d mm_32 62 _ _ h).trans rfl

theorem c_32 (xs : List Int) (d : Nat) (v0 : Int) (v1 : Int) (v2 : Int) (v4 : Int) (h : aH) : cl xs (d + 1) 32 [.inr (.inr v0), .inl v1, .inr (.inl v2), .inl v4] h =
  bif decide (v1 < 0) then
    ev xs d mm_32 62 [some (.inr (.inr v0)), some (.inl v1), some (.inr (.inl v2)), none, some (.inl v4), none] [] h
  else
    bif decide (3 ≤ v1) then
      ev xs d mm_32 62 [some (.inr (.inr v0)), some (.inl v1), some (.inr (.inl v2)), none, some (.inl v4), none] [] h
    else
      bif aok h.1 v0 3 then
        bif ain h.1 (h.2 v0.toNat 0) 100 v1 then
          bI (cl xs d 30 [.inl v1] h) (fun x2 h1 =>
            bif decide (x2 ≤ (h.2 (h.2 v0.toNat 0).toNat v1.toNat)) then
              ev xs d mm_32 62 [some (.inr (.inr v0)), some (.inl v1), some (.inr (.inl v2)), none, some (.inl v4), none] [] h1
            else
              bif aok h1.1 v0 3 then
                bif ain h1.1 (h1.2 v0.toNat 0) 100 v1 then
                  bif aok h1.1 v0 3 then
                    bif ain h1.1 (h1.2 v0.toNat 1) 101 (w32 ((w32 (v1 * 8)) + (h1.2 (h1.2 v0.toNat 0).toNat v1.toNat))) then
                      bif aok h1.1 v0 3 then
                        bif ain h1.1 ((aup h1.2 (h1.2 v0.toNat 1).toNat (w32 ((w32 (v1 * 8)) + (h1.2 (h1.2 v0.toNat 0).toNat v1.toNat))).toNat v2) v0.toNat 2) 100 (w32 ((w32 (v1 * 8)) + (h1.2 (h1.2 v0.toNat 0).toNat v1.toNat))) then
                          bif aok h1.1 v0 3 then
                            bif ain h1.1 ((aup (aup h1.2 (h1.2 v0.toNat 1).toNat (w32 ((w32 (v1 * 8)) + (h1.2 (h1.2 v0.toNat 0).toNat v1.toNat))).toNat v2) ((aup h1.2 (h1.2 v0.toNat 1).toNat (w32 ((w32 (v1 * 8)) + (h1.2 (h1.2 v0.toNat 0).toNat v1.toNat))).toNat v2) v0.toNat 2).toNat (w32 ((w32 (v1 * 8)) + (h1.2 (h1.2 v0.toNat 0).toNat v1.toNat))).toNat v4) v0.toNat 0) 100 v1 then
                              bif ain h1.1 ((aup (aup h1.2 (h1.2 v0.toNat 1).toNat (w32 ((w32 (v1 * 8)) + (h1.2 (h1.2 v0.toNat 0).toNat v1.toNat))).toNat v2) ((aup h1.2 (h1.2 v0.toNat 1).toNat (w32 ((w32 (v1 * 8)) + (h1.2 (h1.2 v0.toNat 0).toNat v1.toNat))).toNat v2) v0.toNat 2).toNat (w32 ((w32 (v1 * 8)) + (h1.2 (h1.2 v0.toNat 0).toNat v1.toNat))).toNat v4) v0.toNat 0) 100 v1 then
                                ev xs d mm_32 62 [some (.inr (.inr v0)), some (.inl v1), some (.inr (.inl v2)), none, some (.inl v4), some (.inl (w32 ((w32 (v1 * 8)) + (h1.2 (h1.2 v0.toNat 0).toNat v1.toNat))))] [] (h1.1, aup (aup (aup h1.2 (h1.2 v0.toNat 1).toNat (w32 ((w32 (v1 * 8)) + (h1.2 (h1.2 v0.toNat 0).toNat v1.toNat))).toNat v2) ((aup h1.2 (h1.2 v0.toNat 1).toNat (w32 ((w32 (v1 * 8)) + (h1.2 (h1.2 v0.toNat 0).toNat v1.toNat))).toNat v2) v0.toNat 2).toNat (w32 ((w32 (v1 * 8)) + (h1.2 (h1.2 v0.toNat 0).toNat v1.toNat))).toNat v4) ((aup (aup h1.2 (h1.2 v0.toNat 1).toNat (w32 ((w32 (v1 * 8)) + (h1.2 (h1.2 v0.toNat 0).toNat v1.toNat))).toNat v2) ((aup h1.2 (h1.2 v0.toNat 1).toNat (w32 ((w32 (v1 * 8)) + (h1.2 (h1.2 v0.toNat 0).toNat v1.toNat))).toNat v2) v0.toNat 2).toNat (w32 ((w32 (v1 * 8)) + (h1.2 (h1.2 v0.toNat 0).toNat v1.toNat))).toNat v4) v0.toNat 0).toNat v1.toNat (w32 (((aup (aup h1.2 (h1.2 v0.toNat 1).toNat (w32 ((w32 (v1 * 8)) + (h1.2 (h1.2 v0.toNat 0).toNat v1.toNat))).toNat v2) ((aup h1.2 (h1.2 v0.toNat 1).toNat (w32 ((w32 (v1 * 8)) + (h1.2 (h1.2 v0.toNat 0).toNat v1.toNat))).toNat v2) v0.toNat 2).toNat (w32 ((w32 (v1 * 8)) + (h1.2 (h1.2 v0.toNat 0).toNat v1.toNat))).toNat v4) ((aup (aup h1.2 (h1.2 v0.toNat 1).toNat (w32 ((w32 (v1 * 8)) + (h1.2 (h1.2 v0.toNat 0).toNat v1.toNat))).toNat v2) ((aup h1.2 (h1.2 v0.toNat 1).toNat (w32 ((w32 (v1 * 8)) + (h1.2 (h1.2 v0.toNat 0).toNat v1.toNat))).toNat v2) v0.toNat 2).toNat (w32 ((w32 (v1 * 8)) + (h1.2 (h1.2 v0.toNat 0).toNat v1.toNat))).toNat v4) v0.toNat 0).toNat v1.toNat) + 1)))
                              else none
                            else none
                          else none
                        else none
                      else none
                    else none
                  else none
                else none
              else none)
        else none
      else none :=
  (show _ = ev xs d mm_32 0 [some (.inr (.inr v0)), some (.inl v1), some (.inr (.inl v2)), none, some (.inl v4), none] [] h from rfl).trans (q_32_0 xs d v0 v1 v2 v4 h)
def stp_33 : List Nat := [0, 3]
set_option maxRecDepth 100000 in
set_option maxHeartbeats 4000000 in
theorem q_33_0 (xs : List Int) (d : Nat) (v0 : Int) (v1 : Int) (v2 : Int) (h : aH) : ev xs d mm_33 0 [some (.inr (.inr v0)), some (.inl v1), some (.inr (.inl v2)), none, none] [] h =
  ev xs d mm_33 3 [some (.inr (.inr v0)), some (.inl v1), some (.inr (.inl v2)), none, some (.inl 0)] [] h :=
  (aB gP gX xs stp_33 3 d mm_33 0 _ _ h).trans rfl

set_option maxRecDepth 100000 in
set_option maxHeartbeats 4000000 in
theorem q_33_3 (xs : List Int) (d : Nat) (v0 : Int) (v1 : Int) (v2 : Int) (u3 : Option aV) (v4 : Int) (h : aH) : ev xs d mm_33 3 [some (.inr (.inr v0)), some (.inl v1), some (.inr (.inl v2)), u3, some (.inl v4)] [] h =
  bif aok h.1 v0 3 then
    bif ain h.1 (h.2 v0.toNat 0) 100 v1 then
      bif decide ((h.2 (h.2 v0.toNat 0).toNat v1.toNat) ≤ v4) then
        some (some (.inl (-1)), h)
      else
        bif aok h.1 v0 3 then
          bif ain h.1 (h.2 v0.toNat 1) 101 (w32 ((w32 (v1 * 8)) + v4)) then
            bif decide (¬ (olcmp (h.2 (h.2 v0.toNat 1).toNat (w32 ((w32 (v1 * 8)) + v4)).toNat) v2) = 0) then
              ev xs d mm_33 3 [some (.inr (.inr v0)), some (.inl v1), some (.inr (.inl v2)), acl u3, some (.inl (w32 (v4 + 1)))] [] h
            else
              some (some (.inl (w32 ((w32 (v1 * 8)) + v4))), h)
          else none
        else none
    else none
  else none :=
  (aB gP gX xs stp_33 24 d mm_33 3 _ _ h).trans rfl

theorem c_33 (xs : List Int) (d : Nat) (v0 : Int) (v1 : Int) (v2 : Int) (h : aH) : cl xs (d + 1) 33 [.inr (.inr v0), .inl v1, .inr (.inl v2)] h =
  ev xs d mm_33 3 [some (.inr (.inr v0)), some (.inl v1), some (.inr (.inl v2)), none, some (.inl 0)] [] h :=
  (show _ = ev xs d mm_33 0 [some (.inr (.inr v0)), some (.inl v1), some (.inr (.inl v2)), none, none] [] h from rfl).trans (q_33_0 xs d v0 v1 v2 h)
def stp_34 : List Nat := [0, 2]
set_option maxRecDepth 100000 in
set_option maxHeartbeats 4000000 in
theorem q_34_0 (xs : List Int) (d : Nat) (v0 : Int) (v1 : Int) (h : aH) : ev xs d mm_34 0 [some (.inr (.inr v0)), some (.inr (.inl v1)), none, none, none] [] h =
  ev xs d mm_34 2 [some (.inr (.inr v0)), some (.inr (.inl v1)), none, some (.inl 0), none] [] h :=
  (aB gP gX xs stp_34 3 d mm_34 0 _ _ h).trans rfl

set_option maxRecDepth 100000 in
set_option maxHeartbeats 4000000 in
theorem q_34_2 (xs : List Int) (d : Nat) (v0 : Int) (v1 : Int) (u2 : Option aV) (v3 : Int) (u4 : Option aV) (h : aH) : ev xs d mm_34 2 [some (.inr (.inr v0)), some (.inr (.inl v1)), u2, some (.inl v3), u4] [] h =
  bif decide (3 ≤ v3) then
    some (some (.inl (-1)), h)
  else
    bif aok h.1 v0 3 && true then
      bI (cl xs d 33 [.inr (.inr v0), .inl v3, .inr (.inl v1)] h) (fun x2 h1 =>
      bif decide (x2 = (-1)) then
        ev xs d mm_34 2 [some (.inr (.inr v0)), some (.inr (.inl v1)), acl u2, some (.inl (w32 (v3 + 1))), some (.inl x2)] [] h1
      else
        some (some (.inl x2), h1))
    else none :=
  (aB gP gX xs stp_34 14 d mm_34 2 _ _ h).trans rfl

theorem c_34 (xs : List Int) (d : Nat) (v0 : Int) (v1 : Int) (h : aH) : cl xs (d + 1) 34 [.inr (.inr v0), .inr (.inl v1)] h =
  ev xs d mm_34 2 [some (.inr (.inr v0)), some (.inr (.inl v1)), none, some (.inl 0), none] [] h :=
  (show _ = ev xs d mm_34 0 [some (.inr (.inr v0)), some (.inr (.inl v1)), none, none, none] [] h from rfl).trans (q_34_0 xs d v0 v1 h)
def stp_35 : List Nat := [0]
set_option maxRecDepth 100000 in
set_option maxHeartbeats 4000000 in
theorem q_35_0 (xs : List Int) (d : Nat) (v0 : Int) (h : aH) : ev xs d mm_35 0 [some (.inr (.inr v0))] [] h =
  bif aok h.1 v0 3 then
    bV (cl xs d 318 [.inr (.inr (h.2 v0.toNat 0)), .inl 0] h) (fun h1 =>
      some (none, h1))
  else none :=
  (aB gP gX xs stp_35 6 d mm_35 0 _ _ h).trans rfl

theorem c_35 (xs : List Int) (d : Nat) (v0 : Int) (h : aH) : cl xs (d + 1) 35 [.inr (.inr v0)] h =
  bif aok h.1 v0 3 then
    bV (cl xs d 318 [.inr (.inr (h.2 v0.toNat 0)), .inl 0] h) (fun h1 =>
      some (none, h1))
  else none :=
  (show _ = ev xs d mm_35 0 [some (.inr (.inr v0))] [] h from rfl).trans (q_35_0 xs d v0 h)
def stp_36 : List Nat := [0, 15, 24, 33, 46, 51, 64, 73]
set_option maxRecDepth 100000 in
set_option maxHeartbeats 4000000 in
theorem q_36_0 (xs : List Int) (d : Nat) (v0 : Int) (h : aH) : ev xs d mm_36 0 [some (.inr (.inr v0)), none, none, none, none] [] h =
  bif decide (0 ≤ v0) && true then
    bif aok h.1 v0 4 then
      ev xs d mm_36 15 [some (.inr (.inr v0)), none, none, none, none] [.inr (.inr (h.1.1 : Int)), .inr (.inr v0)] ((h.1.1 + 1, h.1.2.1 + (402 : Int).toNat, fun q => if q = h.1.1 then (100, (402 : Int).toNat) else h.1.2.2 q), fun q j => if q = h.1.1 then 0 else (aup h.2 v0.toNat 0 0) q j)
    else none
  else none :=
  (aB gP gX xs stp_36 9 d mm_36 0 _ _ h).trans rfl

set_option maxRecDepth 100000 in
set_option maxHeartbeats 4000000 in
theorem q_36_15 (xs : List Int) (d : Nat) (v0 : Int) (u1 : Option aV) (u2 : Option aV) (u3 : Option aV) (u4 : Option aV) (s0 : Int) (s1 : Int) (h : aH) : ev xs d mm_36 15 [some (.inr (.inr v0)), u1, u2, u3, u4] [.inr (.inr s1), .inr (.inr s0)] h =
  bif aok h.1 s0 4 then
    ev xs d mm_36 24 [some (.inr (.inr v0)), u1, u2, u3, u4] [.inr (.inr (h.1.1 : Int)), .inr (.inr v0)] ((h.1.1 + 1, h.1.2.1 + (402 : Int).toNat, fun q => if q = h.1.1 then (100, (402 : Int).toNat) else h.1.2.2 q), fun q j => if q = h.1.1 then 0 else (aup h.2 s0.toNat 1 s1) q j)
  else none :=
  (aB gP gX xs stp_36 5 d mm_36 15 _ _ h).trans rfl

set_option maxRecDepth 100000 in
set_option maxHeartbeats 4000000 in
theorem q_36_24 (xs : List Int) (d : Nat) (v0 : Int) (u1 : Option aV) (u2 : Option aV) (u3 : Option aV) (u4 : Option aV) (s0 : Int) (s1 : Int) (h : aH) : ev xs d mm_36 24 [some (.inr (.inr v0)), u1, u2, u3, u4] [.inr (.inr s1), .inr (.inr s0)] h =
  bif aok h.1 s0 4 then
    ev xs d mm_36 33 [some (.inr (.inr v0)), u1, u2, u3, u4] [.inr (.inr (h.1.1 : Int)), .inr (.inr v0)] ((h.1.1 + 1, h.1.2.1 + (402 : Int).toNat, fun q => if q = h.1.1 then (101, (402 : Int).toNat) else h.1.2.2 q), fun q j => if q = h.1.1 then 0 else (aup h.2 s0.toNat 2 s1) q j)
  else none :=
  (aB gP gX xs stp_36 5 d mm_36 24 _ _ h).trans rfl

set_option maxRecDepth 100000 in
set_option maxHeartbeats 4000000 in
theorem q_36_33 (xs : List Int) (d : Nat) (v0 : Int) (u1 : Option aV) (u2 : Option aV) (u3 : Option aV) (u4 : Option aV) (s0 : Int) (s1 : Int) (h : aH) : ev xs d mm_36 33 [some (.inr (.inr v0)), u1, u2, u3, u4] [.inr (.inr s1), .inr (.inr s0)] h =
  bif aok h.1 s0 4 then
    bif aok h.1 v0 4 then
      bif aok h.1 v0 4 then
        ev xs d mm_36 46 [some (.inr (.inr v0)), u1, u2, u3, u4] [] (h.1, aup (aup (aup h.2 s0.toNat 3 s1) v0.toNat 4 0) v0.toNat 5 (-1))
      else none
    else none
  else none :=
  (aB gP gX xs stp_36 8 d mm_36 33 _ _ h).trans rfl

set_option maxRecDepth 100000 in
set_option maxHeartbeats 4000000 in
theorem q_36_46 (xs : List Int) (d : Nat) (v0 : Int) (u1 : Option aV) (u2 : Option aV) (u3 : Option aV) (u4 : Option aV) (h : aH) : ev xs d mm_36 46 [some (.inr (.inr v0)), u1, u2, u3, u4] [] h =
  ev xs d mm_36 51 [some (.inr (.inr v0)), u1, u2, u3, u4] [.inr (.inr (h.1.1 : Int)), .inr (.inr v0)] ((h.1.1 + 1, h.1.2.1 + (24 : Int).toNat, fun q => if q = h.1.1 then (101, (24 : Int).toNat) else h.1.2.2 q), fun q j => if q = h.1.1 then 0 else h.2 q j) :=
  (aB gP gX xs stp_36 4 d mm_36 46 _ _ h).trans rfl

set_option maxRecDepth 100000 in
set_option maxHeartbeats 4000000 in
theorem q_36_51 (xs : List Int) (d : Nat) (v0 : Int) (u1 : Option aV) (u2 : Option aV) (u3 : Option aV) (u4 : Option aV) (s0 : Int) (s1 : Int) (h : aH) : ev xs d mm_36 51 [some (.inr (.inr v0)), u1, u2, u3, u4] [.inr (.inr s1), .inr (.inr s0)] h =
  bif aok h.1 s0 4 then
    bif aok h.1 v0 4 then
      ev xs d mm_36 64 [some (.inr (.inr v0)), u1, u2, u3, u4] [.inr (.inr (h.1.1 : Int)), .inr (.inr v0)] ((h.1.1 + 1, h.1.2.1 + (24 : Int).toNat, fun q => if q = h.1.1 then (100, (24 : Int).toNat) else h.1.2.2 q), fun q j => if q = h.1.1 then 0 else (aup (aup h.2 s0.toNat 6 s1) v0.toNat 7 0) q j)
    else none
  else none :=
  (aB gP gX xs stp_36 8 d mm_36 51 _ _ h).trans rfl

set_option maxRecDepth 100000 in
set_option maxHeartbeats 4000000 in
theorem q_36_64 (xs : List Int) (d : Nat) (v0 : Int) (u1 : Option aV) (u2 : Option aV) (u3 : Option aV) (u4 : Option aV) (s0 : Int) (s1 : Int) (h : aH) : ev xs d mm_36 64 [some (.inr (.inr v0)), u1, u2, u3, u4] [.inr (.inr s1), .inr (.inr s0)] h =
  bif aok h.1 s0 4 then
    ev xs d mm_36 73 [some (.inr (.inr v0)), some (.inl 0), some (.inl 0), some (.inl 0), u4] [] (h.1, aup h.2 s0.toNat 8 s1)
  else none :=
  (aB gP gX xs stp_36 8 d mm_36 64 _ _ h).trans rfl

set_option maxRecDepth 100000 in
set_option maxHeartbeats 4000000 in
theorem q_36_73 (xs : List Int) (d : Nat) (v0 : Int) (v1 : Int) (v2 : Int) (v3 : Int) (u4 : Option aV) (h : aH) : ev xs d mm_36 73 [some (.inr (.inr v0)), some (.inl v1), some (.inl v2), some (.inl v3), u4] [] h =
  bif Nat.ble 8 d && true then
    bif decide ((str0.length : Int) ≤ v3) then
      some (none, h)
    else
      bif decide (24 ≤ v1) then
        some (none, h)
      else
        bif Nat.ble 8 d && true then
          bif decide (0 ≤ v3) && decide (v3.toNat < str0.length) then
          bif decide (¬ (str0.getD v3.toNat 0) = 32) then
            bif aok h.1 v0 4 then
              bif ain h.1 (h.2 v0.toNat 6) 101 v1 then
                bif ain h.1 (h.2 v0.toNat 6) 101 v1 then
                  ev xs d mm_36 73 [some (.inr (.inr v0)), some (.inl v1), some (.inl (w32 (v2 + 5))), some (.inl (w32 (v3 + 1))), some (.inl (str0.getD v3.toNat 0))] [] (h.1, aup h.2 (h.2 v0.toNat 6).toNat v1.toNat (olor (h.2 (h.2 v0.toNat 6).toNat v1.toNat) (olshl (w32 ((w32 ((str0.getD v3.toNat 0) - 97)) + 1)) v2)))
                else none
              else none
            else none
          else
            ev xs d mm_36 73 [some (.inr (.inr v0)), some (.inl (w32 (v1 + 1))), some (.inl 0), some (.inl (w32 (v3 + 1))), some (.inl (str0.getD v3.toNat 0))] [] h
        else none
        else none
  else none :=
  (aB gP gX xs stp_36 33 d mm_36 73 _ _ h).trans rfl

theorem c_36 (xs : List Int) (d : Nat) (v0 : Int) (h : aH) : cl xs (d + 1) 36 [.inr (.inr v0)] h =
  bif decide (0 ≤ v0) && true then
    bif aok h.1 v0 4 then
      ev xs d mm_36 15 [some (.inr (.inr v0)), none, none, none, none] [.inr (.inr (h.1.1 : Int)), .inr (.inr v0)] ((h.1.1 + 1, h.1.2.1 + (402 : Int).toNat, fun q => if q = h.1.1 then (100, (402 : Int).toNat) else h.1.2.2 q), fun q j => if q = h.1.1 then 0 else (aup h.2 v0.toNat 0 0) q j)
    else none
  else none :=
  (show _ = ev xs d mm_36 0 [some (.inr (.inr v0)), none, none, none, none] [] h from rfl).trans (q_36_0 xs d v0 h)
def stp_37 : List Nat := [0]
set_option maxRecDepth 100000 in
set_option maxHeartbeats 4000000 in
theorem q_37_0 (xs : List Int) (d : Nat) (v0 : Int) (v1 : Int) (h : aH) : ev xs d mm_37 0 [some (.inr (.inr v0)), some (.inl v1)] [] h =
  bif decide (v1 < 0) then
    some (some (.inl 0), h)
  else
    bif aok h.1 v0 4 then
      bif decide ((h.2 v0.toNat 0) ≤ v1) then
        some (some (.inl 0), h)
      else
        bif aok h.1 v0 4 then
          bif ain h.1 (h.2 v0.toNat 1) 100 v1 then
            some (some (.inl (h.2 (h.2 v0.toNat 1).toNat v1.toNat)), h)
          else none
        else none
    else none :=
  (aB gP gX xs stp_37 13 d mm_37 0 _ _ h).trans rfl

theorem c_37 (xs : List Int) (d : Nat) (v0 : Int) (v1 : Int) (h : aH) : cl xs (d + 1) 37 [.inr (.inr v0), .inl v1] h =
  bif decide (v1 < 0) then
    some (some (.inl 0), h)
  else
    bif aok h.1 v0 4 then
      bif decide ((h.2 v0.toNat 0) ≤ v1) then
        some (some (.inl 0), h)
      else
        bif aok h.1 v0 4 then
          bif ain h.1 (h.2 v0.toNat 1) 100 v1 then
            some (some (.inl (h.2 (h.2 v0.toNat 1).toNat v1.toNat)), h)
          else none
        else none
    else none :=
  (show _ = ev xs d mm_37 0 [some (.inr (.inr v0)), some (.inl v1)] [] h from rfl).trans (q_37_0 xs d v0 v1 h)
def stp_38 : List Nat := [0]
set_option maxRecDepth 100000 in
set_option maxHeartbeats 4000000 in
theorem q_38_0 (xs : List Int) (d : Nat) (v0 : Int) (v1 : Int) (h : aH) : ev xs d mm_38 0 [some (.inr (.inr v0)), some (.inl v1)] [] h =
  bif decide (v1 < 0) then
    some (some (.inr (.inl 0)), h)
  else
    bif aok h.1 v0 4 then
      bif decide ((h.2 v0.toNat 0) ≤ v1) then
        some (some (.inr (.inl 0)), h)
      else
        bif aok h.1 v0 4 then
          bif ain h.1 (h.2 v0.toNat 3) 101 v1 then
            some (some (.inr (.inl (h.2 (h.2 v0.toNat 3).toNat v1.toNat))), h)
          else none
        else none
    else none :=
  (aB gP gX xs stp_38 13 d mm_38 0 _ _ h).trans rfl

theorem c_38 (xs : List Int) (d : Nat) (v0 : Int) (v1 : Int) (h : aH) : cl xs (d + 1) 38 [.inr (.inr v0), .inl v1] h =
  bif decide (v1 < 0) then
    some (some (.inr (.inl 0)), h)
  else
    bif aok h.1 v0 4 then
      bif decide ((h.2 v0.toNat 0) ≤ v1) then
        some (some (.inr (.inl 0)), h)
      else
        bif aok h.1 v0 4 then
          bif ain h.1 (h.2 v0.toNat 3) 101 v1 then
            some (some (.inr (.inl (h.2 (h.2 v0.toNat 3).toNat v1.toNat))), h)
          else none
        else none
    else none :=
  (show _ = ev xs d mm_38 0 [some (.inr (.inr v0)), some (.inl v1)] [] h from rfl).trans (q_38_0 xs d v0 v1 h)
def stp_39 : List Nat := [0]
set_option maxRecDepth 100000 in
set_option maxHeartbeats 4000000 in
theorem q_39_0 (xs : List Int) (d : Nat) (v0 : Int) (v1 : Int) (h : aH) : ev xs d mm_39 0 [some (.inr (.inr v0)), some (.inl v1)] [] h =
  bif decide (v1 < 0) then
    some (some (.inl 0), h)
  else
    bif aok h.1 v0 4 then
      bif decide ((h.2 v0.toNat 0) ≤ v1) then
        some (some (.inl 0), h)
      else
        bif aok h.1 v0 4 then
          bif ain h.1 (h.2 v0.toNat 2) 100 v1 then
            some (some (.inl (h.2 (h.2 v0.toNat 2).toNat v1.toNat)), h)
          else none
        else none
    else none :=
  (aB gP gX xs stp_39 13 d mm_39 0 _ _ h).trans rfl

theorem c_39 (xs : List Int) (d : Nat) (v0 : Int) (v1 : Int) (h : aH) : cl xs (d + 1) 39 [.inr (.inr v0), .inl v1] h =
  bif decide (v1 < 0) then
    some (some (.inl 0), h)
  else
    bif aok h.1 v0 4 then
      bif decide ((h.2 v0.toNat 0) ≤ v1) then
        some (some (.inl 0), h)
      else
        bif aok h.1 v0 4 then
          bif ain h.1 (h.2 v0.toNat 2) 100 v1 then
            some (some (.inl (h.2 (h.2 v0.toNat 2).toNat v1.toNat)), h)
          else none
        else none
    else none :=
  (show _ = ev xs d mm_39 0 [some (.inr (.inr v0)), some (.inl v1)] [] h from rfl).trans (q_39_0 xs d v0 v1 h)
def stp_40 : List Nat := [0, 10, 47]
set_option maxRecDepth 100000 in
set_option maxHeartbeats 4000000 in
theorem q_40_0 (xs : List Int) (d : Nat) (v0 : Int) (v1 : Int) (v2 : Int) (h : aH) : ev xs d mm_40 0 [some (.inr (.inr v0)), some (.inr (.inr v1)), some (.inl v2), none, none] [] h =
  bif aok h.1 v0 4 then
    ev xs d mm_40 10 [some (.inr (.inr v0)), some (.inr (.inr v1)), some (.inl v2), some (.inl 0), some (.inl 0)] [] (h.1, aup h.2 v0.toNat 0 0)
  else none :=
  (aB gP gX xs stp_40 8 d mm_40 0 _ _ h).trans rfl

set_option maxRecDepth 100000 in
set_option maxHeartbeats 4000000 in
theorem q_40_10 (xs : List Int) (d : Nat) (v0 : Int) (v1 : Int) (v2 : Int) (v3 : Int) (v4 : Int) (h : aH) : ev xs d mm_40 10 [some (.inr (.inr v0)), some (.inr (.inr v1)), some (.inl v2), some (.inl v3), some (.inl v4)] [] h =
  bif decide (400 < v4) then
    ev xs d mm_40 47 [some (.inr (.inr v0)), some (.inr (.inr v1)), some (.inl v2), some (.inl v3), some (.inl v4)] [] h
  else
    bI (cl xs d 42 [.inr (.inr v1), .inl v2, .inl v3] h) (fun x2 h1 =>
      bif decide (x2 < v2) then
        bif aok h1.1 v0 4 && true then
          bI (cl xs d 43 [.inr (.inr v0), .inr (.inr v1), .inl v2, .inl x2] h1) (fun x4 h3 =>
          ev xs d mm_40 10 [some (.inr (.inr v0)), some (.inr (.inr v1)), some (.inl v2), some (.inl x4), some (.inl (w32 (v4 + 1)))] [] h3)
        else none
      else
        ev xs d mm_40 47 [some (.inr (.inr v0)), some (.inr (.inr v1)), some (.inl v2), some (.inl x2), some (.inl v4)] [] h1) :=
  (aB gP gX xs stp_40 20 d mm_40 10 _ _ h).trans rfl

set_option maxRecDepth 100000 in
set_option maxHeartbeats 4000000 in
theorem q_40_47 (xs : List Int) (d : Nat) (v0 : Int) (v1 : Int) (v2 : Int) (v3 : Int) (v4 : Int) (h : aH) : ev xs d mm_40 47 [some (.inr (.inr v0)), some (.inr (.inr v1)), some (.inl v2), some (.inl v3), some (.inl v4)] [] h =
  bif aok h.1 v0 4 && true then
    bV (cl xs d 41 [.inr (.inr v0), .inl 0, .inl v2, .inr (.inl 0)] h) (fun h1 =>
    some (none, h1))
  else none :=
  (aB gP gX xs stp_40 7 d mm_40 47 _ _ h).trans rfl

theorem c_40 (xs : List Int) (d : Nat) (v0 : Int) (v1 : Int) (v2 : Int) (h : aH) : cl xs (d + 1) 40 [.inr (.inr v0), .inr (.inr v1), .inl v2] h =
  bif aok h.1 v0 4 then
    ev xs d mm_40 10 [some (.inr (.inr v0)), some (.inr (.inr v1)), some (.inl v2), some (.inl 0), some (.inl 0)] [] (h.1, aup h.2 v0.toNat 0 0)
  else none :=
  (show _ = ev xs d mm_40 0 [some (.inr (.inr v0)), some (.inr (.inr v1)), some (.inl v2), none, none] [] h from rfl).trans (q_40_0 xs d v0 v1 v2 h)
def stp_41 : List Nat := [0, 42]
set_option maxRecDepth 100000 in
set_option maxHeartbeats 4000000 in
theorem q_41_0 (xs : List Int) (d : Nat) (v0 : Int) (v1 : Int) (v2 : Int) (v3 : Int) (h : aH) : ev xs d mm_41 0 [some (.inr (.inr v0)), some (.inl v1), some (.inl v2), some (.inr (.inl v3)), none] [] h =
  bif aok h.1 v0 4 then
    bif aok h.1 v0 4 then
      bif aoa h.1 (h.2 v0.toNat 1) then
        bif decide ((aln h.1 (h.2 v0.toNat 1) : Int) ≤ (h.2 v0.toNat 0)) then
          some (none, h)
        else
          bif aok h.1 v0 4 then
            bif aok h.1 v0 4 then
              bif ain h.1 (h.2 v0.toNat 1) 100 (h.2 v0.toNat 0) then
                bif aok h.1 v0 4 then
                  bif aok h.1 v0 4 then
                    bif ain h.1 ((aup h.2 (h.2 v0.toNat 1).toNat (h.2 v0.toNat 0).toNat v1) v0.toNat 2) 100 ((aup h.2 (h.2 v0.toNat 1).toNat (h.2 v0.toNat 0).toNat v1) v0.toNat 0) then
                      bif aok h.1 v0 4 then
                        bif aok h.1 v0 4 then
                          bif ain h.1 ((aup (aup h.2 (h.2 v0.toNat 1).toNat (h.2 v0.toNat 0).toNat v1) ((aup h.2 (h.2 v0.toNat 1).toNat (h.2 v0.toNat 0).toNat v1) v0.toNat 2).toNat ((aup h.2 (h.2 v0.toNat 1).toNat (h.2 v0.toNat 0).toNat v1) v0.toNat 0).toNat v2) v0.toNat 3) 101 ((aup (aup h.2 (h.2 v0.toNat 1).toNat (h.2 v0.toNat 0).toNat v1) ((aup h.2 (h.2 v0.toNat 1).toNat (h.2 v0.toNat 0).toNat v1) v0.toNat 2).toNat ((aup h.2 (h.2 v0.toNat 1).toNat (h.2 v0.toNat 0).toNat v1) v0.toNat 0).toNat v2) v0.toNat 0) then
                            ev xs d mm_41 42 [some (.inr (.inr v0)), some (.inl v1), some (.inl v2), some (.inr (.inl v3)), none] [] (h.1, aup (aup (aup h.2 (h.2 v0.toNat 1).toNat (h.2 v0.toNat 0).toNat v1) ((aup h.2 (h.2 v0.toNat 1).toNat (h.2 v0.toNat 0).toNat v1) v0.toNat 2).toNat ((aup h.2 (h.2 v0.toNat 1).toNat (h.2 v0.toNat 0).toNat v1) v0.toNat 0).toNat v2) ((aup (aup h.2 (h.2 v0.toNat 1).toNat (h.2 v0.toNat 0).toNat v1) ((aup h.2 (h.2 v0.toNat 1).toNat (h.2 v0.toNat 0).toNat v1) v0.toNat 2).toNat ((aup h.2 (h.2 v0.toNat 1).toNat (h.2 v0.toNat 0).toNat v1) v0.toNat 0).toNat v2) v0.toNat 3).toNat ((aup (aup h.2 (h.2 v0.toNat 1).toNat (h.2 v0.toNat 0).toNat v1) ((aup h.2 (h.2 v0.toNat 1).toNat (h.2 v0.toNat 0).toNat v1) v0.toNat 2).toNat ((aup h.2 (h.2 v0.toNat 1).toNat (h.2 v0.toNat 0).toNat v1) v0.toNat 0).toNat v2) v0.toNat 0).toNat v3)
                          else none
                        else none
                      else none
                    else none
                  else none
                else none
              else none
            else none
          else none
      else none
    else none
  else none :=
  (aB gP gX xs stp_41 25 d mm_41 0 _ _ h).trans rfl

set_option maxRecDepth 100000 in
set_option maxHeartbeats 4000000 in
theorem q_41_42 (xs : List Int) (d : Nat) (v0 : Int) (v1 : Int) (v2 : Int) (v3 : Int) (u4 : Option aV) (h : aH) : ev xs d mm_41 42 [some (.inr (.inr v0)), some (.inl v1), some (.inl v2), some (.inr (.inl v3)), u4] [] h =
  bif aok h.1 v0 4 then
    bif aok h.1 v0 4 then
      some (none, (h.1, aup h.2 v0.toNat 0 (w32 ((h.2 v0.toNat 0) + 1))))
    else none
  else none :=
  (aB gP gX xs stp_41 8 d mm_41 42 _ _ h).trans rfl

theorem c_41 (xs : List Int) (d : Nat) (v0 : Int) (v1 : Int) (v2 : Int) (v3 : Int) (h : aH) : cl xs (d + 1) 41 [.inr (.inr v0), .inl v1, .inl v2, .inr (.inl v3)] h =
  bif aok h.1 v0 4 then
    bif aok h.1 v0 4 then
      bif aoa h.1 (h.2 v0.toNat 1) then
        bif decide ((aln h.1 (h.2 v0.toNat 1) : Int) ≤ (h.2 v0.toNat 0)) then
          some (none, h)
        else
          bif aok h.1 v0 4 then
            bif aok h.1 v0 4 then
              bif ain h.1 (h.2 v0.toNat 1) 100 (h.2 v0.toNat 0) then
                bif aok h.1 v0 4 then
                  bif aok h.1 v0 4 then
                    bif ain h.1 ((aup h.2 (h.2 v0.toNat 1).toNat (h.2 v0.toNat 0).toNat v1) v0.toNat 2) 100 ((aup h.2 (h.2 v0.toNat 1).toNat (h.2 v0.toNat 0).toNat v1) v0.toNat 0) then
                      bif aok h.1 v0 4 then
                        bif aok h.1 v0 4 then
                          bif ain h.1 ((aup (aup h.2 (h.2 v0.toNat 1).toNat (h.2 v0.toNat 0).toNat v1) ((aup h.2 (h.2 v0.toNat 1).toNat (h.2 v0.toNat 0).toNat v1) v0.toNat 2).toNat ((aup h.2 (h.2 v0.toNat 1).toNat (h.2 v0.toNat 0).toNat v1) v0.toNat 0).toNat v2) v0.toNat 3) 101 ((aup (aup h.2 (h.2 v0.toNat 1).toNat (h.2 v0.toNat 0).toNat v1) ((aup h.2 (h.2 v0.toNat 1).toNat (h.2 v0.toNat 0).toNat v1) v0.toNat 2).toNat ((aup h.2 (h.2 v0.toNat 1).toNat (h.2 v0.toNat 0).toNat v1) v0.toNat 0).toNat v2) v0.toNat 0) then
                            ev xs d mm_41 42 [some (.inr (.inr v0)), some (.inl v1), some (.inl v2), some (.inr (.inl v3)), none] [] (h.1, aup (aup (aup h.2 (h.2 v0.toNat 1).toNat (h.2 v0.toNat 0).toNat v1) ((aup h.2 (h.2 v0.toNat 1).toNat (h.2 v0.toNat 0).toNat v1) v0.toNat 2).toNat ((aup h.2 (h.2 v0.toNat 1).toNat (h.2 v0.toNat 0).toNat v1) v0.toNat 0).toNat v2) ((aup (aup h.2 (h.2 v0.toNat 1).toNat (h.2 v0.toNat 0).toNat v1) ((aup h.2 (h.2 v0.toNat 1).toNat (h.2 v0.toNat 0).toNat v1) v0.toNat 2).toNat ((aup h.2 (h.2 v0.toNat 1).toNat (h.2 v0.toNat 0).toNat v1) v0.toNat 0).toNat v2) v0.toNat 3).toNat ((aup (aup h.2 (h.2 v0.toNat 1).toNat (h.2 v0.toNat 0).toNat v1) ((aup h.2 (h.2 v0.toNat 1).toNat (h.2 v0.toNat 0).toNat v1) v0.toNat 2).toNat ((aup h.2 (h.2 v0.toNat 1).toNat (h.2 v0.toNat 0).toNat v1) v0.toNat 0).toNat v2) v0.toNat 0).toNat v3)
                          else none
                        else none
                      else none
                    else none
                  else none
                else none
              else none
            else none
          else none
      else none
    else none
  else none :=
  (show _ = ev xs d mm_41 0 [some (.inr (.inr v0)), some (.inl v1), some (.inl v2), some (.inr (.inl v3)), none] [] h from rfl).trans (q_41_0 xs d v0 v1 v2 v3 h)
def stp_42 : List Nat := [0, 2]
set_option maxRecDepth 100000 in
set_option maxHeartbeats 4000000 in
theorem q_42_0 (xs : List Int) (d : Nat) (v0 : Int) (v1 : Int) (v2 : Int) (h : aH) : ev xs d mm_42 0 [some (.inr (.inr v0)), some (.inl v1), some (.inl v2), none] [] h =
  ev xs d mm_42 2 [some (.inr (.inr v0)), some (.inl v1), some (.inl v2), some (.inl v2)] [] h :=
  (aB gP gX xs stp_42 3 d mm_42 0 _ _ h).trans rfl

set_option maxRecDepth 100000 in
set_option maxHeartbeats 4000000 in
theorem q_42_2 (xs : List Int) (d : Nat) (v0 : Int) (v1 : Int) (v2 : Int) (v3 : Int) (h : aH) : ev xs d mm_42 2 [some (.inr (.inr v0)), some (.inl v1), some (.inl v2), some (.inl v3)] [] h =
  bif decide (v1 ≤ v3) then
    some (some (.inl v3), h)
  else
    bif ain h.1 v0 102 v3 then
      bif decide ((h.2 v0.toNat v3.toNat) = 9) then
        ev xs d mm_42 2 [some (.inr (.inr v0)), some (.inl v1), some (.inl v2), some (.inl (w32 (v3 + 1)))] [] h
      else
        bif ain h.1 v0 102 v3 then
          bif decide ((h.2 v0.toNat v3.toNat) = 10) then
            ev xs d mm_42 2 [some (.inr (.inr v0)), some (.inl v1), some (.inl v2), some (.inl (w32 (v3 + 1)))] [] h
          else
            bif ain h.1 v0 102 v3 then
              bif decide ((h.2 v0.toNat v3.toNat) = 13) then
                ev xs d mm_42 2 [some (.inr (.inr v0)), some (.inl v1), some (.inl v2), some (.inl (w32 (v3 + 1)))] [] h
              else
                bif ain h.1 v0 102 v3 then
                  bif decide (¬ (h.2 v0.toNat v3.toNat) = 32) then
                    some (some (.inl v3), h)
                  else
                    ev xs d mm_42 2 [some (.inr (.inr v0)), some (.inl v1), some (.inl v2), some (.inl (w32 (v3 + 1)))] [] h
                else none
            else none
        else none
    else none :=
  (aB gP gX xs stp_42 26 d mm_42 2 _ _ h).trans rfl

theorem c_42 (xs : List Int) (d : Nat) (v0 : Int) (v1 : Int) (v2 : Int) (h : aH) : cl xs (d + 1) 42 [.inr (.inr v0), .inl v1, .inl v2] h =
  ev xs d mm_42 2 [some (.inr (.inr v0)), some (.inl v1), some (.inl v2), some (.inl v2)] [] h :=
  (show _ = ev xs d mm_42 0 [some (.inr (.inr v0)), some (.inl v1), some (.inl v2), none] [] h from rfl).trans (q_42_0 xs d v0 v1 v2 h)
def stp_43 : List Nat := [0, 72]
set_option maxRecDepth 100000 in
set_option maxHeartbeats 4000000 in
theorem q_43_0 (xs : List Int) (d : Nat) (v0 : Int) (v1 : Int) (v2 : Int) (v3 : Int) (h : aH) : ev xs d mm_43 0 [some (.inr (.inr v0)), some (.inr (.inr v1)), some (.inl v2), some (.inl v3), none] [] h =
  bif ain h.1 v1 102 v3 then
    bI (cl xs d 44 [.inl (h.2 v1.toNat v3.toNat)] h) (fun x2 h1 =>
      bif decide (x2 = 0) then
        bif ain h1.1 v1 102 v3 then
          bI (cl xs d 45 [.inl (h1.2 v1.toNat v3.toNat)] h1) (fun x4 h3 =>
            bif decide (x4 = 0) then
              bif ain h3.1 v1 102 v3 then
                bif decide ((h3.2 v1.toNat v3.toNat) ≤ 0) then
                  bif decide (0 = 0) then
                    ev xs d mm_43 72 [some (.inr (.inr v0)), some (.inr (.inr v1)), some (.inl v2), some (.inl v3), some (.inl 0)] [.inl 1, .inr (.inr v0)] h3
                  else
                    bif ain h3.1 v1 102 v3 then
                      ev xs d mm_43 72 [some (.inr (.inr v0)), some (.inr (.inr v1)), some (.inl v2), some (.inl v3), some (.inl 0)] [.inl (h3.2 v1.toNat v3.toNat), .inr (.inr v0)] h3
                    else none
                else
                  bif ain h3.1 v1 102 v3 then
                    bif Nat.ble 8 d && true then
                      bif decide ((aidx str1 (oi2c (h3.2 v1.toNat v3.toNat)) 0) < 0) then
                        bif decide (0 = 0) then
                          ev xs d mm_43 72 [some (.inr (.inr v0)), some (.inr (.inr v1)), some (.inl v2), some (.inl v3), some (.inl 0)] [.inl 1, .inr (.inr v0)] h3
                        else
                          bif ain h3.1 v1 102 v3 then
                            ev xs d mm_43 72 [some (.inr (.inr v0)), some (.inr (.inr v1)), some (.inl v2), some (.inl v3), some (.inl 0)] [.inl (h3.2 v1.toNat v3.toNat), .inr (.inr v0)] h3
                          else none
                      else
                        bif decide (1 = 0) then
                          ev xs d mm_43 72 [some (.inr (.inr v0)), some (.inr (.inr v1)), some (.inl v2), some (.inl v3), some (.inl 1)] [.inl 1, .inr (.inr v0)] h3
                        else
                          bif ain h3.1 v1 102 v3 then
                            ev xs d mm_43 72 [some (.inr (.inr v0)), some (.inr (.inr v1)), some (.inl v2), some (.inl v3), some (.inl 1)] [.inl (h3.2 v1.toNat v3.toNat), .inr (.inr v0)] h3
                          else none
                    else none
                  else none
              else none
            else
              bif aok h3.1 v0 4 && true then
                bI (cl xs d 48 [.inr (.inr v0), .inr (.inr v1), .inl v2, .inl v3] h3) (fun x6 h5 =>
                some (some (.inl x6), h5))
              else none)
        else none
      else
        bif aok h1.1 v0 4 && true then
          bI (cl xs d 46 [.inr (.inr v0), .inr (.inr v1), .inl v2, .inl v3] h1) (fun x8 h7 =>
          some (some (.inl x8), h7))
        else none)
  else none :=
  (aB gP gX xs stp_43 32 d mm_43 0 _ _ h).trans rfl

set_option maxRecDepth 100000 in
set_option maxHeartbeats 4000000 in
theorem q_43_72 (xs : List Int) (d : Nat) (v0 : Int) (v1 : Int) (v2 : Int) (v3 : Int) (v4 : Int) (s0 : Int) (s1 : Int) (h : aH) : ev xs d mm_43 72 [some (.inr (.inr v0)), some (.inr (.inr v1)), some (.inl v2), some (.inl v3), some (.inl v4)] [.inl s1, .inr (.inr s0)] h =
  bif aok h.1 s0 4 && true then
    bV (cl xs d 41 [.inr (.inr s0), .inl s1, .inl v3, .inr (.inl 0)] h) (fun h1 =>
    some (some (.inl (w32 (v3 + 1))), h1))
  else none :=
  (aB gP gX xs stp_43 8 d mm_43 72 _ _ h).trans rfl

theorem c_43 (xs : List Int) (d : Nat) (v0 : Int) (v1 : Int) (v2 : Int) (v3 : Int) (h : aH) : cl xs (d + 1) 43 [.inr (.inr v0), .inr (.inr v1), .inl v2, .inl v3] h =
  bif ain h.1 v1 102 v3 then
    bI (cl xs d 44 [.inl (h.2 v1.toNat v3.toNat)] h) (fun x2 h1 =>
      bif decide (x2 = 0) then
        bif ain h1.1 v1 102 v3 then
          bI (cl xs d 45 [.inl (h1.2 v1.toNat v3.toNat)] h1) (fun x4 h3 =>
            bif decide (x4 = 0) then
              bif ain h3.1 v1 102 v3 then
                bif decide ((h3.2 v1.toNat v3.toNat) ≤ 0) then
                  bif decide (0 = 0) then
                    ev xs d mm_43 72 [some (.inr (.inr v0)), some (.inr (.inr v1)), some (.inl v2), some (.inl v3), some (.inl 0)] [.inl 1, .inr (.inr v0)] h3
                  else
                    bif ain h3.1 v1 102 v3 then
                      ev xs d mm_43 72 [some (.inr (.inr v0)), some (.inr (.inr v1)), some (.inl v2), some (.inl v3), some (.inl 0)] [.inl (h3.2 v1.toNat v3.toNat), .inr (.inr v0)] h3
                    else none
                else
                  bif ain h3.1 v1 102 v3 then
                    bif Nat.ble 8 d && true then
                      bif decide ((aidx str1 (oi2c (h3.2 v1.toNat v3.toNat)) 0) < 0) then
                        bif decide (0 = 0) then
                          ev xs d mm_43 72 [some (.inr (.inr v0)), some (.inr (.inr v1)), some (.inl v2), some (.inl v3), some (.inl 0)] [.inl 1, .inr (.inr v0)] h3
                        else
                          bif ain h3.1 v1 102 v3 then
                            ev xs d mm_43 72 [some (.inr (.inr v0)), some (.inr (.inr v1)), some (.inl v2), some (.inl v3), some (.inl 0)] [.inl (h3.2 v1.toNat v3.toNat), .inr (.inr v0)] h3
                          else none
                      else
                        bif decide (1 = 0) then
                          ev xs d mm_43 72 [some (.inr (.inr v0)), some (.inr (.inr v1)), some (.inl v2), some (.inl v3), some (.inl 1)] [.inl 1, .inr (.inr v0)] h3
                        else
                          bif ain h3.1 v1 102 v3 then
                            ev xs d mm_43 72 [some (.inr (.inr v0)), some (.inr (.inr v1)), some (.inl v2), some (.inl v3), some (.inl 1)] [.inl (h3.2 v1.toNat v3.toNat), .inr (.inr v0)] h3
                          else none
                    else none
                  else none
              else none
            else
              bif aok h3.1 v0 4 && true then
                bI (cl xs d 48 [.inr (.inr v0), .inr (.inr v1), .inl v2, .inl v3] h3) (fun x6 h5 =>
                some (some (.inl x6), h5))
              else none)
        else none
      else
        bif aok h1.1 v0 4 && true then
          bI (cl xs d 46 [.inr (.inr v0), .inr (.inr v1), .inl v2, .inl v3] h1) (fun x8 h7 =>
          some (some (.inl x8), h7))
        else none)
  else none :=
  (show _ = ev xs d mm_43 0 [some (.inr (.inr v0)), some (.inr (.inr v1)), some (.inl v2), some (.inl v3), none] [] h from rfl).trans (q_43_0 xs d v0 v1 v2 v3 h)
def stp_44 : List Nat := [0]
set_option maxRecDepth 100000 in
set_option maxHeartbeats 4000000 in
theorem q_44_0 (xs : List Int) (d : Nat) (v0 : Int) (h : aH) : ev xs d mm_44 0 [some (.inl v0)] [] h =
  bif decide (v0 < 97) then
    some (some (.inl 0), h)
  else
    bif decide (122 < v0) then
      some (some (.inl 0), h)
    else
      some (some (.inl 1), h) :=
  (aB gP gX xs stp_44 10 d mm_44 0 _ _ h).trans rfl

theorem c_44 (xs : List Int) (d : Nat) (v0 : Int) (h : aH) : cl xs (d + 1) 44 [.inl v0] h =
  bif decide (v0 < 97) then
    some (some (.inl 0), h)
  else
    bif decide (122 < v0) then
      some (some (.inl 0), h)
    else
      some (some (.inl 1), h) :=
  (show _ = ev xs d mm_44 0 [some (.inl v0)] [] h from rfl).trans (q_44_0 xs d v0 h)
def stp_45 : List Nat := [0]
set_option maxRecDepth 100000 in
set_option maxHeartbeats 4000000 in
theorem q_45_0 (xs : List Int) (d : Nat) (v0 : Int) (h : aH) : ev xs d mm_45 0 [some (.inl v0)] [] h =
  bif decide (v0 < 48) then
    some (some (.inl 0), h)
  else
    bif decide (57 < v0) then
      some (some (.inl 0), h)
    else
      some (some (.inl 1), h) :=
  (aB gP gX xs stp_45 10 d mm_45 0 _ _ h).trans rfl

theorem c_45 (xs : List Int) (d : Nat) (v0 : Int) (h : aH) : cl xs (d + 1) 45 [.inl v0] h =
  bif decide (v0 < 48) then
    some (some (.inl 0), h)
  else
    bif decide (57 < v0) then
      some (some (.inl 0), h)
    else
      some (some (.inl 1), h) :=
  (show _ = ev xs d mm_45 0 [some (.inl v0)] [] h from rfl).trans (q_45_0 xs d v0 h)
def stp_46 : List Nat := [0, 6, 59, 79]
set_option maxRecDepth 100000 in
set_option maxHeartbeats 4000000 in
theorem q_46_0 (xs : List Int) (d : Nat) (v0 : Int) (v1 : Int) (v2 : Int) (v3 : Int) (h : aH) : ev xs d mm_46 0 [some (.inr (.inr v0)), some (.inr (.inr v1)), some (.inl v2), some (.inl v3), none, none, none] [] h =
  ev xs d mm_46 6 [some (.inr (.inr v0)), some (.inr (.inr v1)), some (.inl v2), some (.inl v3), some (.inr (.inl 0)), none, some (.inl v3)] [] h :=
  (aB gP gX xs stp_46 5 d mm_46 0 _ _ h).trans rfl

set_option maxRecDepth 100000 in
set_option maxHeartbeats 4000000 in
theorem q_46_6 (xs : List Int) (d : Nat) (v0 : Int) (v1 : Int) (v2 : Int) (v3 : Int) (v4 : Int) (u5 : Option aV) (v6 : Int) (h : aH) : ev xs d mm_46 6 [some (.inr (.inr v0)), some (.inr (.inr v1)), some (.inl v2), some (.inl v3), some (.inr (.inl v4)), u5, some (.inl v6)] [] h =
  bif decide (v2 ≤ v6) then
    ev xs d mm_46 59 [some (.inr (.inr v0)), some (.inr (.inr v1)), some (.inl v2), some (.inl v3), some (.inr (.inl v4)), u5, some (.inl v6)] [] h
  else
    bif ain h.1 v1 102 v6 then
      bI (cl xs d 44 [.inl (h.2 v1.toNat v6.toNat)] h) (fun x2 h1 =>
        bif decide (x2 = 0) then
          ev xs d mm_46 59 [some (.inr (.inr v0)), some (.inr (.inr v1)), some (.inl v2), some (.inl v3), some (.inr (.inl v4)), u5, some (.inl v6)] [] h1
        else
          bif decide (8 ≤ (w32 (v6 - v3))) then
            ev xs d mm_46 6 [some (.inr (.inr v0)), some (.inr (.inr v1)), some (.inl v2), some (.inl v3), some (.inr (.inl v4)), acl u5, some (.inl (w32 (v6 + 1)))] [] h1
          else
            bif ain h1.1 v1 102 v6 then
              ev xs d mm_46 6 [some (.inr (.inr v0)), some (.inr (.inr v1)), some (.inl v2), some (.inl v3), some (.inr (.inl (olor v4 (olshl (w32 ((w32 ((h1.2 v1.toNat v6.toNat) - 97)) + 1)) (w32 (5 * (w32 (v6 - v3)))))))), none, some (.inl (w32 (v6 + 1)))] [] h1
            else none)
    else none :=
  (aB gP gX xs stp_46 33 d mm_46 6 _ _ h).trans rfl

set_option maxRecDepth 100000 in
set_option maxHeartbeats 4000000 in
theorem q_46_59 (xs : List Int) (d : Nat) (v0 : Int) (v1 : Int) (v2 : Int) (v3 : Int) (v4 : Int) (u5 : Option aV) (v6 : Int) (h : aH) : ev xs d mm_46 59 [some (.inr (.inr v0)), some (.inr (.inr v1)), some (.inl v2), some (.inl v3), some (.inr (.inl v4)), u5, some (.inl v6)] [] h =
  bif decide ((w32 (v6 - v3)) ≤ 8) then
    bif aok h.1 v0 4 && true then
      bI (cl xs d 47 [.inr (.inr v0), .inr (.inl v4)] h) (fun x2 h1 =>
      ev xs d mm_46 79 [some (.inr (.inr v0)), some (.inr (.inr v1)), some (.inl v2), some (.inl v3), some (.inr (.inl v4)), u5, some (.inl v6)] [.inl x2, .inr (.inr v0)] h1)
    else none
  else
    ev xs d mm_46 79 [some (.inr (.inr v0)), some (.inr (.inr v1)), some (.inl v2), some (.inl v3), some (.inr (.inl v4)), u5, some (.inl v6)] [.inl 1, .inr (.inr v0)] h :=
  (aB gP gX xs stp_46 10 d mm_46 59 _ _ h).trans rfl

set_option maxRecDepth 100000 in
set_option maxHeartbeats 4000000 in
theorem q_46_79 (xs : List Int) (d : Nat) (v0 : Int) (v1 : Int) (v2 : Int) (v3 : Int) (v4 : Int) (u5 : Option aV) (v6 : Int) (s0 : Int) (s1 : Int) (h : aH) : ev xs d mm_46 79 [some (.inr (.inr v0)), some (.inr (.inr v1)), some (.inl v2), some (.inl v3), some (.inr (.inl v4)), u5, some (.inl v6)] [.inl s1, .inr (.inr s0)] h =
  bif aok h.1 s0 4 && true then
    bV (cl xs d 41 [.inr (.inr s0), .inl s1, .inl v3, .inr (.inl v4)] h) (fun h1 =>
    some (some (.inl v6), h1))
  else none :=
  (aB gP gX xs stp_46 6 d mm_46 79 _ _ h).trans rfl

theorem c_46 (xs : List Int) (d : Nat) (v0 : Int) (v1 : Int) (v2 : Int) (v3 : Int) (h : aH) : cl xs (d + 1) 46 [.inr (.inr v0), .inr (.inr v1), .inl v2, .inl v3] h =
  ev xs d mm_46 6 [some (.inr (.inr v0)), some (.inr (.inr v1)), some (.inl v2), some (.inl v3), some (.inr (.inl 0)), none, some (.inl v3)] [] h :=
  (show _ = ev xs d mm_46 0 [some (.inr (.inr v0)), some (.inr (.inr v1)), some (.inl v2), some (.inl v3), none, none, none] [] h from rfl).trans (q_46_0 xs d v0 v1 v2 v3 h)
def stp_47 : List Nat := [0, 2]
set_option maxRecDepth 100000 in
set_option maxHeartbeats 4000000 in
theorem q_47_0 (xs : List Int) (d : Nat) (v0 : Int) (v1 : Int) (h : aH) : ev xs d mm_47 0 [some (.inr (.inr v0)), some (.inr (.inl v1)), none, none] [] h =
  ev xs d mm_47 2 [some (.inr (.inr v0)), some (.inr (.inl v1)), none, some (.inl 0)] [] h :=
  (aB gP gX xs stp_47 3 d mm_47 0 _ _ h).trans rfl

set_option maxRecDepth 100000 in
set_option maxHeartbeats 4000000 in
theorem q_47_2 (xs : List Int) (d : Nat) (v0 : Int) (v1 : Int) (u2 : Option aV) (v3 : Int) (h : aH) : ev xs d mm_47 2 [some (.inr (.inr v0)), some (.inr (.inl v1)), u2, some (.inl v3)] [] h =
  bif decide (24 ≤ v3) then
    some (some (.inl 2), h)
  else
    bif aok h.1 v0 4 then
      bif ain h.1 (h.2 v0.toNat 6) 101 v3 then
        bif decide (¬ (olcmp (h.2 (h.2 v0.toNat 6).toNat v3.toNat) v1) = 0) then
          ev xs d mm_47 2 [some (.inr (.inr v0)), some (.inr (.inl v1)), acl u2, some (.inl (w32 (v3 + 1)))] [] h
        else
          some (some (.inl (w32 (128 + v3))), h)
      else none
    else none :=
  (aB gP gX xs stp_47 15 d mm_47 2 _ _ h).trans rfl

theorem c_47 (xs : List Int) (d : Nat) (v0 : Int) (v1 : Int) (h : aH) : cl xs (d + 1) 47 [.inr (.inr v0), .inr (.inl v1)] h =
  ev xs d mm_47 2 [some (.inr (.inr v0)), some (.inr (.inl v1)), none, some (.inl 0)] [] h :=
  (show _ = ev xs d mm_47 0 [some (.inr (.inr v0)), some (.inr (.inl v1)), none, none] [] h from rfl).trans (q_47_0 xs d v0 v1 h)
def stp_48 : List Nat := [0, 6, 65]
set_option maxRecDepth 100000 in
set_option maxHeartbeats 4000000 in
theorem q_48_0 (xs : List Int) (d : Nat) (v0 : Int) (v1 : Int) (v2 : Int) (v3 : Int) (h : aH) : ev xs d mm_48 0 [some (.inr (.inr v0)), some (.inr (.inr v1)), some (.inl v2), some (.inl v3), none, none] [] h =
  ev xs d mm_48 6 [some (.inr (.inr v0)), some (.inr (.inr v1)), some (.inl v2), some (.inl v3), some (.inl 0), some (.inl v3)] [] h :=
  (aB gP gX xs stp_48 5 d mm_48 0 _ _ h).trans rfl

set_option maxRecDepth 100000 in
set_option maxHeartbeats 4000000 in
theorem q_48_6 (xs : List Int) (d : Nat) (v0 : Int) (v1 : Int) (v2 : Int) (v3 : Int) (v4 : Int) (v5 : Int) (h : aH) : ev xs d mm_48 6 [some (.inr (.inr v0)), some (.inr (.inr v1)), some (.inl v2), some (.inl v3), some (.inl v4), some (.inl v5)] [] h =
  bif decide (v2 ≤ v5) then
    bif decide ((w32 (v5 - v3)) ≤ 4) then
      ev xs d mm_48 65 [some (.inr (.inr v0)), some (.inr (.inr v1)), some (.inl v2), some (.inl v3), some (.inl v4), some (.inl v5)] [.inl 3, .inr (.inr v0)] h
    else
      ev xs d mm_48 65 [some (.inr (.inr v0)), some (.inr (.inr v1)), some (.inl v2), some (.inl v3), some (.inl v4), some (.inl v5)] [.inl 1, .inr (.inr v0)] h
  else
    bif ain h.1 v1 102 v5 then
      bI (cl xs d 45 [.inl (h.2 v1.toNat v5.toNat)] h) (fun x2 h1 =>
        bif decide (x2 = 0) then
          bif decide ((w32 (v5 - v3)) ≤ 4) then
            ev xs d mm_48 65 [some (.inr (.inr v0)), some (.inr (.inr v1)), some (.inl v2), some (.inl v3), some (.inl v4), some (.inl v5)] [.inl 3, .inr (.inr v0)] h1
          else
            ev xs d mm_48 65 [some (.inr (.inr v0)), some (.inr (.inr v1)), some (.inl v2), some (.inl v3), some (.inl v4), some (.inl v5)] [.inl 1, .inr (.inr v0)] h1
        else
          bif decide (4 ≤ (w32 (v5 - v3))) then
            ev xs d mm_48 6 [some (.inr (.inr v0)), some (.inr (.inr v1)), some (.inl v2), some (.inl v3), some (.inl v4), some (.inl (w32 (v5 + 1)))] [] h1
          else
            bif ain h1.1 v1 102 v5 then
              ev xs d mm_48 6 [some (.inr (.inr v0)), some (.inr (.inr v1)), some (.inl v2), some (.inl v3), some (.inl (w32 ((w32 ((w32 (v4 * 10)) + (h1.2 v1.toNat v5.toNat))) - 48))), some (.inl (w32 (v5 + 1)))] [] h1
            else none)
    else none :=
  (aB gP gX xs stp_48 26 d mm_48 6 _ _ h).trans rfl

set_option maxRecDepth 100000 in
set_option maxHeartbeats 4000000 in
theorem q_48_65 (xs : List Int) (d : Nat) (v0 : Int) (v1 : Int) (v2 : Int) (v3 : Int) (v4 : Int) (v5 : Int) (s0 : Int) (s1 : Int) (h : aH) : ev xs d mm_48 65 [some (.inr (.inr v0)), some (.inr (.inr v1)), some (.inl v2), some (.inl v3), some (.inl v4), some (.inl v5)] [.inl s1, .inr (.inr s0)] h =
  bif aok h.1 s0 4 && true then
    bV (cl xs d 41 [.inr (.inr s0), .inl s1, .inl v3, .inr (.inl v4)] h) (fun h1 =>
    some (some (.inl v5), h1))
  else none :=
  (aB gP gX xs stp_48 7 d mm_48 65 _ _ h).trans rfl

theorem c_48 (xs : List Int) (d : Nat) (v0 : Int) (v1 : Int) (v2 : Int) (v3 : Int) (h : aH) : cl xs (d + 1) 48 [.inr (.inr v0), .inr (.inr v1), .inl v2, .inl v3] h =
  ev xs d mm_48 6 [some (.inr (.inr v0)), some (.inr (.inr v1)), some (.inl v2), some (.inl v3), some (.inl 0), some (.inl v3)] [] h :=
  (show _ = ev xs d mm_48 0 [some (.inr (.inr v0)), some (.inr (.inr v1)), some (.inl v2), some (.inl v3), none, none] [] h from rfl).trans (q_48_0 xs d v0 v1 v2 v3 h)
def stp_49 : List Nat := [0, 15, 25]
set_option maxRecDepth 100000 in
set_option maxHeartbeats 4000000 in
theorem q_49_0 (xs : List Int) (d : Nat) (v0 : Int) (h : aH) : ev xs d mm_49 0 [some (.inr (.inr v0)), none] [] h =
  bif aok h.1 v0 4 then
    bif aok h.1 v0 4 then
      bif aok h.1 v0 4 then
        ev xs d mm_49 15 [some (.inr (.inr v0)), none] [] (h.1, aup (aup (aup h.2 v0.toNat 4 0) v0.toNat 5 (-1)) v0.toNat 7 0)
      else none
    else none
  else none :=
  (aB gP gX xs stp_49 10 d mm_49 0 _ _ h).trans rfl

set_option maxRecDepth 100000 in
set_option maxHeartbeats 4000000 in
theorem q_49_15 (xs : List Int) (d : Nat) (v0 : Int) (u1 : Option aV) (h : aH) : ev xs d mm_49 15 [some (.inr (.inr v0)), u1] [] h =
  bif aok h.1 v0 4 then
    bV (cl xs d 318 [.inr (.inr (h.2 v0.toNat 8)), .inl 0] h) (fun h1 =>
      ev xs d mm_49 25 [some (.inr (.inr v0)), some (.inl 0)] [] h1)
  else none :=
  (aB gP gX xs stp_49 7 d mm_49 15 _ _ h).trans rfl

set_option maxRecDepth 100000 in
set_option maxHeartbeats 4000000 in
theorem q_49_25 (xs : List Int) (d : Nat) (v0 : Int) (v1 : Int) (h : aH) : ev xs d mm_49 25 [some (.inr (.inr v0)), some (.inl v1)] [] h =
  bif decide (400 < v1) then
    bif aok h.1 v0 4 then
      some (some (.inl (h.2 v0.toNat 4)), h)
    else none
  else
    bif aok h.1 v0 4 then
      bif aok h.1 v0 4 && true then
        bI (cl xs d 37 [.inr (.inr v0), .inl (h.2 v0.toNat 7)] h) (fun x2 h1 =>
        bif decide (x2 = 0) then
          bif aok h1.1 v0 4 then
            some (some (.inl (h1.2 v0.toNat 4)), h1)
          else none
        else
          bif aok h1.1 v0 4 && true then
            bI (cl xs d 53 [.inr (.inr v0)] h1) (fun x4 h3 =>
            bif decide (¬ x4 = 0) then
              ev xs d mm_49 25 [some (.inr (.inr v0)), some (.inl (w32 (v1 + 1)))] [] h3
            else
              bif aok h3.1 v0 4 then
                some (some (.inl (h3.2 v0.toNat 4)), h3)
              else none)
          else none)
      else none
    else none :=
  (aB gP gX xs stp_49 16 d mm_49 25 _ _ h).trans rfl

theorem c_49 (xs : List Int) (d : Nat) (v0 : Int) (h : aH) : cl xs (d + 1) 49 [.inr (.inr v0)] h =
  bif aok h.1 v0 4 then
    bif aok h.1 v0 4 then
      bif aok h.1 v0 4 then
        ev xs d mm_49 15 [some (.inr (.inr v0)), none] [] (h.1, aup (aup (aup h.2 v0.toNat 4 0) v0.toNat 5 (-1)) v0.toNat 7 0)
      else none
    else none
  else none :=
  (show _ = ev xs d mm_49 0 [some (.inr (.inr v0)), none] [] h from rfl).trans (q_49_0 xs d v0 h)
def stp_50 : List Nat := [0]
set_option maxRecDepth 100000 in
set_option maxHeartbeats 4000000 in
theorem q_50_0 (xs : List Int) (d : Nat) (v0 : Int) (v1 : Int) (h : aH) : ev xs d mm_50 0 [some (.inr (.inr v0)), some (.inl v1)] [] h =
  bif aok h.1 v0 4 then
    bif aok h.1 v0 4 then
      bif aok h.1 v0 4 && true then
        bI (cl xs d 39 [.inr (.inr v0), .inl ((aup h.2 v0.toNat 4 v1) v0.toNat 7)] (h.1, aup h.2 v0.toNat 4 v1)) (fun x2 h1 =>
        bif aok h1.1 v0 4 then
          some (some (.inl 0), (h1.1, aup h1.2 v0.toNat 5 x2))
        else none)
      else none
    else none
  else none :=
  (aB gP gX xs stp_50 12 d mm_50 0 _ _ h).trans rfl

theorem c_50 (xs : List Int) (d : Nat) (v0 : Int) (v1 : Int) (h : aH) : cl xs (d + 1) 50 [.inr (.inr v0), .inl v1] h =
  bif aok h.1 v0 4 then
    bif aok h.1 v0 4 then
      bif aok h.1 v0 4 && true then
        bI (cl xs d 39 [.inr (.inr v0), .inl ((aup h.2 v0.toNat 4 v1) v0.toNat 7)] (h.1, aup h.2 v0.toNat 4 v1)) (fun x2 h1 =>
        bif aok h1.1 v0 4 then
          some (some (.inl 0), (h1.1, aup h1.2 v0.toNat 5 x2))
        else none)
      else none
    else none
  else none :=
  (show _ = ev xs d mm_50 0 [some (.inr (.inr v0)), some (.inl v1)] [] h from rfl).trans (q_50_0 xs d v0 v1 h)
def stp_51 : List Nat := [0]
set_option maxRecDepth 100000 in
set_option maxHeartbeats 4000000 in
theorem q_51_0 (xs : List Int) (d : Nat) (v0 : Int) (v1 : Int) (h : aH) : ev xs d mm_51 0 [some (.inr (.inr v0)), some (.inl v1)] [] h =
  bif aok h.1 v0 4 then
    bif aok h.1 v0 4 && true then
      bI (cl xs d 37 [.inr (.inr v0), .inl (h.2 v0.toNat 7)] h) (fun x2 h1 =>
      bif decide (x2 = v1) then
        bif aok h1.1 v0 4 then
          bif decide ((h1.2 v0.toNat 7) < 400) then
            bif aok h1.1 v0 4 then
              bif aok h1.1 v0 4 then
                some (some (.inl 1), (h1.1, aup h1.2 v0.toNat 7 (w32 ((h1.2 v0.toNat 7) + 1))))
              else none
            else none
          else
            bif aok h1.1 v0 4 && true then
              bI (cl xs d 50 [.inr (.inr v0), .inl 2] h1) (fun x4 h3 =>
              bif decide (x4 = 0) || decide (x4 = 1) then some (some (.inl x4), h3) else none)
            else none
        else none
      else
        bif aok h1.1 v0 4 && true then
          bI (cl xs d 50 [.inr (.inr v0), .inl 1] h1) (fun x6 h5 =>
          bif decide (x6 = 0) || decide (x6 = 1) then some (some (.inl x6), h5) else none)
        else none)
    else none
  else none :=
  (aB gP gX xs stp_51 19 d mm_51 0 _ _ h).trans rfl

theorem c_51 (xs : List Int) (d : Nat) (v0 : Int) (v1 : Int) (h : aH) : cl xs (d + 1) 51 [.inr (.inr v0), .inl v1] h =
  bif aok h.1 v0 4 then
    bif aok h.1 v0 4 && true then
      bI (cl xs d 37 [.inr (.inr v0), .inl (h.2 v0.toNat 7)] h) (fun x2 h1 =>
      bif decide (x2 = v1) then
        bif aok h1.1 v0 4 then
          bif decide ((h1.2 v0.toNat 7) < 400) then
            bif aok h1.1 v0 4 then
              bif aok h1.1 v0 4 then
                some (some (.inl 1), (h1.1, aup h1.2 v0.toNat 7 (w32 ((h1.2 v0.toNat 7) + 1))))
              else none
            else none
          else
            bif aok h1.1 v0 4 && true then
              bI (cl xs d 50 [.inr (.inr v0), .inl 2] h1) (fun x4 h3 =>
              bif decide (x4 = 0) || decide (x4 = 1) then some (some (.inl x4), h3) else none)
            else none
        else none
      else
        bif aok h1.1 v0 4 && true then
          bI (cl xs d 50 [.inr (.inr v0), .inl 1] h1) (fun x6 h5 =>
          bif decide (x6 = 0) || decide (x6 = 1) then some (some (.inl x6), h5) else none)
        else none)
    else none
  else none :=
  (show _ = ev xs d mm_51 0 [some (.inr (.inr v0)), some (.inl v1)] [] h from rfl).trans (q_51_0 xs d v0 v1 h)
def stp_52 : List Nat := [0, 42]
set_option maxRecDepth 100000 in
set_option maxHeartbeats 4000000 in
theorem q_52_0 (xs : List Int) (d : Nat) (v0 : Int) (v1 : Int) (v2 : Int) (h : aH) : ev xs d mm_52 0 [some (.inr (.inr v0)), some (.inl v1), some (.inl v2), none] [] h =
  bif decide ((w32 (v1 - 128)) < 0) then
    ev xs d mm_52 42 [some (.inr (.inr v0)), some (.inl v1), some (.inl v2), some (.inl (w32 (v1 - 128)))] [] h
  else
    bif decide (24 ≤ (w32 (v1 - 128))) then
      ev xs d mm_52 42 [some (.inr (.inr v0)), some (.inl v1), some (.inl v2), some (.inl (w32 (v1 - 128)))] [] h
    else
      bif aok h.1 v0 4 then
        bif ain h.1 (h.2 v0.toNat 8) 100 (w32 (v1 - 128)) then
          bif ain h.1 (h.2 v0.toNat 8) 100 (w32 (v1 - 128)) then
            bif aok h.1 v0 4 then
              bif ain h.1 ((aup h.2 (h.2 v0.toNat 8).toNat (w32 (v1 - 128)).toNat (w32 ((h.2 (h.2 v0.toNat 8).toNat (w32 (v1 - 128)).toNat) + 1))) v0.toNat 8) 100 (w32 (v1 - 128)) then
                bif decide (((aup h.2 (h.2 v0.toNat 8).toNat (w32 (v1 - 128)).toNat (w32 ((h.2 (h.2 v0.toNat 8).toNat (w32 (v1 - 128)).toNat) + 1))) ((aup h.2 (h.2 v0.toNat 8).toNat (w32 (v1 - 128)).toNat (w32 ((h.2 (h.2 v0.toNat 8).toNat (w32 (v1 - 128)).toNat) + 1))) v0.toNat 8).toNat (w32 (v1 - 128)).toNat) ≤ v2) then
                  ev xs d mm_52 42 [some (.inr (.inr v0)), some (.inl v1), some (.inl v2), some (.inl (w32 (v1 - 128)))] [] (h.1, aup h.2 (h.2 v0.toNat 8).toNat (w32 (v1 - 128)).toNat (w32 ((h.2 (h.2 v0.toNat 8).toNat (w32 (v1 - 128)).toNat) + 1)))
                else
                  bif aok h.1 v0 4 && true then
                    bI (cl xs d 50 [.inr (.inr v0), .inl 2] (h.1, aup h.2 (h.2 v0.toNat 8).toNat (w32 (v1 - 128)).toNat (w32 ((h.2 (h.2 v0.toNat 8).toNat (w32 (v1 - 128)).toNat) + 1)))) (fun x2 h1 =>
                    bif decide (x2 = 0) || decide (x2 = 1) then some (some (.inl x2), h1) else none)
                  else none
              else none
            else none
          else none
        else none
      else none :=
  (aB gP gX xs stp_52 28 d mm_52 0 _ _ h).trans rfl

set_option maxRecDepth 100000 in
set_option maxHeartbeats 4000000 in
theorem q_52_42 (xs : List Int) (d : Nat) (v0 : Int) (v1 : Int) (v2 : Int) (v3 : Int) (h : aH) : ev xs d mm_52 42 [some (.inr (.inr v0)), some (.inl v1), some (.inl v2), some (.inl v3)] [] h =
  bif aok h.1 v0 4 && true then
    bI (cl xs d 51 [.inr (.inr v0), .inl v1] h) (fun x2 h1 =>
    bif decide (x2 = 0) || decide (x2 = 1) then some (some (.inl x2), h1) else none)
  else none :=
  (aB gP gX xs stp_52 5 d mm_52 42 _ _ h).trans rfl

theorem c_52 (xs : List Int) (d : Nat) (v0 : Int) (v1 : Int) (v2 : Int) (h : aH) : cl xs (d + 1) 52 [.inr (.inr v0), .inl v1, .inl v2] h =
  bif decide ((w32 (v1 - 128)) < 0) then
    ev xs d mm_52 42 [some (.inr (.inr v0)), some (.inl v1), some (.inl v2), some (.inl (w32 (v1 - 128)))] [] h
  else
    bif decide (24 ≤ (w32 (v1 - 128))) then
      ev xs d mm_52 42 [some (.inr (.inr v0)), some (.inl v1), some (.inl v2), some (.inl (w32 (v1 - 128)))] [] h
    else
      bif aok h.1 v0 4 then
        bif ain h.1 (h.2 v0.toNat 8) 100 (w32 (v1 - 128)) then
          bif ain h.1 (h.2 v0.toNat 8) 100 (w32 (v1 - 128)) then
            bif aok h.1 v0 4 then
              bif ain h.1 ((aup h.2 (h.2 v0.toNat 8).toNat (w32 (v1 - 128)).toNat (w32 ((h.2 (h.2 v0.toNat 8).toNat (w32 (v1 - 128)).toNat) + 1))) v0.toNat 8) 100 (w32 (v1 - 128)) then
                bif decide (((aup h.2 (h.2 v0.toNat 8).toNat (w32 (v1 - 128)).toNat (w32 ((h.2 (h.2 v0.toNat 8).toNat (w32 (v1 - 128)).toNat) + 1))) ((aup h.2 (h.2 v0.toNat 8).toNat (w32 (v1 - 128)).toNat (w32 ((h.2 (h.2 v0.toNat 8).toNat (w32 (v1 - 128)).toNat) + 1))) v0.toNat 8).toNat (w32 (v1 - 128)).toNat) ≤ v2) then
                  ev xs d mm_52 42 [some (.inr (.inr v0)), some (.inl v1), some (.inl v2), some (.inl (w32 (v1 - 128)))] [] (h.1, aup h.2 (h.2 v0.toNat 8).toNat (w32 (v1 - 128)).toNat (w32 ((h.2 (h.2 v0.toNat 8).toNat (w32 (v1 - 128)).toNat) + 1)))
                else
                  bif aok h.1 v0 4 && true then
                    bI (cl xs d 50 [.inr (.inr v0), .inl 2] (h.1, aup h.2 (h.2 v0.toNat 8).toNat (w32 (v1 - 128)).toNat (w32 ((h.2 (h.2 v0.toNat 8).toNat (w32 (v1 - 128)).toNat) + 1)))) (fun x2 h1 =>
                    bif decide (x2 = 0) || decide (x2 = 1) then some (some (.inl x2), h1) else none)
                  else none
              else none
            else none
          else none
        else none
      else none :=
  (show _ = ev xs d mm_52 0 [some (.inr (.inr v0)), some (.inl v1), some (.inl v2), none] [] h from rfl).trans (q_52_0 xs d v0 v1 v2 h)
def stp_53 : List Nat := [0, 80, 123, 157, 202, 247, 292, 327, 375, 390, 431, 463, 496]
set_option maxRecDepth 100000 in
set_option maxHeartbeats 4000000 in
theorem q_53_0 (xs : List Int) (d : Nat) (v0 : Int) (h : aH) : ev xs d mm_53 0 [some (.inr (.inr v0))] [] h =
  bif aok h.1 v0 4 then
    bif aok h.1 v0 4 && true then
      bI (cl xs d 37 [.inr (.inr v0), .inl (h.2 v0.toNat 7)] h) (fun x2 h1 =>
      ev xs d mm_53 (asw 8 488 128 141 #[72, 115, 488, 488, 488, 488, 149, 194, 239, 284, 319, 382, 423, 455] x2) [some (.inr (.inr v0))] [] h1)
    else none
  else none :=
  (aB gP gX xs stp_53 4 d mm_53 0 _ _ h).trans rfl

set_option maxRecDepth 100000 in
set_option maxHeartbeats 4000000 in
theorem q_53_80 (xs : List Int) (d : Nat) (v0 : Int) (h : aH) : ev xs d mm_53 80 [some (.inr (.inr v0))] [] h =
  bif aok h.1 v0 4 && true then
    bI (cl xs d 52 [.inr (.inr v0), .inl 128, .inl 6] h) (fun x2 h1 =>
    bif decide (x2 = 0) then
      some (some (.inl 0), h1)
    else
      bif aok h1.1 v0 4 && true then
        bI (cl xs d 51 [.inr (.inr v0), .inl 2] h1) (fun x4 h3 =>
        bif decide (x4 = 0) then
          some (some (.inl 0), h3)
        else
          bif aok h3.1 v0 4 && true then
            bI (cl xs d 51 [.inr (.inr v0), .inl 2] h3) (fun x6 h5 =>
            bif decide (x6 = 0) then
              some (some (.inl 0), h5)
            else
              bif aok h5.1 v0 4 && true then
                bI (cl xs d 51 [.inr (.inr v0), .inl 59] h5) (fun x8 h7 =>
                bif decide (x8 = 0) then
                  some (some (.inl 0), h7)
                else
                  some (some (.inl 1), h7))
              else none)
          else none)
      else none)
  else none :=
  (aB gP gX xs stp_53 21 d mm_53 80 _ _ h).trans rfl

set_option maxRecDepth 100000 in
set_option maxHeartbeats 4000000 in
theorem q_53_123 (xs : List Int) (d : Nat) (v0 : Int) (h : aH) : ev xs d mm_53 123 [some (.inr (.inr v0))] [] h =
  bif aok h.1 v0 4 && true then
    bI (cl xs d 52 [.inr (.inr v0), .inl 129, .inl 7] h) (fun x2 h1 =>
    bif decide (x2 = 0) then
      some (some (.inl 0), h1)
    else
      bif aok h1.1 v0 4 && true then
        bI (cl xs d 54 [.inr (.inr v0)] h1) (fun x4 h3 =>
        bif decide (x4 = 0) then
          some (some (.inl 0), h3)
        else
          bif aok h3.1 v0 4 && true then
            bI (cl xs d 51 [.inr (.inr v0), .inl 59] h3) (fun x6 h5 =>
            bif decide (x6 = 0) then
              some (some (.inl 0), h5)
            else
              some (some (.inl 1), h5))
          else none)
      else none)
  else none :=
  (aB gP gX xs stp_53 16 d mm_53 123 _ _ h).trans rfl

set_option maxRecDepth 100000 in
set_option maxHeartbeats 4000000 in
theorem q_53_157 (xs : List Int) (d : Nat) (v0 : Int) (h : aH) : ev xs d mm_53 157 [some (.inr (.inr v0))] [] h =
  bI (cl xs d 30 [.inl 0] h) (fun x2 h1 =>
    bif aok h1.1 v0 4 && true then
      bI (cl xs d 52 [.inr (.inr v0), .inl 134, .inl x2] h1) (fun x4 h3 =>
      bif decide (x4 = 0) then
        some (some (.inl 0), h3)
      else
        bif aok h3.1 v0 4 && true then
          bI (cl xs d 51 [.inr (.inr v0), .inl 2] h3) (fun x6 h5 =>
          bif decide (x6 = 0) then
            some (some (.inl 0), h5)
          else
            bif aok h5.1 v0 4 && true then
              bI (cl xs d 51 [.inr (.inr v0), .inl 3] h5) (fun x8 h7 =>
              bif decide (x8 = 0) then
                some (some (.inl 0), h7)
              else
                bif aok h7.1 v0 4 && true then
                  bI (cl xs d 51 [.inr (.inr v0), .inl 59] h7) (fun x10 h9 =>
                  bif decide (x10 = 0) then
                    some (some (.inl 0), h9)
                  else
                    some (some (.inl 1), h9))
                else none)
            else none)
        else none)
    else none) :=
  (aB gP gX xs stp_53 22 d mm_53 157 _ _ h).trans rfl

set_option maxRecDepth 100000 in
set_option maxHeartbeats 4000000 in
theorem q_53_202 (xs : List Int) (d : Nat) (v0 : Int) (h : aH) : ev xs d mm_53 202 [some (.inr (.inr v0))] [] h =
  bI (cl xs d 30 [.inl 1] h) (fun x2 h1 =>
    bif aok h1.1 v0 4 && true then
      bI (cl xs d 52 [.inr (.inr v0), .inl 135, .inl x2] h1) (fun x4 h3 =>
      bif decide (x4 = 0) then
        some (some (.inl 0), h3)
      else
        bif aok h3.1 v0 4 && true then
          bI (cl xs d 51 [.inr (.inr v0), .inl 2] h3) (fun x6 h5 =>
          bif decide (x6 = 0) then
            some (some (.inl 0), h5)
          else
            bif aok h5.1 v0 4 && true then
              bI (cl xs d 51 [.inr (.inr v0), .inl 3] h5) (fun x8 h7 =>
              bif decide (x8 = 0) then
                some (some (.inl 0), h7)
              else
                bif aok h7.1 v0 4 && true then
                  bI (cl xs d 51 [.inr (.inr v0), .inl 59] h7) (fun x10 h9 =>
                  bif decide (x10 = 0) then
                    some (some (.inl 0), h9)
                  else
                    some (some (.inl 1), h9))
                else none)
            else none)
        else none)
    else none) :=
  (aB gP gX xs stp_53 22 d mm_53 202 _ _ h).trans rfl

set_option maxRecDepth 100000 in
set_option maxHeartbeats 4000000 in
theorem q_53_247 (xs : List Int) (d : Nat) (v0 : Int) (h : aH) : ev xs d mm_53 247 [some (.inr (.inr v0))] [] h =
  bI (cl xs d 30 [.inl 2] h) (fun x2 h1 =>
    bif aok h1.1 v0 4 && true then
      bI (cl xs d 52 [.inr (.inr v0), .inl 136, .inl x2] h1) (fun x4 h3 =>
      bif decide (x4 = 0) then
        some (some (.inl 0), h3)
      else
        bif aok h3.1 v0 4 && true then
          bI (cl xs d 51 [.inr (.inr v0), .inl 2] h3) (fun x6 h5 =>
          bif decide (x6 = 0) then
            some (some (.inl 0), h5)
          else
            bif aok h5.1 v0 4 && true then
              bI (cl xs d 51 [.inr (.inr v0), .inl 3] h5) (fun x8 h7 =>
              bif decide (x8 = 0) then
                some (some (.inl 0), h7)
              else
                bif aok h7.1 v0 4 && true then
                  bI (cl xs d 51 [.inr (.inr v0), .inl 59] h7) (fun x10 h9 =>
                  bif decide (x10 = 0) then
                    some (some (.inl 0), h9)
                  else
                    some (some (.inl 1), h9))
                else none)
            else none)
        else none)
    else none) :=
  (aB gP gX xs stp_53 22 d mm_53 247 _ _ h).trans rfl

set_option maxRecDepth 100000 in
set_option maxHeartbeats 4000000 in
theorem q_53_292 (xs : List Int) (d : Nat) (v0 : Int) (h : aH) : ev xs d mm_53 292 [some (.inr (.inr v0))] [] h =
  bif aok h.1 v0 4 && true then
    bI (cl xs d 52 [.inr (.inr v0), .inl 137, .inl 10] h) (fun x2 h1 =>
    bif decide (x2 = 0) then
      some (some (.inl 0), h1)
    else
      bif aok h1.1 v0 4 && true then
        bI (cl xs d 51 [.inr (.inr v0), .inl 2] h1) (fun x4 h3 =>
        bif decide (x4 = 0) then
          some (some (.inl 0), h3)
        else
          bif aok h3.1 v0 4 && true then
            bI (cl xs d 51 [.inr (.inr v0), .inl 59] h3) (fun x6 h5 =>
            bif decide (x6 = 0) then
              some (some (.inl 0), h5)
            else
              some (some (.inl 1), h5))
          else none)
      else none)
  else none :=
  (aB gP gX xs stp_53 17 d mm_53 292 _ _ h).trans rfl

set_option maxRecDepth 100000 in
set_option maxHeartbeats 4000000 in
theorem q_53_327 (xs : List Int) (d : Nat) (v0 : Int) (h : aH) : ev xs d mm_53 327 [some (.inr (.inr v0))] [] h =
  bif aok h.1 v0 4 && true then
    bI (cl xs d 52 [.inr (.inr v0), .inl 138, .inl 8] h) (fun x2 h1 =>
    bif decide (x2 = 0) then
      some (some (.inl 0), h1)
    else
      bif aok h1.1 v0 4 && true then
        bI (cl xs d 51 [.inr (.inr v0), .inl 2] h1) (fun x4 h3 =>
        bif decide (x4 = 0) then
          some (some (.inl 0), h3)
        else
          bif aok h3.1 v0 4 && true then
            bI (cl xs d 51 [.inr (.inr v0), .inl 2] h3) (fun x6 h5 =>
            bif decide (x6 = 0) then
              some (some (.inl 0), h5)
            else
              bif aok h5.1 v0 4 then
                bif aok h5.1 v0 4 && true then
                  bI (cl xs d 37 [.inr (.inr v0), .inl (h5.2 v0.toNat 7)] h5) (fun x8 h7 =>
                  bif decide (¬ x8 = 2) then
                    ev xs d mm_53 375 [some (.inr (.inr v0))] [] h7
                  else
                    bif aok h7.1 v0 4 && true then
                      bI (cl xs d 51 [.inr (.inr v0), .inl 2] h7) (fun x10 h9 =>
                      bif decide (x10 = 0) then
                        some (some (.inl 0), h9)
                      else
                        ev xs d mm_53 375 [some (.inr (.inr v0))] [] h9)
                    else none)
                else none
              else none)
          else none)
      else none)
  else none :=
  (aB gP gX xs stp_53 26 d mm_53 327 _ _ h).trans rfl

set_option maxRecDepth 100000 in
set_option maxHeartbeats 4000000 in
theorem q_53_375 (xs : List Int) (d : Nat) (v0 : Int) (h : aH) : ev xs d mm_53 375 [some (.inr (.inr v0))] [] h =
  bif aok h.1 v0 4 && true then
    bI (cl xs d 51 [.inr (.inr v0), .inl 59] h) (fun x2 h1 =>
    bif decide (x2 = 0) then
      some (some (.inl 0), h1)
    else
      some (some (.inl 1), h1))
  else none :=
  (aB gP gX xs stp_53 8 d mm_53 375 _ _ h).trans rfl

set_option maxRecDepth 100000 in
set_option maxHeartbeats 4000000 in
theorem q_53_390 (xs : List Int) (d : Nat) (v0 : Int) (h : aH) : ev xs d mm_53 390 [some (.inr (.inr v0))] [] h =
  bif aok h.1 v0 4 && true then
    bI (cl xs d 52 [.inr (.inr v0), .inl 139, .inl 5] h) (fun x2 h1 =>
    bif decide (x2 = 0) then
      some (some (.inl 0), h1)
    else
      bif aok h1.1 v0 4 && true then
        bI (cl xs d 51 [.inr (.inr v0), .inl 3] h1) (fun x4 h3 =>
        bif decide (x4 = 0) then
          some (some (.inl 0), h3)
        else
          bif aok h3.1 v0 4 && true then
            bI (cl xs d 56 [.inr (.inr v0)] h3) (fun x6 h5 =>
            bif decide (x6 = 0) then
              some (some (.inl 0), h5)
            else
              bif aok h5.1 v0 4 && true then
                bI (cl xs d 51 [.inr (.inr v0), .inl 59] h5) (fun x8 h7 =>
                bif decide (x8 = 0) then
                  some (some (.inl 0), h7)
                else
                  some (some (.inl 1), h7))
              else none)
          else none)
      else none)
  else none :=
  (aB gP gX xs stp_53 20 d mm_53 390 _ _ h).trans rfl

set_option maxRecDepth 100000 in
set_option maxHeartbeats 4000000 in
theorem q_53_431 (xs : List Int) (d : Nat) (v0 : Int) (h : aH) : ev xs d mm_53 431 [some (.inr (.inr v0))] [] h =
  bif aok h.1 v0 4 && true then
    bI (cl xs d 51 [.inr (.inr v0), .inl 140] h) (fun x2 h1 =>
    bif decide (x2 = 0) then
      some (some (.inl 0), h1)
    else
      bif aok h1.1 v0 4 && true then
        bI (cl xs d 57 [.inr (.inr v0)] h1) (fun x4 h3 =>
        bif decide (x4 = 0) then
          some (some (.inl 0), h3)
        else
          bif aok h3.1 v0 4 && true then
            bI (cl xs d 51 [.inr (.inr v0), .inl 59] h3) (fun x6 h5 =>
            bif decide (x6 = 0) then
              some (some (.inl 0), h5)
            else
              some (some (.inl 1), h5))
          else none)
      else none)
  else none :=
  (aB gP gX xs stp_53 15 d mm_53 431 _ _ h).trans rfl

set_option maxRecDepth 100000 in
set_option maxHeartbeats 4000000 in
theorem q_53_463 (xs : List Int) (d : Nat) (v0 : Int) (h : aH) : ev xs d mm_53 463 [some (.inr (.inr v0))] [] h =
  bif aok h.1 v0 4 && true then
    bI (cl xs d 51 [.inr (.inr v0), .inl 141] h) (fun x2 h1 =>
    bif decide (x2 = 0) then
      some (some (.inl 0), h1)
    else
      bif aok h1.1 v0 4 && true then
        bI (cl xs d 51 [.inr (.inr v0), .inl 3] h1) (fun x4 h3 =>
        bif decide (x4 = 0) then
          some (some (.inl 0), h3)
        else
          bif aok h3.1 v0 4 && true then
            bI (cl xs d 51 [.inr (.inr v0), .inl 59] h3) (fun x6 h5 =>
            bif decide (x6 = 0) then
              some (some (.inl 0), h5)
            else
              some (some (.inl 1), h5))
          else none)
      else none)
  else none :=
  (aB gP gX xs stp_53 16 d mm_53 463 _ _ h).trans rfl

set_option maxRecDepth 100000 in
set_option maxHeartbeats 4000000 in
theorem q_53_496 (xs : List Int) (d : Nat) (v0 : Int) (h : aH) : ev xs d mm_53 496 [some (.inr (.inr v0))] [] h =
  bif aok h.1 v0 4 && true then
    bI (cl xs d 50 [.inr (.inr v0), .inl 1] h) (fun x2 h1 =>
    bif decide (x2 = 0) || decide (x2 = 1) then some (some (.inl x2), h1) else none)
  else none :=
  (aB gP gX xs stp_53 5 d mm_53 496 _ _ h).trans rfl

theorem c_53 (xs : List Int) (d : Nat) (v0 : Int) (h : aH) : cl xs (d + 1) 53 [.inr (.inr v0)] h =
  bif aok h.1 v0 4 then
    bif aok h.1 v0 4 && true then
      bI (cl xs d 37 [.inr (.inr v0), .inl (h.2 v0.toNat 7)] h) (fun x2 h1 =>
      ev xs d mm_53 (asw 8 488 128 141 #[72, 115, 488, 488, 488, 488, 149, 194, 239, 284, 319, 382, 423, 455] x2) [some (.inr (.inr v0))] [] h1)
    else none
  else none :=
  (show _ = ev xs d mm_53 0 [some (.inr (.inr v0))] [] h from rfl).trans (q_53_0 xs d v0 h)
def stp_54 : List Nat := [0, 40, 77]
set_option maxRecDepth 100000 in
set_option maxHeartbeats 4000000 in
theorem q_54_0 (xs : List Int) (d : Nat) (v0 : Int) (h : aH) : ev xs d mm_54 0 [some (.inr (.inr v0))] [] h =
  bif aok h.1 v0 4 && true then
    bI (cl xs d 51 [.inr (.inr v0), .inl 2] h) (fun x2 h1 =>
    bif decide (x2 = 0) then
      some (some (.inl 0), h1)
    else
      bif aok h1.1 v0 4 && true then
        bI (cl xs d 51 [.inr (.inr v0), .inl 130] h1) (fun x4 h3 =>
        bif decide (x4 = 0) then
          some (some (.inl 0), h3)
        else
          bif aok h3.1 v0 4 then
            bif aok h3.1 v0 4 && true then
              bI (cl xs d 37 [.inr (.inr v0), .inl (h3.2 v0.toNat 7)] h3) (fun x6 h5 =>
              bif decide (¬ x6 = 131) then
                ev xs d mm_54 40 [some (.inr (.inr v0))] [.inl 2, .inr (.inr v0)] h5
              else
                ev xs d mm_54 40 [some (.inr (.inr v0))] [.inl 131, .inr (.inr v0)] h5)
            else none
          else none)
      else none)
  else none :=
  (aB gP gX xs stp_54 18 d mm_54 0 _ _ h).trans rfl

set_option maxRecDepth 100000 in
set_option maxHeartbeats 4000000 in
theorem q_54_40 (xs : List Int) (d : Nat) (v0 : Int) (s0 : Int) (s1 : Int) (h : aH) : ev xs d mm_54 40 [some (.inr (.inr v0))] [.inl s1, .inr (.inr s0)] h =
  bif aok h.1 s0 4 && true then
    bI (cl xs d 51 [.inr (.inr s0), .inl s1] h) (fun x2 h1 =>
    bif decide (x2 = 0) then
      some (some (.inl 0), h1)
    else
      bif aok h1.1 v0 4 then
        bif aok h1.1 v0 4 && true then
          bI (cl xs d 37 [.inr (.inr v0), .inl (h1.2 v0.toNat 7)] h1) (fun x4 h3 =>
          bif decide (¬ x4 = 132) then
            ev xs d mm_54 77 [some (.inr (.inr v0))] [] h3
          else
            bif aok h3.1 v0 4 && true then
              bI (cl xs d 51 [.inr (.inr v0), .inl 132] h3) (fun x6 h5 =>
              bif decide (x6 = 0) then
                some (some (.inl 0), h5)
              else
                bif aok h5.1 v0 4 && true then
                  bI (cl xs d 55 [.inr (.inr v0)] h5) (fun x8 h7 =>
                  bif decide (x8 = 0) then
                    some (some (.inl 0), h7)
                  else
                    ev xs d mm_54 77 [some (.inr (.inr v0))] [] h7)
                else none)
            else none)
        else none
      else none)
  else none :=
  (aB gP gX xs stp_54 18 d mm_54 40 _ _ h).trans rfl

set_option maxRecDepth 100000 in
set_option maxHeartbeats 4000000 in
theorem q_54_77 (xs : List Int) (d : Nat) (v0 : Int) (h : aH) : ev xs d mm_54 77 [some (.inr (.inr v0))] [] h =
  bif aok h.1 v0 4 then
    bif aok h.1 v0 4 && true then
      bI (cl xs d 37 [.inr (.inr v0), .inl (h.2 v0.toNat 7)] h) (fun x2 h1 =>
      bif decide (¬ x2 = 133) then
        some (some (.inl 1), h1)
      else
        bif aok h1.1 v0 4 && true then
          bI (cl xs d 51 [.inr (.inr v0), .inl 133] h1) (fun x4 h3 =>
          bif decide (x4 = 0) then
            some (some (.inl 0), h3)
          else
            bif aok h3.1 v0 4 && true then
              bI (cl xs d 55 [.inr (.inr v0)] h3) (fun x6 h5 =>
              bif decide (x6 = 0) then
                some (some (.inl 0), h5)
              else
                some (some (.inl 1), h5))
            else none)
        else none)
    else none
  else none :=
  (aB gP gX xs stp_54 17 d mm_54 77 _ _ h).trans rfl

theorem c_54 (xs : List Int) (d : Nat) (v0 : Int) (h : aH) : cl xs (d + 1) 54 [.inr (.inr v0)] h =
  bif aok h.1 v0 4 && true then
    bI (cl xs d 51 [.inr (.inr v0), .inl 2] h) (fun x2 h1 =>
    bif decide (x2 = 0) then
      some (some (.inl 0), h1)
    else
      bif aok h1.1 v0 4 && true then
        bI (cl xs d 51 [.inr (.inr v0), .inl 130] h1) (fun x4 h3 =>
        bif decide (x4 = 0) then
          some (some (.inl 0), h3)
        else
          bif aok h3.1 v0 4 then
            bif aok h3.1 v0 4 && true then
              bI (cl xs d 37 [.inr (.inr v0), .inl (h3.2 v0.toNat 7)] h3) (fun x6 h5 =>
              bif decide (¬ x6 = 131) then
                ev xs d mm_54 40 [some (.inr (.inr v0))] [.inl 2, .inr (.inr v0)] h5
              else
                ev xs d mm_54 40 [some (.inr (.inr v0))] [.inl 131, .inr (.inr v0)] h5)
            else none
          else none)
      else none)
  else none :=
  (show _ = ev xs d mm_54 0 [some (.inr (.inr v0))] [] h from rfl).trans (q_54_0 xs d v0 h)
def stp_55 : List Nat := [0, 22]
set_option maxRecDepth 100000 in
set_option maxHeartbeats 4000000 in
theorem q_55_0 (xs : List Int) (d : Nat) (v0 : Int) (h : aH) : ev xs d mm_55 0 [some (.inr (.inr v0))] [] h =
  bif aok h.1 v0 4 then
    bif aok h.1 v0 4 && true then
      bI (cl xs d 37 [.inr (.inr v0), .inl (h.2 v0.toNat 7)] h) (fun x2 h1 =>
      bif decide (¬ x2 = 142) then
        ev xs d mm_55 22 [some (.inr (.inr v0))] [.inl 2, .inr (.inr v0)] h1
      else
        ev xs d mm_55 22 [some (.inr (.inr v0))] [.inl 142, .inr (.inr v0)] h1)
    else none
  else none :=
  (aB gP gX xs stp_55 10 d mm_55 0 _ _ h).trans rfl

set_option maxRecDepth 100000 in
set_option maxHeartbeats 4000000 in
theorem q_55_22 (xs : List Int) (d : Nat) (v0 : Int) (s0 : Int) (s1 : Int) (h : aH) : ev xs d mm_55 22 [some (.inr (.inr v0))] [.inl s1, .inr (.inr s0)] h =
  bif aok h.1 s0 4 && true then
    bI (cl xs d 51 [.inr (.inr s0), .inl s1] h) (fun x2 h1 =>
    bif decide (x2 = 0) || decide (x2 = 1) then some (some (.inl x2), h1) else none)
  else none :=
  (aB gP gX xs stp_55 3 d mm_55 22 _ _ h).trans rfl

theorem c_55 (xs : List Int) (d : Nat) (v0 : Int) (h : aH) : cl xs (d + 1) 55 [.inr (.inr v0)] h =
  bif aok h.1 v0 4 then
    bif aok h.1 v0 4 && true then
      bI (cl xs d 37 [.inr (.inr v0), .inl (h.2 v0.toNat 7)] h) (fun x2 h1 =>
      bif decide (¬ x2 = 142) then
        ev xs d mm_55 22 [some (.inr (.inr v0))] [.inl 2, .inr (.inr v0)] h1
      else
        ev xs d mm_55 22 [some (.inr (.inr v0))] [.inl 142, .inr (.inr v0)] h1)
    else none
  else none :=
  (show _ = ev xs d mm_55 0 [some (.inr (.inr v0))] [] h from rfl).trans (q_55_0 xs d v0 h)
def stp_56 : List Nat := [0, 2]
set_option maxRecDepth 100000 in
set_option maxHeartbeats 4000000 in
theorem q_56_0 (xs : List Int) (d : Nat) (v0 : Int) (h : aH) : ev xs d mm_56 0 [some (.inr (.inr v0)), none] [] h =
  ev xs d mm_56 2 [some (.inr (.inr v0)), some (.inl 0)] [] h :=
  (aB gP gX xs stp_56 3 d mm_56 0 _ _ h).trans rfl

set_option maxRecDepth 100000 in
set_option maxHeartbeats 4000000 in
theorem q_56_2 (xs : List Int) (d : Nat) (v0 : Int) (v1 : Int) (h : aH) : ev xs d mm_56 2 [some (.inr (.inr v0)), some (.inl v1)] [] h =
  bif decide (4 < v1) then
    some (some (.inl 1), h)
  else
    bif aok h.1 v0 4 then
      bif aok h.1 v0 4 && true then
        bI (cl xs d 37 [.inr (.inr v0), .inl (h.2 v0.toNat 7)] h) (fun x2 h1 =>
        bif decide (¬ x2 = 2) then
          some (some (.inl 1), h1)
        else
          bif decide (¬ v1 = 4) then
            bif aok h1.1 v0 4 && true then
              bI (cl xs d 51 [.inr (.inr v0), .inl 2] h1) (fun x4 h3 =>
              bif decide (x4 = 0) then
                some (some (.inl 0), h3)
              else
                bif aok h3.1 v0 4 && true then
                  bI (cl xs d 51 [.inr (.inr v0), .inl 3] h3) (fun x6 h5 =>
                  bif decide (¬ x6 = 0) then
                    ev xs d mm_56 2 [some (.inr (.inr v0)), some (.inl (w32 (v1 + 1)))] [] h5
                  else
                    some (some (.inl 0), h5))
                else none)
            else none
          else
            bif aok h1.1 v0 4 && true then
              bI (cl xs d 50 [.inr (.inr v0), .inl 2] h1) (fun x8 h7 =>
              bif decide (x8 = 0) || decide (x8 = 1) then some (some (.inl x8), h7) else none)
            else none)
      else none
    else none :=
  (aB gP gX xs stp_56 23 d mm_56 2 _ _ h).trans rfl

theorem c_56 (xs : List Int) (d : Nat) (v0 : Int) (h : aH) : cl xs (d + 1) 56 [.inr (.inr v0)] h =
  ev xs d mm_56 2 [some (.inr (.inr v0)), some (.inl 0)] [] h :=
  (show _ = ev xs d mm_56 0 [some (.inr (.inr v0)), none] [] h from rfl).trans (q_56_0 xs d v0 h)
def stp_57 : List Nat := [0, 13, 111]
set_option maxRecDepth 100000 in
set_option maxHeartbeats 4000000 in
theorem q_57_0 (xs : List Int) (d : Nat) (v0 : Int) (h : aH) : ev xs d mm_57 0 [some (.inr (.inr v0)), none] [] h =
  bif aok h.1 v0 4 && true then
    bI (cl xs d 51 [.inr (.inr v0), .inl 61] h) (fun x2 h1 =>
    bif decide (¬ x2 = 0) then
      ev xs d mm_57 13 [some (.inr (.inr v0)), some (.inl 0)] [] h1
    else
      some (some (.inl 0), h1))
  else none :=
  (aB gP gX xs stp_57 7 d mm_57 0 _ _ h).trans rfl

set_option maxRecDepth 100000 in
set_option maxHeartbeats 4000000 in
theorem q_57_13 (xs : List Int) (d : Nat) (v0 : Int) (v1 : Int) (h : aH) : ev xs d mm_57 13 [some (.inr (.inr v0)), some (.inl v1)] [] h =
  bif decide (4 < v1) then
    ev xs d mm_57 111 [some (.inr (.inr v0)), some (.inl v1)] [] h
  else
    bif aok h.1 v0 4 then
      bif aok h.1 v0 4 && true then
        bI (cl xs d 37 [.inr (.inr v0), .inl (h.2 v0.toNat 7)] h) (fun x2 h1 =>
        bif decide (¬ x2 = 143) then
          ev xs d mm_57 111 [some (.inr (.inr v0)), some (.inl v1)] [] h1
        else
          bif decide (¬ v1 = 4) then
            bif aok h1.1 v0 4 && true then
              bI (cl xs d 51 [.inr (.inr v0), .inl 143] h1) (fun x4 h3 =>
              bif decide (x4 = 0) then
                some (some (.inl 0), h3)
              else
                bif aok h3.1 v0 4 && true then
                  bI (cl xs d 58 [.inr (.inr v0)] h3) (fun x6 h5 =>
                  bif decide (x6 = 0) then
                    some (some (.inl 0), h5)
                  else
                    bif aok h5.1 v0 4 && true then
                      bI (cl xs d 51 [.inr (.inr v0), .inl 60] h5) (fun x8 h7 =>
                      bif decide (x8 = 0) then
                        some (some (.inl 0), h7)
                      else
                        bif aok h7.1 v0 4 && true then
                          bI (cl xs d 58 [.inr (.inr v0)] h7) (fun x10 h9 =>
                          bif decide (x10 = 0) then
                            some (some (.inl 0), h9)
                          else
                            bif aok h9.1 v0 4 && true then
                              bI (cl xs d 51 [.inr (.inr v0), .inl 144] h9) (fun x12 h11 =>
                              bif decide (x12 = 0) then
                                some (some (.inl 0), h11)
                              else
                                bif aok h11.1 v0 4 && true then
                                  bI (cl xs d 58 [.inr (.inr v0)] h11) (fun x14 h13 =>
                                  bif decide (x14 = 0) then
                                    some (some (.inl 0), h13)
                                  else
                                    bif aok h13.1 v0 4 && true then
                                      bI (cl xs d 51 [.inr (.inr v0), .inl 145] h13) (fun x16 h15 =>
                                      bif decide (¬ x16 = 0) then
                                        ev xs d mm_57 13 [some (.inr (.inr v0)), some (.inl (w32 (v1 + 1)))] [] h15
                                      else
                                        some (some (.inl 0), h15))
                                    else none)
                                else none)
                            else none)
                        else none)
                    else none)
                else none)
            else none
          else
            bif aok h1.1 v0 4 && true then
              bI (cl xs d 50 [.inr (.inr v0), .inl 2] h1) (fun x18 h17 =>
              bif decide (x18 = 0) || decide (x18 = 1) then some (some (.inl x18), h17) else none)
            else none)
      else none
    else none :=
  (aB gP gX xs stp_57 40 d mm_57 13 _ _ h).trans rfl

set_option maxRecDepth 100000 in
set_option maxHeartbeats 4000000 in
theorem q_57_111 (xs : List Int) (d : Nat) (v0 : Int) (v1 : Int) (h : aH) : ev xs d mm_57 111 [some (.inr (.inr v0)), some (.inl v1)] [] h =
  bif aok h.1 v0 4 && true then
    bI (cl xs d 58 [.inr (.inr v0)] h) (fun x2 h1 =>
    bif decide (x2 = 0) || decide (x2 = 1) then some (some (.inl x2), h1) else none)
  else none :=
  (aB gP gX xs stp_57 4 d mm_57 111 _ _ h).trans rfl

theorem c_57 (xs : List Int) (d : Nat) (v0 : Int) (h : aH) : cl xs (d + 1) 57 [.inr (.inr v0)] h =
  bif aok h.1 v0 4 && true then
    bI (cl xs d 51 [.inr (.inr v0), .inl 61] h) (fun x2 h1 =>
    bif decide (¬ x2 = 0) then
      ev xs d mm_57 13 [some (.inr (.inr v0)), some (.inl 0)] [] h1
    else
      some (some (.inl 0), h1))
  else none :=
  (show _ = ev xs d mm_57 0 [some (.inr (.inr v0)), none] [] h from rfl).trans (q_57_0 xs d v0 h)
def stp_58 : List Nat := [0, 6, 49, 136]
set_option maxRecDepth 100000 in
set_option maxHeartbeats 4000000 in
theorem q_58_0 (xs : List Int) (d : Nat) (v0 : Int) (h : aH) : ev xs d mm_58 0 [some (.inr (.inr v0)), none, none, none, none] [] h =
  ev xs d mm_58 6 [some (.inr (.inr v0)), some (.inl 0), some (.inl 1), some (.inl 0), none] [] h :=
  (aB gP gX xs stp_58 7 d mm_58 0 _ _ h).trans rfl

set_option maxRecDepth 100000 in
set_option maxHeartbeats 4000000 in
theorem q_58_6 (xs : List Int) (d : Nat) (v0 : Int) (v1 : Int) (v2 : Int) (v3 : Int) (u4 : Option aV) (h : aH) : ev xs d mm_58 6 [some (.inr (.inr v0)), some (.inl v1), some (.inl v2), some (.inl v3), u4] [] h =
  bif decide (400 < v3) then
    some (some (.inl 1), h)
  else
    bif aok h.1 v0 4 then
      bif aok h.1 v0 4 && true then
        bI (cl xs d 37 [.inr (.inr v0), .inl (h.2 v0.toNat 7)] h) (fun x2 h1 =>
        bif decide (v2 = 0) then
          ev xs d mm_58 49 [some (.inr (.inr v0)), some (.inl v1), some (.inl v2), some (.inl v3), some (.inl x2)] [] h1
        else
          bif decide (¬ x2 = 40) then
            ev xs d mm_58 49 [some (.inr (.inr v0)), some (.inl v1), some (.inl v2), some (.inl v3), some (.inl x2)] [] h1
          else
            bif decide ((w32 (v1 + 1)) ≤ 6) then
              ev xs d mm_58 136 [some (.inr (.inr v0)), some (.inl (w32 (v1 + 1))), some (.inl v2), some (.inl v3), some (.inl x2)] [] h1
            else
              bif aok h1.1 v0 4 && true then
                bI (cl xs d 50 [.inr (.inr v0), .inl 2] h1) (fun x4 h3 =>
                bif decide (x4 = 0) || decide (x4 = 1) then some (some (.inl x4), h3) else none)
              else none)
      else none
    else none :=
  (aB gP gX xs stp_58 22 d mm_58 6 _ _ h).trans rfl

set_option maxRecDepth 100000 in
set_option maxHeartbeats 4000000 in
theorem q_58_49 (xs : List Int) (d : Nat) (v0 : Int) (v1 : Int) (v2 : Int) (v3 : Int) (v4 : Int) (h : aH) : ev xs d mm_58 49 [some (.inr (.inr v0)), some (.inl v1), some (.inl v2), some (.inl v3), some (.inl v4)] [] h =
  bif decide (v2 = 0) then
    bif decide (v4 = 43) then
      ev xs d mm_58 136 [some (.inr (.inr v0)), some (.inl v1), some (.inl 1), some (.inl v3), some (.inl v4)] [] h
    else
      bif decide (v4 = 45) then
        ev xs d mm_58 136 [some (.inr (.inr v0)), some (.inl v1), some (.inl 1), some (.inl v3), some (.inl v4)] [] h
      else
        bif decide (v4 = 42) then
          ev xs d mm_58 136 [some (.inr (.inr v0)), some (.inl v1), some (.inl 1), some (.inl v3), some (.inl v4)] [] h
        else
          bif decide (¬ v4 = 47) then
            bif decide (¬ v1 = 0) then
              bif decide (¬ v4 = 41) then
                bif aok h.1 v0 4 && true then
                  bI (cl xs d 50 [.inr (.inr v0), .inl 1] h) (fun x2 h1 =>
                  bif decide (x2 = 0) || decide (x2 = 1) then some (some (.inl x2), h1) else none)
                else none
              else
                ev xs d mm_58 136 [some (.inr (.inr v0)), some (.inl (w32 (v1 + (-1)))), some (.inl v2), some (.inl v3), some (.inl v4)] [] h
            else
              some (some (.inl 1), h)
          else
            ev xs d mm_58 136 [some (.inr (.inr v0)), some (.inl v1), some (.inl 1), some (.inl v3), some (.inl v4)] [] h
  else
    bif decide (v4 = 3) then
      ev xs d mm_58 136 [some (.inr (.inr v0)), some (.inl v1), some (.inl 0), some (.inl v3), some (.inl v4)] [] h
    else
      bI (cl xs d 59 [.inl v4] h) (fun x4 h3 =>
        bif decide (¬ x4 = 0) then
          ev xs d mm_58 136 [some (.inr (.inr v0)), some (.inl v1), some (.inl 0), some (.inl v3), some (.inl v4)] [] h3
        else
          bif aok h3.1 v0 4 && true then
            bI (cl xs d 50 [.inr (.inr v0), .inl 1] h3) (fun x6 h5 =>
            bif decide (x6 = 0) || decide (x6 = 1) then some (some (.inl x6), h5) else none)
          else none) :=
  (aB gP gX xs stp_58 24 d mm_58 49 _ _ h).trans rfl

set_option maxRecDepth 100000 in
set_option maxHeartbeats 4000000 in
theorem q_58_136 (xs : List Int) (d : Nat) (v0 : Int) (v1 : Int) (v2 : Int) (v3 : Int) (v4 : Int) (h : aH) : ev xs d mm_58 136 [some (.inr (.inr v0)), some (.inl v1), some (.inl v2), some (.inl v3), some (.inl v4)] [] h =
  bif aok h.1 v0 4 && true then
    bI (cl xs d 51 [.inr (.inr v0), .inl v4] h) (fun x2 h1 =>
    bif decide (¬ x2 = 0) then
      ev xs d mm_58 6 [some (.inr (.inr v0)), some (.inl v1), some (.inl v2), some (.inl (w32 (v3 + 1))), some (.inl v4)] [] h1
    else
      some (some (.inl 0), h1))
  else none :=
  (aB gP gX xs stp_58 7 d mm_58 136 _ _ h).trans rfl

theorem c_58 (xs : List Int) (d : Nat) (v0 : Int) (h : aH) : cl xs (d + 1) 58 [.inr (.inr v0)] h =
  ev xs d mm_58 6 [some (.inr (.inr v0)), some (.inl 0), some (.inl 1), some (.inl 0), none] [] h :=
  (show _ = ev xs d mm_58 0 [some (.inr (.inr v0)), none, none, none, none] [] h from rfl).trans (q_58_0 xs d v0 h)
def stp_59 : List Nat := [0]
set_option maxRecDepth 100000 in
set_option maxHeartbeats 4000000 in
theorem q_59_0 (xs : List Int) (d : Nat) (v0 : Int) (h : aH) : ev xs d mm_59 0 [some (.inl v0)] [] h =
  bif decide (v0 < 146) then
    some (some (.inl 0), h)
  else
    bif decide (151 < v0) then
      some (some (.inl 0), h)
    else
      some (some (.inl 1), h) :=
  (aB gP gX xs stp_59 10 d mm_59 0 _ _ h).trans rfl

theorem c_59 (xs : List Int) (d : Nat) (v0 : Int) (h : aH) : cl xs (d + 1) 59 [.inl v0] h =
  bif decide (v0 < 146) then
    some (some (.inl 0), h)
  else
    bif decide (151 < v0) then
      some (some (.inl 0), h)
    else
      some (some (.inl 1), h) :=
  (show _ = ev xs d mm_59 0 [some (.inl v0)] [] h from rfl).trans (q_59_0 xs d v0 h)
def stp_60 : List Nat := [0, 19, 25, 34, 43, 52]
set_option maxRecDepth 100000 in
set_option maxHeartbeats 4000000 in
theorem q_60_0 (xs : List Int) (d : Nat) (v0 : Int) (h : aH) : ev xs d mm_60 0 [some (.inr (.inr v0))] [] h =
  bif decide (0 ≤ v0) && true then
    bif aok h.1 v0 5 && true then
      bif aok h.1 v0 5 then
        bif aok h.1 v0 5 then
          ev xs d mm_60 19 [some (.inr (.inr v0))] [] (h.1, aup (aup (aup h.2 v0.toNat 0 0) v0.toNat 1 1) v0.toNat 2 0)
        else none
      else none
    else none
  else none :=
  (aB gP gX xs stp_60 12 d mm_60 0 _ _ h).trans rfl

set_option maxRecDepth 100000 in
set_option maxHeartbeats 4000000 in
theorem q_60_19 (xs : List Int) (d : Nat) (v0 : Int) (h : aH) : ev xs d mm_60 19 [some (.inr (.inr v0))] [] h =
  ev xs d mm_60 25 [some (.inr (.inr v0))] [.inr (.inr (h.1.1 : Int)), .inr (.inr v0)] ((h.1.1 + 1, h.1.2.1 + (1024 : Int).toNat, fun q => if q = h.1.1 then (101, (1024 : Int).toNat) else h.1.2.2 q), fun q j => if q = h.1.1 then 0 else h.2 q j) :=
  (aB gP gX xs stp_60 4 d mm_60 19 _ _ h).trans rfl

set_option maxRecDepth 100000 in
set_option maxHeartbeats 4000000 in
theorem q_60_25 (xs : List Int) (d : Nat) (v0 : Int) (s0 : Int) (s1 : Int) (h : aH) : ev xs d mm_60 25 [some (.inr (.inr v0))] [.inr (.inr s1), .inr (.inr s0)] h =
  bif aok h.1 s0 5 then
    ev xs d mm_60 34 [some (.inr (.inr v0))] [.inr (.inr (h.1.1 : Int)), .inr (.inr v0)] ((h.1.1 + 1, h.1.2.1 + (128 : Int).toNat, fun q => if q = h.1.1 then (100, (128 : Int).toNat) else h.1.2.2 q), fun q j => if q = h.1.1 then 0 else (aup h.2 s0.toNat 3 s1) q j)
  else none :=
  (aB gP gX xs stp_60 5 d mm_60 25 _ _ h).trans rfl

set_option maxRecDepth 100000 in
set_option maxHeartbeats 4000000 in
theorem q_60_34 (xs : List Int) (d : Nat) (v0 : Int) (s0 : Int) (s1 : Int) (h : aH) : ev xs d mm_60 34 [some (.inr (.inr v0))] [.inr (.inr s1), .inr (.inr s0)] h =
  bif aok h.1 s0 5 then
    ev xs d mm_60 43 [some (.inr (.inr v0))] [.inr (.inr (h.1.1 : Int)), .inr (.inr v0)] ((h.1.1 + 1, h.1.2.1 + (128 : Int).toNat, fun q => if q = h.1.1 then (100, (128 : Int).toNat) else h.1.2.2 q), fun q j => if q = h.1.1 then 0 else (aup h.2 s0.toNat 4 s1) q j)
  else none :=
  (aB gP gX xs stp_60 5 d mm_60 34 _ _ h).trans rfl

set_option maxRecDepth 100000 in
set_option maxHeartbeats 4000000 in
theorem q_60_43 (xs : List Int) (d : Nat) (v0 : Int) (s0 : Int) (s1 : Int) (h : aH) : ev xs d mm_60 43 [some (.inr (.inr v0))] [.inr (.inr s1), .inr (.inr s0)] h =
  bif aok h.1 s0 5 then
    ev xs d mm_60 52 [some (.inr (.inr v0))] [.inr (.inr (h.1.1 : Int)), .inr (.inr v0)] ((h.1.1 + 1, h.1.2.1 + (128 : Int).toNat, fun q => if q = h.1.1 then (101, (128 : Int).toNat) else h.1.2.2 q), fun q j => if q = h.1.1 then 0 else (aup h.2 s0.toNat 5 s1) q j)
  else none :=
  (aB gP gX xs stp_60 5 d mm_60 43 _ _ h).trans rfl

set_option maxRecDepth 100000 in
set_option maxHeartbeats 4000000 in
theorem q_60_52 (xs : List Int) (d : Nat) (v0 : Int) (s0 : Int) (s1 : Int) (h : aH) : ev xs d mm_60 52 [some (.inr (.inr v0))] [.inr (.inr s1), .inr (.inr s0)] h =
  bif aok h.1 s0 5 then
    some (none, (h.1, aup h.2 s0.toNat 6 s1))
  else none :=
  (aB gP gX xs stp_60 3 d mm_60 52 _ _ h).trans rfl

theorem c_60 (xs : List Int) (d : Nat) (v0 : Int) (h : aH) : cl xs (d + 1) 60 [.inr (.inr v0)] h =
  bif decide (0 ≤ v0) && true then
    bif aok h.1 v0 5 && true then
      bif aok h.1 v0 5 then
        bif aok h.1 v0 5 then
          ev xs d mm_60 19 [some (.inr (.inr v0))] [] (h.1, aup (aup (aup h.2 v0.toNat 0 0) v0.toNat 1 1) v0.toNat 2 0)
        else none
      else none
    else none
  else none :=
  (show _ = ev xs d mm_60 0 [some (.inr (.inr v0))] [] h from rfl).trans (q_60_0 xs d v0 h)
def stp_61 : List Nat := [0, 36, 41, 78]
set_option maxRecDepth 100000 in
set_option maxHeartbeats 4000000 in
theorem q_61_0 (xs : List Int) (d : Nat) (v0 : Int) (v1 : Int) (v2 : Int) (h : aH) : ev xs d mm_61 0 [some (.inr (.inr v0)), some (.inr (.inr v1)), some (.inr (.inr v2)), none, none] [] h =
  bif aok h.1 v1 9 then
    bif aok h.1 (h.2 v1.toNat 3) 7 then
      bif aok h.1 v0 5 then
        bif aok h.1 v0 5 then
          bif aok h.1 v0 5 then
            bif aok h.1 v1 9 then
              bif aok h.1 v0 5 then
                bif aok h.1 ((aup (aup h.2 v0.toNat 2 (h.2 (h.2 v1.toNat 3).toNat 0)) v0.toNat 1 (oshl 1 ((aup h.2 v0.toNat 2 (h.2 (h.2 v1.toNat 3).toNat 0)) v0.toNat 2))) v1.toNat 8) 101 && (aok h.1 ((aup (aup h.2 v0.toNat 2 (h.2 (h.2 v1.toNat 3).toNat 0)) v0.toNat 1 (oshl 1 ((aup h.2 v0.toNat 2 (h.2 (h.2 v1.toNat 3).toNat 0)) v0.toNat 2))) v0.toNat 3) 101 && (decide (0 ≤ 0) && (decide (0 ≤ 0) && (decide (0 ≤ 8) && (decide ((0 : Int).toNat + (8 : Int).toNat ≤ aln h.1 ((aup (aup h.2 v0.toNat 2 (h.2 (h.2 v1.toNat 3).toNat 0)) v0.toNat 1 (oshl 1 ((aup h.2 v0.toNat 2 (h.2 (h.2 v1.toNat 3).toNat 0)) v0.toNat 2))) v1.toNat 8)) && (decide ((0 : Int).toNat + (8 : Int).toNat ≤ aln h.1 ((aup (aup h.2 v0.toNat 2 (h.2 (h.2 v1.toNat 3).toNat 0)) v0.toNat 1 (oshl 1 ((aup h.2 v0.toNat 2 (h.2 (h.2 v1.toNat 3).toNat 0)) v0.toNat 2))) v0.toNat 3)) && true)))))) then
                  ev xs d mm_61 36 [some (.inr (.inr v0)), some (.inr (.inr v1)), some (.inr (.inr v2)), none, none] [] (h.1, fun q j => if q = ((aup (aup h.2 v0.toNat 2 (h.2 (h.2 v1.toNat 3).toNat 0)) v0.toNat 1 (oshl 1 ((aup h.2 v0.toNat 2 (h.2 (h.2 v1.toNat 3).toNat 0)) v0.toNat 2))) v0.toNat 3).toNat then acpy ((aup (aup h.2 v0.toNat 2 (h.2 (h.2 v1.toNat 3).toNat 0)) v0.toNat 1 (oshl 1 ((aup h.2 v0.toNat 2 (h.2 (h.2 v1.toNat 3).toNat 0)) v0.toNat 2))) ((aup (aup h.2 v0.toNat 2 (h.2 (h.2 v1.toNat 3).toNat 0)) v0.toNat 1 (oshl 1 ((aup h.2 v0.toNat 2 (h.2 (h.2 v1.toNat 3).toNat 0)) v0.toNat 2))) v1.toNat 8).toNat) ((aup (aup h.2 v0.toNat 2 (h.2 (h.2 v1.toNat 3).toNat 0)) v0.toNat 1 (oshl 1 ((aup h.2 v0.toNat 2 (h.2 (h.2 v1.toNat 3).toNat 0)) v0.toNat 2))) ((aup (aup h.2 v0.toNat 2 (h.2 (h.2 v1.toNat 3).toNat 0)) v0.toNat 1 (oshl 1 ((aup h.2 v0.toNat 2 (h.2 (h.2 v1.toNat 3).toNat 0)) v0.toNat 2))) v0.toNat 3).toNat) (0 : Int).toNat (0 : Int).toNat (8 : Int).toNat j else (aup (aup h.2 v0.toNat 2 (h.2 (h.2 v1.toNat 3).toNat 0)) v0.toNat 1 (oshl 1 ((aup h.2 v0.toNat 2 (h.2 (h.2 v1.toNat 3).toNat 0)) v0.toNat 2))) q j)
                else none
              else none
            else none
          else none
        else none
      else none
    else none
  else none :=
  (aB gP gX xs stp_61 20 d mm_61 0 _ _ h).trans rfl

set_option maxRecDepth 100000 in
set_option maxHeartbeats 4000000 in
theorem q_61_36 (xs : List Int) (d : Nat) (v0 : Int) (v1 : Int) (v2 : Int) (u3 : Option aV) (u4 : Option aV) (h : aH) : ev xs d mm_61 36 [some (.inr (.inr v0)), some (.inr (.inr v1)), some (.inr (.inr v2)), u3, u4] [] h =
  ev xs d mm_61 41 [some (.inr (.inr v0)), some (.inr (.inr v1)), some (.inr (.inr v2)), some (.inl 0), some (.inl 0)] [] h :=
  (aB gP gX xs stp_61 5 d mm_61 36 _ _ h).trans rfl

set_option maxRecDepth 100000 in
set_option maxHeartbeats 4000000 in
theorem q_61_41 (xs : List Int) (d : Nat) (v0 : Int) (v1 : Int) (v2 : Int) (v3 : Int) (v4 : Int) (h : aH) : ev xs d mm_61 41 [some (.inr (.inr v0)), some (.inr (.inr v1)), some (.inr (.inr v2)), some (.inl v3), some (.inl v4)] [] h =
  bif aok h.1 v0 5 then
    bif decide ((h.2 v0.toNat 2) ≤ v4) then
      ev xs d mm_61 78 [some (.inr (.inr v0)), some (.inr (.inr v1)), some (.inr (.inr v2)), some (.inl v3), some (.inl 0)] [] h
    else
      bif ain h.1 v2 100 v4 then
        bif aok h.1 v0 5 && true then
          bV (cl xs d 62 [.inr (.inr v0), .inr (.inr v1), .inl v3, .inl (h.2 v2.toNat v4.toNat)] h) (fun h1 =>
          bif ain h1.1 v2 100 v4 then
            ev xs d mm_61 41 [some (.inr (.inr v0)), some (.inr (.inr v1)), some (.inr (.inr v2)), some (.inl (oor v3 (oshl 1 (h1.2 v2.toNat v4.toNat)))), some (.inl (w32 (v4 + 1)))] [] h1
          else none)
        else none
      else none
  else none :=
  (aB gP gX xs stp_61 22 d mm_61 41 _ _ h).trans rfl

set_option maxRecDepth 100000 in
set_option maxHeartbeats 4000000 in
theorem q_61_78 (xs : List Int) (d : Nat) (v0 : Int) (v1 : Int) (v2 : Int) (v3 : Int) (v4 : Int) (h : aH) : ev xs d mm_61 78 [some (.inr (.inr v0)), some (.inr (.inr v1)), some (.inr (.inr v2)), some (.inl v3), some (.inl v4)] [] h =
  bif aok h.1 v0 5 then
    bif decide ((h.2 v0.toNat 1) ≤ v4) then
      bif aok h.1 v0 5 && true then
        some (none, (h.1, aup h.2 v0.toNat 0 1))
      else none
    else
      bif aok h.1 v0 5 && true then
        bV (cl xs d 63 [.inr (.inr v0), .inr (.inr v1), .inl v4] h) (fun h1 =>
        ev xs d mm_61 78 [some (.inr (.inr v0)), some (.inr (.inr v1)), some (.inr (.inr v2)), some (.inl v3), some (.inl (w32 (v4 + 1)))] [] h1)
      else none
  else none :=
  (aB gP gX xs stp_61 11 d mm_61 78 _ _ h).trans rfl

theorem c_61 (xs : List Int) (d : Nat) (v0 : Int) (v1 : Int) (v2 : Int) (h : aH) : cl xs (d + 1) 61 [.inr (.inr v0), .inr (.inr v1), .inr (.inr v2)] h =
  bif aok h.1 v1 9 then
    bif aok h.1 (h.2 v1.toNat 3) 7 then
      bif aok h.1 v0 5 then
        bif aok h.1 v0 5 then
          bif aok h.1 v0 5 then
            bif aok h.1 v1 9 then
              bif aok h.1 v0 5 then
                bif aok h.1 ((aup (aup h.2 v0.toNat 2 (h.2 (h.2 v1.toNat 3).toNat 0)) v0.toNat 1 (oshl 1 ((aup h.2 v0.toNat 2 (h.2 (h.2 v1.toNat 3).toNat 0)) v0.toNat 2))) v1.toNat 8) 101 && (aok h.1 ((aup (aup h.2 v0.toNat 2 (h.2 (h.2 v1.toNat 3).toNat 0)) v0.toNat 1 (oshl 1 ((aup h.2 v0.toNat 2 (h.2 (h.2 v1.toNat 3).toNat 0)) v0.toNat 2))) v0.toNat 3) 101 && (decide (0 ≤ 0) && (decide (0 ≤ 0) && (decide (0 ≤ 8) && (decide ((0 : Int).toNat + (8 : Int).toNat ≤ aln h.1 ((aup (aup h.2 v0.toNat 2 (h.2 (h.2 v1.toNat 3).toNat 0)) v0.toNat 1 (oshl 1 ((aup h.2 v0.toNat 2 (h.2 (h.2 v1.toNat 3).toNat 0)) v0.toNat 2))) v1.toNat 8)) && (decide ((0 : Int).toNat + (8 : Int).toNat ≤ aln h.1 ((aup (aup h.2 v0.toNat 2 (h.2 (h.2 v1.toNat 3).toNat 0)) v0.toNat 1 (oshl 1 ((aup h.2 v0.toNat 2 (h.2 (h.2 v1.toNat 3).toNat 0)) v0.toNat 2))) v0.toNat 3)) && true)))))) then
                  ev xs d mm_61 36 [some (.inr (.inr v0)), some (.inr (.inr v1)), some (.inr (.inr v2)), none, none] [] (h.1, fun q j => if q = ((aup (aup h.2 v0.toNat 2 (h.2 (h.2 v1.toNat 3).toNat 0)) v0.toNat 1 (oshl 1 ((aup h.2 v0.toNat 2 (h.2 (h.2 v1.toNat 3).toNat 0)) v0.toNat 2))) v0.toNat 3).toNat then acpy ((aup (aup h.2 v0.toNat 2 (h.2 (h.2 v1.toNat 3).toNat 0)) v0.toNat 1 (oshl 1 ((aup h.2 v0.toNat 2 (h.2 (h.2 v1.toNat 3).toNat 0)) v0.toNat 2))) ((aup (aup h.2 v0.toNat 2 (h.2 (h.2 v1.toNat 3).toNat 0)) v0.toNat 1 (oshl 1 ((aup h.2 v0.toNat 2 (h.2 (h.2 v1.toNat 3).toNat 0)) v0.toNat 2))) v1.toNat 8).toNat) ((aup (aup h.2 v0.toNat 2 (h.2 (h.2 v1.toNat 3).toNat 0)) v0.toNat 1 (oshl 1 ((aup h.2 v0.toNat 2 (h.2 (h.2 v1.toNat 3).toNat 0)) v0.toNat 2))) ((aup (aup h.2 v0.toNat 2 (h.2 (h.2 v1.toNat 3).toNat 0)) v0.toNat 1 (oshl 1 ((aup h.2 v0.toNat 2 (h.2 (h.2 v1.toNat 3).toNat 0)) v0.toNat 2))) v0.toNat 3).toNat) (0 : Int).toNat (0 : Int).toNat (8 : Int).toNat j else (aup (aup h.2 v0.toNat 2 (h.2 (h.2 v1.toNat 3).toNat 0)) v0.toNat 1 (oshl 1 ((aup h.2 v0.toNat 2 (h.2 (h.2 v1.toNat 3).toNat 0)) v0.toNat 2))) q j)
                else none
              else none
            else none
          else none
        else none
      else none
    else none
  else none :=
  (show _ = ev xs d mm_61 0 [some (.inr (.inr v0)), some (.inr (.inr v1)), some (.inr (.inr v2)), none, none] [] h from rfl).trans (q_61_0 xs d v0 v1 v2 h)
def stp_62 : List Nat := [0, 3, 32]
set_option maxRecDepth 100000 in
set_option maxHeartbeats 4000000 in
theorem q_62_0 (xs : List Int) (d : Nat) (v0 : Int) (v1 : Int) (v2 : Int) (v3 : Int) (h : aH) : ev xs d mm_62 0 [some (.inr (.inr v0)), some (.inr (.inr v1)), some (.inl v2), some (.inl v3), none, none, none] [] h =
  ev xs d mm_62 3 [some (.inr (.inr v0)), some (.inr (.inr v1)), some (.inl v2), some (.inl v3), some (.inl 0), none, none] [] h :=
  (aB gP gX xs stp_62 3 d mm_62 0 _ _ h).trans rfl

set_option maxRecDepth 100000 in
set_option maxHeartbeats 4000000 in
theorem q_62_3 (xs : List Int) (d : Nat) (v0 : Int) (v1 : Int) (v2 : Int) (v3 : Int) (v4 : Int) (u5 : Option aV) (u6 : Option aV) (h : aH) : ev xs d mm_62 3 [some (.inr (.inr v0)), some (.inr (.inr v1)), some (.inl v2), some (.inl v3), some (.inl v4), u5, u6] [] h =
  bif aok h.1 v0 5 then
    bif decide ((h.2 v0.toNat 1) ≤ v4) then
      some (none, h)
    else
      bif decide (¬ (oand v4 (oxor v2 (-1))) = 0) then
        ev xs d mm_62 3 [some (.inr (.inr v0)), some (.inr (.inr v1)), some (.inl v2), some (.inl v3), some (.inl (w32 (v4 + 1))), u5, u6] [] h
      else
        ev xs d mm_62 32 [some (.inr (.inr v0)), some (.inr (.inr v1)), some (.inl v2), some (.inl v3), some (.inl v4), some (.inl (oor v4 (oshl 1 v3))), some (.inl 0)] [] h
  else none :=
  (aB gP gX xs stp_62 19 d mm_62 3 _ _ h).trans rfl

set_option maxRecDepth 100000 in
set_option maxHeartbeats 4000000 in
theorem q_62_32 (xs : List Int) (d : Nat) (v0 : Int) (v1 : Int) (v2 : Int) (v3 : Int) (v4 : Int) (v5 : Int) (v6 : Int) (h : aH) : ev xs d mm_62 32 [some (.inr (.inr v0)), some (.inr (.inr v1)), some (.inl v2), some (.inl v3), some (.inl v4), some (.inl v5), some (.inl v6)] [] h =
  bif aok h.1 v1 9 then
    bif decide ((h.2 v1.toNat 7) ≤ v6) then
      ev xs d mm_62 3 [some (.inr (.inr v0)), some (.inr (.inr v1)), some (.inl v2), some (.inl v3), some (.inl (w32 (v4 + 1))), some (.inl v5), some (.inl v6)] [] h
    else
      bif aok h.1 v0 5 then
        bif aok h.1 v1 9 then
          bif aok h.1 v0 5 then
            bif ain h.1 (h.2 v0.toNat 3) 101 (w32 ((w32 (v4 * 8)) + v6)) then
              bif aok h.1 (h.2 v1.toNat 3) 7 && true then
                bJ (cl xs d 86 [.inr (.inr (h.2 v1.toNat 3)), .inl v3, .inr (.inl (h.2 (h.2 v0.toNat 3).toNat (w32 ((w32 (v4 * 8)) + v6)).toNat))] h) (fun x2 h1 =>
                bif ain h1.1 (h.2 v0.toNat 3) 101 (w32 ((w32 (v5 * 8)) + v6)) then
                  ev xs d mm_62 32 [some (.inr (.inr v0)), some (.inr (.inr v1)), some (.inl v2), some (.inl v3), some (.inl v4), some (.inl v5), some (.inl (w32 (v6 + 1)))] [] (h1.1, aup h1.2 (h.2 v0.toNat 3).toNat (w32 ((w32 (v5 * 8)) + v6)).toNat x2)
                else none)
              else none
            else none
          else none
        else none
      else none
  else none :=
  (aB gP gX xs stp_62 27 d mm_62 32 _ _ h).trans rfl

theorem c_62 (xs : List Int) (d : Nat) (v0 : Int) (v1 : Int) (v2 : Int) (v3 : Int) (h : aH) : cl xs (d + 1) 62 [.inr (.inr v0), .inr (.inr v1), .inl v2, .inl v3] h =
  ev xs d mm_62 3 [some (.inr (.inr v0)), some (.inr (.inr v1)), some (.inl v2), some (.inl v3), some (.inl 0), none, none] [] h :=
  (show _ = ev xs d mm_62 0 [some (.inr (.inr v0)), some (.inr (.inr v1)), some (.inl v2), some (.inl v3), none, none, none] [] h from rfl).trans (q_62_0 xs d v0 v1 v2 v3 h)
def stp_63 : List Nat := [0, 16, 61, 84]
set_option maxRecDepth 100000 in
set_option maxHeartbeats 4000000 in
theorem q_63_0 (xs : List Int) (d : Nat) (v0 : Int) (v1 : Int) (v2 : Int) (h : aH) : ev xs d mm_63 0 [some (.inr (.inr v0)), some (.inr (.inr v1)), some (.inl v2), none, none, none] [] h =
  bif aok h.1 v0 5 then
    bif ain h.1 (h.2 v0.toNat 4) 100 v2 then
      bif aok h.1 v0 5 then
        bif ain h.1 ((aup h.2 (h.2 v0.toNat 4).toNat v2.toNat 0) v0.toNat 5) 100 v2 then
          ev xs d mm_63 16 [some (.inr (.inr v0)), some (.inr (.inr v1)), some (.inl v2), some (.inl 0), none, none] [] (h.1, aup (aup h.2 (h.2 v0.toNat 4).toNat v2.toNat 0) ((aup h.2 (h.2 v0.toNat 4).toNat v2.toNat 0) v0.toNat 5).toNat v2.toNat 0)
        else none
      else none
    else none
  else none :=
  (aB gP gX xs stp_63 13 d mm_63 0 _ _ h).trans rfl

set_option maxRecDepth 100000 in
set_option maxHeartbeats 4000000 in
theorem q_63_16 (xs : List Int) (d : Nat) (v0 : Int) (v1 : Int) (v2 : Int) (v3 : Int) (u4 : Option aV) (u5 : Option aV) (h : aH) : ev xs d mm_63 16 [some (.inr (.inr v0)), some (.inr (.inr v1)), some (.inl v2), some (.inl v3), u4, u5] [] h =
  bif aok h.1 v1 9 then
    bif decide ((h.2 v1.toNat 7) ≤ v3) then
      some (none, h)
    else
      bif aok h.1 v0 5 then
        bif ain h.1 (h.2 v0.toNat 3) 101 (w32 ((w32 (v2 * 8)) + v3)) then
          bif aok h.1 v1 9 then
            bif ain h.1 (h.2 v1.toNat 9) 101 v3 then
              bif decide (¬ (olcmp (h.2 (h.2 v0.toNat 3).toNat (w32 ((w32 (v2 * 8)) + v3)).toNat) (h.2 (h.2 v1.toNat 9).toNat v3.toNat)) = 0) then
                ev xs d mm_63 61 [some (.inr (.inr v0)), some (.inr (.inr v1)), some (.inl v2), some (.inl v3), some (.inr (.inl (h.2 (h.2 v0.toNat 3).toNat (w32 ((w32 (v2 * 8)) + v3)).toNat))), none] [] h
              else
                bif aok h.1 v0 5 then
                  bif ain h.1 (h.2 v0.toNat 4) 100 v2 then
                    bif ain h.1 (h.2 v0.toNat 4) 100 v2 then
                      ev xs d mm_63 61 [some (.inr (.inr v0)), some (.inr (.inr v1)), some (.inl v2), some (.inl v3), some (.inr (.inl (h.2 (h.2 v0.toNat 3).toNat (w32 ((w32 (v2 * 8)) + v3)).toNat))), none] [] (h.1, aup h.2 (h.2 v0.toNat 4).toNat v2.toNat (oor (h.2 (h.2 v0.toNat 4).toNat v2.toNat) (oshl 1 v3)))
                    else none
                  else none
                else none
            else none
          else none
        else none
      else none
  else none :=
  (aB gP gX xs stp_63 31 d mm_63 16 _ _ h).trans rfl

set_option maxRecDepth 100000 in
set_option maxHeartbeats 4000000 in
theorem q_63_61 (xs : List Int) (d : Nat) (v0 : Int) (v1 : Int) (v2 : Int) (v3 : Int) (v4 : Int) (u5 : Option aV) (h : aH) : ev xs d mm_63 61 [some (.inr (.inr v0)), some (.inr (.inr v1)), some (.inl v2), some (.inl v3), some (.inr (.inl v4)), u5] [] h =
  bif aok h.1 v1 9 then
    bif ain h.1 (h.2 v1.toNat 10) 101 v3 then
      bif decide ((olcmp (h.2 (h.2 v1.toNat 10).toNat v3.toNat) 0) = 0) then
        ev xs d mm_63 84 [some (.inr (.inr v0)), some (.inr (.inr v1)), some (.inl v2), some (.inl v3), some (.inr (.inl v4)), u5] [] h
      else
        bif aok h.1 v1 9 then
          bif ain h.1 (h.2 v1.toNat 10) 101 v3 then
            bif decide (¬ (olcmp v4 (h.2 (h.2 v1.toNat 10).toNat v3.toNat)) = 0) then
              ev xs d mm_63 16 [some (.inr (.inr v0)), some (.inr (.inr v1)), some (.inl v2), some (.inl (w32 (v3 + 1))), some (.inr (.inl v4)), u5] [] h
            else
              ev xs d mm_63 84 [some (.inr (.inr v0)), some (.inr (.inr v1)), some (.inl v2), some (.inl v3), some (.inr (.inl v4)), u5] [] h
          else none
        else none
    else none
  else none :=
  (aB gP gX xs stp_63 17 d mm_63 61 _ _ h).trans rfl

set_option maxRecDepth 100000 in
set_option maxHeartbeats 4000000 in
theorem q_63_84 (xs : List Int) (d : Nat) (v0 : Int) (v1 : Int) (v2 : Int) (v3 : Int) (v4 : Int) (u5 : Option aV) (h : aH) : ev xs d mm_63 84 [some (.inr (.inr v0)), some (.inr (.inr v1)), some (.inl v2), some (.inl v3), some (.inr (.inl v4)), u5] [] h =
  bif aok h.1 v0 5 then
    bif ain h.1 (h.2 v0.toNat 5) 100 v2 then
      bif ain h.1 (h.2 v0.toNat 5) 100 v2 then
        ev xs d mm_63 16 [some (.inr (.inr v0)), some (.inr (.inr v1)), some (.inl v2), some (.inl (w32 (v3 + 1))), some (.inr (.inl v4)), u5] [] (h.1, aup h.2 (h.2 v0.toNat 5).toNat v2.toNat (oor (h.2 (h.2 v0.toNat 5).toNat v2.toNat) (oshl 1 v3)))
      else none
    else none
  else none :=
  (aB gP gX xs stp_63 13 d mm_63 84 _ _ h).trans rfl

theorem c_63 (xs : List Int) (d : Nat) (v0 : Int) (v1 : Int) (v2 : Int) (h : aH) : cl xs (d + 1) 63 [.inr (.inr v0), .inr (.inr v1), .inl v2] h =
  bif aok h.1 v0 5 then
    bif ain h.1 (h.2 v0.toNat 4) 100 v2 then
      bif aok h.1 v0 5 then
        bif ain h.1 ((aup h.2 (h.2 v0.toNat 4).toNat v2.toNat 0) v0.toNat 5) 100 v2 then
          ev xs d mm_63 16 [some (.inr (.inr v0)), some (.inr (.inr v1)), some (.inl v2), some (.inl 0), none, none] [] (h.1, aup (aup h.2 (h.2 v0.toNat 4).toNat v2.toNat 0) ((aup h.2 (h.2 v0.toNat 4).toNat v2.toNat 0) v0.toNat 5).toNat v2.toNat 0)
        else none
      else none
    else none
  else none :=
  (show _ = ev xs d mm_63 0 [some (.inr (.inr v0)), some (.inr (.inr v1)), some (.inl v2), none, none, none] [] h from rfl).trans (q_63_0 xs d v0 v1 v2 h)
def stp_64 : List Nat := [0]
set_option maxRecDepth 100000 in
set_option maxHeartbeats 4000000 in
theorem q_64_0 (xs : List Int) (d : Nat) (v0 : Int) (v1 : Int) (v2 : Int) (h : aH) : ev xs d mm_64 0 [some (.inr (.inr v0)), some (.inl v1), some (.inl v2)] [] h =
  bif decide (v1 < 0) then
    some (some (.inl 0), h)
  else
    bif aok h.1 v0 5 then
      bif decide (v1 < (h.2 v0.toNat 1)) then
        bif decide (v2 = 0) then
          bif aok h.1 v0 5 then
            bif ain h.1 (h.2 v0.toNat 4) 100 v1 then
              some (some (.inl (h.2 (h.2 v0.toNat 4).toNat v1.toNat)), h)
            else none
          else none
        else
          bif aok h.1 v0 5 then
            bif ain h.1 (h.2 v0.toNat 5) 100 v1 then
              some (some (.inl (h.2 (h.2 v0.toNat 5).toNat v1.toNat)), h)
            else none
          else none
      else
        some (some (.inl 0), h)
    else none :=
  (aB gP gX xs stp_64 15 d mm_64 0 _ _ h).trans rfl

theorem c_64 (xs : List Int) (d : Nat) (v0 : Int) (v1 : Int) (v2 : Int) (h : aH) : cl xs (d + 1) 64 [.inr (.inr v0), .inl v1, .inl v2] h =
  bif decide (v1 < 0) then
    some (some (.inl 0), h)
  else
    bif aok h.1 v0 5 then
      bif decide (v1 < (h.2 v0.toNat 1)) then
        bif decide (v2 = 0) then
          bif aok h.1 v0 5 then
            bif ain h.1 (h.2 v0.toNat 4) 100 v1 then
              some (some (.inl (h.2 (h.2 v0.toNat 4).toNat v1.toNat)), h)
            else none
          else none
        else
          bif aok h.1 v0 5 then
            bif ain h.1 (h.2 v0.toNat 5) 100 v1 then
              some (some (.inl (h.2 (h.2 v0.toNat 5).toNat v1.toNat)), h)
            else none
          else none
      else
        some (some (.inl 0), h)
    else none :=
  (show _ = ev xs d mm_64 0 [some (.inr (.inr v0)), some (.inl v1), some (.inl v2)] [] h from rfl).trans (q_64_0 xs d v0 v1 v2 h)
def stp_65 : List Nat := [0]
set_option maxRecDepth 100000 in
set_option maxHeartbeats 4000000 in
theorem q_65_0 (xs : List Int) (d : Nat) (v0 : Int) (v1 : Int) (v2 : Int) (v3 : Int) (h : aH) : ev xs d mm_65 0 [some (.inr (.inr v0)), some (.inl v1), some (.inl v2), some (.inl v3)] [] h =
  bI (cl xs d 126 [.inl v2] h) (fun x2 h1 =>
    bif aok h1.1 v0 5 && true then
      bI (cl xs d 64 [.inr (.inr v0), .inl v1, .inl v3] h1) (fun x4 h3 =>
      bif decide (¬ (oand x2 (oxor x4 (-1))) = 0) then
        some (some (.inl 0), h3)
      else
        some (some (.inl 1), h3))
    else none) :=
  (aB gP gX xs stp_65 14 d mm_65 0 _ _ h).trans rfl

theorem c_65 (xs : List Int) (d : Nat) (v0 : Int) (v1 : Int) (v2 : Int) (v3 : Int) (h : aH) : cl xs (d + 1) 65 [.inr (.inr v0), .inl v1, .inl v2, .inl v3] h =
  bI (cl xs d 126 [.inl v2] h) (fun x2 h1 =>
    bif aok h1.1 v0 5 && true then
      bI (cl xs d 64 [.inr (.inr v0), .inl v1, .inl v3] h1) (fun x4 h3 =>
      bif decide (¬ (oand x2 (oxor x4 (-1))) = 0) then
        some (some (.inl 0), h3)
      else
        some (some (.inl 1), h3))
    else none) :=
  (show _ = ev xs d mm_65 0 [some (.inr (.inr v0)), some (.inl v1), some (.inl v2), some (.inl v3)] [] h from rfl).trans (q_65_0 xs d v0 v1 v2 v3 h)
def stp_66 : List Nat := [0, 5]
set_option maxRecDepth 100000 in
set_option maxHeartbeats 4000000 in
theorem q_66_0 (xs : List Int) (d : Nat) (v0 : Int) (v1 : Int) (v2 : Int) (h : aH) : ev xs d mm_66 0 [some (.inr (.inr v0)), some (.inl v1), some (.inl v2), none, none] [] h =
  ev xs d mm_66 5 [some (.inr (.inr v0)), some (.inl v1), some (.inl v2), some (.inl 0), some (.inl 0)] [] h :=
  (aB gP gX xs stp_66 5 d mm_66 0 _ _ h).trans rfl

set_option maxRecDepth 100000 in
set_option maxHeartbeats 4000000 in
theorem q_66_5 (xs : List Int) (d : Nat) (v0 : Int) (v1 : Int) (v2 : Int) (v3 : Int) (v4 : Int) (h : aH) : ev xs d mm_66 5 [some (.inr (.inr v0)), some (.inl v1), some (.inl v2), some (.inl v3), some (.inl v4)] [] h =
  bif aok h.1 v0 5 then
    bif decide ((h.2 v0.toNat 1) ≤ v4) then
      some (some (.inl v3), h)
    else
      bif aok h.1 v0 5 && true then
        bI (cl xs d 65 [.inr (.inr v0), .inl v4, .inl v1, .inl v2] h) (fun x2 h1 =>
        bif decide (x2 = 0) then
          ev xs d mm_66 5 [some (.inr (.inr v0)), some (.inl v1), some (.inl v2), some (.inl (w32 (v3 + 0))), some (.inl (w32 (v4 + 1)))] [] h1
        else
          ev xs d mm_66 5 [some (.inr (.inr v0)), some (.inl v1), some (.inl v2), some (.inl (w32 (v3 + 1))), some (.inl (w32 (v4 + 1)))] [] h1)
      else none
  else none :=
  (aB gP gX xs stp_66 18 d mm_66 5 _ _ h).trans rfl

theorem c_66 (xs : List Int) (d : Nat) (v0 : Int) (v1 : Int) (v2 : Int) (h : aH) : cl xs (d + 1) 66 [.inr (.inr v0), .inl v1, .inl v2] h =
  ev xs d mm_66 5 [some (.inr (.inr v0)), some (.inl v1), some (.inl v2), some (.inl 0), some (.inl 0)] [] h :=
  (show _ = ev xs d mm_66 0 [some (.inr (.inr v0)), some (.inl v1), some (.inl v2), none, none] [] h from rfl).trans (q_66_0 xs d v0 v1 v2 h)
def stp_67 : List Nat := [0, 2]
set_option maxRecDepth 100000 in
set_option maxHeartbeats 4000000 in
theorem q_67_0 (xs : List Int) (d : Nat) (v0 : Int) (v1 : Int) (v2 : Int) (h : aH) : ev xs d mm_67 0 [some (.inr (.inr v0)), some (.inl v1), some (.inl v2), none] [] h =
  ev xs d mm_67 2 [some (.inr (.inr v0)), some (.inl v1), some (.inl v2), some (.inl 0)] [] h :=
  (aB gP gX xs stp_67 3 d mm_67 0 _ _ h).trans rfl

set_option maxRecDepth 100000 in
set_option maxHeartbeats 4000000 in
theorem q_67_2 (xs : List Int) (d : Nat) (v0 : Int) (v1 : Int) (v2 : Int) (v3 : Int) (h : aH) : ev xs d mm_67 2 [some (.inr (.inr v0)), some (.inl v1), some (.inl v2), some (.inl v3)] [] h =
  bif aok h.1 v0 5 then
    bif decide ((h.2 v0.toNat 1) ≤ v3) then
      some (some (.inl (-2)), h)
    else
      bif aok h.1 v0 5 && true then
        bI (cl xs d 65 [.inr (.inr v0), .inl v3, .inl v1, .inl v2] h) (fun x2 h1 =>
        bif decide (x2 = 0) then
          ev xs d mm_67 2 [some (.inr (.inr v0)), some (.inl v1), some (.inl v2), some (.inl (w32 (v3 + 1)))] [] h1
        else
          some (some (.inl v3), h1))
      else none
  else none :=
  (aB gP gX xs stp_67 13 d mm_67 2 _ _ h).trans rfl

theorem c_67 (xs : List Int) (d : Nat) (v0 : Int) (v1 : Int) (v2 : Int) (h : aH) : cl xs (d + 1) 67 [.inr (.inr v0), .inl v1, .inl v2] h =
  ev xs d mm_67 2 [some (.inr (.inr v0)), some (.inl v1), some (.inl v2), some (.inl 0)] [] h :=
  (show _ = ev xs d mm_67 0 [some (.inr (.inr v0)), some (.inl v1), some (.inl v2), none] [] h from rfl).trans (q_67_0 xs d v0 v1 v2 h)
def stp_68 : List Nat := [0, 20]
set_option maxRecDepth 100000 in
set_option maxHeartbeats 4000000 in
theorem q_68_0 (xs : List Int) (d : Nat) (v0 : Int) (v1 : Int) (v2 : Int) (h : aH) : ev xs d mm_68 0 [some (.inr (.inr v0)), some (.inr (.inr v1)), some (.inl v2), none, none, none] [] h =
  bI (cl xs d 316 [.inl v2] h) (fun x2 h1 =>
    bif aok h1.1 v0 5 && true then
      bI (cl xs d 64 [.inr (.inr v0), .inl v2, .inl 0] h1) (fun x4 h3 =>
      ev xs d mm_68 20 [some (.inr (.inr v0)), some (.inr (.inr v1)), some (.inl v2), some (.inl (w32 (3 * x2))), some (.inl (oxor x4 (-1))), some (.inl 0)] [] h3)
    else none) :=
  (aB gP gX xs stp_68 15 d mm_68 0 _ _ h).trans rfl

set_option maxRecDepth 100000 in
set_option maxHeartbeats 4000000 in
theorem q_68_20 (xs : List Int) (d : Nat) (v0 : Int) (v1 : Int) (v2 : Int) (v3 : Int) (v4 : Int) (v5 : Int) (h : aH) : ev xs d mm_68 20 [some (.inr (.inr v0)), some (.inr (.inr v1)), some (.inl v2), some (.inl v3), some (.inl v4), some (.inl v5)] [] h =
  bif aok h.1 v1 9 then
    bif decide ((h.2 v1.toNat 7) ≤ v5) then
      some (some (.inl v3), h)
    else
      bif decide ((oand (oushr v4 v5) 1) = 0) then
        ev xs d mm_68 20 [some (.inr (.inr v0)), some (.inr (.inr v1)), some (.inl v2), some (.inl v3), some (.inl v4), some (.inl (w32 (v5 + 1)))] [] h
      else
        bif aok h.1 v1 9 then
          bif ain h.1 (h.2 v1.toNat 9) 101 v5 then
            bI (cl xs d 121 [.inr (.inl (h.2 (h.2 v1.toNat 9).toNat v5.toNat))] h) (fun x2 h1 =>
              ev xs d mm_68 20 [some (.inr (.inr v0)), some (.inr (.inr v1)), some (.inl v2), some (.inl (w32 (v3 + (w32 (1 + x2))))), some (.inl v4), some (.inl (w32 (v5 + 1)))] [] h1)
          else none
        else none
  else none :=
  (aB gP gX xs stp_68 23 d mm_68 20 _ _ h).trans rfl

theorem c_68 (xs : List Int) (d : Nat) (v0 : Int) (v1 : Int) (v2 : Int) (h : aH) : cl xs (d + 1) 68 [.inr (.inr v0), .inr (.inr v1), .inl v2] h =
  bI (cl xs d 316 [.inl v2] h) (fun x2 h1 =>
    bif aok h1.1 v0 5 && true then
      bI (cl xs d 64 [.inr (.inr v0), .inl v2, .inl 0] h1) (fun x4 h3 =>
      ev xs d mm_68 20 [some (.inr (.inr v0)), some (.inr (.inr v1)), some (.inl v2), some (.inl (w32 (3 * x2))), some (.inl (oxor x4 (-1))), some (.inl 0)] [] h3)
    else none) :=
  (show _ = ev xs d mm_68 0 [some (.inr (.inr v0)), some (.inr (.inr v1)), some (.inl v2), none, none, none] [] h from rfl).trans (q_68_0 xs d v0 v1 v2 h)
def stp_69 : List Nat := [0, 12]
set_option maxRecDepth 100000 in
set_option maxHeartbeats 4000000 in
theorem q_69_0 (xs : List Int) (d : Nat) (v0 : Int) (v1 : Int) (h : aH) : ev xs d mm_69 0 [some (.inr (.inr v0)), some (.inr (.inr v1)), none, none, none, none] [] h =
  bif aok h.1 v0 5 && true then
    bI (cl xs d 68 [.inr (.inr v0), .inr (.inr v1), .inl 0] h) (fun x2 h1 =>
    ev xs d mm_69 12 [some (.inr (.inr v0)), some (.inr (.inr v1)), some (.inl 0), some (.inl x2), some (.inl 1), none] [] h1)
  else none :=
  (aB gP gX xs stp_69 10 d mm_69 0 _ _ h).trans rfl

set_option maxRecDepth 100000 in
set_option maxHeartbeats 4000000 in
theorem q_69_12 (xs : List Int) (d : Nat) (v0 : Int) (v1 : Int) (v2 : Int) (v3 : Int) (v4 : Int) (u5 : Option aV) (h : aH) : ev xs d mm_69 12 [some (.inr (.inr v0)), some (.inr (.inr v1)), some (.inl v2), some (.inl v3), some (.inl v4), u5] [] h =
  bif aok h.1 v0 5 then
    bif decide ((h.2 v0.toNat 1) ≤ v4) then
      some (some (.inl v2), h)
    else
      bif aok h.1 v0 5 && true then
        bI (cl xs d 68 [.inr (.inr v0), .inr (.inr v1), .inl v4] h) (fun x2 h1 =>
        bif decide (x2 < v3) then
          ev xs d mm_69 12 [some (.inr (.inr v0)), some (.inr (.inr v1)), some (.inl v4), some (.inl x2), some (.inl (w32 (v4 + 1))), some (.inl x2)] [] h1
        else
          bif decide (¬ x2 = v3) then
            ev xs d mm_69 12 [some (.inr (.inr v0)), some (.inr (.inr v1)), some (.inl v2), some (.inl v3), some (.inl (w32 (v4 + 1))), some (.inl x2)] [] h1
          else
            bI (cl xs d 316 [.inl v4] h1) (fun x4 h3 =>
              bI (cl xs d 316 [.inl v2] h3) (fun x6 h5 =>
                bif decide (x6 ≤ x4) then
                  ev xs d mm_69 12 [some (.inr (.inr v0)), some (.inr (.inr v1)), some (.inl v2), some (.inl v3), some (.inl (w32 (v4 + 1))), some (.inl x2)] [] h5
                else
                  ev xs d mm_69 12 [some (.inr (.inr v0)), some (.inr (.inr v1)), some (.inl v4), some (.inl x2), some (.inl (w32 (v4 + 1))), some (.inl x2)] [] h5)))
      else none
  else none :=
  (aB gP gX xs stp_69 27 d mm_69 12 _ _ h).trans rfl

theorem c_69 (xs : List Int) (d : Nat) (v0 : Int) (v1 : Int) (h : aH) : cl xs (d + 1) 69 [.inr (.inr v0), .inr (.inr v1)] h =
  bif aok h.1 v0 5 && true then
    bI (cl xs d 68 [.inr (.inr v0), .inr (.inr v1), .inl 0] h) (fun x2 h1 =>
    ev xs d mm_69 12 [some (.inr (.inr v0)), some (.inr (.inr v1)), some (.inl 0), some (.inl x2), some (.inl 1), none] [] h1)
  else none :=
  (show _ = ev xs d mm_69 0 [some (.inr (.inr v0)), some (.inr (.inr v1)), none, none, none, none] [] h from rfl).trans (q_69_0 xs d v0 v1 h)
def stp_70 : List Nat := [0, 5, 46, 75]
set_option maxRecDepth 100000 in
set_option maxHeartbeats 4000000 in
theorem q_70_0 (xs : List Int) (d : Nat) (v0 : Int) (v1 : Int) (v2 : Int) (h : aH) : ev xs d mm_70 0 [some (.inr (.inr v0)), some (.inl v1), some (.inl v2), none, none, none] [] h =
  ev xs d mm_70 5 [some (.inr (.inr v0)), some (.inl v1), some (.inl v2), some (.inl 0), some (.inl 0), none] [] h :=
  (aB gP gX xs stp_70 5 d mm_70 0 _ _ h).trans rfl

set_option maxRecDepth 100000 in
set_option maxHeartbeats 4000000 in
theorem q_70_5 (xs : List Int) (d : Nat) (v0 : Int) (v1 : Int) (v2 : Int) (v3 : Int) (v4 : Int) (u5 : Option aV) (h : aH) : ev xs d mm_70 5 [some (.inr (.inr v0)), some (.inl v1), some (.inl v2), some (.inl v3), some (.inl v4), u5] [] h =
  bif aok h.1 v0 5 then
    bif decide ((h.2 v0.toNat 1) ≤ v4) then
      some (some (.inl v3), h)
    else
      bif aok h.1 v0 5 && true then
        bI (cl xs d 65 [.inr (.inr v0), .inl v4, .inl v2, .inl 0] h) (fun x2 h1 =>
        bif decide (x2 = 0) then
          ev xs d mm_70 5 [some (.inr (.inr v0)), some (.inl v1), some (.inl v2), some (.inl v3), some (.inl (w32 (v4 + 1))), u5] [] h1
        else
          bif aok h1.1 v0 5 then
            bif aok h1.1 v0 5 then
              bif ain h1.1 (h1.2 v0.toNat 3) 101 (w32 ((w32 (v4 * 8)) + v1)) then
                bif ain h1.1 (h1.2 v0.toNat 6) 101 v3 then
                  ev xs d mm_70 46 [some (.inr (.inr v0)), some (.inl v1), some (.inl v2), some (.inl v3), some (.inl v4), some (.inl 0)] [] (h1.1, aup h1.2 (h1.2 v0.toNat 6).toNat v3.toNat (h1.2 (h1.2 v0.toNat 3).toNat (w32 ((w32 (v4 * 8)) + v1)).toNat))
                else none
              else none
            else none
          else none)
      else none
  else none :=
  (aB gP gX xs stp_70 25 d mm_70 5 _ _ h).trans rfl

set_option maxRecDepth 100000 in
set_option maxHeartbeats 4000000 in
theorem q_70_46 (xs : List Int) (d : Nat) (v0 : Int) (v1 : Int) (v2 : Int) (v3 : Int) (v4 : Int) (v5 : Int) (h : aH) : ev xs d mm_70 46 [some (.inr (.inr v0)), some (.inl v1), some (.inl v2), some (.inl v3), some (.inl v4), some (.inl v5)] [] h =
  bif decide (v3 ≤ v5) then
    ev xs d mm_70 75 [some (.inr (.inr v0)), some (.inl v1), some (.inl v2), some (.inl v3), some (.inl v4), some (.inl v5)] [] h
  else
    bif aok h.1 v0 5 then
      bif ain h.1 (h.2 v0.toNat 6) 101 v5 then
        bif aok h.1 v0 5 then
          bif ain h.1 (h.2 v0.toNat 6) 101 v3 then
            bif decide ((olcmp (h.2 (h.2 v0.toNat 6).toNat v5.toNat) (h.2 (h.2 v0.toNat 6).toNat v3.toNat)) = 0) then
              ev xs d mm_70 75 [some (.inr (.inr v0)), some (.inl v1), some (.inl v2), some (.inl v3), some (.inl v4), some (.inl v5)] [] h
            else
              ev xs d mm_70 46 [some (.inr (.inr v0)), some (.inl v1), some (.inl v2), some (.inl v3), some (.inl v4), some (.inl (w32 (v5 + 1)))] [] h
          else none
        else none
      else none
    else none :=
  (aB gP gX xs stp_70 16 d mm_70 46 _ _ h).trans rfl

set_option maxRecDepth 100000 in
set_option maxHeartbeats 4000000 in
theorem q_70_75 (xs : List Int) (d : Nat) (v0 : Int) (v1 : Int) (v2 : Int) (v3 : Int) (v4 : Int) (v5 : Int) (h : aH) : ev xs d mm_70 75 [some (.inr (.inr v0)), some (.inl v1), some (.inl v2), some (.inl v3), some (.inl v4), some (.inl v5)] [] h =
  bif decide (¬ v5 = v3) then
    ev xs d mm_70 5 [some (.inr (.inr v0)), some (.inl v1), some (.inl v2), some (.inl (w32 (v3 + 0))), some (.inl (w32 (v4 + 1))), some (.inl v5)] [] h
  else
    ev xs d mm_70 5 [some (.inr (.inr v0)), some (.inl v1), some (.inl v2), some (.inl (w32 (v3 + 1))), some (.inl (w32 (v4 + 1))), some (.inl v5)] [] h :=
  (aB gP gX xs stp_70 11 d mm_70 75 _ _ h).trans rfl

theorem c_70 (xs : List Int) (d : Nat) (v0 : Int) (v1 : Int) (v2 : Int) (h : aH) : cl xs (d + 1) 70 [.inr (.inr v0), .inl v1, .inl v2] h =
  ev xs d mm_70 5 [some (.inr (.inr v0)), some (.inl v1), some (.inl v2), some (.inl 0), some (.inl 0), none] [] h :=
  (show _ = ev xs d mm_70 0 [some (.inr (.inr v0)), some (.inl v1), some (.inl v2), none, none, none] [] h from rfl).trans (q_70_0 xs d v0 v1 v2 h)
def stp_71 : List Nat := [0, 6, 29]
set_option maxRecDepth 100000 in
set_option maxHeartbeats 4000000 in
theorem q_71_0 (xs : List Int) (d : Nat) (v0 : Int) (v1 : Int) (v2 : Int) (v3 : Int) (h : aH) : ev xs d mm_71 0 [some (.inr (.inr v0)), some (.inl v1), some (.inl v2), some (.inr (.inr v3)), none, none, none] [] h =
  ev xs d mm_71 6 [some (.inr (.inr v0)), some (.inl v1), some (.inl v2), some (.inr (.inr v3)), some (.inl (-1)), some (.inl 0), none] [] h :=
  (aB gP gX xs stp_71 5 d mm_71 0 _ _ h).trans rfl

set_option maxRecDepth 100000 in
set_option maxHeartbeats 4000000 in
theorem q_71_6 (xs : List Int) (d : Nat) (v0 : Int) (v1 : Int) (v2 : Int) (v3 : Int) (v4 : Int) (v5 : Int) (u6 : Option aV) (h : aH) : ev xs d mm_71 6 [some (.inr (.inr v0)), some (.inl v1), some (.inl v2), some (.inr (.inr v3)), some (.inl v4), some (.inl v5), u6] [] h =
  bif aok h.1 v0 5 then
    bif decide ((h.2 v0.toNat 1) ≤ v5) then
      some (some (.inl v4), h)
    else
      bif aok h.1 v0 5 && true then
        bI (cl xs d 65 [.inr (.inr v0), .inl v5, .inl v1, .inl v2] h) (fun x2 h1 =>
        bif decide (x2 = 0) then
          ev xs d mm_71 6 [some (.inr (.inr v0)), some (.inl v1), some (.inl v2), some (.inr (.inr v3)), some (.inl v4), some (.inl (w32 (v5 + 1))), u6] [] h1
        else
          ev xs d mm_71 29 [some (.inr (.inr v0)), some (.inl v1), some (.inl v2), some (.inr (.inr v3)), some (.inl v4), some (.inl v5), some (.inl 0)] [] h1)
      else none
  else none :=
  (aB gP gX xs stp_71 13 d mm_71 6 _ _ h).trans rfl

set_option maxRecDepth 100000 in
set_option maxHeartbeats 4000000 in
theorem q_71_29 (xs : List Int) (d : Nat) (v0 : Int) (v1 : Int) (v2 : Int) (v3 : Int) (v4 : Int) (v5 : Int) (v6 : Int) (h : aH) : ev xs d mm_71 29 [some (.inr (.inr v0)), some (.inl v1), some (.inl v2), some (.inr (.inr v3)), some (.inl v4), some (.inl v5), some (.inl v6)] [] h =
  bif aok h.1 v0 5 then
    bif decide ((h.2 v0.toNat 2) ≤ v6) then
      ev xs d mm_71 6 [some (.inr (.inr v0)), some (.inl v1), some (.inl v2), some (.inr (.inr v3)), some (.inl (omax v4 v6)), some (.inl (w32 (v5 + 1))), some (.inl v6)] [] h
    else
      bif ain h.1 v3 100 v6 then
        bif decide ((oand (oushr v5 (h.2 v3.toNat v6.toNat)) 1) = 0) then
          ev xs d mm_71 6 [some (.inr (.inr v0)), some (.inl v1), some (.inl v2), some (.inr (.inr v3)), some (.inl (omax v4 v6)), some (.inl (w32 (v5 + 1))), some (.inl v6)] [] h
        else
          ev xs d mm_71 29 [some (.inr (.inr v0)), some (.inl v1), some (.inl v2), some (.inr (.inr v3)), some (.inl v4), some (.inl v5), some (.inl (w32 (v6 + 1)))] [] h
      else none
  else none :=
  (aB gP gX xs stp_71 19 d mm_71 29 _ _ h).trans rfl

theorem c_71 (xs : List Int) (d : Nat) (v0 : Int) (v1 : Int) (v2 : Int) (v3 : Int) (h : aH) : cl xs (d + 1) 71 [.inr (.inr v0), .inl v1, .inl v2, .inr (.inr v3)] h =
  ev xs d mm_71 6 [some (.inr (.inr v0)), some (.inl v1), some (.inl v2), some (.inr (.inr v3)), some (.inl (-1)), some (.inl 0), none] [] h :=
  (show _ = ev xs d mm_71 0 [some (.inr (.inr v0)), some (.inl v1), some (.inl v2), some (.inr (.inr v3)), none, none, none] [] h from rfl).trans (q_71_0 xs d v0 v1 v2 v3 h)
def stp_72 : List Nat := [0, 14, 22, 30, 38, 51]
set_option maxRecDepth 100000 in
set_option maxHeartbeats 4000000 in
theorem q_72_0 (xs : List Int) (d : Nat) (v0 : Int) (h : aH) : ev xs d mm_72 0 [some (.inr (.inr v0))] [] h =
  bif decide (0 ≤ v0) && true then
    bif aok h.1 v0 6 then
      ev xs d mm_72 14 [some (.inr (.inr v0))] [.inr (.inr (h.1.1 : Int)), .inr (.inr v0)] ((h.1.1 + 1, h.1.2.1 + (7 : Int).toNat, fun q => if q = h.1.1 then (100, (7 : Int).toNat) else h.1.2.2 q), fun q j => if q = h.1.1 then 0 else (aup h.2 v0.toNat 0 0) q j)
    else none
  else none :=
  (aB gP gX xs stp_72 9 d mm_72 0 _ _ h).trans rfl

set_option maxRecDepth 100000 in
set_option maxHeartbeats 4000000 in
theorem q_72_14 (xs : List Int) (d : Nat) (v0 : Int) (s0 : Int) (s1 : Int) (h : aH) : ev xs d mm_72 14 [some (.inr (.inr v0))] [.inr (.inr s1), .inr (.inr s0)] h =
  bif aok h.1 s0 6 then
    ev xs d mm_72 22 [some (.inr (.inr v0))] [.inr (.inr (h.1.1 : Int)), .inr (.inr v0)] ((h.1.1 + 1, h.1.2.1 + (10 : Int).toNat, fun q => if q = h.1.1 then (101, (10 : Int).toNat) else h.1.2.2 q), fun q j => if q = h.1.1 then 0 else (aup h.2 s0.toNat 1 s1) q j)
  else none :=
  (aB gP gX xs stp_72 5 d mm_72 14 _ _ h).trans rfl

set_option maxRecDepth 100000 in
set_option maxHeartbeats 4000000 in
theorem q_72_22 (xs : List Int) (d : Nat) (v0 : Int) (s0 : Int) (s1 : Int) (h : aH) : ev xs d mm_72 22 [some (.inr (.inr v0))] [.inr (.inr s1), .inr (.inr s0)] h =
  bif aok h.1 s0 6 then
    ev xs d mm_72 30 [some (.inr (.inr v0))] [.inr (.inr (h.1.1 : Int)), .inr (.inr v0)] ((h.1.1 + 1, h.1.2.1 + (10 : Int).toNat, fun q => if q = h.1.1 then (100, (10 : Int).toNat) else h.1.2.2 q), fun q j => if q = h.1.1 then 0 else (aup h.2 s0.toNat 2 s1) q j)
  else none :=
  (aB gP gX xs stp_72 5 d mm_72 22 _ _ h).trans rfl

set_option maxRecDepth 100000 in
set_option maxHeartbeats 4000000 in
theorem q_72_30 (xs : List Int) (d : Nat) (v0 : Int) (s0 : Int) (s1 : Int) (h : aH) : ev xs d mm_72 30 [some (.inr (.inr v0))] [.inr (.inr s1), .inr (.inr s0)] h =
  bif aok h.1 s0 6 then
    ev xs d mm_72 38 [some (.inr (.inr v0))] [.inr (.inr (h.1.1 : Int)), .inr (.inr v0)] ((h.1.1 + 1, h.1.2.1 + (24 : Int).toNat, fun q => if q = h.1.1 then (100, (24 : Int).toNat) else h.1.2.2 q), fun q j => if q = h.1.1 then 0 else (aup h.2 s0.toNat 3 s1) q j)
  else none :=
  (aB gP gX xs stp_72 5 d mm_72 30 _ _ h).trans rfl

set_option maxRecDepth 100000 in
set_option maxHeartbeats 4000000 in
theorem q_72_38 (xs : List Int) (d : Nat) (v0 : Int) (s0 : Int) (s1 : Int) (h : aH) : ev xs d mm_72 38 [some (.inr (.inr v0))] [.inr (.inr s1), .inr (.inr s0)] h =
  bif aok h.1 s0 6 then
    bif aok h.1 v0 6 then
      bif aok h.1 v0 6 then
        ev xs d mm_72 51 [some (.inr (.inr v0))] [] (h.1, aup (aup (aup h.2 s0.toNat 4 s1) v0.toNat 5 0) v0.toNat 6 0)
      else none
    else none
  else none :=
  (aB gP gX xs stp_72 8 d mm_72 38 _ _ h).trans rfl

set_option maxRecDepth 100000 in
set_option maxHeartbeats 4000000 in
theorem q_72_51 (xs : List Int) (d : Nat) (v0 : Int) (h : aH) : ev xs d mm_72 51 [some (.inr (.inr v0))] [] h =
  bif aok h.1 v0 6 then
    bif aok h.1 v0 6 then
      some (none, (h.1, aup (aup h.2 v0.toNat 7 0) v0.toNat 8 0))
    else none
  else none :=
  (aB gP gX xs stp_72 8 d mm_72 51 _ _ h).trans rfl

theorem c_72 (xs : List Int) (d : Nat) (v0 : Int) (h : aH) : cl xs (d + 1) 72 [.inr (.inr v0)] h =
  bif decide (0 ≤ v0) && true then
    bif aok h.1 v0 6 then
      ev xs d mm_72 14 [some (.inr (.inr v0))] [.inr (.inr (h.1.1 : Int)), .inr (.inr v0)] ((h.1.1 + 1, h.1.2.1 + (7 : Int).toNat, fun q => if q = h.1.1 then (100, (7 : Int).toNat) else h.1.2.2 q), fun q j => if q = h.1.1 then 0 else (aup h.2 v0.toNat 0 0) q j)
    else none
  else none :=
  (show _ = ev xs d mm_72 0 [some (.inr (.inr v0))] [] h from rfl).trans (q_72_0 xs d v0 h)
def stp_73 : List Nat := [0, 16, 71, 86]
set_option maxRecDepth 100000 in
set_option maxHeartbeats 4000000 in
theorem q_73_0 (xs : List Int) (d : Nat) (v0 : Int) (v1 : Int) (h : aH) : ev xs d mm_73 0 [some (.inr (.inr v0)), some (.inr (.inr v1)), none] [] h =
  bif aok h.1 v1 9 then
    bif aok h.1 (h.2 v1.toNat 3) 7 then
      bI (cl xs d 126 [.inl (h.2 (h.2 v1.toNat 3).toNat 0)] h) (fun x2 h1 =>
        bif aok h1.1 v0 6 then
          ev xs d mm_73 16 [some (.inr (.inr v0)), some (.inr (.inr v1)), some (.inl 0)] [] (h1.1, aup h1.2 v0.toNat 0 x2)
        else none)
    else none
  else none :=
  (aB gP gX xs stp_73 9 d mm_73 0 _ _ h).trans rfl

set_option maxRecDepth 100000 in
set_option maxHeartbeats 4000000 in
theorem q_73_16 (xs : List Int) (d : Nat) (v0 : Int) (v1 : Int) (v2 : Int) (h : aH) : ev xs d mm_73 16 [some (.inr (.inr v0)), some (.inr (.inr v1)), some (.inl v2)] [] h =
  bif decide (7 ≤ v2) then
    bif aok h.1 v1 9 then
      bif aok h.1 v0 6 then
        bif aok h.1 (h.2 v1.toNat 6) 101 && (aok h.1 (h.2 v0.toNat 2) 101 && (decide (0 ≤ 0) && (decide (0 ≤ 0) && (decide (0 ≤ 10) && (decide ((0 : Int).toNat + (10 : Int).toNat ≤ aln h.1 (h.2 v1.toNat 6)) && (decide ((0 : Int).toNat + (10 : Int).toNat ≤ aln h.1 (h.2 v0.toNat 2)) && true)))))) then
          bif aok h.1 v0 6 then
            bV (cl xs d 318 [.inr (.inr ((fun q j => if q = (h.2 v0.toNat 2).toNat then acpy (h.2 (h.2 v1.toNat 6).toNat) (h.2 (h.2 v0.toNat 2).toNat) (0 : Int).toNat (0 : Int).toNat (10 : Int).toNat j else h.2 q j) v0.toNat 3)), .inl 0] (h.1, fun q j => if q = (h.2 v0.toNat 2).toNat then acpy (h.2 (h.2 v1.toNat 6).toNat) (h.2 (h.2 v0.toNat 2).toNat) (0 : Int).toNat (0 : Int).toNat (10 : Int).toNat j else h.2 q j)) (fun h1 =>
              bif aok h1.1 v0 6 then
                bV (cl xs d 318 [.inr (.inr (h1.2 v0.toNat 4)), .inl 0] h1) (fun h2 =>
                  bif aok h2.1 v0 6 then
                    ev xs d mm_73 71 [some (.inr (.inr v0)), some (.inr (.inr v1)), some (.inl v2)] [] (h2.1, aup h2.2 v0.toNat 5 0)
                  else none)
              else none)
          else none
        else none
      else none
    else none
  else
    bif aok h.1 v0 6 then
      bif ain h.1 (h.2 v0.toNat 1) 100 v2 then
        ev xs d mm_73 16 [some (.inr (.inr v0)), some (.inr (.inr v1)), some (.inl (w32 (v2 + 1)))] [] (h.1, aup h.2 (h.2 v0.toNat 1).toNat v2.toNat v2)
      else none
    else none :=
  (aB gP gX xs stp_73 23 d mm_73 16 _ _ h).trans rfl

set_option maxRecDepth 100000 in
set_option maxHeartbeats 4000000 in
theorem q_73_71 (xs : List Int) (d : Nat) (v0 : Int) (v1 : Int) (v2 : Int) (h : aH) : ev xs d mm_73 71 [some (.inr (.inr v0)), some (.inr (.inr v1)), some (.inl v2)] [] h =
  bif aok h.1 v0 6 then
    bif aok h.1 v0 6 then
      bif aok h.1 v0 6 then
        ev xs d mm_73 86 [some (.inr (.inr v0)), some (.inr (.inr v1)), some (.inl v2)] [] (h.1, aup (aup (aup h.2 v0.toNat 6 0) v0.toNat 7 0) v0.toNat 8 0)
      else none
    else none
  else none :=
  (aB gP gX xs stp_73 10 d mm_73 71 _ _ h).trans rfl

set_option maxRecDepth 100000 in
set_option maxHeartbeats 4000000 in
theorem q_73_86 (xs : List Int) (d : Nat) (v0 : Int) (v1 : Int) (v2 : Int) (h : aH) : ev xs d mm_73 86 [some (.inr (.inr v0)), some (.inr (.inr v1)), some (.inl v2)] [] h =
  some (none, h) :=
  (aB gP gX xs stp_73 2 d mm_73 86 _ _ h).trans rfl

theorem c_73 (xs : List Int) (d : Nat) (v0 : Int) (v1 : Int) (h : aH) : cl xs (d + 1) 73 [.inr (.inr v0), .inr (.inr v1)] h =
  bif aok h.1 v1 9 then
    bif aok h.1 (h.2 v1.toNat 3) 7 then
      bI (cl xs d 126 [.inl (h.2 (h.2 v1.toNat 3).toNat 0)] h) (fun x2 h1 =>
        bif aok h1.1 v0 6 then
          ev xs d mm_73 16 [some (.inr (.inr v0)), some (.inr (.inr v1)), some (.inl 0)] [] (h1.1, aup h1.2 v0.toNat 0 x2)
        else none)
    else none
  else none :=
  (show _ = ev xs d mm_73 0 [some (.inr (.inr v0)), some (.inr (.inr v1)), none] [] h from rfl).trans (q_73_0 xs d v0 v1 h)
def stp_74 : List Nat := [0, 38, 76, 100]
set_option maxRecDepth 100000 in
set_option maxHeartbeats 4000000 in
theorem q_74_0 (xs : List Int) (d : Nat) (v0 : Int) (v1 : Int) (h : aH) : ev xs d mm_74 0 [some (.inr (.inr v0)), some (.inr (.inr v1))] [] h =
  bif aok h.1 v1 6 then
    bif aok h.1 v0 6 then
      bif aok h.1 v1 6 then
        bif aok h.1 v0 6 then
          bif aok h.1 ((aup h.2 v0.toNat 0 (h.2 v1.toNat 0)) v1.toNat 1) 100 && (aok h.1 ((aup h.2 v0.toNat 0 (h.2 v1.toNat 0)) v0.toNat 1) 100 && (decide (0 ≤ 0) && (decide (0 ≤ 0) && (decide (0 ≤ 7) && (decide ((0 : Int).toNat + (7 : Int).toNat ≤ aln h.1 ((aup h.2 v0.toNat 0 (h.2 v1.toNat 0)) v1.toNat 1)) && (decide ((0 : Int).toNat + (7 : Int).toNat ≤ aln h.1 ((aup h.2 v0.toNat 0 (h.2 v1.toNat 0)) v0.toNat 1)) && true)))))) then
            bif aok h.1 v1 6 then
              bif aok h.1 v0 6 then
                bif aok h.1 ((fun q j => if q = ((aup h.2 v0.toNat 0 (h.2 v1.toNat 0)) v0.toNat 1).toNat then acpy ((aup h.2 v0.toNat 0 (h.2 v1.toNat 0)) ((aup h.2 v0.toNat 0 (h.2 v1.toNat 0)) v1.toNat 1).toNat) ((aup h.2 v0.toNat 0 (h.2 v1.toNat 0)) ((aup h.2 v0.toNat 0 (h.2 v1.toNat 0)) v0.toNat 1).toNat) (0 : Int).toNat (0 : Int).toNat (7 : Int).toNat j else (aup h.2 v0.toNat 0 (h.2 v1.toNat 0)) q j) v1.toNat 2) 101 && (aok h.1 ((fun q j => if q = ((aup h.2 v0.toNat 0 (h.2 v1.toNat 0)) v0.toNat 1).toNat then acpy ((aup h.2 v0.toNat 0 (h.2 v1.toNat 0)) ((aup h.2 v0.toNat 0 (h.2 v1.toNat 0)) v1.toNat 1).toNat) ((aup h.2 v0.toNat 0 (h.2 v1.toNat 0)) ((aup h.2 v0.toNat 0 (h.2 v1.toNat 0)) v0.toNat 1).toNat) (0 : Int).toNat (0 : Int).toNat (7 : Int).toNat j else (aup h.2 v0.toNat 0 (h.2 v1.toNat 0)) q j) v0.toNat 2) 101 && (decide (0 ≤ 0) && (decide (0 ≤ 0) && (decide (0 ≤ 10) && (decide ((0 : Int).toNat + (10 : Int).toNat ≤ aln h.1 ((fun q j => if q = ((aup h.2 v0.toNat 0 (h.2 v1.toNat 0)) v0.toNat 1).toNat then acpy ((aup h.2 v0.toNat 0 (h.2 v1.toNat 0)) ((aup h.2 v0.toNat 0 (h.2 v1.toNat 0)) v1.toNat 1).toNat) ((aup h.2 v0.toNat 0 (h.2 v1.toNat 0)) ((aup h.2 v0.toNat 0 (h.2 v1.toNat 0)) v0.toNat 1).toNat) (0 : Int).toNat (0 : Int).toNat (7 : Int).toNat j else (aup h.2 v0.toNat 0 (h.2 v1.toNat 0)) q j) v1.toNat 2)) && (decide ((0 : Int).toNat + (10 : Int).toNat ≤ aln h.1 ((fun q j => if q = ((aup h.2 v0.toNat 0 (h.2 v1.toNat 0)) v0.toNat 1).toNat then acpy ((aup h.2 v0.toNat 0 (h.2 v1.toNat 0)) ((aup h.2 v0.toNat 0 (h.2 v1.toNat 0)) v1.toNat 1).toNat) ((aup h.2 v0.toNat 0 (h.2 v1.toNat 0)) ((aup h.2 v0.toNat 0 (h.2 v1.toNat 0)) v0.toNat 1).toNat) (0 : Int).toNat (0 : Int).toNat (7 : Int).toNat j else (aup h.2 v0.toNat 0 (h.2 v1.toNat 0)) q j) v0.toNat 2)) && true)))))) then
                  ev xs d mm_74 38 [some (.inr (.inr v0)), some (.inr (.inr v1))] [] (h.1, fun q j => if q = ((fun q j => if q = ((aup h.2 v0.toNat 0 (h.2 v1.toNat 0)) v0.toNat 1).toNat then acpy ((aup h.2 v0.toNat 0 (h.2 v1.toNat 0)) ((aup h.2 v0.toNat 0 (h.2 v1.toNat 0)) v1.toNat 1).toNat) ((aup h.2 v0.toNat 0 (h.2 v1.toNat 0)) ((aup h.2 v0.toNat 0 (h.2 v1.toNat 0)) v0.toNat 1).toNat) (0 : Int).toNat (0 : Int).toNat (7 : Int).toNat j else (aup h.2 v0.toNat 0 (h.2 v1.toNat 0)) q j) v0.toNat 2).toNat then acpy ((fun q j => if q = ((aup h.2 v0.toNat 0 (h.2 v1.toNat 0)) v0.toNat 1).toNat then acpy ((aup h.2 v0.toNat 0 (h.2 v1.toNat 0)) ((aup h.2 v0.toNat 0 (h.2 v1.toNat 0)) v1.toNat 1).toNat) ((aup h.2 v0.toNat 0 (h.2 v1.toNat 0)) ((aup h.2 v0.toNat 0 (h.2 v1.toNat 0)) v0.toNat 1).toNat) (0 : Int).toNat (0 : Int).toNat (7 : Int).toNat j else (aup h.2 v0.toNat 0 (h.2 v1.toNat 0)) q j) ((fun q j => if q = ((aup h.2 v0.toNat 0 (h.2 v1.toNat 0)) v0.toNat 1).toNat then acpy ((aup h.2 v0.toNat 0 (h.2 v1.toNat 0)) ((aup h.2 v0.toNat 0 (h.2 v1.toNat 0)) v1.toNat 1).toNat) ((aup h.2 v0.toNat 0 (h.2 v1.toNat 0)) ((aup h.2 v0.toNat 0 (h.2 v1.toNat 0)) v0.toNat 1).toNat) (0 : Int).toNat (0 : Int).toNat (7 : Int).toNat j else (aup h.2 v0.toNat 0 (h.2 v1.toNat 0)) q j) v1.toNat 2).toNat) ((fun q j => if q = ((aup h.2 v0.toNat 0 (h.2 v1.toNat 0)) v0.toNat 1).toNat then acpy ((aup h.2 v0.toNat 0 (h.2 v1.toNat 0)) ((aup h.2 v0.toNat 0 (h.2 v1.toNat 0)) v1.toNat 1).toNat) ((aup h.2 v0.toNat 0 (h.2 v1.toNat 0)) ((aup h.2 v0.toNat 0 (h.2 v1.toNat 0)) v0.toNat 1).toNat) (0 : Int).toNat (0 : Int).toNat (7 : Int).toNat j else (aup h.2 v0.toNat 0 (h.2 v1.toNat 0)) q j) ((fun q j => if q = ((aup h.2 v0.toNat 0 (h.2 v1.toNat 0)) v0.toNat 1).toNat then acpy ((aup h.2 v0.toNat 0 (h.2 v1.toNat 0)) ((aup h.2 v0.toNat 0 (h.2 v1.toNat 0)) v1.toNat 1).toNat) ((aup h.2 v0.toNat 0 (h.2 v1.toNat 0)) ((aup h.2 v0.toNat 0 (h.2 v1.toNat 0)) v0.toNat 1).toNat) (0 : Int).toNat (0 : Int).toNat (7 : Int).toNat j else (aup h.2 v0.toNat 0 (h.2 v1.toNat 0)) q j) v0.toNat 2).toNat) (0 : Int).toNat (0 : Int).toNat (10 : Int).toNat j else (fun q j => if q = ((aup h.2 v0.toNat 0 (h.2 v1.toNat 0)) v0.toNat 1).toNat then acpy ((aup h.2 v0.toNat 0 (h.2 v1.toNat 0)) ((aup h.2 v0.toNat 0 (h.2 v1.toNat 0)) v1.toNat 1).toNat) ((aup h.2 v0.toNat 0 (h.2 v1.toNat 0)) ((aup h.2 v0.toNat 0 (h.2 v1.toNat 0)) v0.toNat 1).toNat) (0 : Int).toNat (0 : Int).toNat (7 : Int).toNat j else (aup h.2 v0.toNat 0 (h.2 v1.toNat 0)) q j) q j)
                else none
              else none
            else none
          else none
        else none
      else none
    else none
  else none :=
  (aB gP gX xs stp_74 21 d mm_74 0 _ _ h).trans rfl

set_option maxRecDepth 100000 in
set_option maxHeartbeats 4000000 in
theorem q_74_38 (xs : List Int) (d : Nat) (v0 : Int) (v1 : Int) (h : aH) : ev xs d mm_74 38 [some (.inr (.inr v0)), some (.inr (.inr v1))] [] h =
  bif aok h.1 v1 6 then
    bif aok h.1 v0 6 then
      bif aok h.1 (h.2 v1.toNat 3) 100 && (aok h.1 (h.2 v0.toNat 3) 100 && (decide (0 ≤ 0) && (decide (0 ≤ 0) && (decide (0 ≤ 10) && (decide ((0 : Int).toNat + (10 : Int).toNat ≤ aln h.1 (h.2 v1.toNat 3)) && (decide ((0 : Int).toNat + (10 : Int).toNat ≤ aln h.1 (h.2 v0.toNat 3)) && true)))))) then
        bif aok h.1 v1 6 then
          bif aok h.1 v0 6 then
            bif aok h.1 ((fun q j => if q = (h.2 v0.toNat 3).toNat then acpy (h.2 (h.2 v1.toNat 3).toNat) (h.2 (h.2 v0.toNat 3).toNat) (0 : Int).toNat (0 : Int).toNat (10 : Int).toNat j else h.2 q j) v1.toNat 4) 100 && (aok h.1 ((fun q j => if q = (h.2 v0.toNat 3).toNat then acpy (h.2 (h.2 v1.toNat 3).toNat) (h.2 (h.2 v0.toNat 3).toNat) (0 : Int).toNat (0 : Int).toNat (10 : Int).toNat j else h.2 q j) v0.toNat 4) 100 && (decide (0 ≤ 0) && (decide (0 ≤ 0) && (decide (0 ≤ 24) && (decide ((0 : Int).toNat + (24 : Int).toNat ≤ aln h.1 ((fun q j => if q = (h.2 v0.toNat 3).toNat then acpy (h.2 (h.2 v1.toNat 3).toNat) (h.2 (h.2 v0.toNat 3).toNat) (0 : Int).toNat (0 : Int).toNat (10 : Int).toNat j else h.2 q j) v1.toNat 4)) && (decide ((0 : Int).toNat + (24 : Int).toNat ≤ aln h.1 ((fun q j => if q = (h.2 v0.toNat 3).toNat then acpy (h.2 (h.2 v1.toNat 3).toNat) (h.2 (h.2 v0.toNat 3).toNat) (0 : Int).toNat (0 : Int).toNat (10 : Int).toNat j else h.2 q j) v0.toNat 4)) && true)))))) then
              bif aok h.1 v1 6 then
                bif aok h.1 v0 6 then
                  ev xs d mm_74 76 [some (.inr (.inr v0)), some (.inr (.inr v1))] [] (h.1, aup (fun q j => if q = ((fun q j => if q = (h.2 v0.toNat 3).toNat then acpy (h.2 (h.2 v1.toNat 3).toNat) (h.2 (h.2 v0.toNat 3).toNat) (0 : Int).toNat (0 : Int).toNat (10 : Int).toNat j else h.2 q j) v0.toNat 4).toNat then acpy ((fun q j => if q = (h.2 v0.toNat 3).toNat then acpy (h.2 (h.2 v1.toNat 3).toNat) (h.2 (h.2 v0.toNat 3).toNat) (0 : Int).toNat (0 : Int).toNat (10 : Int).toNat j else h.2 q j) ((fun q j => if q = (h.2 v0.toNat 3).toNat then acpy (h.2 (h.2 v1.toNat 3).toNat) (h.2 (h.2 v0.toNat 3).toNat) (0 : Int).toNat (0 : Int).toNat (10 : Int).toNat j else h.2 q j) v1.toNat 4).toNat) ((fun q j => if q = (h.2 v0.toNat 3).toNat then acpy (h.2 (h.2 v1.toNat 3).toNat) (h.2 (h.2 v0.toNat 3).toNat) (0 : Int).toNat (0 : Int).toNat (10 : Int).toNat j else h.2 q j) ((fun q j => if q = (h.2 v0.toNat 3).toNat then acpy (h.2 (h.2 v1.toNat 3).toNat) (h.2 (h.2 v0.toNat 3).toNat) (0 : Int).toNat (0 : Int).toNat (10 : Int).toNat j else h.2 q j) v0.toNat 4).toNat) (0 : Int).toNat (0 : Int).toNat (24 : Int).toNat j else (fun q j => if q = (h.2 v0.toNat 3).toNat then acpy (h.2 (h.2 v1.toNat 3).toNat) (h.2 (h.2 v0.toNat 3).toNat) (0 : Int).toNat (0 : Int).toNat (10 : Int).toNat j else h.2 q j) q j) v0.toNat 5 ((fun q j => if q = ((fun q j => if q = (h.2 v0.toNat 3).toNat then acpy (h.2 (h.2 v1.toNat 3).toNat) (h.2 (h.2 v0.toNat 3).toNat) (0 : Int).toNat (0 : Int).toNat (10 : Int).toNat j else h.2 q j) v0.toNat 4).toNat then acpy ((fun q j => if q = (h.2 v0.toNat 3).toNat then acpy (h.2 (h.2 v1.toNat 3).toNat) (h.2 (h.2 v0.toNat 3).toNat) (0 : Int).toNat (0 : Int).toNat (10 : Int).toNat j else h.2 q j) ((fun q j => if q = (h.2 v0.toNat 3).toNat then acpy (h.2 (h.2 v1.toNat 3).toNat) (h.2 (h.2 v0.toNat 3).toNat) (0 : Int).toNat (0 : Int).toNat (10 : Int).toNat j else h.2 q j) v1.toNat 4).toNat) ((fun q j => if q = (h.2 v0.toNat 3).toNat then acpy (h.2 (h.2 v1.toNat 3).toNat) (h.2 (h.2 v0.toNat 3).toNat) (0 : Int).toNat (0 : Int).toNat (10 : Int).toNat j else h.2 q j) ((fun q j => if q = (h.2 v0.toNat 3).toNat then acpy (h.2 (h.2 v1.toNat 3).toNat) (h.2 (h.2 v0.toNat 3).toNat) (0 : Int).toNat (0 : Int).toNat (10 : Int).toNat j else h.2 q j) v0.toNat 4).toNat) (0 : Int).toNat (0 : Int).toNat (24 : Int).toNat j else (fun q j => if q = (h.2 v0.toNat 3).toNat then acpy (h.2 (h.2 v1.toNat 3).toNat) (h.2 (h.2 v0.toNat 3).toNat) (0 : Int).toNat (0 : Int).toNat (10 : Int).toNat j else h.2 q j) q j) v1.toNat 5))
                else none
              else none
            else none
          else none
        else none
      else none
    else none
  else none :=
  (aB gP gX xs stp_74 21 d mm_74 38 _ _ h).trans rfl

set_option maxRecDepth 100000 in
set_option maxHeartbeats 4000000 in
theorem q_74_76 (xs : List Int) (d : Nat) (v0 : Int) (v1 : Int) (h : aH) : ev xs d mm_74 76 [some (.inr (.inr v0)), some (.inr (.inr v1))] [] h =
  bif aok h.1 v1 6 then
    bif aok h.1 v0 6 then
      bif aok h.1 v1 6 then
        bif aok h.1 v0 6 then
          bif aok h.1 v1 6 then
            bif aok h.1 v0 6 then
              ev xs d mm_74 100 [some (.inr (.inr v0)), some (.inr (.inr v1))] [] (h.1, aup (aup (aup h.2 v0.toNat 6 (h.2 v1.toNat 6)) v0.toNat 7 ((aup h.2 v0.toNat 6 (h.2 v1.toNat 6)) v1.toNat 7)) v0.toNat 8 ((aup (aup h.2 v0.toNat 6 (h.2 v1.toNat 6)) v0.toNat 7 ((aup h.2 v0.toNat 6 (h.2 v1.toNat 6)) v1.toNat 7)) v1.toNat 8))
            else none
          else none
        else none
      else none
    else none
  else none :=
  (aB gP gX xs stp_74 13 d mm_74 76 _ _ h).trans rfl

set_option maxRecDepth 100000 in
set_option maxHeartbeats 4000000 in
theorem q_74_100 (xs : List Int) (d : Nat) (v0 : Int) (v1 : Int) (h : aH) : ev xs d mm_74 100 [some (.inr (.inr v0)), some (.inr (.inr v1))] [] h =
  some (none, h) :=
  (aB gP gX xs stp_74 2 d mm_74 100 _ _ h).trans rfl

theorem c_74 (xs : List Int) (d : Nat) (v0 : Int) (v1 : Int) (h : aH) : cl xs (d + 1) 74 [.inr (.inr v0), .inr (.inr v1)] h =
  bif aok h.1 v1 6 then
    bif aok h.1 v0 6 then
      bif aok h.1 v1 6 then
        bif aok h.1 v0 6 then
          bif aok h.1 ((aup h.2 v0.toNat 0 (h.2 v1.toNat 0)) v1.toNat 1) 100 && (aok h.1 ((aup h.2 v0.toNat 0 (h.2 v1.toNat 0)) v0.toNat 1) 100 && (decide (0 ≤ 0) && (decide (0 ≤ 0) && (decide (0 ≤ 7) && (decide ((0 : Int).toNat + (7 : Int).toNat ≤ aln h.1 ((aup h.2 v0.toNat 0 (h.2 v1.toNat 0)) v1.toNat 1)) && (decide ((0 : Int).toNat + (7 : Int).toNat ≤ aln h.1 ((aup h.2 v0.toNat 0 (h.2 v1.toNat 0)) v0.toNat 1)) && true)))))) then
            bif aok h.1 v1 6 then
              bif aok h.1 v0 6 then
                bif aok h.1 ((fun q j => if q = ((aup h.2 v0.toNat 0 (h.2 v1.toNat 0)) v0.toNat 1).toNat then acpy ((aup h.2 v0.toNat 0 (h.2 v1.toNat 0)) ((aup h.2 v0.toNat 0 (h.2 v1.toNat 0)) v1.toNat 1).toNat) ((aup h.2 v0.toNat 0 (h.2 v1.toNat 0)) ((aup h.2 v0.toNat 0 (h.2 v1.toNat 0)) v0.toNat 1).toNat) (0 : Int).toNat (0 : Int).toNat (7 : Int).toNat j else (aup h.2 v0.toNat 0 (h.2 v1.toNat 0)) q j) v1.toNat 2) 101 && (aok h.1 ((fun q j => if q = ((aup h.2 v0.toNat 0 (h.2 v1.toNat 0)) v0.toNat 1).toNat then acpy ((aup h.2 v0.toNat 0 (h.2 v1.toNat 0)) ((aup h.2 v0.toNat 0 (h.2 v1.toNat 0)) v1.toNat 1).toNat) ((aup h.2 v0.toNat 0 (h.2 v1.toNat 0)) ((aup h.2 v0.toNat 0 (h.2 v1.toNat 0)) v0.toNat 1).toNat) (0 : Int).toNat (0 : Int).toNat (7 : Int).toNat j else (aup h.2 v0.toNat 0 (h.2 v1.toNat 0)) q j) v0.toNat 2) 101 && (decide (0 ≤ 0) && (decide (0 ≤ 0) && (decide (0 ≤ 10) && (decide ((0 : Int).toNat + (10 : Int).toNat ≤ aln h.1 ((fun q j => if q = ((aup h.2 v0.toNat 0 (h.2 v1.toNat 0)) v0.toNat 1).toNat then acpy ((aup h.2 v0.toNat 0 (h.2 v1.toNat 0)) ((aup h.2 v0.toNat 0 (h.2 v1.toNat 0)) v1.toNat 1).toNat) ((aup h.2 v0.toNat 0 (h.2 v1.toNat 0)) ((aup h.2 v0.toNat 0 (h.2 v1.toNat 0)) v0.toNat 1).toNat) (0 : Int).toNat (0 : Int).toNat (7 : Int).toNat j else (aup h.2 v0.toNat 0 (h.2 v1.toNat 0)) q j) v1.toNat 2)) && (decide ((0 : Int).toNat + (10 : Int).toNat ≤ aln h.1 ((fun q j => if q = ((aup h.2 v0.toNat 0 (h.2 v1.toNat 0)) v0.toNat 1).toNat then acpy ((aup h.2 v0.toNat 0 (h.2 v1.toNat 0)) ((aup h.2 v0.toNat 0 (h.2 v1.toNat 0)) v1.toNat 1).toNat) ((aup h.2 v0.toNat 0 (h.2 v1.toNat 0)) ((aup h.2 v0.toNat 0 (h.2 v1.toNat 0)) v0.toNat 1).toNat) (0 : Int).toNat (0 : Int).toNat (7 : Int).toNat j else (aup h.2 v0.toNat 0 (h.2 v1.toNat 0)) q j) v0.toNat 2)) && true)))))) then
                  ev xs d mm_74 38 [some (.inr (.inr v0)), some (.inr (.inr v1))] [] (h.1, fun q j => if q = ((fun q j => if q = ((aup h.2 v0.toNat 0 (h.2 v1.toNat 0)) v0.toNat 1).toNat then acpy ((aup h.2 v0.toNat 0 (h.2 v1.toNat 0)) ((aup h.2 v0.toNat 0 (h.2 v1.toNat 0)) v1.toNat 1).toNat) ((aup h.2 v0.toNat 0 (h.2 v1.toNat 0)) ((aup h.2 v0.toNat 0 (h.2 v1.toNat 0)) v0.toNat 1).toNat) (0 : Int).toNat (0 : Int).toNat (7 : Int).toNat j else (aup h.2 v0.toNat 0 (h.2 v1.toNat 0)) q j) v0.toNat 2).toNat then acpy ((fun q j => if q = ((aup h.2 v0.toNat 0 (h.2 v1.toNat 0)) v0.toNat 1).toNat then acpy ((aup h.2 v0.toNat 0 (h.2 v1.toNat 0)) ((aup h.2 v0.toNat 0 (h.2 v1.toNat 0)) v1.toNat 1).toNat) ((aup h.2 v0.toNat 0 (h.2 v1.toNat 0)) ((aup h.2 v0.toNat 0 (h.2 v1.toNat 0)) v0.toNat 1).toNat) (0 : Int).toNat (0 : Int).toNat (7 : Int).toNat j else (aup h.2 v0.toNat 0 (h.2 v1.toNat 0)) q j) ((fun q j => if q = ((aup h.2 v0.toNat 0 (h.2 v1.toNat 0)) v0.toNat 1).toNat then acpy ((aup h.2 v0.toNat 0 (h.2 v1.toNat 0)) ((aup h.2 v0.toNat 0 (h.2 v1.toNat 0)) v1.toNat 1).toNat) ((aup h.2 v0.toNat 0 (h.2 v1.toNat 0)) ((aup h.2 v0.toNat 0 (h.2 v1.toNat 0)) v0.toNat 1).toNat) (0 : Int).toNat (0 : Int).toNat (7 : Int).toNat j else (aup h.2 v0.toNat 0 (h.2 v1.toNat 0)) q j) v1.toNat 2).toNat) ((fun q j => if q = ((aup h.2 v0.toNat 0 (h.2 v1.toNat 0)) v0.toNat 1).toNat then acpy ((aup h.2 v0.toNat 0 (h.2 v1.toNat 0)) ((aup h.2 v0.toNat 0 (h.2 v1.toNat 0)) v1.toNat 1).toNat) ((aup h.2 v0.toNat 0 (h.2 v1.toNat 0)) ((aup h.2 v0.toNat 0 (h.2 v1.toNat 0)) v0.toNat 1).toNat) (0 : Int).toNat (0 : Int).toNat (7 : Int).toNat j else (aup h.2 v0.toNat 0 (h.2 v1.toNat 0)) q j) ((fun q j => if q = ((aup h.2 v0.toNat 0 (h.2 v1.toNat 0)) v0.toNat 1).toNat then acpy ((aup h.2 v0.toNat 0 (h.2 v1.toNat 0)) ((aup h.2 v0.toNat 0 (h.2 v1.toNat 0)) v1.toNat 1).toNat) ((aup h.2 v0.toNat 0 (h.2 v1.toNat 0)) ((aup h.2 v0.toNat 0 (h.2 v1.toNat 0)) v0.toNat 1).toNat) (0 : Int).toNat (0 : Int).toNat (7 : Int).toNat j else (aup h.2 v0.toNat 0 (h.2 v1.toNat 0)) q j) v0.toNat 2).toNat) (0 : Int).toNat (0 : Int).toNat (10 : Int).toNat j else (fun q j => if q = ((aup h.2 v0.toNat 0 (h.2 v1.toNat 0)) v0.toNat 1).toNat then acpy ((aup h.2 v0.toNat 0 (h.2 v1.toNat 0)) ((aup h.2 v0.toNat 0 (h.2 v1.toNat 0)) v1.toNat 1).toNat) ((aup h.2 v0.toNat 0 (h.2 v1.toNat 0)) ((aup h.2 v0.toNat 0 (h.2 v1.toNat 0)) v0.toNat 1).toNat) (0 : Int).toNat (0 : Int).toNat (7 : Int).toNat j else (aup h.2 v0.toNat 0 (h.2 v1.toNat 0)) q j) q j)
                else none
              else none
            else none
          else none
        else none
      else none
    else none
  else none :=
  (show _ = ev xs d mm_74 0 [some (.inr (.inr v0)), some (.inr (.inr v1))] [] h from rfl).trans (q_74_0 xs d v0 v1 h)
def stp_75 : List Nat := [0]
set_option maxRecDepth 100000 in
set_option maxHeartbeats 4000000 in
theorem q_75_0 (xs : List Int) (d : Nat) (v0 : Int) (v1 : Int) (h : aH) : ev xs d mm_75 0 [some (.inr (.inr v0)), some (.inl v1)] [] h =
  bif aok h.1 v0 6 then
    bif decide ((oand (oushr (h.2 v0.toNat 0) v1) 1) = 0) then
      some (some (.inl 0), h)
    else
      some (some (.inl 1), h)
  else none :=
  (aB gP gX xs stp_75 11 d mm_75 0 _ _ h).trans rfl

theorem c_75 (xs : List Int) (d : Nat) (v0 : Int) (v1 : Int) (h : aH) : cl xs (d + 1) 75 [.inr (.inr v0), .inl v1] h =
  bif aok h.1 v0 6 then
    bif decide ((oand (oushr (h.2 v0.toNat 0) v1) 1) = 0) then
      some (some (.inl 0), h)
    else
      some (some (.inl 1), h)
  else none :=
  (show _ = ev xs d mm_75 0 [some (.inr (.inr v0)), some (.inl v1)] [] h from rfl).trans (q_75_0 xs d v0 v1 h)
def stp_76 : List Nat := [0]
set_option maxRecDepth 100000 in
set_option maxHeartbeats 4000000 in
theorem q_76_0 (xs : List Int) (d : Nat) (v0 : Int) (v1 : Int) (v2 : Int) (h : aH) : ev xs d mm_76 0 [some (.inr (.inr v0)), some (.inl v1), some (.inl v2)] [] h =
  bif decide (¬ v2 = 9) then
    bif aok h.1 v0 6 then
      bif ain h.1 (h.2 v0.toNat 2) 101 v1 then
        bI (cl xs d 125 [.inr (.inl (h.2 (h.2 v0.toNat 2).toNat v1.toNat)), .inl v2] h) (fun x2 h1 =>
          some (some (.inl x2), h1))
      else none
    else none
  else
    bif aok h.1 v0 6 then
      bif ain h.1 (h.2 v0.toNat 3) 100 v1 then
        some (some (.inl (h.2 (h.2 v0.toNat 3).toNat v1.toNat)), h)
      else none
    else none :=
  (aB gP gX xs stp_76 11 d mm_76 0 _ _ h).trans rfl

theorem c_76 (xs : List Int) (d : Nat) (v0 : Int) (v1 : Int) (v2 : Int) (h : aH) : cl xs (d + 1) 76 [.inr (.inr v0), .inl v1, .inl v2] h =
  bif decide (¬ v2 = 9) then
    bif aok h.1 v0 6 then
      bif ain h.1 (h.2 v0.toNat 2) 101 v1 then
        bI (cl xs d 125 [.inr (.inl (h.2 (h.2 v0.toNat 2).toNat v1.toNat)), .inl v2] h) (fun x2 h1 =>
          some (some (.inl x2), h1))
      else none
    else none
  else
    bif aok h.1 v0 6 then
      bif ain h.1 (h.2 v0.toNat 3) 100 v1 then
        some (some (.inl (h.2 (h.2 v0.toNat 3).toNat v1.toNat)), h)
      else none
    else none :=
  (show _ = ev xs d mm_76 0 [some (.inr (.inr v0)), some (.inl v1), some (.inl v2)] [] h from rfl).trans (q_76_0 xs d v0 v1 v2 h)
def stp_77 : List Nat := [0, 5]
set_option maxRecDepth 100000 in
set_option maxHeartbeats 4000000 in
theorem q_77_0 (xs : List Int) (d : Nat) (v0 : Int) (v1 : Int) (v2 : Int) (h : aH) : ev xs d mm_77 0 [some (.inr (.inr v0)), some (.inl v1), some (.inl v2), none, none] [] h =
  ev xs d mm_77 5 [some (.inr (.inr v0)), some (.inl v1), some (.inl v2), some (.inl 0), some (.inl 0)] [] h :=
  (aB gP gX xs stp_77 5 d mm_77 0 _ _ h).trans rfl

set_option maxRecDepth 100000 in
set_option maxHeartbeats 4000000 in
theorem q_77_5 (xs : List Int) (d : Nat) (v0 : Int) (v1 : Int) (v2 : Int) (v3 : Int) (v4 : Int) (h : aH) : ev xs d mm_77 5 [some (.inr (.inr v0)), some (.inl v1), some (.inl v2), some (.inl v3), some (.inl v4)] [] h =
  bif decide (v1 ≤ v4) then
    some (some (.inl v3), h)
  else
    bif decide (10 ≤ v4) then
      some (some (.inl v3), h)
    else
      bif aok h.1 v0 6 then
        bif ain h.1 (h.2 v0.toNat 3) 100 v4 then
          bif decide (¬ (h.2 (h.2 v0.toNat 3).toNat v4.toNat) = v2) then
            ev xs d mm_77 5 [some (.inr (.inr v0)), some (.inl v1), some (.inl v2), some (.inl (w32 (v3 + 0))), some (.inl (w32 (v4 + 1)))] [] h
          else
            ev xs d mm_77 5 [some (.inr (.inr v0)), some (.inl v1), some (.inl v2), some (.inl (w32 (v3 + 1))), some (.inl (w32 (v4 + 1)))] [] h
        else none
      else none :=
  (aB gP gX xs stp_77 20 d mm_77 5 _ _ h).trans rfl

theorem c_77 (xs : List Int) (d : Nat) (v0 : Int) (v1 : Int) (v2 : Int) (h : aH) : cl xs (d + 1) 77 [.inr (.inr v0), .inl v1, .inl v2] h =
  ev xs d mm_77 5 [some (.inr (.inr v0)), some (.inl v1), some (.inl v2), some (.inl 0), some (.inl 0)] [] h :=
  (show _ = ev xs d mm_77 0 [some (.inr (.inr v0)), some (.inl v1), some (.inl v2), none, none] [] h from rfl).trans (q_77_0 xs d v0 v1 v2 h)
def stp_78 : List Nat := [0, 4]
set_option maxRecDepth 100000 in
set_option maxHeartbeats 4000000 in
theorem q_78_0 (xs : List Int) (d : Nat) (v0 : Int) (v1 : Int) (h : aH) : ev xs d mm_78 0 [some (.inr (.inr v0)), some (.inl v1), none, none] [] h =
  ev xs d mm_78 4 [some (.inr (.inr v0)), some (.inl v1), some (.inl 0), some (.inl 0)] [] h :=
  (aB gP gX xs stp_78 5 d mm_78 0 _ _ h).trans rfl

set_option maxRecDepth 100000 in
set_option maxHeartbeats 4000000 in
theorem q_78_4 (xs : List Int) (d : Nat) (v0 : Int) (v1 : Int) (v2 : Int) (v3 : Int) (h : aH) : ev xs d mm_78 4 [some (.inr (.inr v0)), some (.inl v1), some (.inl v2), some (.inl v3)] [] h =
  bif decide (v1 ≤ v3) then
    some (some (.inl v2), h)
  else
    bif decide (10 ≤ v3) then
      some (some (.inl v2), h)
    else
      bif aok h.1 v0 6 then
        bif ain h.1 (h.2 v0.toNat 3) 100 v3 then
          bif decide (¬ (h.2 (h.2 v0.toNat 3).toNat v3.toNat) = 0) then
            ev xs d mm_78 4 [some (.inr (.inr v0)), some (.inl v1), some (.inl (oor v2 0)), some (.inl (w32 (v3 + 1)))] [] h
          else
            ev xs d mm_78 4 [some (.inr (.inr v0)), some (.inl v1), some (.inl (oor v2 (oshl 1 v3))), some (.inl (w32 (v3 + 1)))] [] h
        else none
      else none :=
  (aB gP gX xs stp_78 21 d mm_78 4 _ _ h).trans rfl

theorem c_78 (xs : List Int) (d : Nat) (v0 : Int) (v1 : Int) (h : aH) : cl xs (d + 1) 78 [.inr (.inr v0), .inl v1] h =
  ev xs d mm_78 4 [some (.inr (.inr v0)), some (.inl v1), some (.inl 0), some (.inl 0)] [] h :=
  (show _ = ev xs d mm_78 0 [some (.inr (.inr v0)), some (.inl v1), none, none] [] h from rfl).trans (q_78_0 xs d v0 v1 h)
def stp_79 : List Nat := [0, 2]
set_option maxRecDepth 100000 in
set_option maxHeartbeats 4000000 in
theorem q_79_0 (xs : List Int) (d : Nat) (v0 : Int) (v1 : Int) (v2 : Int) (h : aH) : ev xs d mm_79 0 [some (.inr (.inr v0)), some (.inr (.inr v1)), some (.inl v2), none] [] h =
  ev xs d mm_79 2 [some (.inr (.inr v0)), some (.inr (.inr v1)), some (.inl v2), some (.inl 0)] [] h :=
  (aB gP gX xs stp_79 3 d mm_79 0 _ _ h).trans rfl

set_option maxRecDepth 100000 in
set_option maxHeartbeats 4000000 in
theorem q_79_2 (xs : List Int) (d : Nat) (v0 : Int) (v1 : Int) (v2 : Int) (v3 : Int) (h : aH) : ev xs d mm_79 2 [some (.inr (.inr v0)), some (.inr (.inr v1)), some (.inl v2), some (.inl v3)] [] h =
  bif decide (v2 ≤ v3) then
    some (none, h)
  else
    bif aok h.1 v0 6 && true then
      bV (cl xs d 80 [.inr (.inr v0), .inr (.inr v1)] h) (fun h1 =>
      ev xs d mm_79 2 [some (.inr (.inr v0)), some (.inr (.inr v1)), some (.inl v2), some (.inl (w32 (v3 + 1)))] [] h1)
    else none :=
  (aB gP gX xs stp_79 9 d mm_79 2 _ _ h).trans rfl

theorem c_79 (xs : List Int) (d : Nat) (v0 : Int) (v1 : Int) (v2 : Int) (h : aH) : cl xs (d + 1) 79 [.inr (.inr v0), .inr (.inr v1), .inl v2] h =
  ev xs d mm_79 2 [some (.inr (.inr v0)), some (.inr (.inr v1)), some (.inl v2), some (.inl 0)] [] h :=
  (show _ = ev xs d mm_79 0 [some (.inr (.inr v0)), some (.inr (.inr v1)), some (.inl v2), none] [] h from rfl).trans (q_79_0 xs d v0 v1 v2 h)
def stp_80 : List Nat := [0, 21, 66]
set_option maxRecDepth 100000 in
set_option maxHeartbeats 4000000 in
theorem q_80_0 (xs : List Int) (d : Nat) (v0 : Int) (v1 : Int) (h : aH) : ev xs d mm_80 0 [some (.inr (.inr v0)), some (.inr (.inr v1)), none, none] [] h =
  bif aok h.1 v1 9 then
    bif aok h.1 (h.2 v1.toNat 3) 7 then
      bif aok h.1 v1 9 then
        bif aok h.1 v0 6 then
          bI (cl xs d 82 [.inl (h.2 (h.2 v1.toNat 3).toNat 0), .inl (h.2 v1.toNat 15), .inl (h.2 v0.toNat 7)] h) (fun x2 h1 =>
            ev xs d mm_80 21 [some (.inr (.inr v0)), some (.inr (.inr v1)), some (.inl x2), some (.inl 0)] [] h1)
        else none
      else none
    else none
  else none :=
  (aB gP gX xs stp_80 12 d mm_80 0 _ _ h).trans rfl

set_option maxRecDepth 100000 in
set_option maxHeartbeats 4000000 in
theorem q_80_21 (xs : List Int) (d : Nat) (v0 : Int) (v1 : Int) (v2 : Int) (v3 : Int) (h : aH) : ev xs d mm_80 21 [some (.inr (.inr v0)), some (.inr (.inr v1)), some (.inl v2), some (.inl v3)] [] h =
  bif aok h.1 v1 9 then
    bif decide ((h.2 v1.toNat 5) ≤ v3) then
      ev xs d mm_80 66 [some (.inr (.inr v0)), some (.inr (.inr v1)), some (.inl v2), some (.inl 0)] [] h
    else
      bif aok h.1 v0 6 then
        bif ain h.1 (h.2 v0.toNat 3) 100 v3 then
          bif decide (¬ (h.2 (h.2 v0.toNat 3).toNat v3.toNat) = 0) then
            ev xs d mm_80 21 [some (.inr (.inr v0)), some (.inr (.inr v1)), some (.inl v2), some (.inl (w32 (v3 + 1)))] [] h
          else
            bif aok h.1 v0 6 then
              bif aok h.1 v1 9 then
                bif aok h.1 v0 6 then
                  bif ain h.1 (h.2 v0.toNat 2) 101 v3 then
                    bif aok h.1 (h.2 v1.toNat 3) 7 && true then
                      bJ (cl xs d 86 [.inr (.inr (h.2 v1.toNat 3)), .inl v2, .inr (.inl (h.2 (h.2 v0.toNat 2).toNat v3.toNat))] h) (fun x2 h1 =>
                      bif ain h1.1 (h.2 v0.toNat 2) 101 v3 then
                        ev xs d mm_80 21 [some (.inr (.inr v0)), some (.inr (.inr v1)), some (.inl v2), some (.inl (w32 (v3 + 1)))] [] (h1.1, aup h1.2 (h.2 v0.toNat 2).toNat v3.toNat x2)
                      else none)
                    else none
                  else none
                else none
              else none
            else none
        else none
      else none
  else none :=
  (aB gP gX xs stp_80 24 d mm_80 21 _ _ h).trans rfl

set_option maxRecDepth 100000 in
set_option maxHeartbeats 4000000 in
theorem q_80_66 (xs : List Int) (d : Nat) (v0 : Int) (v1 : Int) (v2 : Int) (v3 : Int) (h : aH) : ev xs d mm_80 66 [some (.inr (.inr v0)), some (.inr (.inr v1)), some (.inl v2), some (.inl v3)] [] h =
  bif aok h.1 v1 9 then
    bif decide ((h.2 v1.toNat 5) ≤ v3) then
      bif aok h.1 v0 6 then
        bif aok h.1 v0 6 then
          some (none, (h.1, aup h.2 v0.toNat 7 (w32 ((h.2 v0.toNat 7) + 1))))
        else none
      else none
    else
      bif aok h.1 v0 6 then
        bif ain h.1 (h.2 v0.toNat 3) 100 v3 then
          bif decide (¬ (h.2 (h.2 v0.toNat 3).toNat v3.toNat) = 0) then
            ev xs d mm_80 66 [some (.inr (.inr v0)), some (.inr (.inr v1)), some (.inl v2), some (.inl (w32 (v3 + 1)))] [] h
          else
            bif aok h.1 v0 6 then
              bif ain h.1 (h.2 v0.toNat 2) 101 v3 then
                bif decide ((olcmp (h.2 (h.2 v0.toNat 2).toNat v3.toNat) 0) = 0) then
                  bif aok h.1 v0 6 then
                    bif ain h.1 (h.2 v0.toNat 3) 100 v3 then
                      ev xs d mm_80 66 [some (.inr (.inr v0)), some (.inr (.inr v1)), some (.inl v2), some (.inl (w32 (v3 + 1)))] [] (h.1, aup h.2 (h.2 v0.toNat 3).toNat v3.toNat 2)
                    else none
                  else none
                else
                  bif aok h.1 v0 6 && true then
                    bI (cl xs d 81 [.inr (.inr v0), .inl v3] h) (fun x2 h1 =>
                    bif decide (x2 = 0) then
                      ev xs d mm_80 66 [some (.inr (.inr v0)), some (.inr (.inr v1)), some (.inl v2), some (.inl (w32 (v3 + 1)))] [] h1
                    else
                      bif aok h1.1 v0 6 then
                        bif ain h1.1 (h1.2 v0.toNat 3) 100 v3 then
                          ev xs d mm_80 66 [some (.inr (.inr v0)), some (.inr (.inr v1)), some (.inl v2), some (.inl (w32 (v3 + 1)))] [] (h1.1, aup h1.2 (h1.2 v0.toNat 3).toNat v3.toNat 2)
                        else none
                      else none)
                  else none
              else none
            else none
        else none
      else none
  else none :=
  (aB gP gX xs stp_80 28 d mm_80 66 _ _ h).trans rfl

theorem c_80 (xs : List Int) (d : Nat) (v0 : Int) (v1 : Int) (h : aH) : cl xs (d + 1) 80 [.inr (.inr v0), .inr (.inr v1)] h =
  bif aok h.1 v1 9 then
    bif aok h.1 (h.2 v1.toNat 3) 7 then
      bif aok h.1 v1 9 then
        bif aok h.1 v0 6 then
          bI (cl xs d 82 [.inl (h.2 (h.2 v1.toNat 3).toNat 0), .inl (h.2 v1.toNat 15), .inl (h.2 v0.toNat 7)] h) (fun x2 h1 =>
            ev xs d mm_80 21 [some (.inr (.inr v0)), some (.inr (.inr v1)), some (.inl x2), some (.inl 0)] [] h1)
        else none
      else none
    else none
  else none :=
  (show _ = ev xs d mm_80 0 [some (.inr (.inr v0)), some (.inr (.inr v1)), none, none] [] h from rfl).trans (q_80_0 xs d v0 v1 h)
def stp_81 : List Nat := [0, 2]
set_option maxRecDepth 100000 in
set_option maxHeartbeats 4000000 in
theorem q_81_0 (xs : List Int) (d : Nat) (v0 : Int) (v1 : Int) (h : aH) : ev xs d mm_81 0 [some (.inr (.inr v0)), some (.inl v1), none] [] h =
  ev xs d mm_81 2 [some (.inr (.inr v0)), some (.inl v1), some (.inl 0)] [] h :=
  (aB gP gX xs stp_81 3 d mm_81 0 _ _ h).trans rfl

set_option maxRecDepth 100000 in
set_option maxHeartbeats 4000000 in
theorem q_81_2 (xs : List Int) (d : Nat) (v0 : Int) (v1 : Int) (v2 : Int) (h : aH) : ev xs d mm_81 2 [some (.inr (.inr v0)), some (.inl v1), some (.inl v2)] [] h =
  bif decide (v1 ≤ v2) then
    some (some (.inl 0), h)
  else
    bif aok h.1 v0 6 then
      bif ain h.1 (h.2 v0.toNat 2) 101 v2 then
        bif aok h.1 v0 6 then
          bif ain h.1 (h.2 v0.toNat 2) 101 v1 then
            bif decide (¬ (olcmp (h.2 (h.2 v0.toNat 2).toNat v2.toNat) (h.2 (h.2 v0.toNat 2).toNat v1.toNat)) = 0) then
              ev xs d mm_81 2 [some (.inr (.inr v0)), some (.inl v1), some (.inl (w32 (v2 + 1)))] [] h
            else
              bif aok h.1 v0 6 then
                bif ain h.1 (h.2 v0.toNat 3) 100 v2 then
                  bif decide (¬ (h.2 (h.2 v0.toNat 3).toNat v2.toNat) = 0) then
                    ev xs d mm_81 2 [some (.inr (.inr v0)), some (.inl v1), some (.inl (w32 (v2 + 1)))] [] h
                  else
                    some (some (.inl 1), h)
                else none
              else none
          else none
        else none
      else none
    else none :=
  (aB gP gX xs stp_81 21 d mm_81 2 _ _ h).trans rfl

theorem c_81 (xs : List Int) (d : Nat) (v0 : Int) (v1 : Int) (h : aH) : cl xs (d + 1) 81 [.inr (.inr v0), .inl v1] h =
  ev xs d mm_81 2 [some (.inr (.inr v0)), some (.inl v1), some (.inl 0)] [] h :=
  (show _ = ev xs d mm_81 0 [some (.inr (.inr v0)), some (.inl v1), none] [] h from rfl).trans (q_81_0 xs d v0 v1 h)
def stp_82 : List Nat := [0]
set_option maxRecDepth 100000 in
set_option maxHeartbeats 4000000 in
theorem q_82_0 (xs : List Int) (d : Nat) (v0 : Int) (v1 : Int) (v2 : Int) (h : aH) : ev xs d mm_82 0 [some (.inl v0), some (.inl v1), some (.inl v2), none] [] h =
  bI (cl xs d 83 [.inl v1, .inl 31] h) (fun x2 h1 =>
    bI (cl xs d 83 [.inl x2, .inl v2] h1) (fun x4 h3 =>
      bif decide (v0 ≤ 0) then
        some (some (.inl (-1)), h3)
      else
        bif decide (v0 = 0) then none else
        some (some (.inl (orem (oushr x4 1) v0)), h3))) :=
  (aB gP gX xs stp_82 16 d mm_82 0 _ _ h).trans rfl

theorem c_82 (xs : List Int) (d : Nat) (v0 : Int) (v1 : Int) (v2 : Int) (h : aH) : cl xs (d + 1) 82 [.inl v0, .inl v1, .inl v2] h =
  bI (cl xs d 83 [.inl v1, .inl 31] h) (fun x2 h1 =>
    bI (cl xs d 83 [.inl x2, .inl v2] h1) (fun x4 h3 =>
      bif decide (v0 ≤ 0) then
        some (some (.inl (-1)), h3)
      else
        bif decide (v0 = 0) then none else
        some (some (.inl (orem (oushr x4 1) v0)), h3))) :=
  (show _ = ev xs d mm_82 0 [some (.inl v0), some (.inl v1), some (.inl v2), none] [] h from rfl).trans (q_82_0 xs d v0 v1 v2 h)
def stp_83 : List Nat := [0]
set_option maxRecDepth 100000 in
set_option maxHeartbeats 4000000 in
theorem q_83_0 (xs : List Int) (d : Nat) (v0 : Int) (v1 : Int) (h : aH) : ev xs d mm_83 0 [some (.inl v0), some (.inl v1), none] [] h =
  some (some (.inl (oxor (w32 ((w32 ((oxor v0 v1) * 1103515245)) + 12345)) (oushr (w32 ((w32 ((oxor v0 v1) * 1103515245)) + 12345)) 15))), h) :=
  (aB gP gX xs stp_83 15 d mm_83 0 _ _ h).trans rfl

theorem c_83 (xs : List Int) (d : Nat) (v0 : Int) (v1 : Int) (h : aH) : cl xs (d + 1) 83 [.inl v0, .inl v1] h =
  some (some (.inl (oxor (w32 ((w32 ((oxor v0 v1) * 1103515245)) + 12345)) (oushr (w32 ((w32 ((oxor v0 v1) * 1103515245)) + 12345)) 15))), h) :=
  (show _ = ev xs d mm_83 0 [some (.inl v0), some (.inl v1), none] [] h from rfl).trans (q_83_0 xs d v0 v1 h)
def stp_84 : List Nat := [0, 14, 22, 30, 38]
set_option maxRecDepth 100000 in
set_option maxHeartbeats 4000000 in
theorem q_84_0 (xs : List Int) (d : Nat) (v0 : Int) (h : aH) : ev xs d mm_84 0 [some (.inr (.inr v0))] [] h =
  bif decide (0 ≤ v0) && true then
    bif aok h.1 v0 7 then
      ev xs d mm_84 14 [some (.inr (.inr v0))] [.inr (.inr (h.1.1 : Int)), .inr (.inr v0)] ((h.1.1 + 1, h.1.2.1 + (7 : Int).toNat, fun q => if q = h.1.1 then (100, (7 : Int).toNat) else h.1.2.2 q), fun q j => if q = h.1.1 then 0 else (aup h.2 v0.toNat 0 0) q j)
    else none
  else none :=
  (aB gP gX xs stp_84 9 d mm_84 0 _ _ h).trans rfl

set_option maxRecDepth 100000 in
set_option maxHeartbeats 4000000 in
theorem q_84_14 (xs : List Int) (d : Nat) (v0 : Int) (s0 : Int) (s1 : Int) (h : aH) : ev xs d mm_84 14 [some (.inr (.inr v0))] [.inr (.inr s1), .inr (.inr s0)] h =
  bif aok h.1 s0 7 then
    ev xs d mm_84 22 [some (.inr (.inr v0))] [.inr (.inr (h.1.1 : Int)), .inr (.inr v0)] ((h.1.1 + 1, h.1.2.1 + (7 : Int).toNat, fun q => if q = h.1.1 then (100, (7 : Int).toNat) else h.1.2.2 q), fun q j => if q = h.1.1 then 0 else (aup h.2 s0.toNat 1 s1) q j)
  else none :=
  (aB gP gX xs stp_84 5 d mm_84 14 _ _ h).trans rfl

set_option maxRecDepth 100000 in
set_option maxHeartbeats 4000000 in
theorem q_84_22 (xs : List Int) (d : Nat) (v0 : Int) (s0 : Int) (s1 : Int) (h : aH) : ev xs d mm_84 22 [some (.inr (.inr v0))] [.inr (.inr s1), .inr (.inr s0)] h =
  bif aok h.1 s0 7 then
    ev xs d mm_84 30 [some (.inr (.inr v0))] [.inr (.inr (h.1.1 : Int)), .inr (.inr v0)] ((h.1.1 + 1, h.1.2.1 + (7 : Int).toNat, fun q => if q = h.1.1 then (100, (7 : Int).toNat) else h.1.2.2 q), fun q j => if q = h.1.1 then 0 else (aup h.2 s0.toNat 2 s1) q j)
  else none :=
  (aB gP gX xs stp_84 5 d mm_84 22 _ _ h).trans rfl

set_option maxRecDepth 100000 in
set_option maxHeartbeats 4000000 in
theorem q_84_30 (xs : List Int) (d : Nat) (v0 : Int) (s0 : Int) (s1 : Int) (h : aH) : ev xs d mm_84 30 [some (.inr (.inr v0))] [.inr (.inr s1), .inr (.inr s0)] h =
  bif aok h.1 s0 7 then
    ev xs d mm_84 38 [some (.inr (.inr v0))] [.inr (.inr (h.1.1 : Int)), .inr (.inr v0)] ((h.1.1 + 1, h.1.2.1 + (7 : Int).toNat, fun q => if q = h.1.1 then (100, (7 : Int).toNat) else h.1.2.2 q), fun q j => if q = h.1.1 then 0 else (aup h.2 s0.toNat 3 s1) q j)
  else none :=
  (aB gP gX xs stp_84 5 d mm_84 30 _ _ h).trans rfl

set_option maxRecDepth 100000 in
set_option maxHeartbeats 4000000 in
theorem q_84_38 (xs : List Int) (d : Nat) (v0 : Int) (s0 : Int) (s1 : Int) (h : aH) : ev xs d mm_84 38 [some (.inr (.inr v0))] [.inr (.inr s1), .inr (.inr s0)] h =
  bif aok h.1 s0 7 then
    some (none, (h.1, aup h.2 s0.toNat 4 s1))
  else none :=
  (aB gP gX xs stp_84 3 d mm_84 38 _ _ h).trans rfl

theorem c_84 (xs : List Int) (d : Nat) (v0 : Int) (h : aH) : cl xs (d + 1) 84 [.inr (.inr v0)] h =
  bif decide (0 ≤ v0) && true then
    bif aok h.1 v0 7 then
      ev xs d mm_84 14 [some (.inr (.inr v0))] [.inr (.inr (h.1.1 : Int)), .inr (.inr v0)] ((h.1.1 + 1, h.1.2.1 + (7 : Int).toNat, fun q => if q = h.1.1 then (100, (7 : Int).toNat) else h.1.2.2 q), fun q j => if q = h.1.1 then 0 else (aup h.2 v0.toNat 0 0) q j)
    else none
  else none :=
  (show _ = ev xs d mm_84 0 [some (.inr (.inr v0))] [] h from rfl).trans (q_84_0 xs d v0 h)
def stp_85 : List Nat := [0, 39]
set_option maxRecDepth 100000 in
set_option maxHeartbeats 4000000 in
theorem q_85_0 (xs : List Int) (d : Nat) (v0 : Int) (v1 : Int) (v2 : Int) (v3 : Int) (v4 : Int) (h : aH) : ev xs d mm_85 0 [some (.inr (.inr v0)), some (.inl v1), some (.inl v2), some (.inl v3), some (.inl v4)] [] h =
  bif aok h.1 v0 7 then
    bif decide (7 ≤ (h.2 v0.toNat 0)) then
      some (none, h)
    else
      bif aok h.1 v0 7 then
        bif aok h.1 v0 7 then
          bif ain h.1 (h.2 v0.toNat 1) 100 (h.2 v0.toNat 0) then
            bif aok h.1 v0 7 then
              bif aok h.1 v0 7 then
                bif ain h.1 ((aup h.2 (h.2 v0.toNat 1).toNat (h.2 v0.toNat 0).toNat v1) v0.toNat 2) 100 ((aup h.2 (h.2 v0.toNat 1).toNat (h.2 v0.toNat 0).toNat v1) v0.toNat 0) then
                  bif aok h.1 v0 7 then
                    bif aok h.1 v0 7 then
                      bif ain h.1 ((aup (aup h.2 (h.2 v0.toNat 1).toNat (h.2 v0.toNat 0).toNat v1) ((aup h.2 (h.2 v0.toNat 1).toNat (h.2 v0.toNat 0).toNat v1) v0.toNat 2).toNat ((aup h.2 (h.2 v0.toNat 1).toNat (h.2 v0.toNat 0).toNat v1) v0.toNat 0).toNat v2) v0.toNat 3) 100 ((aup (aup h.2 (h.2 v0.toNat 1).toNat (h.2 v0.toNat 0).toNat v1) ((aup h.2 (h.2 v0.toNat 1).toNat (h.2 v0.toNat 0).toNat v1) v0.toNat 2).toNat ((aup h.2 (h.2 v0.toNat 1).toNat (h.2 v0.toNat 0).toNat v1) v0.toNat 0).toNat v2) v0.toNat 0) then
                        ev xs d mm_85 39 [some (.inr (.inr v0)), some (.inl v1), some (.inl v2), some (.inl v3), some (.inl v4)] [] (h.1, aup (aup (aup h.2 (h.2 v0.toNat 1).toNat (h.2 v0.toNat 0).toNat v1) ((aup h.2 (h.2 v0.toNat 1).toNat (h.2 v0.toNat 0).toNat v1) v0.toNat 2).toNat ((aup h.2 (h.2 v0.toNat 1).toNat (h.2 v0.toNat 0).toNat v1) v0.toNat 0).toNat v2) ((aup (aup h.2 (h.2 v0.toNat 1).toNat (h.2 v0.toNat 0).toNat v1) ((aup h.2 (h.2 v0.toNat 1).toNat (h.2 v0.toNat 0).toNat v1) v0.toNat 2).toNat ((aup h.2 (h.2 v0.toNat 1).toNat (h.2 v0.toNat 0).toNat v1) v0.toNat 0).toNat v2) v0.toNat 3).toNat ((aup (aup h.2 (h.2 v0.toNat 1).toNat (h.2 v0.toNat 0).toNat v1) ((aup h.2 (h.2 v0.toNat 1).toNat (h.2 v0.toNat 0).toNat v1) v0.toNat 2).toNat ((aup h.2 (h.2 v0.toNat 1).toNat (h.2 v0.toNat 0).toNat v1) v0.toNat 0).toNat v2) v0.toNat 0).toNat v3)
                      else none
                    else none
                  else none
                else none
              else none
            else none
          else none
        else none
      else none
  else none :=
  (aB gP gX xs stp_85 23 d mm_85 0 _ _ h).trans rfl

set_option maxRecDepth 100000 in
set_option maxHeartbeats 4000000 in
theorem q_85_39 (xs : List Int) (d : Nat) (v0 : Int) (v1 : Int) (v2 : Int) (v3 : Int) (v4 : Int) (h : aH) : ev xs d mm_85 39 [some (.inr (.inr v0)), some (.inl v1), some (.inl v2), some (.inl v3), some (.inl v4)] [] h =
  bif aok h.1 v0 7 then
    bif aok h.1 v0 7 then
      bif ain h.1 (h.2 v0.toNat 4) 100 (h.2 v0.toNat 0) then
        bif aok h.1 v0 7 then
          bif aok h.1 v0 7 then
            some (none, (h.1, aup (aup h.2 (h.2 v0.toNat 4).toNat (h.2 v0.toNat 0).toNat v4) v0.toNat 0 (w32 (((aup h.2 (h.2 v0.toNat 4).toNat (h.2 v0.toNat 0).toNat v4) v0.toNat 0) + 1))))
          else none
        else none
      else none
    else none
  else none :=
  (aB gP gX xs stp_85 14 d mm_85 39 _ _ h).trans rfl

theorem c_85 (xs : List Int) (d : Nat) (v0 : Int) (v1 : Int) (v2 : Int) (v3 : Int) (v4 : Int) (h : aH) : cl xs (d + 1) 85 [.inr (.inr v0), .inl v1, .inl v2, .inl v3, .inl v4] h =
  bif aok h.1 v0 7 then
    bif decide (7 ≤ (h.2 v0.toNat 0)) then
      some (none, h)
    else
      bif aok h.1 v0 7 then
        bif aok h.1 v0 7 then
          bif ain h.1 (h.2 v0.toNat 1) 100 (h.2 v0.toNat 0) then
            bif aok h.1 v0 7 then
              bif aok h.1 v0 7 then
                bif ain h.1 ((aup h.2 (h.2 v0.toNat 1).toNat (h.2 v0.toNat 0).toNat v1) v0.toNat 2) 100 ((aup h.2 (h.2 v0.toNat 1).toNat (h.2 v0.toNat 0).toNat v1) v0.toNat 0) then
                  bif aok h.1 v0 7 then
                    bif aok h.1 v0 7 then
                      bif ain h.1 ((aup (aup h.2 (h.2 v0.toNat 1).toNat (h.2 v0.toNat 0).toNat v1) ((aup h.2 (h.2 v0.toNat 1).toNat (h.2 v0.toNat 0).toNat v1) v0.toNat 2).toNat ((aup h.2 (h.2 v0.toNat 1).toNat (h.2 v0.toNat 0).toNat v1) v0.toNat 0).toNat v2) v0.toNat 3) 100 ((aup (aup h.2 (h.2 v0.toNat 1).toNat (h.2 v0.toNat 0).toNat v1) ((aup h.2 (h.2 v0.toNat 1).toNat (h.2 v0.toNat 0).toNat v1) v0.toNat 2).toNat ((aup h.2 (h.2 v0.toNat 1).toNat (h.2 v0.toNat 0).toNat v1) v0.toNat 0).toNat v2) v0.toNat 0) then
                        ev xs d mm_85 39 [some (.inr (.inr v0)), some (.inl v1), some (.inl v2), some (.inl v3), some (.inl v4)] [] (h.1, aup (aup (aup h.2 (h.2 v0.toNat 1).toNat (h.2 v0.toNat 0).toNat v1) ((aup h.2 (h.2 v0.toNat 1).toNat (h.2 v0.toNat 0).toNat v1) v0.toNat 2).toNat ((aup h.2 (h.2 v0.toNat 1).toNat (h.2 v0.toNat 0).toNat v1) v0.toNat 0).toNat v2) ((aup (aup h.2 (h.2 v0.toNat 1).toNat (h.2 v0.toNat 0).toNat v1) ((aup h.2 (h.2 v0.toNat 1).toNat (h.2 v0.toNat 0).toNat v1) v0.toNat 2).toNat ((aup h.2 (h.2 v0.toNat 1).toNat (h.2 v0.toNat 0).toNat v1) v0.toNat 0).toNat v2) v0.toNat 3).toNat ((aup (aup h.2 (h.2 v0.toNat 1).toNat (h.2 v0.toNat 0).toNat v1) ((aup h.2 (h.2 v0.toNat 1).toNat (h.2 v0.toNat 0).toNat v1) v0.toNat 2).toNat ((aup h.2 (h.2 v0.toNat 1).toNat (h.2 v0.toNat 0).toNat v1) v0.toNat 0).toNat v2) v0.toNat 0).toNat v3)
                      else none
                    else none
                  else none
                else none
              else none
            else none
          else none
        else none
      else none
  else none :=
  (show _ = ev xs d mm_85 0 [some (.inr (.inr v0)), some (.inl v1), some (.inl v2), some (.inl v3), some (.inl v4)] [] h from rfl).trans (q_85_0 xs d v0 v1 v2 v3 v4 h)
def stp_86 : List Nat := [0, 39, 119]
set_option maxRecDepth 100000 in
set_option maxHeartbeats 4000000 in
theorem q_86_0 (xs : List Int) (d : Nat) (v0 : Int) (v1 : Int) (v2 : Int) (h : aH) : ev xs d mm_86 0 [some (.inr (.inr v0)), some (.inl v1), some (.inr (.inl v2)), none, none, none, none, none, none, none, none] [] h =
  bif decide (v1 < 0) then
    some (some (.inr (.inl v2)), h)
  else
    bif aok h.1 v0 7 then
      bif decide ((h.2 v0.toNat 0) ≤ v1) then
        some (some (.inr (.inl v2)), h)
      else
        bif aok h.1 v0 7 then
          bif ain h.1 (h.2 v0.toNat 1) 100 v1 then
            bI (cl xs d 87 [.inr (.inl v2), .inl (h.2 (h.2 v0.toNat 1).toNat v1.toNat)] h) (fun x2 h1 =>
              bif decide (¬ x2 = 0) then
                ev xs d mm_86 39 [some (.inr (.inr v0)), some (.inl v1), some (.inr (.inl v2)), none, some (.inr (.inl 0)), none, some (.inl 0), some (.inl 0), some (.inl 0), none, none] [] h1
              else
                some (some (.inr (.inl v2)), h1))
          else none
        else none
    else none :=
  (aB gP gX xs stp_86 22 d mm_86 0 _ _ h).trans rfl

set_option maxRecDepth 100000 in
set_option maxHeartbeats 4000000 in
theorem q_86_39 (xs : List Int) (d : Nat) (v0 : Int) (v1 : Int) (v2 : Int) (u3 : Option aV) (v4 : Int) (u5 : Option aV) (v6 : Int) (v7 : Int) (v8 : Int) (u9 : Option aV) (u10 : Option aV) (h : aH) : ev xs d mm_86 39 [some (.inr (.inr v0)), some (.inl v1), some (.inr (.inl v2)), u3, some (.inr (.inl v4)), u5, some (.inl v6), some (.inl v7), some (.inl v8), u9, u10] [] h =
  bif decide (8 ≤ v8) then
    some (some (.inr (.inl v4)), h)
  else
    bI (cl xs d 122 [.inr (.inl v2), .inl v8] h) (fun x2 h1 =>
      bif decide (¬ x2 = 0) then
        bif aok h1.1 v0 7 then
          bif ain h1.1 (h1.2 v0.toNat 1) 100 v1 then
            bif decide (¬ x2 = (h1.2 (h1.2 v0.toNat 1).toNat v1.toNat)) then
              ev xs d mm_86 119 [some (.inr (.inr v0)), some (.inl v1), some (.inr (.inl v2)), u3, some (.inr (.inl v4)), u5, some (.inl v6), some (.inl v7), some (.inl v8), some (.inl x2), some (.inl x2)] [] h1
            else
              bif aok h1.1 v0 7 then
                bif ain h1.1 (h1.2 v0.toNat 3) 100 v1 then
                  bif decide ((oand (oushr (h1.2 (h1.2 v0.toNat 3).toNat v1.toNat) v7) 1) = 0) then
                    ev xs d mm_86 119 [some (.inr (.inr v0)), some (.inl v1), some (.inr (.inl v2)), u3, some (.inr (.inl v4)), u5, some (.inl v6), some (.inl v7), some (.inl v8), some (.inl x2), some (.inl x2)] [] h1
                  else
                    bif aok h1.1 v0 7 then
                      bif ain h1.1 (h1.2 v0.toNat 4) 100 v1 then
                        bI (cl xs d 122 [.inr (.inl v2), .inl (w32 (v8 + 1))] h1) (fun x4 h3 =>
                          bif decide ((oand (oushr (h1.2 (h1.2 v0.toNat 4).toNat v1.toNat) x4) 1) = 0) then
                            ev xs d mm_86 119 [some (.inr (.inr v0)), some (.inl v1), some (.inr (.inl v2)), u3, some (.inr (.inl v4)), u5, some (.inl v6), some (.inl v7), some (.inl v8), some (.inl x2), some (.inl x2)] [] h3
                          else
                            bif aok h3.1 v0 7 then
                              bif ain h3.1 (h3.2 v0.toNat 2) 100 v1 then
                                ev xs d mm_86 119 [some (.inr (.inr v0)), some (.inl v1), some (.inr (.inl v2)), u3, some (.inr (.inl v4)), u5, some (.inl v6), some (.inl v7), some (.inl v8), some (.inl x2), some (.inl (h3.2 (h3.2 v0.toNat 2).toNat v1.toNat))] [] h3
                              else none
                            else none)
                      else none
                    else none
                else none
              else none
          else none
        else none
      else
        some (some (.inr (.inl v4)), h1)) :=
  (aB gP gX xs stp_86 45 d mm_86 39 _ _ h).trans rfl

set_option maxRecDepth 100000 in
set_option maxHeartbeats 4000000 in
theorem q_86_119 (xs : List Int) (d : Nat) (v0 : Int) (v1 : Int) (v2 : Int) (u3 : Option aV) (v4 : Int) (u5 : Option aV) (v6 : Int) (v7 : Int) (v8 : Int) (v9 : Int) (v10 : Int) (h : aH) : ev xs d mm_86 119 [some (.inr (.inr v0)), some (.inl v1), some (.inr (.inl v2)), u3, some (.inr (.inl v4)), u5, some (.inl v6), some (.inl v7), some (.inl v8), some (.inl v9), some (.inl v10)] [] h =
  bif decide (v10 = 0) then
    ev xs d mm_86 39 [some (.inr (.inr v0)), some (.inl v1), some (.inr (.inl v2)), u3, some (.inr (.inl v4)), u5, some (.inl v6), some (.inl v9), some (.inl (w32 (v8 + 1))), some (.inl v9), some (.inl v10)] [] h
  else
    ev xs d mm_86 39 [some (.inr (.inr v0)), some (.inl v1), some (.inr (.inl v2)), acl u3, some (.inr (.inl (olor v4 (olshl v10 v6)))), none, some (.inl (w32 (v6 + 5))), some (.inl v9), some (.inl (w32 (v8 + 1))), some (.inl v9), some (.inl v10)] [] h :=
  (aB gP gX xs stp_86 15 d mm_86 119 _ _ h).trans rfl

theorem c_86 (xs : List Int) (d : Nat) (v0 : Int) (v1 : Int) (v2 : Int) (h : aH) : cl xs (d + 1) 86 [.inr (.inr v0), .inl v1, .inr (.inl v2)] h =
  bif decide (v1 < 0) then
    some (some (.inr (.inl v2)), h)
  else
    bif aok h.1 v0 7 then
      bif decide ((h.2 v0.toNat 0) ≤ v1) then
        some (some (.inr (.inl v2)), h)
      else
        bif aok h.1 v0 7 then
          bif ain h.1 (h.2 v0.toNat 1) 100 v1 then
            bI (cl xs d 87 [.inr (.inl v2), .inl (h.2 (h.2 v0.toNat 1).toNat v1.toNat)] h) (fun x2 h1 =>
              bif decide (¬ x2 = 0) then
                ev xs d mm_86 39 [some (.inr (.inr v0)), some (.inl v1), some (.inr (.inl v2)), none, some (.inr (.inl 0)), none, some (.inl 0), some (.inl 0), some (.inl 0), none, none] [] h1
              else
                some (some (.inr (.inl v2)), h1))
          else none
        else none
    else none :=
  (show _ = ev xs d mm_86 0 [some (.inr (.inr v0)), some (.inl v1), some (.inr (.inl v2)), none, none, none, none, none, none, none, none] [] h from rfl).trans (q_86_0 xs d v0 v1 v2 h)
def stp_87 : List Nat := [0]
set_option maxRecDepth 100000 in
set_option maxHeartbeats 4000000 in
theorem q_87_0 (xs : List Int) (d : Nat) (v0 : Int) (v2 : Int) (h : aH) : ev xs d mm_87 0 [some (.inr (.inl v0)), none, some (.inl v2), none, none] [] h =
  bif decide ((olcmp (oland (oland (w64 ((olxor v0 (w64 (v2 * 35468117025))) - 35468117025)) (olxor (olxor v0 (w64 (v2 * 35468117025))) (-1))) 567489872400) 0) = 0) then
    some (some (.inl 0), h)
  else
    some (some (.inl 1), h) :=
  (aB gP gX xs stp_87 23 d mm_87 0 _ _ h).trans rfl

theorem c_87 (xs : List Int) (d : Nat) (v0 : Int) (v2 : Int) (h : aH) : cl xs (d + 1) 87 [.inr (.inl v0), .inl v2] h =
  bif decide ((olcmp (oland (oland (w64 ((olxor v0 (w64 (v2 * 35468117025))) - 35468117025)) (olxor (olxor v0 (w64 (v2 * 35468117025))) (-1))) 567489872400) 0) = 0) then
    some (some (.inl 0), h)
  else
    some (some (.inl 1), h) :=
  (show _ = ev xs d mm_87 0 [some (.inr (.inl v0)), none, some (.inl v2), none, none] [] h from rfl).trans (q_87_0 xs d v0 v2 h)
def stp_88 : List Nat := [0, 19]
set_option maxRecDepth 100000 in
set_option maxHeartbeats 4000000 in
theorem q_88_0 (xs : List Int) (d : Nat) (v0 : Int) (v1 : Int) (h : aH) : ev xs d mm_88 0 [some (.inr (.inr v0)), some (.inr (.inr v1))] [] h =
  bif decide (0 ≤ v0) && true then
    bif aok h.1 v0 8 then
      bif aok h.1 v0 8 then
        bif aok h.1 v0 8 then
          ev xs d mm_88 19 [some (.inr (.inr v0)), some (.inr (.inr v1))] [] (h.1, aup (aup (aup h.2 v0.toNat 0 0) v0.toNat 1 (-1)) v0.toNat 3 0)
        else none
      else none
    else none
  else none :=
  (aB gP gX xs stp_88 12 d mm_88 0 _ _ h).trans rfl

set_option maxRecDepth 100000 in
set_option maxHeartbeats 4000000 in
theorem q_88_19 (xs : List Int) (d : Nat) (v0 : Int) (v1 : Int) (h : aH) : ev xs d mm_88 19 [some (.inr (.inr v0)), some (.inr (.inr v1))] [] h =
  bif aok h.1 v0 8 then
    some (none, (h.1, aup h.2 v0.toNat 2 v1))
  else none :=
  (aB gP gX xs stp_88 5 d mm_88 19 _ _ h).trans rfl

theorem c_88 (xs : List Int) (d : Nat) (v0 : Int) (v1 : Int) (h : aH) : cl xs (d + 1) 88 [.inr (.inr v0), .inr (.inr v1)] h =
  bif decide (0 ≤ v0) && true then
    bif aok h.1 v0 8 then
      bif aok h.1 v0 8 then
        bif aok h.1 v0 8 then
          ev xs d mm_88 19 [some (.inr (.inr v0)), some (.inr (.inr v1))] [] (h.1, aup (aup (aup h.2 v0.toNat 0 0) v0.toNat 1 (-1)) v0.toNat 3 0)
        else none
      else none
    else none
  else none :=
  (show _ = ev xs d mm_88 0 [some (.inr (.inr v0)), some (.inr (.inr v1))] [] h from rfl).trans (q_88_0 xs d v0 v1 h)
def stp_89 : List Nat := [0, 15, 21]
set_option maxRecDepth 100000 in
set_option maxHeartbeats 4000000 in
theorem q_89_0 (xs : List Int) (d : Nat) (v0 : Int) (v1 : Int) (h : aH) : ev xs d mm_89 0 [some (.inr (.inr v0)), some (.inr (.inr v1)), none] [] h =
  bif aok h.1 v0 8 then
    bif aok h.1 v0 8 then
      bif aok h.1 v0 8 then
        ev xs d mm_89 15 [some (.inr (.inr v0)), some (.inr (.inr v1)), none] [] (h.1, aup (aup (aup h.2 v0.toNat 3 0) v0.toNat 0 0) v0.toNat 1 (-1))
      else none
    else none
  else none :=
  (aB gP gX xs stp_89 10 d mm_89 0 _ _ h).trans rfl

set_option maxRecDepth 100000 in
set_option maxHeartbeats 4000000 in
theorem q_89_15 (xs : List Int) (d : Nat) (v0 : Int) (v1 : Int) (u2 : Option aV) (h : aH) : ev xs d mm_89 15 [some (.inr (.inr v0)), some (.inr (.inr v1)), u2] [] h =
  bif aok h.1 v1 9 && true then
    bV (cl xs d 109 [.inr (.inr v1)] h) (fun h1 =>
    ev xs d mm_89 21 [some (.inr (.inr v0)), some (.inr (.inr v1)), some (.inl 0)] [] h1)
  else none :=
  (aB gP gX xs stp_89 5 d mm_89 15 _ _ h).trans rfl

set_option maxRecDepth 100000 in
set_option maxHeartbeats 4000000 in
theorem q_89_21 (xs : List Int) (d : Nat) (v0 : Int) (v1 : Int) (v2 : Int) (h : aH) : ev xs d mm_89 21 [some (.inr (.inr v0)), some (.inr (.inr v1)), some (.inl v2)] [] h =
  bif decide (400 < v2) then
    bif aok h.1 v0 8 then
      some (some (.inl (h.2 v0.toNat 0)), h)
    else none
  else
    bif aok h.1 v0 8 then
      bif decide (¬ (h.2 v0.toNat 0) = 0) then
        bif aok h.1 v0 8 then
          some (some (.inl (h.2 v0.toNat 0)), h)
        else none
      else
        bif aok h.1 v0 8 && true then
          bI (cl xs d 90 [.inr (.inr v0)] h) (fun x2 h1 =>
          bif decide (x2 = 0) then
            bif aok h1.1 v0 8 then
              some (some (.inl (h1.2 v0.toNat 0)), h1)
            else none
          else
            bif aok h1.1 v0 8 && true then
              bV (cl xs d 96 [.inr (.inr v0), .inr (.inr v1)] h1) (fun h3 =>
              bif aok h3.1 v0 8 then
                bif aok h3.1 v0 8 then
                  ev xs d mm_89 21 [some (.inr (.inr v0)), some (.inr (.inr v1)), some (.inl (w32 (v2 + 1)))] [] (h3.1, aup h3.2 v0.toNat 3 (w32 ((h3.2 v0.toNat 3) + 1)))
                else none
              else none)
            else none)
        else none
    else none :=
  (aB gP gX xs stp_89 21 d mm_89 21 _ _ h).trans rfl

theorem c_89 (xs : List Int) (d : Nat) (v0 : Int) (v1 : Int) (h : aH) : cl xs (d + 1) 89 [.inr (.inr v0), .inr (.inr v1)] h =
  bif aok h.1 v0 8 then
    bif aok h.1 v0 8 then
      bif aok h.1 v0 8 then
        ev xs d mm_89 15 [some (.inr (.inr v0)), some (.inr (.inr v1)), none] [] (h.1, aup (aup (aup h.2 v0.toNat 3 0) v0.toNat 0 0) v0.toNat 1 (-1))
      else none
    else none
  else none :=
  (show _ = ev xs d mm_89 0 [some (.inr (.inr v0)), some (.inr (.inr v1)), none] [] h from rfl).trans (q_89_0 xs d v0 v1 h)
def stp_90 : List Nat := [0]
set_option maxRecDepth 100000 in
set_option maxHeartbeats 4000000 in
theorem q_90_0 (xs : List Int) (d : Nat) (v0 : Int) (h : aH) : ev xs d mm_90 0 [some (.inr (.inr v0))] [] h =
  bif aok h.1 v0 8 then
    bif aok h.1 v0 8 then
      bif aok h.1 (h.2 v0.toNat 2) 4 && true then
        bI (cl xs d 37 [.inr (.inr (h.2 v0.toNat 2)), .inl (h.2 v0.toNat 3)] h) (fun x2 h1 =>
        some (some (.inl x2), h1))
      else none
    else none
  else none :=
  (aB gP gX xs stp_90 7 d mm_90 0 _ _ h).trans rfl

theorem c_90 (xs : List Int) (d : Nat) (v0 : Int) (h : aH) : cl xs (d + 1) 90 [.inr (.inr v0)] h =
  bif aok h.1 v0 8 then
    bif aok h.1 v0 8 then
      bif aok h.1 (h.2 v0.toNat 2) 4 && true then
        bI (cl xs d 37 [.inr (.inr (h.2 v0.toNat 2)), .inl (h.2 v0.toNat 3)] h) (fun x2 h1 =>
        some (some (.inl x2), h1))
      else none
    else none
  else none :=
  (show _ = ev xs d mm_90 0 [some (.inr (.inr v0))] [] h from rfl).trans (q_90_0 xs d v0 h)
def stp_91 : List Nat := [0]
set_option maxRecDepth 100000 in
set_option maxHeartbeats 4000000 in
theorem q_91_0 (xs : List Int) (d : Nat) (v0 : Int) (h : aH) : ev xs d mm_91 0 [some (.inr (.inr v0))] [] h =
  bif aok h.1 v0 8 then
    bif aok h.1 v0 8 then
      bif aok h.1 (h.2 v0.toNat 2) 4 && true then
        bI (cl xs d 37 [.inr (.inr (h.2 v0.toNat 2)), .inl (w32 ((h.2 v0.toNat 3) + 1))] h) (fun x2 h1 =>
        some (some (.inl x2), h1))
      else none
    else none
  else none :=
  (aB gP gX xs stp_91 9 d mm_91 0 _ _ h).trans rfl

theorem c_91 (xs : List Int) (d : Nat) (v0 : Int) (h : aH) : cl xs (d + 1) 91 [.inr (.inr v0)] h =
  bif aok h.1 v0 8 then
    bif aok h.1 v0 8 then
      bif aok h.1 (h.2 v0.toNat 2) 4 && true then
        bI (cl xs d 37 [.inr (.inr (h.2 v0.toNat 2)), .inl (w32 ((h.2 v0.toNat 3) + 1))] h) (fun x2 h1 =>
        some (some (.inl x2), h1))
      else none
    else none
  else none :=
  (show _ = ev xs d mm_91 0 [some (.inr (.inr v0))] [] h from rfl).trans (q_91_0 xs d v0 h)
def stp_92 : List Nat := [0]
set_option maxRecDepth 100000 in
set_option maxHeartbeats 4000000 in
theorem q_92_0 (xs : List Int) (d : Nat) (v0 : Int) (v1 : Int) (h : aH) : ev xs d mm_92 0 [some (.inr (.inr v0)), some (.inl v1)] [] h =
  bif aok h.1 v0 8 then
    bif decide (¬ (h.2 v0.toNat 0) = 0) then
      some (none, h)
    else
      bif aok h.1 v0 8 then
        bif aok h.1 v0 8 then
          bif aok h.1 v0 8 then
            bif aok h.1 ((aup h.2 v0.toNat 0 v1) v0.toNat 2) 4 && true then
              bI (cl xs d 39 [.inr (.inr ((aup h.2 v0.toNat 0 v1) v0.toNat 2)), .inl ((aup h.2 v0.toNat 0 v1) v0.toNat 3)] (h.1, aup h.2 v0.toNat 0 v1)) (fun x2 h1 =>
              bif aok h1.1 v0 8 then
                some (none, (h1.1, aup h1.2 v0.toNat 1 x2))
              else none)
            else none
          else none
        else none
      else none
  else none :=
  (aB gP gX xs stp_92 15 d mm_92 0 _ _ h).trans rfl

theorem c_92 (xs : List Int) (d : Nat) (v0 : Int) (v1 : Int) (h : aH) : cl xs (d + 1) 92 [.inr (.inr v0), .inl v1] h =
  bif aok h.1 v0 8 then
    bif decide (¬ (h.2 v0.toNat 0) = 0) then
      some (none, h)
    else
      bif aok h.1 v0 8 then
        bif aok h.1 v0 8 then
          bif aok h.1 v0 8 then
            bif aok h.1 ((aup h.2 v0.toNat 0 v1) v0.toNat 2) 4 && true then
              bI (cl xs d 39 [.inr (.inr ((aup h.2 v0.toNat 0 v1) v0.toNat 2)), .inl ((aup h.2 v0.toNat 0 v1) v0.toNat 3)] (h.1, aup h.2 v0.toNat 0 v1)) (fun x2 h1 =>
              bif aok h1.1 v0 8 then
                some (none, (h1.1, aup h1.2 v0.toNat 1 x2))
              else none)
            else none
          else none
        else none
      else none
  else none :=
  (show _ = ev xs d mm_92 0 [some (.inr (.inr v0)), some (.inl v1)] [] h from rfl).trans (q_92_0 xs d v0 v1 h)
def stp_94 : List Nat := [0]
set_option maxRecDepth 100000 in
set_option maxHeartbeats 4000000 in
theorem q_94_0 (xs : List Int) (d : Nat) (v0 : Int) (h : aH) : ev xs d mm_94 0 [some (.inr (.inr v0))] [] h =
  bif aok h.1 v0 8 then
    bif aok h.1 v0 8 then
      bif aok h.1 v0 8 then
        bif aok h.1 v0 8 then
          bif aok h.1 ((aup h.2 v0.toNat 3 (w32 ((h.2 v0.toNat 3) + 1))) v0.toNat 2) 4 && true then
            bJ (cl xs d 38 [.inr (.inr ((aup h.2 v0.toNat 3 (w32 ((h.2 v0.toNat 3) + 1))) v0.toNat 2)), .inl ((aup h.2 v0.toNat 3 (w32 ((h.2 v0.toNat 3) + 1))) v0.toNat 3)] (h.1, aup h.2 v0.toNat 3 (w32 ((h.2 v0.toNat 3) + 1)))) (fun x2 h1 =>
            some (some (.inr (.inl x2)), h1))
          else none
        else none
      else none
    else none
  else none :=
  (aB gP gX xs stp_94 13 d mm_94 0 _ _ h).trans rfl

theorem c_94 (xs : List Int) (d : Nat) (v0 : Int) (h : aH) : cl xs (d + 1) 94 [.inr (.inr v0)] h =
  bif aok h.1 v0 8 then
    bif aok h.1 v0 8 then
      bif aok h.1 v0 8 then
        bif aok h.1 v0 8 then
          bif aok h.1 ((aup h.2 v0.toNat 3 (w32 ((h.2 v0.toNat 3) + 1))) v0.toNat 2) 4 && true then
            bJ (cl xs d 38 [.inr (.inr ((aup h.2 v0.toNat 3 (w32 ((h.2 v0.toNat 3) + 1))) v0.toNat 2)), .inl ((aup h.2 v0.toNat 3 (w32 ((h.2 v0.toNat 3) + 1))) v0.toNat 3)] (h.1, aup h.2 v0.toNat 3 (w32 ((h.2 v0.toNat 3) + 1)))) (fun x2 h1 =>
            some (some (.inr (.inl x2)), h1))
          else none
        else none
      else none
    else none
  else none :=
  (show _ = ev xs d mm_94 0 [some (.inr (.inr v0))] [] h from rfl).trans (q_94_0 xs d v0 h)
def stp_95 : List Nat := [0, 33]
set_option maxRecDepth 100000 in
set_option maxHeartbeats 4000000 in
theorem q_95_0 (xs : List Int) (d : Nat) (v0 : Int) (v1 : Int) (v2 : Int) (h : aH) : ev xs d mm_95 0 [some (.inr (.inr v0)), some (.inl v1), some (.inl v2), none] [] h =
  bif aok h.1 v0 8 then
    bif aok h.1 v0 8 then
      bif aok h.1 v0 8 then
        bif aok h.1 v0 8 then
          bif aok h.1 ((aup h.2 v0.toNat 3 (w32 ((h.2 v0.toNat 3) + 1))) v0.toNat 2) 4 && true then
            bJ (cl xs d 38 [.inr (.inr ((aup h.2 v0.toNat 3 (w32 ((h.2 v0.toNat 3) + 1))) v0.toNat 2)), .inl ((aup h.2 v0.toNat 3 (w32 ((h.2 v0.toNat 3) + 1))) v0.toNat 3)] (h.1, aup h.2 v0.toNat 3 (w32 ((h.2 v0.toNat 3) + 1)))) (fun x2 h1 =>
            bif decide ((ol2i x2) < v1) then
              ev xs d mm_95 33 [some (.inr (.inr v0)), some (.inl v1), some (.inl v2), some (.inl (ol2i x2))] [] h1
            else
              bif decide ((ol2i x2) ≤ v2) then
                some (some (.inl (ol2i x2)), h1)
              else
                ev xs d mm_95 33 [some (.inr (.inr v0)), some (.inl v1), some (.inl v2), some (.inl (ol2i x2))] [] h1)
          else none
        else none
      else none
    else none
  else none :=
  (aB gP gX xs stp_95 22 d mm_95 0 _ _ h).trans rfl

set_option maxRecDepth 100000 in
set_option maxHeartbeats 4000000 in
theorem q_95_33 (xs : List Int) (d : Nat) (v0 : Int) (v1 : Int) (v2 : Int) (v3 : Int) (h : aH) : ev xs d mm_95 33 [some (.inr (.inr v0)), some (.inl v1), some (.inl v2), some (.inl v3)] [] h =
  bif aok h.1 v0 8 && true then
    bV (cl xs d 92 [.inr (.inr v0), .inl 5] h) (fun h1 =>
    some (some (.inl v3), h1))
  else none :=
  (aB gP gX xs stp_95 6 d mm_95 33 _ _ h).trans rfl

theorem c_95 (xs : List Int) (d : Nat) (v0 : Int) (v1 : Int) (v2 : Int) (h : aH) : cl xs (d + 1) 95 [.inr (.inr v0), .inl v1, .inl v2] h =
  bif aok h.1 v0 8 then
    bif aok h.1 v0 8 then
      bif aok h.1 v0 8 then
        bif aok h.1 v0 8 then
          bif aok h.1 ((aup h.2 v0.toNat 3 (w32 ((h.2 v0.toNat 3) + 1))) v0.toNat 2) 4 && true then
            bJ (cl xs d 38 [.inr (.inr ((aup h.2 v0.toNat 3 (w32 ((h.2 v0.toNat 3) + 1))) v0.toNat 2)), .inl ((aup h.2 v0.toNat 3 (w32 ((h.2 v0.toNat 3) + 1))) v0.toNat 3)] (h.1, aup h.2 v0.toNat 3 (w32 ((h.2 v0.toNat 3) + 1)))) (fun x2 h1 =>
            bif decide ((ol2i x2) < v1) then
              ev xs d mm_95 33 [some (.inr (.inr v0)), some (.inl v1), some (.inl v2), some (.inl (ol2i x2))] [] h1
            else
              bif decide ((ol2i x2) ≤ v2) then
                some (some (.inl (ol2i x2)), h1)
              else
                ev xs d mm_95 33 [some (.inr (.inr v0)), some (.inl v1), some (.inl v2), some (.inl (ol2i x2))] [] h1)
          else none
        else none
      else none
    else none
  else none :=
  (show _ = ev xs d mm_95 0 [some (.inr (.inr v0)), some (.inl v1), some (.inl v2), none] [] h from rfl).trans (q_95_0 xs d v0 v1 v2 h)
def stp_96 : List Nat := [0, 72, 80, 88, 97, 106, 115, 123, 131, 139, 147]
set_option maxRecDepth 100000 in
set_option maxHeartbeats 4000000 in
theorem q_96_0 (xs : List Int) (d : Nat) (v0 : Int) (v1 : Int) (h : aH) : ev xs d mm_96 0 [some (.inr (.inr v0)), some (.inr (.inr v1))] [] h =
  bif aok h.1 v0 8 && true then
    bI (cl xs d 90 [.inr (.inr v0)] h) (fun x2 h1 =>
    ev xs d mm_96 (asw 4 143 128 140 #[68, 76, 143, 143, 143, 143, 84, 93, 102, 111, 119, 127, 135] x2) [some (.inr (.inr v0)), some (.inr (.inr v1))] [] h1)
  else none :=
  (aB gP gX xs stp_96 2 d mm_96 0 _ _ h).trans rfl

set_option maxRecDepth 100000 in
set_option maxHeartbeats 4000000 in
theorem q_96_72 (xs : List Int) (d : Nat) (v0 : Int) (v1 : Int) (h : aH) : ev xs d mm_96 72 [some (.inr (.inr v0)), some (.inr (.inr v1))] [] h =
  bif aok h.1 v0 8 && true then
    bV (cl xs d 97 [.inr (.inr v0), .inr (.inr v1)] h) (fun h1 =>
    bif aok h1.1 v0 8 then
      bif aok h1.1 v0 8 then
        some (none, (h1.1, aup h1.2 v0.toNat 3 (w32 ((h1.2 v0.toNat 3) + 1))))
      else none
    else none)
  else none :=
  (aB gP gX xs stp_96 12 d mm_96 72 _ _ h).trans rfl

set_option maxRecDepth 100000 in
set_option maxHeartbeats 4000000 in
theorem q_96_80 (xs : List Int) (d : Nat) (v0 : Int) (v1 : Int) (h : aH) : ev xs d mm_96 80 [some (.inr (.inr v0)), some (.inr (.inr v1))] [] h =
  bif aok h.1 v0 8 && true then
    bV (cl xs d 99 [.inr (.inr v0), .inr (.inr v1)] h) (fun h1 =>
    bif aok h1.1 v0 8 then
      bif aok h1.1 v0 8 then
        some (none, (h1.1, aup h1.2 v0.toNat 3 (w32 ((h1.2 v0.toNat 3) + 1))))
      else none
    else none)
  else none :=
  (aB gP gX xs stp_96 12 d mm_96 80 _ _ h).trans rfl

set_option maxRecDepth 100000 in
set_option maxHeartbeats 4000000 in
theorem q_96_88 (xs : List Int) (d : Nat) (v0 : Int) (v1 : Int) (h : aH) : ev xs d mm_96 88 [some (.inr (.inr v0)), some (.inr (.inr v1))] [] h =
  bif aok h.1 v0 8 && true then
    bV (cl xs d 102 [.inr (.inr v0), .inr (.inr v1), .inl 0] h) (fun h1 =>
    bif aok h1.1 v0 8 then
      bif aok h1.1 v0 8 then
        some (none, (h1.1, aup h1.2 v0.toNat 3 (w32 ((h1.2 v0.toNat 3) + 1))))
      else none
    else none)
  else none :=
  (aB gP gX xs stp_96 13 d mm_96 88 _ _ h).trans rfl

set_option maxRecDepth 100000 in
set_option maxHeartbeats 4000000 in
theorem q_96_97 (xs : List Int) (d : Nat) (v0 : Int) (v1 : Int) (h : aH) : ev xs d mm_96 97 [some (.inr (.inr v0)), some (.inr (.inr v1))] [] h =
  bif aok h.1 v0 8 && true then
    bV (cl xs d 102 [.inr (.inr v0), .inr (.inr v1), .inl 1] h) (fun h1 =>
    bif aok h1.1 v0 8 then
      bif aok h1.1 v0 8 then
        some (none, (h1.1, aup h1.2 v0.toNat 3 (w32 ((h1.2 v0.toNat 3) + 1))))
      else none
    else none)
  else none :=
  (aB gP gX xs stp_96 13 d mm_96 97 _ _ h).trans rfl

set_option maxRecDepth 100000 in
set_option maxHeartbeats 4000000 in
theorem q_96_106 (xs : List Int) (d : Nat) (v0 : Int) (v1 : Int) (h : aH) : ev xs d mm_96 106 [some (.inr (.inr v0)), some (.inr (.inr v1))] [] h =
  bif aok h.1 v0 8 && true then
    bV (cl xs d 102 [.inr (.inr v0), .inr (.inr v1), .inl 2] h) (fun h1 =>
    bif aok h1.1 v0 8 then
      bif aok h1.1 v0 8 then
        some (none, (h1.1, aup h1.2 v0.toNat 3 (w32 ((h1.2 v0.toNat 3) + 1))))
      else none
    else none)
  else none :=
  (aB gP gX xs stp_96 13 d mm_96 106 _ _ h).trans rfl

set_option maxRecDepth 100000 in
set_option maxHeartbeats 4000000 in
theorem q_96_115 (xs : List Int) (d : Nat) (v0 : Int) (v1 : Int) (h : aH) : ev xs d mm_96 115 [some (.inr (.inr v0)), some (.inr (.inr v1))] [] h =
  bif aok h.1 v0 8 && true then
    bV (cl xs d 103 [.inr (.inr v0), .inr (.inr v1)] h) (fun h1 =>
    bif aok h1.1 v0 8 then
      bif aok h1.1 v0 8 then
        some (none, (h1.1, aup h1.2 v0.toNat 3 (w32 ((h1.2 v0.toNat 3) + 1))))
      else none
    else none)
  else none :=
  (aB gP gX xs stp_96 12 d mm_96 115 _ _ h).trans rfl

set_option maxRecDepth 100000 in
set_option maxHeartbeats 4000000 in
theorem q_96_123 (xs : List Int) (d : Nat) (v0 : Int) (v1 : Int) (h : aH) : ev xs d mm_96 123 [some (.inr (.inr v0)), some (.inr (.inr v1))] [] h =
  bif aok h.1 v0 8 && true then
    bV (cl xs d 104 [.inr (.inr v0), .inr (.inr v1)] h) (fun h1 =>
    bif aok h1.1 v0 8 then
      bif aok h1.1 v0 8 then
        some (none, (h1.1, aup h1.2 v0.toNat 3 (w32 ((h1.2 v0.toNat 3) + 1))))
      else none
    else none)
  else none :=
  (aB gP gX xs stp_96 12 d mm_96 123 _ _ h).trans rfl

set_option maxRecDepth 100000 in
set_option maxHeartbeats 4000000 in
theorem q_96_131 (xs : List Int) (d : Nat) (v0 : Int) (v1 : Int) (h : aH) : ev xs d mm_96 131 [some (.inr (.inr v0)), some (.inr (.inr v1))] [] h =
  bif aok h.1 v0 8 && true then
    bV (cl xs d 105 [.inr (.inr v0), .inr (.inr v1)] h) (fun h1 =>
    bif aok h1.1 v0 8 then
      bif aok h1.1 v0 8 then
        some (none, (h1.1, aup h1.2 v0.toNat 3 (w32 ((h1.2 v0.toNat 3) + 1))))
      else none
    else none)
  else none :=
  (aB gP gX xs stp_96 12 d mm_96 131 _ _ h).trans rfl

set_option maxRecDepth 100000 in
set_option maxHeartbeats 4000000 in
theorem q_96_139 (xs : List Int) (d : Nat) (v0 : Int) (v1 : Int) (h : aH) : ev xs d mm_96 139 [some (.inr (.inr v0)), some (.inr (.inr v1))] [] h =
  bif aok h.1 v0 8 && true then
    bV (cl xs d 107 [.inr (.inr v0), .inr (.inr v1)] h) (fun h1 =>
    bif aok h1.1 v0 8 then
      bif aok h1.1 v0 8 then
        some (none, (h1.1, aup h1.2 v0.toNat 3 (w32 ((h1.2 v0.toNat 3) + 1))))
      else none
    else none)
  else none :=
  (aB gP gX xs stp_96 12 d mm_96 139 _ _ h).trans rfl

set_option maxRecDepth 100000 in
set_option maxHeartbeats 4000000 in
theorem q_96_147 (xs : List Int) (d : Nat) (v0 : Int) (v1 : Int) (h : aH) : ev xs d mm_96 147 [some (.inr (.inr v0)), some (.inr (.inr v1))] [] h =
  bif aok h.1 v0 8 && true then
    bI (cl xs d 95 [.inr (.inr v0), .inl 0, .inl 9999] h) (fun x2 h1 =>
    bif aok h1.1 v1 9 then
      bif aok h1.1 v0 8 then
        bif aok h1.1 v0 8 then
          some (none, (h1.1, aup (aup h1.2 v1.toNat 15 x2) v0.toNat 3 (w32 (((aup h1.2 v1.toNat 15 x2) v0.toNat 3) + 1))))
        else none
      else none
    else none)
  else none :=
  (aB gP gX xs stp_96 14 d mm_96 147 _ _ h).trans rfl

theorem c_96 (xs : List Int) (d : Nat) (v0 : Int) (v1 : Int) (h : aH) : cl xs (d + 1) 96 [.inr (.inr v0), .inr (.inr v1)] h =
  bif aok h.1 v0 8 && true then
    bI (cl xs d 90 [.inr (.inr v0)] h) (fun x2 h1 =>
    ev xs d mm_96 (asw 4 143 128 140 #[68, 76, 143, 143, 143, 143, 84, 93, 102, 111, 119, 127, 135] x2) [some (.inr (.inr v0)), some (.inr (.inr v1))] [] h1)
  else none :=
  (show _ = ev xs d mm_96 0 [some (.inr (.inr v0)), some (.inr (.inr v1))] [] h from rfl).trans (q_96_0 xs d v0 v1 h)
def stp_97 : List Nat := [0, 35, 47, 117]
set_option maxRecDepth 100000 in
set_option maxHeartbeats 4000000 in
theorem q_97_0 (xs : List Int) (d : Nat) (v0 : Int) (v1 : Int) (h : aH) : ev xs d mm_97 0 [some (.inr (.inr v0)), some (.inr (.inr v1)), none, none, none, none, none, none] [] h =
  bif aok h.1 v0 8 && true then
    bJ (cl xs d 94 [.inr (.inr v0)] h) (fun x2 h1 =>
    bI (cl xs d 121 [.inr (.inl x2)] h1) (fun x4 h3 =>
      bif decide (2 ≤ x4) then
        bif aok h3.1 v1 9 && true then
          bI (cl xs d 110 [.inr (.inr v1), .inr (.inl x2)] h3) (fun x6 h5 =>
          bif decide (x6 = (-1)) then
            ev xs d mm_97 35 [some (.inr (.inr v0)), some (.inr (.inr v1)), some (.inr (.inl x2)), none, none, none, none, none] [] h5
          else
            bif aok h5.1 v0 8 && true then
              bV (cl xs d 92 [.inr (.inr v0), .inl 3] h5) (fun h7 =>
              ev xs d mm_97 35 [some (.inr (.inr v0)), some (.inr (.inr v1)), some (.inr (.inl x2)), none, none, none, none, none] [] h7)
            else none)
        else none
      else
        bif aok h3.1 v0 8 && true then
          bV (cl xs d 92 [.inr (.inr v0), .inl 5] h3) (fun h8 =>
          ev xs d mm_97 35 [some (.inr (.inr v0)), some (.inr (.inr v1)), some (.inr (.inl x2)), none, none, none, none, none] [] h8)
        else none))
  else none :=
  (aB gP gX xs stp_97 16 d mm_97 0 _ _ h).trans rfl

set_option maxRecDepth 100000 in
set_option maxHeartbeats 4000000 in
theorem q_97_35 (xs : List Int) (d : Nat) (v0 : Int) (v1 : Int) (v2 : Int) (u3 : Option aV) (u4 : Option aV) (u5 : Option aV) (u6 : Option aV) (u7 : Option aV) (h : aH) : ev xs d mm_97 35 [some (.inr (.inr v0)), some (.inr (.inr v1)), some (.inr (.inl v2)), u3, u4, u5, u6, u7] [] h =
  bif aok h.1 v0 8 && true then
    bJ (cl xs d 94 [.inr (.inr v0)] h) (fun x2 h1 =>
    ev xs d mm_97 47 [some (.inr (.inr v0)), some (.inr (.inr v1)), some (.inr (.inl v2)), acl u3, some (.inr (.inl x2)), none, some (.inl 0), some (.inl 0)] [] h1)
  else none :=
  (aB gP gX xs stp_97 8 d mm_97 35 _ _ h).trans rfl

set_option maxRecDepth 100000 in
set_option maxHeartbeats 4000000 in
theorem q_97_47 (xs : List Int) (d : Nat) (v0 : Int) (v1 : Int) (v2 : Int) (u3 : Option aV) (v4 : Int) (u5 : Option aV) (v6 : Int) (v7 : Int) (h : aH) : ev xs d mm_97 47 [some (.inr (.inr v0)), some (.inr (.inr v1)), some (.inr (.inl v2)), u3, some (.inr (.inl v4)), u5, some (.inl v6), some (.inl v7)] [] h =
  bI (cl xs d 121 [.inr (.inl v4)] h) (fun x2 h1 =>
    bif decide (x2 ≤ v7) then
      bif aok h1.1 v1 9 then
        bif decide (6 ≤ (h1.2 v1.toNat 0)) then
          ev xs d mm_97 117 [some (.inr (.inr v0)), some (.inr (.inr v1)), some (.inr (.inl v2)), u3, some (.inr (.inl v4)), u5, some (.inl v6), some (.inl v7)] [] h1
        else
          bif aok h1.1 v1 9 then
            bif aok h1.1 v1 9 then
              bif ain h1.1 (h1.2 v1.toNat 1) 101 (h1.2 v1.toNat 0) then
                bif aok h1.1 v1 9 then
                  bif aok h1.1 v1 9 then
                    bif ain h1.1 ((aup h1.2 (h1.2 v1.toNat 1).toNat (h1.2 v1.toNat 0).toNat v2) v1.toNat 2) 100 ((aup h1.2 (h1.2 v1.toNat 1).toNat (h1.2 v1.toNat 0).toNat v2) v1.toNat 0) then
                      bif aok h1.1 v1 9 then
                        bif aok h1.1 v1 9 then
                          ev xs d mm_97 117 [some (.inr (.inr v0)), some (.inr (.inr v1)), some (.inr (.inl v2)), u3, some (.inr (.inl v4)), u5, some (.inl v6), some (.inl v7)] [] (h1.1, aup (aup (aup h1.2 (h1.2 v1.toNat 1).toNat (h1.2 v1.toNat 0).toNat v2) ((aup h1.2 (h1.2 v1.toNat 1).toNat (h1.2 v1.toNat 0).toNat v2) v1.toNat 2).toNat ((aup h1.2 (h1.2 v1.toNat 1).toNat (h1.2 v1.toNat 0).toNat v2) v1.toNat 0).toNat v6) v1.toNat 0 (w32 (((aup (aup h1.2 (h1.2 v1.toNat 1).toNat (h1.2 v1.toNat 0).toNat v2) ((aup h1.2 (h1.2 v1.toNat 1).toNat (h1.2 v1.toNat 0).toNat v2) v1.toNat 2).toNat ((aup h1.2 (h1.2 v1.toNat 1).toNat (h1.2 v1.toNat 0).toNat v2) v1.toNat 0).toNat v6) v1.toNat 0) + 1)))
                        else none
                      else none
                    else none
                  else none
                else none
              else none
            else none
          else none
      else none
    else
      bI (cl xs d 122 [.inr (.inl v4), .inl v7] h1) (fun x4 h3 =>
        ev xs d mm_97 47 [some (.inr (.inr v0)), some (.inr (.inr v1)), some (.inr (.inl v2)), u3, some (.inr (.inl v4)), acl u5, some (.inl (oor v6 (oshl 1 x4))), some (.inl (w32 (v7 + 1)))] [] h3)) :=
  (aB gP gX xs stp_97 27 d mm_97 47 _ _ h).trans rfl

set_option maxRecDepth 100000 in
set_option maxHeartbeats 4000000 in
theorem q_97_117 (xs : List Int) (d : Nat) (v0 : Int) (v1 : Int) (v2 : Int) (u3 : Option aV) (v4 : Int) (u5 : Option aV) (v6 : Int) (v7 : Int) (h : aH) : ev xs d mm_97 117 [some (.inr (.inr v0)), some (.inr (.inr v1)), some (.inr (.inl v2)), u3, some (.inr (.inl v4)), u5, some (.inl v6), some (.inl v7)] [] h =
  some (none, h) :=
  (aB gP gX xs stp_97 2 d mm_97 117 _ _ h).trans rfl

theorem c_97 (xs : List Int) (d : Nat) (v0 : Int) (v1 : Int) (h : aH) : cl xs (d + 1) 97 [.inr (.inr v0), .inr (.inr v1)] h =
  bif aok h.1 v0 8 && true then
    bJ (cl xs d 94 [.inr (.inr v0)] h) (fun x2 h1 =>
    bI (cl xs d 121 [.inr (.inl x2)] h1) (fun x4 h3 =>
      bif decide (2 ≤ x4) then
        bif aok h3.1 v1 9 && true then
          bI (cl xs d 110 [.inr (.inr v1), .inr (.inl x2)] h3) (fun x6 h5 =>
          bif decide (x6 = (-1)) then
            ev xs d mm_97 35 [some (.inr (.inr v0)), some (.inr (.inr v1)), some (.inr (.inl x2)), none, none, none, none, none] [] h5
          else
            bif aok h5.1 v0 8 && true then
              bV (cl xs d 92 [.inr (.inr v0), .inl 3] h5) (fun h7 =>
              ev xs d mm_97 35 [some (.inr (.inr v0)), some (.inr (.inr v1)), some (.inr (.inl x2)), none, none, none, none, none] [] h7)
            else none)
        else none
      else
        bif aok h3.1 v0 8 && true then
          bV (cl xs d 92 [.inr (.inr v0), .inl 5] h3) (fun h8 =>
          ev xs d mm_97 35 [some (.inr (.inr v0)), some (.inr (.inr v1)), some (.inr (.inl x2)), none, none, none, none, none] [] h8)
        else none))
  else none :=
  (show _ = ev xs d mm_97 0 [some (.inr (.inr v0)), some (.inr (.inr v1)), none, none, none, none, none, none] [] h from rfl).trans (q_97_0 xs d v0 v1 h)
def stp_98 : List Nat := [0, 18]
set_option maxRecDepth 100000 in
set_option maxHeartbeats 4000000 in
theorem q_98_0 (xs : List Int) (d : Nat) (v0 : Int) (h : aH) : ev xs d mm_98 0 [some (.inr (.inr v0)), none, none] [] h =
  bif aok h.1 v0 8 && true then
    bJ (cl xs d 94 [.inr (.inr v0)] h) (fun x2 h1 =>
    bI (cl xs d 121 [.inr (.inl x2)] h1) (fun x4 h3 =>
      bif decide (x4 ≤ 1) then
        ev xs d mm_98 18 [some (.inr (.inr v0)), some (.inr (.inl x2)), none] [] h3
      else
        bif aok h3.1 v0 8 && true then
          bV (cl xs d 92 [.inr (.inr v0), .inl 5] h3) (fun h5 =>
          ev xs d mm_98 18 [some (.inr (.inr v0)), some (.inr (.inl x2)), none] [] h5)
        else none))
  else none :=
  (aB gP gX xs stp_98 11 d mm_98 0 _ _ h).trans rfl

set_option maxRecDepth 100000 in
set_option maxHeartbeats 4000000 in
theorem q_98_18 (xs : List Int) (d : Nat) (v0 : Int) (v1 : Int) (u2 : Option aV) (h : aH) : ev xs d mm_98 18 [some (.inr (.inr v0)), some (.inr (.inl v1)), u2] [] h =
  bI (cl xs d 122 [.inr (.inl v1), .inl 0] h) (fun x2 h1 =>
    some (some (.inl x2), h1)) :=
  (aB gP gX xs stp_98 5 d mm_98 18 _ _ h).trans rfl

theorem c_98 (xs : List Int) (d : Nat) (v0 : Int) (h : aH) : cl xs (d + 1) 98 [.inr (.inr v0)] h =
  bif aok h.1 v0 8 && true then
    bJ (cl xs d 94 [.inr (.inr v0)] h) (fun x2 h1 =>
    bI (cl xs d 121 [.inr (.inl x2)] h1) (fun x4 h3 =>
      bif decide (x4 ≤ 1) then
        ev xs d mm_98 18 [some (.inr (.inr v0)), some (.inr (.inl x2)), none] [] h3
      else
        bif aok h3.1 v0 8 && true then
          bV (cl xs d 92 [.inr (.inr v0), .inl 5] h3) (fun h5 =>
          ev xs d mm_98 18 [some (.inr (.inr v0)), some (.inr (.inl x2)), none] [] h5)
        else none))
  else none :=
  (show _ = ev xs d mm_98 0 [some (.inr (.inr v0)), none, none] [] h from rfl).trans (q_98_0 xs d v0 h)
def stp_99 : List Nat := [0]
set_option maxRecDepth 100000 in
set_option maxHeartbeats 4000000 in
theorem q_99_0 (xs : List Int) (d : Nat) (v0 : Int) (v1 : Int) (h : aH) : ev xs d mm_99 0 [some (.inr (.inr v0)), some (.inr (.inr v1)), none, none, none, none] [] h =
  bif aok h.1 v0 8 && true then
    bI (cl xs d 98 [.inr (.inr v0)] h) (fun x2 h1 =>
    bif aok h1.1 v0 8 then
      bif aok h1.1 v0 8 then
        bif aok h1.1 v0 8 && true then
          bI (cl xs d 100 [.inr (.inr v0)] (h1.1, aup h1.2 v0.toNat 3 (w32 ((h1.2 v0.toNat 3) + 1)))) (fun x4 h3 =>
          bif aok h3.1 v0 8 && true then
            bI (cl xs d 101 [.inr (.inr v0), .inr (.inr v1), .inl 132] h3) (fun x6 h5 =>
            bif aok h5.1 v0 8 && true then
              bI (cl xs d 101 [.inr (.inr v0), .inr (.inr v1), .inl 133] h5) (fun x8 h7 =>
              bif aok h7.1 v1 9 then
                bif aok h7.1 (h7.2 v1.toNat 3) 7 && true then
                  bV (cl xs d 85 [.inr (.inr (h7.2 v1.toNat 3)), .inl x2, .inl x4, .inl x6, .inl x8] h7) (fun h9 =>
                  some (none, h9))
                else none
              else none)
            else none)
          else none)
        else none
      else none
    else none)
  else none :=
  (aB gP gX xs stp_99 31 d mm_99 0 _ _ h).trans rfl

theorem c_99 (xs : List Int) (d : Nat) (v0 : Int) (v1 : Int) (h : aH) : cl xs (d + 1) 99 [.inr (.inr v0), .inr (.inr v1)] h =
  bif aok h.1 v0 8 && true then
    bI (cl xs d 98 [.inr (.inr v0)] h) (fun x2 h1 =>
    bif aok h1.1 v0 8 then
      bif aok h1.1 v0 8 then
        bif aok h1.1 v0 8 && true then
          bI (cl xs d 100 [.inr (.inr v0)] (h1.1, aup h1.2 v0.toNat 3 (w32 ((h1.2 v0.toNat 3) + 1)))) (fun x4 h3 =>
          bif aok h3.1 v0 8 && true then
            bI (cl xs d 101 [.inr (.inr v0), .inr (.inr v1), .inl 132] h3) (fun x6 h5 =>
            bif aok h5.1 v0 8 && true then
              bI (cl xs d 101 [.inr (.inr v0), .inr (.inr v1), .inl 133] h5) (fun x8 h7 =>
              bif aok h7.1 v1 9 then
                bif aok h7.1 (h7.2 v1.toNat 3) 7 && true then
                  bV (cl xs d 85 [.inr (.inr (h7.2 v1.toNat 3)), .inl x2, .inl x4, .inl x6, .inl x8] h7) (fun h9 =>
                  some (none, h9))
                else none
              else none)
            else none)
          else none)
        else none
      else none
    else none)
  else none :=
  (show _ = ev xs d mm_99 0 [some (.inr (.inr v0)), some (.inr (.inr v1)), none, none, none, none] [] h from rfl).trans (q_99_0 xs d v0 v1 h)
def stp_100 : List Nat := [0]
set_option maxRecDepth 100000 in
set_option maxHeartbeats 4000000 in
theorem q_100_0 (xs : List Int) (d : Nat) (v0 : Int) (h : aH) : ev xs d mm_100 0 [some (.inr (.inr v0))] [] h =
  bif aok h.1 v0 8 && true then
    bI (cl xs d 91 [.inr (.inr v0)] h) (fun x2 h1 =>
    bif decide (¬ x2 = 131) then
      bif aok h1.1 v0 8 && true then
        bI (cl xs d 98 [.inr (.inr v0)] h1) (fun x4 h3 =>
        some (some (.inl x4), h3))
      else none
    else
      bif aok h1.1 v0 8 then
        bif aok h1.1 v0 8 then
          some (some (.inl 0), (h1.1, aup h1.2 v0.toNat 3 (w32 ((h1.2 v0.toNat 3) + 1))))
        else none
      else none)
  else none :=
  (aB gP gX xs stp_100 13 d mm_100 0 _ _ h).trans rfl

theorem c_100 (xs : List Int) (d : Nat) (v0 : Int) (h : aH) : cl xs (d + 1) 100 [.inr (.inr v0)] h =
  bif aok h.1 v0 8 && true then
    bI (cl xs d 91 [.inr (.inr v0)] h) (fun x2 h1 =>
    bif decide (¬ x2 = 131) then
      bif aok h1.1 v0 8 && true then
        bI (cl xs d 98 [.inr (.inr v0)] h1) (fun x4 h3 =>
        some (some (.inl x4), h3))
      else none
    else
      bif aok h1.1 v0 8 then
        bif aok h1.1 v0 8 then
          some (some (.inl 0), (h1.1, aup h1.2 v0.toNat 3 (w32 ((h1.2 v0.toNat 3) + 1))))
        else none
      else none)
  else none :=
  (show _ = ev xs d mm_100 0 [some (.inr (.inr v0))] [] h from rfl).trans (q_100_0 xs d v0 h)
def stp_101 : List Nat := [0, 72]
set_option maxRecDepth 100000 in
set_option maxHeartbeats 4000000 in
theorem q_101_0 (xs : List Int) (d : Nat) (v0 : Int) (v1 : Int) (v2 : Int) (h : aH) : ev xs d mm_101 0 [some (.inr (.inr v0)), some (.inr (.inr v1)), some (.inl v2), none, none, none] [] h =
  bif aok h.1 v0 8 && true then
    bI (cl xs d 91 [.inr (.inr v0)] h) (fun x2 h1 =>
    bif decide (x2 = v2) then
      bif aok h1.1 v0 8 then
        bif aok h1.1 v0 8 then
          bif aok h1.1 v0 8 && true then
            bJ (cl xs d 94 [.inr (.inr v0)] (h1.1, aup h1.2 v0.toNat 3 (w32 ((h1.2 v0.toNat 3) + 1)))) (fun x4 h3 =>
            bif aok h3.1 v0 8 && true then
              bI (cl xs d 90 [.inr (.inr v0)] h3) (fun x6 h5 =>
              bif decide (¬ x6 = 142) then
                bI (cl xs d 121 [.inr (.inl x4)] h5) (fun x8 h7 =>
                  bif decide (¬ x8 = 1) then
                    bif aok h7.1 v1 9 && true then
                      bI (cl xs d 110 [.inr (.inr v1), .inr (.inl x4)] h7) (fun x10 h9 =>
                      bif decide (x10 < 0) then
                        ev xs d mm_101 72 [some (.inr (.inr v0)), some (.inr (.inr v1)), some (.inl v2), some (.inr (.inl x4)), none, some (.inl x10)] [] h9
                      else
                        bif decide (x10 < 6) then
                          bif aok h9.1 v1 9 then
                            bif ain h9.1 (h9.2 v1.toNat 2) 100 x10 then
                              some (some (.inl (h9.2 (h9.2 v1.toNat 2).toNat x10.toNat)), h9)
                            else none
                          else none
                        else
                          ev xs d mm_101 72 [some (.inr (.inr v0)), some (.inr (.inr v1)), some (.inl v2), some (.inr (.inl x4)), none, some (.inl x10)] [] h9)
                    else none
                  else
                    bI (cl xs d 122 [.inr (.inl x4), .inl 0] h7) (fun x12 h11 =>
                      some (some (.inl (oshl 1 x12)), h11)))
              else
                some (some (.inl 1), h5))
            else none)
          else none
        else none
      else none
    else
      some (some (.inl (-1)), h1))
  else none :=
  (aB gP gX xs stp_101 36 d mm_101 0 _ _ h).trans rfl

set_option maxRecDepth 100000 in
set_option maxHeartbeats 4000000 in
theorem q_101_72 (xs : List Int) (d : Nat) (v0 : Int) (v1 : Int) (v2 : Int) (v3 : Int) (u4 : Option aV) (v5 : Int) (h : aH) : ev xs d mm_101 72 [some (.inr (.inr v0)), some (.inr (.inr v1)), some (.inl v2), some (.inr (.inl v3)), u4, some (.inl v5)] [] h =
  bif aok h.1 v0 8 && true then
    bV (cl xs d 92 [.inr (.inr v0), .inl 4] h) (fun h1 =>
    some (some (.inl 0), h1))
  else none :=
  (aB gP gX xs stp_101 6 d mm_101 72 _ _ h).trans rfl

theorem c_101 (xs : List Int) (d : Nat) (v0 : Int) (v1 : Int) (v2 : Int) (h : aH) : cl xs (d + 1) 101 [.inr (.inr v0), .inr (.inr v1), .inl v2] h =
  bif aok h.1 v0 8 && true then
    bI (cl xs d 91 [.inr (.inr v0)] h) (fun x2 h1 =>
    bif decide (x2 = v2) then
      bif aok h1.1 v0 8 then
        bif aok h1.1 v0 8 then
          bif aok h1.1 v0 8 && true then
            bJ (cl xs d 94 [.inr (.inr v0)] (h1.1, aup h1.2 v0.toNat 3 (w32 ((h1.2 v0.toNat 3) + 1)))) (fun x4 h3 =>
            bif aok h3.1 v0 8 && true then
              bI (cl xs d 90 [.inr (.inr v0)] h3) (fun x6 h5 =>
              bif decide (¬ x6 = 142) then
                bI (cl xs d 121 [.inr (.inl x4)] h5) (fun x8 h7 =>
                  bif decide (¬ x8 = 1) then
                    bif aok h7.1 v1 9 && true then
                      bI (cl xs d 110 [.inr (.inr v1), .inr (.inl x4)] h7) (fun x10 h9 =>
                      bif decide (x10 < 0) then
                        ev xs d mm_101 72 [some (.inr (.inr v0)), some (.inr (.inr v1)), some (.inl v2), some (.inr (.inl x4)), none, some (.inl x10)] [] h9
                      else
                        bif decide (x10 < 6) then
                          bif aok h9.1 v1 9 then
                            bif ain h9.1 (h9.2 v1.toNat 2) 100 x10 then
                              some (some (.inl (h9.2 (h9.2 v1.toNat 2).toNat x10.toNat)), h9)
                            else none
                          else none
                        else
                          ev xs d mm_101 72 [some (.inr (.inr v0)), some (.inr (.inr v1)), some (.inl v2), some (.inr (.inl x4)), none, some (.inl x10)] [] h9)
                    else none
                  else
                    bI (cl xs d 122 [.inr (.inl x4), .inl 0] h7) (fun x12 h11 =>
                      some (some (.inl (oshl 1 x12)), h11)))
              else
                some (some (.inl 1), h5))
            else none)
          else none
        else none
      else none
    else
      some (some (.inl (-1)), h1))
  else none :=
  (show _ = ev xs d mm_101 0 [some (.inr (.inr v0)), some (.inr (.inr v1)), some (.inl v2), none, none, none] [] h from rfl).trans (q_101_0 xs d v0 v1 v2 h)
def stp_102 : List Nat := [0, 23]
set_option maxRecDepth 100000 in
set_option maxHeartbeats 4000000 in
theorem q_102_0 (xs : List Int) (d : Nat) (v0 : Int) (v1 : Int) (v2 : Int) (h : aH) : ev xs d mm_102 0 [some (.inr (.inr v0)), some (.inr (.inr v1)), some (.inl v2), none, none, none] [] h =
  bif aok h.1 v0 8 && true then
    bJ (cl xs d 94 [.inr (.inr v0)] h) (fun x2 h1 =>
    bif aok h1.1 v1 9 then
      bif aok h1.1 (h1.2 v1.toNat 4) 3 && true then
        bI (cl xs d 33 [.inr (.inr (h1.2 v1.toNat 4)), .inl v2, .inr (.inl x2)] h1) (fun x4 h3 =>
        bif decide (x4 = (-1)) then
          ev xs d mm_102 23 [some (.inr (.inr v0)), some (.inr (.inr v1)), some (.inl v2), some (.inr (.inl x2)), none, none] [] h3
        else
          bif aok h3.1 v0 8 && true then
            bV (cl xs d 92 [.inr (.inr v0), .inl 3] h3) (fun h5 =>
            ev xs d mm_102 23 [some (.inr (.inr v0)), some (.inr (.inr v1)), some (.inl v2), some (.inr (.inl x2)), none, none] [] h5)
          else none)
      else none
    else none)
  else none :=
  (aB gP gX xs stp_102 14 d mm_102 0 _ _ h).trans rfl

set_option maxRecDepth 100000 in
set_option maxHeartbeats 4000000 in
theorem q_102_23 (xs : List Int) (d : Nat) (v0 : Int) (v1 : Int) (v2 : Int) (v3 : Int) (u4 : Option aV) (u5 : Option aV) (h : aH) : ev xs d mm_102 23 [some (.inr (.inr v0)), some (.inr (.inr v1)), some (.inl v2), some (.inr (.inl v3)), u4, u5] [] h =
  bif aok h.1 v0 8 && true then
    bI (cl xs d 95 [.inr (.inr v0), .inl 1, .inl 9] h) (fun x2 h1 =>
    bif aok h1.1 v1 9 then
      bif aok h1.1 (h1.2 v1.toNat 4) 3 && true then
        bV (cl xs d 32 [.inr (.inr (h1.2 v1.toNat 4)), .inl v2, .inr (.inl v3), .inl x2] h1) (fun h3 =>
        some (none, h3))
      else none
    else none)
  else none :=
  (aB gP gX xs stp_102 13 d mm_102 23 _ _ h).trans rfl

theorem c_102 (xs : List Int) (d : Nat) (v0 : Int) (v1 : Int) (v2 : Int) (h : aH) : cl xs (d + 1) 102 [.inr (.inr v0), .inr (.inr v1), .inl v2] h =
  bif aok h.1 v0 8 && true then
    bJ (cl xs d 94 [.inr (.inr v0)] h) (fun x2 h1 =>
    bif aok h1.1 v1 9 then
      bif aok h1.1 (h1.2 v1.toNat 4) 3 && true then
        bI (cl xs d 33 [.inr (.inr (h1.2 v1.toNat 4)), .inl v2, .inr (.inl x2)] h1) (fun x4 h3 =>
        bif decide (x4 = (-1)) then
          ev xs d mm_102 23 [some (.inr (.inr v0)), some (.inr (.inr v1)), some (.inl v2), some (.inr (.inl x2)), none, none] [] h3
        else
          bif aok h3.1 v0 8 && true then
            bV (cl xs d 92 [.inr (.inr v0), .inl 3] h3) (fun h5 =>
            ev xs d mm_102 23 [some (.inr (.inr v0)), some (.inr (.inr v1)), some (.inl v2), some (.inr (.inl x2)), none, none] [] h5)
          else none)
      else none
    else none)
  else none :=
  (show _ = ev xs d mm_102 0 [some (.inr (.inr v0)), some (.inr (.inr v1)), some (.inl v2), none, none, none] [] h from rfl).trans (q_102_0 xs d v0 v1 v2 h)
def stp_103 : List Nat := [0]
set_option maxRecDepth 100000 in
set_option maxHeartbeats 4000000 in
theorem q_103_0 (xs : List Int) (d : Nat) (v0 : Int) (v1 : Int) (h : aH) : ev xs d mm_103 0 [some (.inr (.inr v0)), some (.inr (.inr v1)), none, none] [] h =
  bif aok h.1 v0 8 && true then
    bJ (cl xs d 94 [.inr (.inr v0)] h) (fun x2 h1 =>
    bif aok h1.1 v1 9 then
      bif decide (10 ≤ (h1.2 v1.toNat 5)) then
        some (none, h1)
      else
        bif aok h1.1 v1 9 then
          bif aok h1.1 v1 9 then
            bif ain h1.1 (h1.2 v1.toNat 6) 101 (h1.2 v1.toNat 5) then
              bif aok h1.1 v1 9 then
                bif aok h1.1 v1 9 then
                  some (none, (h1.1, aup (aup h1.2 (h1.2 v1.toNat 6).toNat (h1.2 v1.toNat 5).toNat x2) v1.toNat 5 (w32 (((aup h1.2 (h1.2 v1.toNat 6).toNat (h1.2 v1.toNat 5).toNat x2) v1.toNat 5) + 1))))
                else none
              else none
            else none
          else none
        else none
    else none)
  else none :=
  (aB gP gX xs stp_103 21 d mm_103 0 _ _ h).trans rfl

theorem c_103 (xs : List Int) (d : Nat) (v0 : Int) (v1 : Int) (h : aH) : cl xs (d + 1) 103 [.inr (.inr v0), .inr (.inr v1)] h =
  bif aok h.1 v0 8 && true then
    bJ (cl xs d 94 [.inr (.inr v0)] h) (fun x2 h1 =>
    bif aok h1.1 v1 9 then
      bif decide (10 ≤ (h1.2 v1.toNat 5)) then
        some (none, h1)
      else
        bif aok h1.1 v1 9 then
          bif aok h1.1 v1 9 then
            bif ain h1.1 (h1.2 v1.toNat 6) 101 (h1.2 v1.toNat 5) then
              bif aok h1.1 v1 9 then
                bif aok h1.1 v1 9 then
                  some (none, (h1.1, aup (aup h1.2 (h1.2 v1.toNat 6).toNat (h1.2 v1.toNat 5).toNat x2) v1.toNat 5 (w32 (((aup h1.2 (h1.2 v1.toNat 6).toNat (h1.2 v1.toNat 5).toNat x2) v1.toNat 5) + 1))))
                else none
              else none
            else none
          else none
        else none
    else none)
  else none :=
  (show _ = ev xs d mm_103 0 [some (.inr (.inr v0)), some (.inr (.inr v1)), none, none] [] h from rfl).trans (q_103_0 xs d v0 v1 h)
def stp_104 : List Nat := [0, 27, 70]
set_option maxRecDepth 100000 in
set_option maxHeartbeats 4000000 in
theorem q_104_0 (xs : List Int) (d : Nat) (v0 : Int) (v1 : Int) (h : aH) : ev xs d mm_104 0 [some (.inr (.inr v0)), some (.inr (.inr v1)), none, none, none, none, none, none] [] h =
  bif aok h.1 v0 8 && true then
    bJ (cl xs d 94 [.inr (.inr v0)] h) (fun x2 h1 =>
    bif aok h1.1 v0 8 && true then
      bJ (cl xs d 94 [.inr (.inr v0)] h1) (fun x4 h3 =>
      bif aok h3.1 v0 8 && true then
        bI (cl xs d 91 [.inr (.inr v0)] h3) (fun x6 h5 =>
        bif decide (¬ x6 = 2) then
          ev xs d mm_104 27 [some (.inr (.inr v0)), some (.inr (.inr v1)), some (.inr (.inl x2)), none, some (.inr (.inl x4)), none, none, none] [.inr (.inl 0)] h5
        else
          bif aok h5.1 v0 8 && true then
            bJ (cl xs d 94 [.inr (.inr v0)] h5) (fun x8 h7 =>
            ev xs d mm_104 27 [some (.inr (.inr v0)), some (.inr (.inr v1)), some (.inr (.inl x2)), none, some (.inr (.inl x4)), none, none, none] [.inr (.inl x8)] h7)
          else none)
      else none)
    else none)
  else none :=
  (aB gP gX xs stp_104 14 d mm_104 0 _ _ h).trans rfl

set_option maxRecDepth 100000 in
set_option maxHeartbeats 4000000 in
theorem q_104_27 (xs : List Int) (d : Nat) (v0 : Int) (v1 : Int) (v2 : Int) (u3 : Option aV) (v4 : Int) (u5 : Option aV) (u6 : Option aV) (u7 : Option aV) (s0 : Int) (h : aH) : ev xs d mm_104 27 [some (.inr (.inr v0)), some (.inr (.inr v1)), some (.inr (.inl v2)), u3, some (.inr (.inl v4)), u5, u6, u7] [.inr (.inl s0)] h =
  bif aok h.1 v1 9 then
    bif decide (8 ≤ (h.2 v1.toNat 7)) then
      some (none, h)
    else
      bif aok h.1 v1 9 then
        bif aok h.1 v1 9 then
          bif ain h.1 (h.2 v1.toNat 8) 101 (h.2 v1.toNat 7) then
            bif aok h.1 v1 9 then
              bif aok h.1 v1 9 then
                bif ain h.1 ((aup h.2 (h.2 v1.toNat 8).toNat (h.2 v1.toNat 7).toNat v2) v1.toNat 9) 101 ((aup h.2 (h.2 v1.toNat 8).toNat (h.2 v1.toNat 7).toNat v2) v1.toNat 7) then
                  bif aok h.1 v1 9 then
                    bif aok h.1 v1 9 then
                      bif ain h.1 ((aup (aup h.2 (h.2 v1.toNat 8).toNat (h.2 v1.toNat 7).toNat v2) ((aup h.2 (h.2 v1.toNat 8).toNat (h.2 v1.toNat 7).toNat v2) v1.toNat 9).toNat ((aup h.2 (h.2 v1.toNat 8).toNat (h.2 v1.toNat 7).toNat v2) v1.toNat 7).toNat v4) v1.toNat 10) 101 ((aup (aup h.2 (h.2 v1.toNat 8).toNat (h.2 v1.toNat 7).toNat v2) ((aup h.2 (h.2 v1.toNat 8).toNat (h.2 v1.toNat 7).toNat v2) v1.toNat 9).toNat ((aup h.2 (h.2 v1.toNat 8).toNat (h.2 v1.toNat 7).toNat v2) v1.toNat 7).toNat v4) v1.toNat 7) then
                        ev xs d mm_104 70 [some (.inr (.inr v0)), some (.inr (.inr v1)), some (.inr (.inl v2)), u3, some (.inr (.inl v4)), acl u5, some (.inr (.inl s0)), none] [] (h.1, aup (aup (aup h.2 (h.2 v1.toNat 8).toNat (h.2 v1.toNat 7).toNat v2) ((aup h.2 (h.2 v1.toNat 8).toNat (h.2 v1.toNat 7).toNat v2) v1.toNat 9).toNat ((aup h.2 (h.2 v1.toNat 8).toNat (h.2 v1.toNat 7).toNat v2) v1.toNat 7).toNat v4) ((aup (aup h.2 (h.2 v1.toNat 8).toNat (h.2 v1.toNat 7).toNat v2) ((aup h.2 (h.2 v1.toNat 8).toNat (h.2 v1.toNat 7).toNat v2) v1.toNat 9).toNat ((aup h.2 (h.2 v1.toNat 8).toNat (h.2 v1.toNat 7).toNat v2) v1.toNat 7).toNat v4) v1.toNat 10).toNat ((aup (aup h.2 (h.2 v1.toNat 8).toNat (h.2 v1.toNat 7).toNat v2) ((aup h.2 (h.2 v1.toNat 8).toNat (h.2 v1.toNat 7).toNat v2) v1.toNat 9).toNat ((aup h.2 (h.2 v1.toNat 8).toNat (h.2 v1.toNat 7).toNat v2) v1.toNat 7).toNat v4) v1.toNat 7).toNat s0)
                      else none
                    else none
                  else none
                else none
              else none
            else none
          else none
        else none
      else none
  else none :=
  (aB gP gX xs stp_104 24 d mm_104 27 _ _ h).trans rfl

set_option maxRecDepth 100000 in
set_option maxHeartbeats 4000000 in
theorem q_104_70 (xs : List Int) (d : Nat) (v0 : Int) (v1 : Int) (v2 : Int) (u3 : Option aV) (v4 : Int) (u5 : Option aV) (v6 : Int) (u7 : Option aV) (h : aH) : ev xs d mm_104 70 [some (.inr (.inr v0)), some (.inr (.inr v1)), some (.inr (.inl v2)), u3, some (.inr (.inl v4)), u5, some (.inr (.inl v6)), u7] [] h =
  bif aok h.1 v1 9 then
    bif aok h.1 v1 9 then
      some (none, (h.1, aup h.2 v1.toNat 7 (w32 ((h.2 v1.toNat 7) + 1))))
    else none
  else none :=
  (aB gP gX xs stp_104 8 d mm_104 70 _ _ h).trans rfl

theorem c_104 (xs : List Int) (d : Nat) (v0 : Int) (v1 : Int) (h : aH) : cl xs (d + 1) 104 [.inr (.inr v0), .inr (.inr v1)] h =
  bif aok h.1 v0 8 && true then
    bJ (cl xs d 94 [.inr (.inr v0)] h) (fun x2 h1 =>
    bif aok h1.1 v0 8 && true then
      bJ (cl xs d 94 [.inr (.inr v0)] h1) (fun x4 h3 =>
      bif aok h3.1 v0 8 && true then
        bI (cl xs d 91 [.inr (.inr v0)] h3) (fun x6 h5 =>
        bif decide (¬ x6 = 2) then
          ev xs d mm_104 27 [some (.inr (.inr v0)), some (.inr (.inr v1)), some (.inr (.inl x2)), none, some (.inr (.inl x4)), none, none, none] [.inr (.inl 0)] h5
        else
          bif aok h5.1 v0 8 && true then
            bJ (cl xs d 94 [.inr (.inr v0)] h5) (fun x8 h7 =>
            ev xs d mm_104 27 [some (.inr (.inr v0)), some (.inr (.inr v1)), some (.inr (.inl x2)), none, some (.inr (.inl x4)), none, none, none] [.inr (.inl x8)] h7)
          else none)
      else none)
    else none)
  else none :=
  (show _ = ev xs d mm_104 0 [some (.inr (.inr v0)), some (.inr (.inr v1)), none, none, none, none, none, none] [] h from rfl).trans (q_104_0 xs d v0 v1 h)
def stp_105 : List Nat := [0, 40]
set_option maxRecDepth 100000 in
set_option maxHeartbeats 4000000 in
theorem q_105_0 (xs : List Int) (d : Nat) (v0 : Int) (v1 : Int) (h : aH) : ev xs d mm_105 0 [some (.inr (.inr v0)), some (.inr (.inr v1)), none, none, none, none, none] [] h =
  bif aok h.1 v0 8 && true then
    bI (cl xs d 95 [.inr (.inr v0), .inl 0, .inl 999] h) (fun x2 h1 =>
    bif aok h1.1 v1 9 then
      bif decide ((h1.2 v1.toNat 11) < 5) then
        bif aok h1.1 v1 9 then
          bif ain h1.1 (h1.2 v1.toNat 12) 100 (h1.2 v1.toNat 11) then
            bif aok h1.1 v1 9 then
              bif aok h1.1 v1 9 then
                ev xs d mm_105 40 [some (.inr (.inr v0)), some (.inr (.inr v1)), some (.inl x2), some (.inl (h1.2 v1.toNat 11)), some (.inl 0), none, none] [] (h1.1, aup (aup h1.2 (h1.2 v1.toNat 12).toNat (h1.2 v1.toNat 11).toNat x2) v1.toNat 11 (w32 (((aup h1.2 (h1.2 v1.toNat 12).toNat (h1.2 v1.toNat 11).toNat x2) v1.toNat 11) + 1)))
              else none
            else none
          else none
        else none
      else
        some (none, h1)
    else none)
  else none :=
  (aB gP gX xs stp_105 25 d mm_105 0 _ _ h).trans rfl

set_option maxRecDepth 100000 in
set_option maxHeartbeats 4000000 in
theorem q_105_40 (xs : List Int) (d : Nat) (v0 : Int) (v1 : Int) (v2 : Int) (v3 : Int) (v4 : Int) (u5 : Option aV) (u6 : Option aV) (h : aH) : ev xs d mm_105 40 [some (.inr (.inr v0)), some (.inr (.inr v1)), some (.inl v2), some (.inl v3), some (.inl v4), u5, u6] [] h =
  bif decide (4 ≤ v4) then
    some (none, h)
  else
    bif aok h.1 v0 8 && true then
      bI (cl xs d 91 [.inr (.inr v0)] h) (fun x2 h1 =>
      bif decide (¬ x2 = 2) then
        some (none, h1)
      else
        bif aok h1.1 v0 8 && true then
          bI (cl xs d 106 [.inr (.inr v0), .inr (.inr v1), .inl v3] h1) (fun x4 h3 =>
          bif aok h3.1 v0 8 && true then
            bI (cl xs d 95 [.inr (.inr v0), .inl 1, .inl 99] h3) (fun x6 h5 =>
            bif decide (x4 < 0) then
              ev xs d mm_105 40 [some (.inr (.inr v0)), some (.inr (.inr v1)), some (.inl v2), some (.inl v3), some (.inl (w32 (v4 + 1))), some (.inl x4), some (.inl x6)] [] h5
            else
              bif decide (24 ≤ x4) then
                ev xs d mm_105 40 [some (.inr (.inr v0)), some (.inr (.inr v1)), some (.inl v2), some (.inl v3), some (.inl (w32 (v4 + 1))), some (.inl x4), some (.inl x6)] [] h5
              else
                bif aok h5.1 v1 9 then
                  bif ain h5.1 (h5.2 v1.toNat 13) 100 (w32 ((w32 (v3 * 24)) + x4)) then
                    ev xs d mm_105 40 [some (.inr (.inr v0)), some (.inr (.inr v1)), some (.inl v2), some (.inl v3), some (.inl (w32 (v4 + 1))), some (.inl x4), some (.inl x6)] [] (h5.1, aup h5.2 (h5.2 v1.toNat 13).toNat (w32 ((w32 (v3 * 24)) + x4)).toNat x6)
                  else none
                else none)
          else none)
        else none)
    else none :=
  (aB gP gX xs stp_105 34 d mm_105 40 _ _ h).trans rfl

theorem c_105 (xs : List Int) (d : Nat) (v0 : Int) (v1 : Int) (h : aH) : cl xs (d + 1) 105 [.inr (.inr v0), .inr (.inr v1)] h =
  bif aok h.1 v0 8 && true then
    bI (cl xs d 95 [.inr (.inr v0), .inl 0, .inl 999] h) (fun x2 h1 =>
    bif aok h1.1 v1 9 then
      bif decide ((h1.2 v1.toNat 11) < 5) then
        bif aok h1.1 v1 9 then
          bif ain h1.1 (h1.2 v1.toNat 12) 100 (h1.2 v1.toNat 11) then
            bif aok h1.1 v1 9 then
              bif aok h1.1 v1 9 then
                ev xs d mm_105 40 [some (.inr (.inr v0)), some (.inr (.inr v1)), some (.inl x2), some (.inl (h1.2 v1.toNat 11)), some (.inl 0), none, none] [] (h1.1, aup (aup h1.2 (h1.2 v1.toNat 12).toNat (h1.2 v1.toNat 11).toNat x2) v1.toNat 11 (w32 (((aup h1.2 (h1.2 v1.toNat 12).toNat (h1.2 v1.toNat 11).toNat x2) v1.toNat 11) + 1)))
              else none
            else none
          else none
        else none
      else
        some (none, h1)
    else none)
  else none :=
  (show _ = ev xs d mm_105 0 [some (.inr (.inr v0)), some (.inr (.inr v1)), none, none, none, none, none] [] h from rfl).trans (q_105_0 xs d v0 v1 h)
def stp_106 : List Nat := [0, 22]
set_option maxRecDepth 100000 in
set_option maxHeartbeats 4000000 in
theorem q_106_0 (xs : List Int) (d : Nat) (v0 : Int) (v1 : Int) (v2 : Int) (h : aH) : ev xs d mm_106 0 [some (.inr (.inr v0)), some (.inr (.inr v1)), some (.inl v2), none] [] h =
  bif aok h.1 v1 9 then
    bif aok h.1 v0 8 && true then
      bJ (cl xs d 94 [.inr (.inr v0)] h) (fun x2 h1 =>
      bif aok h1.1 (h.2 v1.toNat 4) 3 && true then
        bI (cl xs d 34 [.inr (.inr (h.2 v1.toNat 4)), .inr (.inl x2)] h1) (fun x4 h3 =>
        bif decide (x4 < 0) then
          ev xs d mm_106 22 [some (.inr (.inr v0)), some (.inr (.inr v1)), some (.inl v2), some (.inl x4)] [] h3
        else
          bif decide (x4 < 24) then
            bif aok h3.1 v1 9 then
              bif ain h3.1 (h3.2 v1.toNat 13) 100 (w32 ((w32 (v2 * 24)) + x4)) then
                bif decide ((h3.2 (h3.2 v1.toNat 13).toNat (w32 ((w32 (v2 * 24)) + x4)).toNat) = 0) then
                  some (some (.inl x4), h3)
                else
                  bif aok h3.1 v0 8 && true then
                    bV (cl xs d 92 [.inr (.inr v0), .inl 3] h3) (fun h5 =>
                    some (some (.inl x4), h5))
                  else none
              else none
            else none
          else
            ev xs d mm_106 22 [some (.inr (.inr v0)), some (.inr (.inr v1)), some (.inl v2), some (.inl x4)] [] h3)
      else none)
    else none
  else none :=
  (aB gP gX xs stp_106 26 d mm_106 0 _ _ h).trans rfl

set_option maxRecDepth 100000 in
set_option maxHeartbeats 4000000 in
theorem q_106_22 (xs : List Int) (d : Nat) (v0 : Int) (v1 : Int) (v2 : Int) (v3 : Int) (h : aH) : ev xs d mm_106 22 [some (.inr (.inr v0)), some (.inr (.inr v1)), some (.inl v2), some (.inl v3)] [] h =
  bif aok h.1 v0 8 && true then
    bV (cl xs d 92 [.inr (.inr v0), .inl 4] h) (fun h1 =>
    some (some (.inl v3), h1))
  else none :=
  (aB gP gX xs stp_106 7 d mm_106 22 _ _ h).trans rfl

theorem c_106 (xs : List Int) (d : Nat) (v0 : Int) (v1 : Int) (v2 : Int) (h : aH) : cl xs (d + 1) 106 [.inr (.inr v0), .inr (.inr v1), .inl v2] h =
  bif aok h.1 v1 9 then
    bif aok h.1 v0 8 && true then
      bJ (cl xs d 94 [.inr (.inr v0)] h) (fun x2 h1 =>
      bif aok h1.1 (h.2 v1.toNat 4) 3 && true then
        bI (cl xs d 34 [.inr (.inr (h.2 v1.toNat 4)), .inr (.inl x2)] h1) (fun x4 h3 =>
        bif decide (x4 < 0) then
          ev xs d mm_106 22 [some (.inr (.inr v0)), some (.inr (.inr v1)), some (.inl v2), some (.inl x4)] [] h3
        else
          bif decide (x4 < 24) then
            bif aok h3.1 v1 9 then
              bif ain h3.1 (h3.2 v1.toNat 13) 100 (w32 ((w32 (v2 * 24)) + x4)) then
                bif decide ((h3.2 (h3.2 v1.toNat 13).toNat (w32 ((w32 (v2 * 24)) + x4)).toNat) = 0) then
                  some (some (.inl x4), h3)
                else
                  bif aok h3.1 v0 8 && true then
                    bV (cl xs d 92 [.inr (.inr v0), .inl 3] h3) (fun h5 =>
                    some (some (.inl x4), h5))
                  else none
              else none
            else none
          else
            ev xs d mm_106 22 [some (.inr (.inr v0)), some (.inr (.inr v1)), some (.inl v2), some (.inl x4)] [] h3)
      else none)
    else none
  else none :=
  (show _ = ev xs d mm_106 0 [some (.inr (.inr v0)), some (.inr (.inr v1)), some (.inl v2), none] [] h from rfl).trans (q_106_0 xs d v0 v1 v2 h)
def stp_107 : List Nat := [0, 19]
set_option maxRecDepth 100000 in
set_option maxHeartbeats 4000000 in
theorem q_107_0 (xs : List Int) (d : Nat) (v0 : Int) (v1 : Int) (h : aH) : ev xs d mm_107 0 [some (.inr (.inr v0)), some (.inr (.inr v1)), none] [] h =
  bif aok h.1 v1 9 then
    bif aok h.1 (h.2 v1.toNat 14) 0 && true then
      bV (cl xs d 1 [.inr (.inr (h.2 v1.toNat 14))] h) (fun h1 =>
      bif aok h1.1 v0 8 then
        bif aok h1.1 v0 8 then
          ev xs d mm_107 19 [some (.inr (.inr v0)), some (.inr (.inr v1)), some (.inl 0)] [] (h1.1, aup h1.2 v0.toNat 3 (w32 ((h1.2 v0.toNat 3) + 1)))
        else none
      else none)
    else none
  else none :=
  (aB gP gX xs stp_107 12 d mm_107 0 _ _ h).trans rfl

set_option maxRecDepth 100000 in
set_option maxHeartbeats 4000000 in
theorem q_107_19 (xs : List Int) (d : Nat) (v0 : Int) (v1 : Int) (v2 : Int) (h : aH) : ev xs d mm_107 19 [some (.inr (.inr v0)), some (.inr (.inr v1)), some (.inl v2)] [] h =
  bif decide (400 ≤ v2) then
    some (none, h)
  else
    bif aok h.1 v0 8 && true then
      bI (cl xs d 91 [.inr (.inr v0)] h) (fun x2 h1 =>
      bif decide (x2 = 59) then
        some (none, h1)
      else
        bif aok h1.1 v0 8 && true then
          bI (cl xs d 91 [.inr (.inr v0)] h1) (fun x4 h3 =>
          bif decide (x4 = 0) then
            some (none, h3)
          else
            bif aok h3.1 v0 8 then
              bif aok h3.1 v0 8 then
                bif aok h3.1 v1 9 then
                  bif aok h3.1 v0 8 && true then
                    bI (cl xs d 90 [.inr (.inr v0)] (h3.1, aup h3.2 v0.toNat 3 (w32 ((h3.2 v0.toNat 3) + 1)))) (fun x6 h5 =>
                    bif aok h5.1 v0 8 then
                      bif aok h5.1 v0 8 then
                        bif aok h5.1 (h5.2 v0.toNat 2) 4 && true then
                          bJ (cl xs d 38 [.inr (.inr (h5.2 v0.toNat 2)), .inl (h5.2 v0.toNat 3)] h5) (fun x8 h7 =>
                          bif aok h7.1 ((aup h3.2 v0.toNat 3 (w32 ((h3.2 v0.toNat 3) + 1))) v1.toNat 14) 0 && true then
                            bV (cl xs d 2 [.inr (.inr ((aup h3.2 v0.toNat 3 (w32 ((h3.2 v0.toNat 3) + 1))) v1.toNat 14)), .inl x6, .inl (ol2i x8)] h7) (fun h9 =>
                            ev xs d mm_107 19 [some (.inr (.inr v0)), some (.inr (.inr v1)), some (.inl (w32 (v2 + 1)))] [] h9)
                          else none)
                        else none
                      else none
                    else none)
                  else none
                else none
              else none
            else none)
        else none)
    else none :=
  (aB gP gX xs stp_107 30 d mm_107 19 _ _ h).trans rfl

theorem c_107 (xs : List Int) (d : Nat) (v0 : Int) (v1 : Int) (h : aH) : cl xs (d + 1) 107 [.inr (.inr v0), .inr (.inr v1)] h =
  bif aok h.1 v1 9 then
    bif aok h.1 (h.2 v1.toNat 14) 0 && true then
      bV (cl xs d 1 [.inr (.inr (h.2 v1.toNat 14))] h) (fun h1 =>
      bif aok h1.1 v0 8 then
        bif aok h1.1 v0 8 then
          ev xs d mm_107 19 [some (.inr (.inr v0)), some (.inr (.inr v1)), some (.inl 0)] [] (h1.1, aup h1.2 v0.toNat 3 (w32 ((h1.2 v0.toNat 3) + 1)))
        else none
      else none)
    else none
  else none :=
  (show _ = ev xs d mm_107 0 [some (.inr (.inr v0)), some (.inr (.inr v1)), none] [] h from rfl).trans (q_107_0 xs d v0 v1 h)
def stp_108 : List Nat := [0, 14, 22, 29, 40, 57, 70, 78, 86, 98, 106, 113]
set_option maxRecDepth 100000 in
set_option maxHeartbeats 4000000 in
theorem q_108_0 (xs : List Int) (d : Nat) (v0 : Int) (h : aH) : ev xs d mm_108 0 [some (.inr (.inr v0))] [] h =
  bif decide (0 ≤ v0) && true then
    bif aok h.1 v0 9 then
      ev xs d mm_108 14 [some (.inr (.inr v0))] [.inr (.inr (h.1.1 : Int)), .inr (.inr v0)] ((h.1.1 + 1, h.1.2.1 + (6 : Int).toNat, fun q => if q = h.1.1 then (101, (6 : Int).toNat) else h.1.2.2 q), fun q j => if q = h.1.1 then 0 else (aup h.2 v0.toNat 0 0) q j)
    else none
  else none :=
  (aB gP gX xs stp_108 9 d mm_108 0 _ _ h).trans rfl

set_option maxRecDepth 100000 in
set_option maxHeartbeats 4000000 in
theorem q_108_14 (xs : List Int) (d : Nat) (v0 : Int) (s0 : Int) (s1 : Int) (h : aH) : ev xs d mm_108 14 [some (.inr (.inr v0))] [.inr (.inr s1), .inr (.inr s0)] h =
  bif aok h.1 s0 9 then
    ev xs d mm_108 22 [some (.inr (.inr v0))] [.inr (.inr (h.1.1 : Int)), .inr (.inr v0)] ((h.1.1 + 1, h.1.2.1 + (6 : Int).toNat, fun q => if q = h.1.1 then (100, (6 : Int).toNat) else h.1.2.2 q), fun q j => if q = h.1.1 then 0 else (aup h.2 s0.toNat 1 s1) q j)
  else none :=
  (aB gP gX xs stp_108 5 d mm_108 14 _ _ h).trans rfl

set_option maxRecDepth 100000 in
set_option maxHeartbeats 4000000 in
theorem q_108_22 (xs : List Int) (d : Nat) (v0 : Int) (s0 : Int) (s1 : Int) (h : aH) : ev xs d mm_108 22 [some (.inr (.inr v0))] [.inr (.inr s1), .inr (.inr s0)] h =
  bif aok h.1 s0 9 then
    ev xs d mm_108 29 [some (.inr (.inr v0))] [.inr (.inr (h.1.1 : Int)), .inr (.inr v0)] ((h.1.1 + 1, h.1.2.1 + 5, fun q => if q = h.1.1 then (7, 5) else h.1.2.2 q), fun q j => if q = h.1.1 then adf 7 j else (aup h.2 s0.toNat 2 s1) q j)
  else none :=
  (aB gP gX xs stp_108 4 d mm_108 22 _ _ h).trans rfl

set_option maxRecDepth 100000 in
set_option maxHeartbeats 4000000 in
theorem q_108_29 (xs : List Int) (d : Nat) (v0 : Int) (s0 : Int) (s1 : Int) (h : aH) : ev xs d mm_108 29 [some (.inr (.inr v0))] [.inr (.inr s1), .inr (.inr s0)] h =
  bif decide (0 ≤ s1) && true then
    bV (cl xs d 84 [.inr (.inr s1)] h) (fun h1 =>
    bif aok h1.1 s0 9 then
      ev xs d mm_108 40 [some (.inr (.inr v0))] [.inr (.inr (h1.1.1 : Int)), .inr (.inr v0)] ((h1.1.1 + 1, h1.1.2.1 + 3, fun q => if q = h1.1.1 then (3, 3) else h1.1.2.2 q), fun q j => if q = h1.1.1 then adf 3 j else (aup h1.2 s0.toNat 3 s1) q j)
    else none)
  else none :=
  (aB gP gX xs stp_108 6 d mm_108 29 _ _ h).trans rfl

set_option maxRecDepth 100000 in
set_option maxHeartbeats 4000000 in
theorem q_108_40 (xs : List Int) (d : Nat) (v0 : Int) (s0 : Int) (s1 : Int) (h : aH) : ev xs d mm_108 40 [some (.inr (.inr v0))] [.inr (.inr s1), .inr (.inr s0)] h =
  bif decide (0 ≤ s1) && true then
    bV (cl xs d 29 [.inr (.inr s1)] h) (fun h1 =>
    bif aok h1.1 s0 9 then
      bif aok h1.1 v0 9 then
        ev xs d mm_108 57 [some (.inr (.inr v0))] [.inr (.inr (h1.1.1 : Int)), .inr (.inr v0)] ((h1.1.1 + 1, h1.1.2.1 + (10 : Int).toNat, fun q => if q = h1.1.1 then (101, (10 : Int).toNat) else h1.1.2.2 q), fun q j => if q = h1.1.1 then 0 else (aup (aup h1.2 s0.toNat 4 s1) v0.toNat 5 0) q j)
      else none
    else none)
  else none :=
  (aB gP gX xs stp_108 10 d mm_108 40 _ _ h).trans rfl

set_option maxRecDepth 100000 in
set_option maxHeartbeats 4000000 in
theorem q_108_57 (xs : List Int) (d : Nat) (v0 : Int) (s0 : Int) (s1 : Int) (h : aH) : ev xs d mm_108 57 [some (.inr (.inr v0))] [.inr (.inr s1), .inr (.inr s0)] h =
  bif aok h.1 s0 9 then
    bif aok h.1 v0 9 then
      ev xs d mm_108 70 [some (.inr (.inr v0))] [.inr (.inr (h.1.1 : Int)), .inr (.inr v0)] ((h.1.1 + 1, h.1.2.1 + (8 : Int).toNat, fun q => if q = h.1.1 then (101, (8 : Int).toNat) else h.1.2.2 q), fun q j => if q = h.1.1 then 0 else (aup (aup h.2 s0.toNat 6 s1) v0.toNat 7 0) q j)
    else none
  else none :=
  (aB gP gX xs stp_108 8 d mm_108 57 _ _ h).trans rfl

set_option maxRecDepth 100000 in
set_option maxHeartbeats 4000000 in
theorem q_108_70 (xs : List Int) (d : Nat) (v0 : Int) (s0 : Int) (s1 : Int) (h : aH) : ev xs d mm_108 70 [some (.inr (.inr v0))] [.inr (.inr s1), .inr (.inr s0)] h =
  bif aok h.1 s0 9 then
    ev xs d mm_108 78 [some (.inr (.inr v0))] [.inr (.inr (h.1.1 : Int)), .inr (.inr v0)] ((h.1.1 + 1, h.1.2.1 + (8 : Int).toNat, fun q => if q = h.1.1 then (101, (8 : Int).toNat) else h.1.2.2 q), fun q j => if q = h.1.1 then 0 else (aup h.2 s0.toNat 8 s1) q j)
  else none :=
  (aB gP gX xs stp_108 5 d mm_108 70 _ _ h).trans rfl

set_option maxRecDepth 100000 in
set_option maxHeartbeats 4000000 in
theorem q_108_78 (xs : List Int) (d : Nat) (v0 : Int) (s0 : Int) (s1 : Int) (h : aH) : ev xs d mm_108 78 [some (.inr (.inr v0))] [.inr (.inr s1), .inr (.inr s0)] h =
  bif aok h.1 s0 9 then
    ev xs d mm_108 86 [some (.inr (.inr v0))] [.inr (.inr (h.1.1 : Int)), .inr (.inr v0)] ((h.1.1 + 1, h.1.2.1 + (8 : Int).toNat, fun q => if q = h.1.1 then (101, (8 : Int).toNat) else h.1.2.2 q), fun q j => if q = h.1.1 then 0 else (aup h.2 s0.toNat 9 s1) q j)
  else none :=
  (aB gP gX xs stp_108 5 d mm_108 78 _ _ h).trans rfl

set_option maxRecDepth 100000 in
set_option maxHeartbeats 4000000 in
theorem q_108_86 (xs : List Int) (d : Nat) (v0 : Int) (s0 : Int) (s1 : Int) (h : aH) : ev xs d mm_108 86 [some (.inr (.inr v0))] [.inr (.inr s1), .inr (.inr s0)] h =
  bif aok h.1 s0 9 then
    bif aok h.1 v0 9 then
      ev xs d mm_108 98 [some (.inr (.inr v0))] [.inr (.inr (h.1.1 : Int)), .inr (.inr v0)] ((h.1.1 + 1, h.1.2.1 + (5 : Int).toNat, fun q => if q = h.1.1 then (100, (5 : Int).toNat) else h.1.2.2 q), fun q j => if q = h.1.1 then 0 else (aup (aup h.2 s0.toNat 10 s1) v0.toNat 11 0) q j)
    else none
  else none :=
  (aB gP gX xs stp_108 8 d mm_108 86 _ _ h).trans rfl

set_option maxRecDepth 100000 in
set_option maxHeartbeats 4000000 in
theorem q_108_98 (xs : List Int) (d : Nat) (v0 : Int) (s0 : Int) (s1 : Int) (h : aH) : ev xs d mm_108 98 [some (.inr (.inr v0))] [.inr (.inr s1), .inr (.inr s0)] h =
  bif aok h.1 s0 9 then
    ev xs d mm_108 106 [some (.inr (.inr v0))] [.inr (.inr (h.1.1 : Int)), .inr (.inr v0)] ((h.1.1 + 1, h.1.2.1 + (120 : Int).toNat, fun q => if q = h.1.1 then (100, (120 : Int).toNat) else h.1.2.2 q), fun q j => if q = h.1.1 then 0 else (aup h.2 s0.toNat 12 s1) q j)
  else none :=
  (aB gP gX xs stp_108 5 d mm_108 98 _ _ h).trans rfl

set_option maxRecDepth 100000 in
set_option maxHeartbeats 4000000 in
theorem q_108_106 (xs : List Int) (d : Nat) (v0 : Int) (s0 : Int) (s1 : Int) (h : aH) : ev xs d mm_108 106 [some (.inr (.inr v0))] [.inr (.inr s1), .inr (.inr s0)] h =
  bif aok h.1 s0 9 then
    ev xs d mm_108 113 [some (.inr (.inr v0))] [.inr (.inr (h.1.1 : Int)), .inr (.inr v0)] ((h.1.1 + 1, h.1.2.1 + 6, fun q => if q = h.1.1 then (0, 6) else h.1.2.2 q), fun q j => if q = h.1.1 then adf 0 j else (aup h.2 s0.toNat 13 s1) q j)
  else none :=
  (aB gP gX xs stp_108 4 d mm_108 106 _ _ h).trans rfl

set_option maxRecDepth 100000 in
set_option maxHeartbeats 4000000 in
theorem q_108_113 (xs : List Int) (d : Nat) (v0 : Int) (s0 : Int) (s1 : Int) (h : aH) : ev xs d mm_108 113 [some (.inr (.inr v0))] [.inr (.inr s1), .inr (.inr s0)] h =
  bif decide (0 ≤ s1) && true then
    bV (cl xs d 0 [.inr (.inr s1)] h) (fun h1 =>
    bif aok h1.1 s0 9 then
      bif aok h1.1 v0 9 then
        some (none, (h1.1, aup (aup h1.2 s0.toNat 14 s1) v0.toNat 15 0))
      else none
    else none)
  else none :=
  (aB gP gX xs stp_108 8 d mm_108 113 _ _ h).trans rfl

theorem c_108 (xs : List Int) (d : Nat) (v0 : Int) (h : aH) : cl xs (d + 1) 108 [.inr (.inr v0)] h =
  bif decide (0 ≤ v0) && true then
    bif aok h.1 v0 9 then
      ev xs d mm_108 14 [some (.inr (.inr v0))] [.inr (.inr (h.1.1 : Int)), .inr (.inr v0)] ((h.1.1 + 1, h.1.2.1 + (6 : Int).toNat, fun q => if q = h.1.1 then (101, (6 : Int).toNat) else h.1.2.2 q), fun q j => if q = h.1.1 then 0 else (aup h.2 v0.toNat 0 0) q j)
    else none
  else none :=
  (show _ = ev xs d mm_108 0 [some (.inr (.inr v0))] [] h from rfl).trans (q_108_0 xs d v0 h)
