def stp_109 : List Nat := [0, 25, 55]
set_option maxRecDepth 100000 in
set_option maxHeartbeats 4000000 in
theorem q_109_0 (xs : List Int) (d : Nat) (v0 : Int) (h : aH) : ev xs d mm_109 0 [some (.inr (.inr v0))] [] h =
  bif aok h.1 v0 9 then
    bif aok h.1 v0 9 then
      bif aok h.1 ((aup h.2 v0.toNat 0 0) v0.toNat 3) 7 then
        bif aok h.1 v0 9 then
          bif aok h.1 ((aup (aup h.2 v0.toNat 0 0) ((aup h.2 v0.toNat 0 0) v0.toNat 3).toNat 0 0) v0.toNat 4) 3 && true then
            bV (cl xs d 35 [.inr (.inr ((aup (aup h.2 v0.toNat 0 0) ((aup h.2 v0.toNat 0 0) v0.toNat 3).toNat 0 0) v0.toNat 4))] (h.1, aup (aup h.2 v0.toNat 0 0) ((aup h.2 v0.toNat 0 0) v0.toNat 3).toNat 0 0)) (fun h1 =>
            bif aok h1.1 v0 9 then
              ev xs d mm_109 25 [some (.inr (.inr v0))] [] (h1.1, aup h1.2 v0.toNat 5 0)
            else none)
          else none
        else none
      else none
    else none
  else none :=
  (aB gP gX xs stp_109 14 d mm_109 0 _ _ h).trans rfl

set_option maxRecDepth 100000 in
set_option maxHeartbeats 4000000 in
theorem q_109_25 (xs : List Int) (d : Nat) (v0 : Int) (h : aH) : ev xs d mm_109 25 [some (.inr (.inr v0))] [] h =
  bif aok h.1 v0 9 then
    bif aok h.1 v0 9 then
      bif aok h.1 v0 9 then
        bV (cl xs d 318 [.inr (.inr ((aup (aup h.2 v0.toNat 7 0) v0.toNat 11 0) v0.toNat 13)), .inl 0] (h.1, aup (aup h.2 v0.toNat 7 0) v0.toNat 11 0)) (fun h1 =>
          bif aok h1.1 v0 9 then
            bif aok h1.1 (h1.2 v0.toNat 14) 0 && true then
              bV (cl xs d 1 [.inr (.inr (h1.2 v0.toNat 14))] h1) (fun h2 =>
              bif aok h2.1 v0 9 then
                ev xs d mm_109 55 [some (.inr (.inr v0))] [] (h2.1, aup h2.2 v0.toNat 15 0)
              else none)
            else none
          else none)
      else none
    else none
  else none :=
  (aB gP gX xs stp_109 17 d mm_109 25 _ _ h).trans rfl

set_option maxRecDepth 100000 in
set_option maxHeartbeats 4000000 in
theorem q_109_55 (xs : List Int) (d : Nat) (v0 : Int) (h : aH) : ev xs d mm_109 55 [some (.inr (.inr v0))] [] h =
  some (none, h) :=
  (aB gP gX xs stp_109 2 d mm_109 55 _ _ h).trans rfl

theorem c_109 (xs : List Int) (d : Nat) (v0 : Int) (h : aH) : cl xs (d + 1) 109 [.inr (.inr v0)] h =
  bif aok h.1 v0 9 then
    bif aok h.1 v0 9 then
      bif aok h.1 ((aup h.2 v0.toNat 0 0) v0.toNat 3) 7 then
        bif aok h.1 v0 9 then
          bif aok h.1 ((aup (aup h.2 v0.toNat 0 0) ((aup h.2 v0.toNat 0 0) v0.toNat 3).toNat 0 0) v0.toNat 4) 3 && true then
            bV (cl xs d 35 [.inr (.inr ((aup (aup h.2 v0.toNat 0 0) ((aup h.2 v0.toNat 0 0) v0.toNat 3).toNat 0 0) v0.toNat 4))] (h.1, aup (aup h.2 v0.toNat 0 0) ((aup h.2 v0.toNat 0 0) v0.toNat 3).toNat 0 0)) (fun h1 =>
            bif aok h1.1 v0 9 then
              ev xs d mm_109 25 [some (.inr (.inr v0))] [] (h1.1, aup h1.2 v0.toNat 5 0)
            else none)
          else none
        else none
      else none
    else none
  else none :=
  (show _ = ev xs d mm_109 0 [some (.inr (.inr v0))] [] h from rfl).trans (q_109_0 xs d v0 h)
def stp_110 : List Nat := [0, 2]
set_option maxRecDepth 100000 in
set_option maxHeartbeats 4000000 in
theorem q_110_0 (xs : List Int) (d : Nat) (v0 : Int) (v1 : Int) (h : aH) : ev xs d mm_110 0 [some (.inr (.inr v0)), some (.inr (.inl v1)), none, none] [] h =
  ev xs d mm_110 2 [some (.inr (.inr v0)), some (.inr (.inl v1)), none, some (.inl 0)] [] h :=
  (aB gP gX xs stp_110 3 d mm_110 0 _ _ h).trans rfl

set_option maxRecDepth 100000 in
set_option maxHeartbeats 4000000 in
theorem q_110_2 (xs : List Int) (d : Nat) (v0 : Int) (v1 : Int) (u2 : Option aV) (v3 : Int) (h : aH) : ev xs d mm_110 2 [some (.inr (.inr v0)), some (.inr (.inl v1)), u2, some (.inl v3)] [] h =
  bif aok h.1 v0 9 then
    bif decide ((h.2 v0.toNat 0) ≤ v3) then
      some (some (.inl (-1)), h)
    else
      bif aok h.1 v0 9 then
        bif ain h.1 (h.2 v0.toNat 1) 101 v3 then
          bif decide (¬ (olcmp (h.2 (h.2 v0.toNat 1).toNat v3.toNat) v1) = 0) then
            ev xs d mm_110 2 [some (.inr (.inr v0)), some (.inr (.inl v1)), acl u2, some (.inl (w32 (v3 + 1)))] [] h
          else
            some (some (.inl v3), h)
        else none
      else none
  else none :=
  (aB gP gX xs stp_110 14 d mm_110 2 _ _ h).trans rfl

theorem c_110 (xs : List Int) (d : Nat) (v0 : Int) (v1 : Int) (h : aH) : cl xs (d + 1) 110 [.inr (.inr v0), .inr (.inl v1)] h =
  ev xs d mm_110 2 [some (.inr (.inr v0)), some (.inr (.inl v1)), none, some (.inl 0)] [] h :=
  (show _ = ev xs d mm_110 0 [some (.inr (.inr v0)), some (.inr (.inl v1)), none, none] [] h from rfl).trans (q_110_0 xs d v0 v1 h)
def stp_111 : List Nat := [0, 5]
set_option maxRecDepth 100000 in
set_option maxHeartbeats 4000000 in
theorem q_111_0 (xs : List Int) (d : Nat) (v0 : Int) (v1 : Int) (v2 : Int) (h : aH) : ev xs d mm_111 0 [some (.inr (.inr v0)), some (.inl v1), some (.inl v2), none, none] [] h =
  ev xs d mm_111 5 [some (.inr (.inr v0)), some (.inl v1), some (.inl v2), some (.inl 0), some (.inl 0)] [] h :=
  (aB gP gX xs stp_111 5 d mm_111 0 _ _ h).trans rfl

set_option maxRecDepth 100000 in
set_option maxHeartbeats 4000000 in
theorem q_111_5 (xs : List Int) (d : Nat) (v0 : Int) (v1 : Int) (v2 : Int) (v3 : Int) (v4 : Int) (h : aH) : ev xs d mm_111 5 [some (.inr (.inr v0)), some (.inl v1), some (.inl v2), some (.inl v3), some (.inl v4)] [] h =
  bif aok h.1 v0 9 then
    bif decide ((h.2 v0.toNat 11) ≤ v4) then
      some (some (.inl v3), h)
    else
      bif decide ((oand (oushr v1 v4) 1) = 0) then
        ev xs d mm_111 5 [some (.inr (.inr v0)), some (.inl v1), some (.inl v2), some (.inl v3), some (.inl (w32 (v4 + 1)))] [] h
      else
        bif aok h.1 v0 9 then
          bif ain h.1 (h.2 v0.toNat 13) 100 (w32 ((w32 (v4 * 24)) + v2)) then
            ev xs d mm_111 5 [some (.inr (.inr v0)), some (.inl v1), some (.inl v2), some (.inl (w32 (v3 + (h.2 (h.2 v0.toNat 13).toNat (w32 ((w32 (v4 * 24)) + v2)).toNat)))), some (.inl (w32 (v4 + 1)))] [] h
          else none
        else none
  else none :=
  (aB gP gX xs stp_111 24 d mm_111 5 _ _ h).trans rfl

theorem c_111 (xs : List Int) (d : Nat) (v0 : Int) (v1 : Int) (v2 : Int) (h : aH) : cl xs (d + 1) 111 [.inr (.inr v0), .inl v1, .inl v2] h =
  ev xs d mm_111 5 [some (.inr (.inr v0)), some (.inl v1), some (.inl v2), some (.inl 0), some (.inl 0)] [] h :=
  (show _ = ev xs d mm_111 0 [some (.inr (.inr v0)), some (.inl v1), some (.inl v2), none, none] [] h from rfl).trans (q_111_0 xs d v0 v1 v2 h)
def stp_112 : List Nat := [0, 4]
set_option maxRecDepth 100000 in
set_option maxHeartbeats 4000000 in
theorem q_112_0 (xs : List Int) (d : Nat) (v0 : Int) (v1 : Int) (h : aH) : ev xs d mm_112 0 [some (.inr (.inr v0)), some (.inl v1), none, none] [] h =
  ev xs d mm_112 4 [some (.inr (.inr v0)), some (.inl v1), some (.inl 0), some (.inl 0)] [] h :=
  (aB gP gX xs stp_112 5 d mm_112 0 _ _ h).trans rfl

set_option maxRecDepth 100000 in
set_option maxHeartbeats 4000000 in
theorem q_112_4 (xs : List Int) (d : Nat) (v0 : Int) (v1 : Int) (v2 : Int) (v3 : Int) (h : aH) : ev xs d mm_112 4 [some (.inr (.inr v0)), some (.inl v1), some (.inl v2), some (.inl v3)] [] h =
  bif aok h.1 v0 9 then
    bif decide ((h.2 v0.toNat 11) ≤ v3) then
      some (some (.inl v2), h)
    else
      bif decide ((oand (oushr v1 v3) 1) = 0) then
        ev xs d mm_112 4 [some (.inr (.inr v0)), some (.inl v1), some (.inl v2), some (.inl (w32 (v3 + 1)))] [] h
      else
        bif aok h.1 v0 9 then
          bif ain h.1 (h.2 v0.toNat 12) 100 v3 then
            ev xs d mm_112 4 [some (.inr (.inr v0)), some (.inl v1), some (.inl (w32 (v2 + (h.2 (h.2 v0.toNat 12).toNat v3.toNat)))), some (.inl (w32 (v3 + 1)))] [] h
          else none
        else none
  else none :=
  (aB gP gX xs stp_112 20 d mm_112 4 _ _ h).trans rfl

theorem c_112 (xs : List Int) (d : Nat) (v0 : Int) (v1 : Int) (h : aH) : cl xs (d + 1) 112 [.inr (.inr v0), .inl v1] h =
  ev xs d mm_112 4 [some (.inr (.inr v0)), some (.inl v1), some (.inl 0), some (.inl 0)] [] h :=
  (show _ = ev xs d mm_112 0 [some (.inr (.inr v0)), some (.inl v1), none, none] [] h from rfl).trans (q_112_0 xs d v0 v1 h)
def stp_113 : List Nat := [0, 15, 23]
set_option maxRecDepth 100000 in
set_option maxHeartbeats 4000000 in
theorem q_113_0 (xs : List Int) (d : Nat) (v0 : Int) (h : aH) : ev xs d mm_113 0 [some (.inr (.inr v0))] [] h =
  bif decide (0 ≤ v0) && true then
    bif aok h.1 v0 10 then
      ev xs d mm_113 15 [some (.inr (.inr v0))] [.inr (.inr (h.1.1 : Int)), .inr (.inr v0)] ((h.1.1 + 1, h.1.2.1 + (280 : Int).toNat, fun q => if q = h.1.1 then (100, (280 : Int).toNat) else h.1.2.2 q), fun q j => if q = h.1.1 then 0 else (aup h.2 v0.toNat 0 0) q j)
    else none
  else none :=
  (aB gP gX xs stp_113 9 d mm_113 0 _ _ h).trans rfl

set_option maxRecDepth 100000 in
set_option maxHeartbeats 4000000 in
theorem q_113_15 (xs : List Int) (d : Nat) (v0 : Int) (s0 : Int) (s1 : Int) (h : aH) : ev xs d mm_113 15 [some (.inr (.inr v0))] [.inr (.inr s1), .inr (.inr s0)] h =
  bif aok h.1 s0 10 then
    ev xs d mm_113 23 [some (.inr (.inr v0))] [.inr (.inr (h.1.1 : Int)), .inr (.inr v0)] ((h.1.1 + 1, h.1.2.1 + (24 : Int).toNat, fun q => if q = h.1.1 then (100, (24 : Int).toNat) else h.1.2.2 q), fun q j => if q = h.1.1 then 0 else (aup h.2 s0.toNat 1 s1) q j)
  else none :=
  (aB gP gX xs stp_113 5 d mm_113 15 _ _ h).trans rfl

set_option maxRecDepth 100000 in
set_option maxHeartbeats 4000000 in
theorem q_113_23 (xs : List Int) (d : Nat) (v0 : Int) (s0 : Int) (s1 : Int) (h : aH) : ev xs d mm_113 23 [some (.inr (.inr v0))] [.inr (.inr s1), .inr (.inr s0)] h =
  bif aok h.1 s0 10 then
    some (none, (h.1, aup h.2 s0.toNat 2 s1))
  else none :=
  (aB gP gX xs stp_113 3 d mm_113 23 _ _ h).trans rfl

theorem c_113 (xs : List Int) (d : Nat) (v0 : Int) (h : aH) : cl xs (d + 1) 113 [.inr (.inr v0)] h =
  bif decide (0 ≤ v0) && true then
    bif aok h.1 v0 10 then
      ev xs d mm_113 15 [some (.inr (.inr v0))] [.inr (.inr (h.1.1 : Int)), .inr (.inr v0)] ((h.1.1 + 1, h.1.2.1 + (280 : Int).toNat, fun q => if q = h.1.1 then (100, (280 : Int).toNat) else h.1.2.2 q), fun q j => if q = h.1.1 then 0 else (aup h.2 v0.toNat 0 0) q j)
    else none
  else none :=
  (show _ = ev xs d mm_113 0 [some (.inr (.inr v0))] [] h from rfl).trans (q_113_0 xs d v0 h)
def stp_114 : List Nat := [0, 15]
set_option maxRecDepth 100000 in
set_option maxHeartbeats 4000000 in
theorem q_114_0 (xs : List Int) (d : Nat) (v0 : Int) (v1 : Int) (v2 : Int) (h : aH) : ev xs d mm_114 0 [some (.inr (.inr v0)), some (.inr (.inr v1)), some (.inr (.inl v2)), none, none, none, none] [] h =
  bif aok h.1 v0 10 then
    bif aok h.1 v0 10 && true then
      bV (cl xs d 115 [.inr (.inr v0), .inr (.inr v1), .inr (.inl v2), .inl 0] (h.1, aup h.2 v0.toNat 0 0)) (fun h1 =>
      ev xs d mm_114 15 [some (.inr (.inr v0)), some (.inr (.inr v1)), some (.inr (.inl v2)), none, some (.inl 0), none, none] [] h1)
    else none
  else none :=
  (aB gP gX xs stp_114 11 d mm_114 0 _ _ h).trans rfl

set_option maxRecDepth 100000 in
set_option maxHeartbeats 4000000 in
theorem q_114_15 (xs : List Int) (d : Nat) (v0 : Int) (v1 : Int) (v2 : Int) (u3 : Option aV) (v4 : Int) (u5 : Option aV) (u6 : Option aV) (h : aH) : ev xs d mm_114 15 [some (.inr (.inr v0)), some (.inr (.inr v1)), some (.inr (.inl v2)), u3, some (.inl v4), u5, u6] [] h =
  bif aok h.1 v1 3 then
    bif ain h.1 (h.2 v1.toNat 0) 100 2 then
      bif decide ((h.2 (h.2 v1.toNat 0).toNat (2 : Int).toNat) ≤ v4) then
        some (none, h)
      else
        bif aok h.1 v1 3 then
          bif ain h.1 (h.2 v1.toNat 1) 101 (w32 (16 + v4)) then
            bI (cl xs d 123 [.inr (.inl v2), .inr (.inl (h.2 (h.2 v1.toNat 1).toNat (w32 (16 + v4)).toNat))] h) (fun x2 h1 =>
              bif decide (x2 = 0) then
                ev xs d mm_114 15 [some (.inr (.inr v0)), some (.inr (.inr v1)), some (.inr (.inl v2)), acl u3, some (.inl (w32 (v4 + 1))), some (.inr (.inl (h.2 (h.2 v1.toNat 1).toNat (w32 (16 + v4)).toNat))), none] [] h1
              else
                bJ (cl xs d 124 [.inr (.inl v2), .inr (.inl (h.2 (h.2 v1.toNat 1).toNat (w32 (16 + v4)).toNat))] h1) (fun x4 h3 =>
                  bif aok h3.1 v0 10 && true then
                    bV (cl xs d 115 [.inr (.inr v0), .inr (.inr v1), .inr (.inl x4), .inl (w32 (1000 * (w32 (v4 + 1))))] h3) (fun h5 =>
                    ev xs d mm_114 15 [some (.inr (.inr v0)), some (.inr (.inr v1)), some (.inr (.inl v2)), acl u3, some (.inl (w32 (v4 + 1))), some (.inr (.inl (h.2 (h.2 v1.toNat 1).toNat (w32 (16 + v4)).toNat))), none] [] h5)
                  else none))
          else none
        else none
    else none
  else none :=
  (aB gP gX xs stp_114 31 d mm_114 15 _ _ h).trans rfl

theorem c_114 (xs : List Int) (d : Nat) (v0 : Int) (v1 : Int) (v2 : Int) (h : aH) : cl xs (d + 1) 114 [.inr (.inr v0), .inr (.inr v1), .inr (.inl v2)] h =
  bif aok h.1 v0 10 then
    bif aok h.1 v0 10 && true then
      bV (cl xs d 115 [.inr (.inr v0), .inr (.inr v1), .inr (.inl v2), .inl 0] (h.1, aup h.2 v0.toNat 0 0)) (fun h1 =>
      ev xs d mm_114 15 [some (.inr (.inr v0)), some (.inr (.inr v1)), some (.inr (.inl v2)), none, some (.inl 0), none, none] [] h1)
    else none
  else none :=
  (show _ = ev xs d mm_114 0 [some (.inr (.inr v0)), some (.inr (.inr v1)), some (.inr (.inl v2)), none, none, none, none] [] h from rfl).trans (q_114_0 xs d v0 v1 v2 h)
def stp_115 : List Nat := [0, 3]
set_option maxRecDepth 100000 in
set_option maxHeartbeats 4000000 in
theorem q_115_0 (xs : List Int) (d : Nat) (v0 : Int) (v1 : Int) (v2 : Int) (v4 : Int) (h : aH) : ev xs d mm_115 0 [some (.inr (.inr v0)), some (.inr (.inr v1)), some (.inr (.inl v2)), none, some (.inl v4), none, none, none] [] h =
  ev xs d mm_115 3 [some (.inr (.inr v0)), some (.inr (.inr v1)), some (.inr (.inl v2)), none, some (.inl v4), some (.inl 0), none, none] [] h :=
  (aB gP gX xs stp_115 3 d mm_115 0 _ _ h).trans rfl

set_option maxRecDepth 100000 in
set_option maxHeartbeats 4000000 in
theorem q_115_3 (xs : List Int) (d : Nat) (v0 : Int) (v1 : Int) (v2 : Int) (u3 : Option aV) (v4 : Int) (v5 : Int) (u6 : Option aV) (u7 : Option aV) (h : aH) : ev xs d mm_115 3 [some (.inr (.inr v0)), some (.inr (.inr v1)), some (.inr (.inl v2)), u3, some (.inl v4), some (.inl v5), u6, u7] [] h =
  bif aok h.1 v1 3 then
    bif ain h.1 (h.2 v1.toNat 0) 100 0 then
      bif decide ((h.2 (h.2 v1.toNat 0).toNat (0 : Int).toNat) ≤ v5) then
        some (none, h)
      else
        bif aok h.1 v1 3 then
          bif ain h.1 (h.2 v1.toNat 1) 101 (w32 (0 + v5)) then
            bI (cl xs d 123 [.inr (.inl v2), .inr (.inl (h.2 (h.2 v1.toNat 1).toNat (w32 (0 + v5)).toNat))] h) (fun x2 h1 =>
              bif decide (x2 = 0) then
                ev xs d mm_115 3 [some (.inr (.inr v0)), some (.inr (.inr v1)), some (.inr (.inl v2)), u3, some (.inl v4), some (.inl (w32 (v5 + 1))), some (.inr (.inl (h.2 (h.2 v1.toNat 1).toNat (w32 (0 + v5)).toNat))), none] [] h1
              else
                bJ (cl xs d 124 [.inr (.inl v2), .inr (.inl (h.2 (h.2 v1.toNat 1).toNat (w32 (0 + v5)).toNat))] h1) (fun x4 h3 =>
                  bif aok h3.1 v0 10 && true then
                    bV (cl xs d 116 [.inr (.inr v0), .inr (.inr v1), .inr (.inl x4), .inl (w32 (v4 + (w32 (100 * (w32 (v5 + 1))))))] h3) (fun h5 =>
                    ev xs d mm_115 3 [some (.inr (.inr v0)), some (.inr (.inr v1)), some (.inr (.inl v2)), u3, some (.inl v4), some (.inl (w32 (v5 + 1))), some (.inr (.inl (h.2 (h.2 v1.toNat 1).toNat (w32 (0 + v5)).toNat))), none] [] h5)
                  else none))
          else none
        else none
    else none
  else none :=
  (aB gP gX xs stp_115 33 d mm_115 3 _ _ h).trans rfl

theorem c_115 (xs : List Int) (d : Nat) (v0 : Int) (v1 : Int) (v2 : Int) (v4 : Int) (h : aH) : cl xs (d + 1) 115 [.inr (.inr v0), .inr (.inr v1), .inr (.inl v2), .inl v4] h =
  ev xs d mm_115 3 [some (.inr (.inr v0)), some (.inr (.inr v1)), some (.inr (.inl v2)), none, some (.inl v4), some (.inl 0), none, none] [] h :=
  (show _ = ev xs d mm_115 0 [some (.inr (.inr v0)), some (.inr (.inr v1)), some (.inr (.inl v2)), none, some (.inl v4), none, none, none] [] h from rfl).trans (q_115_0 xs d v0 v1 v2 v4 h)
def stp_116 : List Nat := [0, 16, 91]
set_option maxRecDepth 100000 in
set_option maxHeartbeats 4000000 in
theorem q_116_0 (xs : List Int) (d : Nat) (v0 : Int) (v1 : Int) (v2 : Int) (v4 : Int) (h : aH) : ev xs d mm_116 0 [some (.inr (.inr v0)), some (.inr (.inr v1)), some (.inr (.inl v2)), none, some (.inl v4), none, none, none, none, none, none] [] h =
  bif decide (¬ (olcmp v2 0) = 0) then
    ev xs d mm_116 16 [some (.inr (.inr v0)), some (.inr (.inr v1)), some (.inr (.inl v2)), none, some (.inl v4), some (.inl 0), none, none, none, none, none] [] h
  else
    bif aok h.1 v0 10 && true then
      bV (cl xs d 117 [.inr (.inr v0), .inl v4] h) (fun h1 =>
      some (none, h1))
    else none :=
  (aB gP gX xs stp_116 9 d mm_116 0 _ _ h).trans rfl

set_option maxRecDepth 100000 in
set_option maxHeartbeats 4000000 in
theorem q_116_16 (xs : List Int) (d : Nat) (v0 : Int) (v1 : Int) (v2 : Int) (u3 : Option aV) (v4 : Int) (v5 : Int) (u6 : Option aV) (u7 : Option aV) (u8 : Option aV) (u9 : Option aV) (u10 : Option aV) (h : aH) : ev xs d mm_116 16 [some (.inr (.inr v0)), some (.inr (.inr v1)), some (.inr (.inl v2)), u3, some (.inl v4), some (.inl v5), u6, u7, u8, u9, u10] [] h =
  bif aok h.1 v1 3 then
    bif ain h.1 (h.2 v1.toNat 0) 100 1 then
      bif decide ((h.2 (h.2 v1.toNat 0).toNat (1 : Int).toNat) ≤ v5) then
        some (none, h)
      else
        bif aok h.1 v1 3 then
          bif ain h.1 (h.2 v1.toNat 1) 101 (w32 (8 + v5)) then
            bI (cl xs d 123 [.inr (.inl v2), .inr (.inl (h.2 (h.2 v1.toNat 1).toNat (w32 (8 + v5)).toNat))] h) (fun x2 h1 =>
              bif decide (x2 = 0) then
                ev xs d mm_116 16 [some (.inr (.inr v0)), some (.inr (.inr v1)), some (.inr (.inl v2)), u3, some (.inl v4), some (.inl (w32 (v5 + 1))), some (.inr (.inl (h.2 (h.2 v1.toNat 1).toNat (w32 (8 + v5)).toNat))), none, u8, u9, u10] [] h1
              else
                bJ (cl xs d 124 [.inr (.inl v2), .inr (.inl (h.2 (h.2 v1.toNat 1).toNat (w32 (8 + v5)).toNat))] h1) (fun x4 h3 =>
                  bif decide (¬ (olcmp x4 0) = 0) then
                    bif aok h3.1 v1 3 && true then
                      bI (cl xs d 33 [.inr (.inr v1), .inl 1, .inr (.inl x4)] h3) (fun x6 h5 =>
                      bif decide ((olcmp x4 0) = 0) then
                        ev xs d mm_116 91 [some (.inr (.inr v0)), some (.inr (.inr v1)), some (.inr (.inl v2)), u3, some (.inl v4), some (.inl v5), some (.inr (.inl (h.2 (h.2 v1.toNat 1).toNat (w32 (8 + v5)).toNat))), none, some (.inr (.inl x4)), none, some (.inl (w32 (x6 - 8)))] [] h5
                      else
                        bif decide ((w32 (x6 - 8)) < 0) then
                          ev xs d mm_116 16 [some (.inr (.inr v0)), some (.inr (.inr v1)), some (.inr (.inl v2)), u3, some (.inl v4), some (.inl (w32 (v5 + 1))), some (.inr (.inl (h.2 (h.2 v1.toNat 1).toNat (w32 (8 + v5)).toNat))), none, some (.inr (.inl x4)), none, some (.inl (w32 (x6 - 8)))] [] h5
                        else
                          ev xs d mm_116 91 [some (.inr (.inr v0)), some (.inr (.inr v1)), some (.inr (.inl v2)), u3, some (.inl v4), some (.inl v5), some (.inr (.inl (h.2 (h.2 v1.toNat 1).toNat (w32 (8 + v5)).toNat))), none, some (.inr (.inl x4)), none, some (.inl (w32 (x6 - 8)))] [] h5)
                    else none
                  else
                    bif decide ((olcmp x4 0) = 0) then
                      ev xs d mm_116 91 [some (.inr (.inr v0)), some (.inr (.inr v1)), some (.inr (.inl v2)), u3, some (.inl v4), some (.inl v5), some (.inr (.inl (h.2 (h.2 v1.toNat 1).toNat (w32 (8 + v5)).toNat))), none, some (.inr (.inl x4)), none, some (.inl (-1))] [] h3
                    else
                      bif decide ((-1) < 0) then
                        ev xs d mm_116 16 [some (.inr (.inr v0)), some (.inr (.inr v1)), some (.inr (.inl v2)), u3, some (.inl v4), some (.inl (w32 (v5 + 1))), some (.inr (.inl (h.2 (h.2 v1.toNat 1).toNat (w32 (8 + v5)).toNat))), none, some (.inr (.inl x4)), none, some (.inl (-1))] [] h3
                      else
                        ev xs d mm_116 91 [some (.inr (.inr v0)), some (.inr (.inr v1)), some (.inr (.inl v2)), u3, some (.inl v4), some (.inl v5), some (.inr (.inl (h.2 (h.2 v1.toNat 1).toNat (w32 (8 + v5)).toNat))), none, some (.inr (.inl x4)), none, some (.inl (-1))] [] h3))
          else none
        else none
    else none
  else none :=
  (aB gP gX xs stp_116 41 d mm_116 16 _ _ h).trans rfl

set_option maxRecDepth 100000 in
set_option maxHeartbeats 4000000 in
theorem q_116_91 (xs : List Int) (d : Nat) (v0 : Int) (v1 : Int) (v2 : Int) (u3 : Option aV) (v4 : Int) (v5 : Int) (v6 : Int) (u7 : Option aV) (v8 : Int) (u9 : Option aV) (v10 : Int) (h : aH) : ev xs d mm_116 91 [some (.inr (.inr v0)), some (.inr (.inr v1)), some (.inr (.inl v2)), u3, some (.inl v4), some (.inl v5), some (.inr (.inl v6)), u7, some (.inr (.inl v8)), u9, some (.inl v10)] [] h =
  bif aok h.1 v0 10 && true then
    bV (cl xs d 117 [.inr (.inr v0), .inl (w32 ((w32 ((w32 (v4 + (w32 (10 * (w32 (v5 + 1)))))) + v10)) + 1))] h) (fun h1 =>
    ev xs d mm_116 16 [some (.inr (.inr v0)), some (.inr (.inr v1)), some (.inr (.inl v2)), u3, some (.inl v4), some (.inl (w32 (v5 + 1))), some (.inr (.inl v6)), u7, some (.inr (.inl v8)), u9, some (.inl v10)] [] h1)
  else none :=
  (aB gP gX xs stp_116 16 d mm_116 91 _ _ h).trans rfl

theorem c_116 (xs : List Int) (d : Nat) (v0 : Int) (v1 : Int) (v2 : Int) (v4 : Int) (h : aH) : cl xs (d + 1) 116 [.inr (.inr v0), .inr (.inr v1), .inr (.inl v2), .inl v4] h =
  bif decide (¬ (olcmp v2 0) = 0) then
    ev xs d mm_116 16 [some (.inr (.inr v0)), some (.inr (.inr v1)), some (.inr (.inl v2)), none, some (.inl v4), some (.inl 0), none, none, none, none, none] [] h
  else
    bif aok h.1 v0 10 && true then
      bV (cl xs d 117 [.inr (.inr v0), .inl v4] h) (fun h1 =>
      some (none, h1))
    else none :=
  (show _ = ev xs d mm_116 0 [some (.inr (.inr v0)), some (.inr (.inr v1)), some (.inr (.inl v2)), none, some (.inl v4), none, none, none, none, none, none] [] h from rfl).trans (q_116_0 xs d v0 v1 v2 v4 h)
def stp_117 : List Nat := [0]
set_option maxRecDepth 100000 in
set_option maxHeartbeats 4000000 in
theorem q_117_0 (xs : List Int) (d : Nat) (v0 : Int) (v1 : Int) (h : aH) : ev xs d mm_117 0 [some (.inr (.inr v0)), some (.inl v1)] [] h =
  bif aok h.1 v0 10 then
    bif decide (280 ≤ (h.2 v0.toNat 0)) then
      some (none, h)
    else
      bif aok h.1 v0 10 then
        bif aok h.1 v0 10 then
          bif ain h.1 (h.2 v0.toNat 1) 100 (h.2 v0.toNat 0) then
            bif aok h.1 v0 10 then
              bif aok h.1 v0 10 then
                some (none, (h.1, aup (aup h.2 (h.2 v0.toNat 1).toNat (h.2 v0.toNat 0).toNat v1) v0.toNat 0 (w32 (((aup h.2 (h.2 v0.toNat 1).toNat (h.2 v0.toNat 0).toNat v1) v0.toNat 0) + 1))))
              else none
            else none
          else none
        else none
      else none
  else none :=
  (aB gP gX xs stp_117 18 d mm_117 0 _ _ h).trans rfl

theorem c_117 (xs : List Int) (d : Nat) (v0 : Int) (v1 : Int) (h : aH) : cl xs (d + 1) 117 [.inr (.inr v0), .inl v1] h =
  bif aok h.1 v0 10 then
    bif decide (280 ≤ (h.2 v0.toNat 0)) then
      some (none, h)
    else
      bif aok h.1 v0 10 then
        bif aok h.1 v0 10 then
          bif ain h.1 (h.2 v0.toNat 1) 100 (h.2 v0.toNat 0) then
            bif aok h.1 v0 10 then
              bif aok h.1 v0 10 then
                some (none, (h.1, aup (aup h.2 (h.2 v0.toNat 1).toNat (h.2 v0.toNat 0).toNat v1) v0.toNat 0 (w32 (((aup h.2 (h.2 v0.toNat 1).toNat (h.2 v0.toNat 0).toNat v1) v0.toNat 0) + 1))))
              else none
            else none
          else none
        else none
      else none
  else none :=
  (show _ = ev xs d mm_117 0 [some (.inr (.inr v0)), some (.inl v1)] [] h from rfl).trans (q_117_0 xs d v0 v1 h)
def stp_118 : List Nat := [0, 2, 12]
set_option maxRecDepth 100000 in
set_option maxHeartbeats 4000000 in
theorem q_118_0 (xs : List Int) (d : Nat) (v0 : Int) (h : aH) : ev xs d mm_118 0 [some (.inr (.inr v0)), none, none, none] [] h =
  ev xs d mm_118 2 [some (.inr (.inr v0)), some (.inl 0), none, none] [] h :=
  (aB gP gX xs stp_118 3 d mm_118 0 _ _ h).trans rfl

set_option maxRecDepth 100000 in
set_option maxHeartbeats 4000000 in
theorem q_118_2 (xs : List Int) (d : Nat) (v0 : Int) (v1 : Int) (u2 : Option aV) (u3 : Option aV) (h : aH) : ev xs d mm_118 2 [some (.inr (.inr v0)), some (.inl v1), u2, u3] [] h =
  bif aok h.1 v0 10 then
    bif decide ((h.2 v0.toNat 0) ≤ v1) then
      some (none, h)
    else
      ev xs d mm_118 12 [some (.inr (.inr v0)), some (.inl v1), some (.inl 0), u3] [] h
  else none :=
  (aB gP gX xs stp_118 7 d mm_118 2 _ _ h).trans rfl

set_option maxRecDepth 100000 in
set_option maxHeartbeats 4000000 in
theorem q_118_12 (xs : List Int) (d : Nat) (v0 : Int) (v1 : Int) (v2 : Int) (u3 : Option aV) (h : aH) : ev xs d mm_118 12 [some (.inr (.inr v0)), some (.inl v1), some (.inl v2), u3] [] h =
  bif decide (4 ≤ v2) then
    ev xs d mm_118 2 [some (.inr (.inr v0)), some (.inl (w32 (v1 + 1))), some (.inl v2), u3] [] h
  else
    bif aok h.1 v0 10 then
      bif ain h.1 (h.2 v0.toNat 1) 100 v1 then
        bI (cl xs d 119 [.inl (h.2 (h.2 v0.toNat 1).toNat v1.toNat), .inl v2] h) (fun x2 h1 =>
          bif decide (x2 < 0) then
            ev xs d mm_118 12 [some (.inr (.inr v0)), some (.inl v1), some (.inl (w32 (v2 + 1))), some (.inl x2)] [] h1
          else
            bif decide (24 ≤ x2) then
              ev xs d mm_118 12 [some (.inr (.inr v0)), some (.inl v1), some (.inl (w32 (v2 + 1))), some (.inl x2)] [] h1
            else
              bif aok h1.1 v0 10 then
                bif ain h1.1 (h1.2 v0.toNat 2) 100 x2 then
                  bif ain h1.1 (h1.2 v0.toNat 2) 100 x2 then
                    ev xs d mm_118 12 [some (.inr (.inr v0)), some (.inl v1), some (.inl (w32 (v2 + 1))), some (.inl x2)] [] (h1.1, aup h1.2 (h1.2 v0.toNat 2).toNat x2.toNat (w32 ((h1.2 (h1.2 v0.toNat 2).toNat x2.toNat) + 1)))
                  else none
                else none
              else none)
      else none
    else none :=
  (aB gP gX xs stp_118 26 d mm_118 12 _ _ h).trans rfl

theorem c_118 (xs : List Int) (d : Nat) (v0 : Int) (h : aH) : cl xs (d + 1) 118 [.inr (.inr v0)] h =
  ev xs d mm_118 2 [some (.inr (.inr v0)), some (.inl 0), none, none] [] h :=
  (show _ = ev xs d mm_118 0 [some (.inr (.inr v0)), none, none, none] [] h from rfl).trans (q_118_0 xs d v0 h)
def stp_119 : List Nat := [0, 72]
set_option maxRecDepth 100000 in
set_option maxHeartbeats 4000000 in
theorem q_119_0 (xs : List Int) (d : Nat) (v0 : Int) (v1 : Int) (h : aH) : ev xs d mm_119 0 [some (.inl v0), some (.inl v1), none, none] [] h =
  ev xs d mm_119 (asw 1 63 0 2 #[27, 37, 50] v1) [some (.inl v0), some (.inl v1), none, none] [] h :=
  (aB gP gX xs stp_119 1 d mm_119 0 _ _ h).trans rfl

set_option maxRecDepth 100000 in
set_option maxHeartbeats 4000000 in
theorem q_119_72 (xs : List Int) (d : Nat) (v0 : Int) (v1 : Int) (v2 : Int) (v3 : Int) (h : aH) : ev xs d mm_119 72 [some (.inl v0), some (.inl v1), some (.inl v2), some (.inl v3)] [] h =
  bif decide (¬ v2 = 0) then
    some (some (.inl (w32 ((w32 ((w32 (v3 * 8)) + v2)) - 1))), h)
  else
    some (some (.inl (-1)), h) :=
  (aB gP gX xs stp_119 11 d mm_119 72 _ _ h).trans rfl

theorem c_119 (xs : List Int) (d : Nat) (v0 : Int) (v1 : Int) (h : aH) : cl xs (d + 1) 119 [.inl v0, .inl v1] h =
  ev xs d mm_119 (asw 1 63 0 2 #[27, 37, 50] v1) [some (.inl v0), some (.inl v1), none, none] [] h :=
  (show _ = ev xs d mm_119 0 [some (.inl v0), some (.inl v1), none, none] [] h from rfl).trans (q_119_0 xs d v0 v1 h)
def stp_120 : List Nat := [0, 10, 23, 27, 38, 53, 64, 75, 86, 99, 112, 117, 129, 140, 151, 162, 173, 181, 186, 200, 213, 226]
set_option maxRecDepth 100000 in
set_option maxHeartbeats 4000000 in
theorem q_120_0 (xs : List Int) (d : Nat) (v0 : Int) (h : aH) : ev xs d mm_120 0 [some (.inr (.inr v0)), none] [] h =
  bif decide (0 ≤ v0) && true then
    ev xs d mm_120 10 [some (.inr (.inr v0)), none] [.inr (.inr (h.1.1 : Int)), .inr (.inr v0)] ((h.1.1 + 1, h.1.2.1 + (2000 : Int).toNat, fun q => if q = h.1.1 then (102, (2000 : Int).toNat) else h.1.2.2 q), fun q j => if q = h.1.1 then 0 else h.2 q j)
  else none :=
  (aB gP gX xs stp_120 6 d mm_120 0 _ _ h).trans rfl

set_option maxRecDepth 100000 in
set_option maxHeartbeats 4000000 in
theorem q_120_10 (xs : List Int) (d : Nat) (v0 : Int) (u1 : Option aV) (s0 : Int) (s1 : Int) (h : aH) : ev xs d mm_120 10 [some (.inr (.inr v0)), u1] [.inr (.inr s1), .inr (.inr s0)] h =
  bif aok h.1 s0 11 then
    bif aok h.1 v0 11 then
      bif aok h.1 v0 11 then
        ev xs d mm_120 23 [some (.inr (.inr v0)), u1] [] (h.1, aup (aup (aup h.2 s0.toNat 0 s1) v0.toNat 1 0) v0.toNat 2 (-1))
      else none
    else none
  else none :=
  (aB gP gX xs stp_120 8 d mm_120 10 _ _ h).trans rfl

set_option maxRecDepth 100000 in
set_option maxHeartbeats 4000000 in
theorem q_120_23 (xs : List Int) (d : Nat) (v0 : Int) (u1 : Option aV) (h : aH) : ev xs d mm_120 23 [some (.inr (.inr v0)), u1] [] h =
  ev xs d mm_120 27 [some (.inr (.inr v0)), u1] [.inr (.inr (h.1.1 : Int)), .inr (.inr v0)] ((h.1.1 + 1, h.1.2.1 + 9, fun q => if q = h.1.1 then (4, 9) else h.1.2.2 q), fun q j => if q = h.1.1 then adf 4 j else h.2 q j) :=
  (aB gP gX xs stp_120 3 d mm_120 23 _ _ h).trans rfl

set_option maxRecDepth 100000 in
set_option maxHeartbeats 4000000 in
theorem q_120_27 (xs : List Int) (d : Nat) (v0 : Int) (u1 : Option aV) (s0 : Int) (s1 : Int) (h : aH) : ev xs d mm_120 27 [some (.inr (.inr v0)), u1] [.inr (.inr s1), .inr (.inr s0)] h =
  bif decide (0 ≤ s1) && true then
    bV (cl xs d 36 [.inr (.inr s1)] h) (fun h1 =>
    bif aok h1.1 s0 11 then
      ev xs d mm_120 38 [some (.inr (.inr v0)), u1] [.inr (.inr (h1.1.1 : Int)), .inr (.inr v0)] ((h1.1.1 + 1, h1.1.2.1 + 4, fun q => if q = h1.1.1 then (8, 4) else h1.1.2.2 q), fun q j => if q = h1.1.1 then adf 8 j else (aup h1.2 s0.toNat 3 s1) q j)
    else none)
  else none :=
  (aB gP gX xs stp_120 6 d mm_120 27 _ _ h).trans rfl

set_option maxRecDepth 100000 in
set_option maxHeartbeats 4000000 in
theorem q_120_38 (xs : List Int) (d : Nat) (v0 : Int) (u1 : Option aV) (s0 : Int) (s1 : Int) (h : aH) : ev xs d mm_120 38 [some (.inr (.inr v0)), u1] [.inr (.inr s1), .inr (.inr s0)] h =
  bif aok h.1 v0 11 then
    bif decide (0 ≤ s1) && true then
      bV (cl xs d 88 [.inr (.inr s1), .inr (.inr (h.2 v0.toNat 3))] h) (fun h1 =>
      bif aok h1.1 s0 11 then
        ev xs d mm_120 53 [some (.inr (.inr v0)), u1] [.inr (.inr (h1.1.1 : Int)), .inr (.inr v0)] ((h1.1.1 + 1, h1.1.2.1 + 16, fun q => if q = h1.1.1 then (9, 16) else h1.1.2.2 q), fun q j => if q = h1.1.1 then adf 9 j else (aup h1.2 s0.toNat 4 s1) q j)
      else none)
    else none
  else none :=
  (aB gP gX xs stp_120 8 d mm_120 38 _ _ h).trans rfl

set_option maxRecDepth 100000 in
set_option maxHeartbeats 4000000 in
theorem q_120_53 (xs : List Int) (d : Nat) (v0 : Int) (u1 : Option aV) (s0 : Int) (s1 : Int) (h : aH) : ev xs d mm_120 53 [some (.inr (.inr v0)), u1] [.inr (.inr s1), .inr (.inr s0)] h =
  bif decide (0 ≤ s1) && true then
    bV (cl xs d 108 [.inr (.inr s1)] h) (fun h1 =>
    bif aok h1.1 s0 11 then
      ev xs d mm_120 64 [some (.inr (.inr v0)), u1] [.inr (.inr (h1.1.1 : Int)), .inr (.inr v0)] ((h1.1.1 + 1, h1.1.2.1 + 16, fun q => if q = h1.1.1 then (9, 16) else h1.1.2.2 q), fun q j => if q = h1.1.1 then adf 9 j else (aup h1.2 s0.toNat 5 s1) q j)
    else none)
  else none :=
  (aB gP gX xs stp_120 6 d mm_120 53 _ _ h).trans rfl

set_option maxRecDepth 100000 in
set_option maxHeartbeats 4000000 in
theorem q_120_64 (xs : List Int) (d : Nat) (v0 : Int) (u1 : Option aV) (s0 : Int) (s1 : Int) (h : aH) : ev xs d mm_120 64 [some (.inr (.inr v0)), u1] [.inr (.inr s1), .inr (.inr s0)] h =
  bif decide (0 ≤ s1) && true then
    bV (cl xs d 108 [.inr (.inr s1)] h) (fun h1 =>
    bif aok h1.1 s0 11 then
      ev xs d mm_120 75 [some (.inr (.inr v0)), u1] [.inr (.inr (h1.1.1 : Int)), .inr (.inr v0)] ((h1.1.1 + 1, h1.1.2.1 + 9, fun q => if q = h1.1.1 then (6, 9) else h1.1.2.2 q), fun q j => if q = h1.1.1 then adf 6 j else (aup h1.2 s0.toNat 6 s1) q j)
    else none)
  else none :=
  (aB gP gX xs stp_120 6 d mm_120 64 _ _ h).trans rfl

set_option maxRecDepth 100000 in
set_option maxHeartbeats 4000000 in
theorem q_120_75 (xs : List Int) (d : Nat) (v0 : Int) (u1 : Option aV) (s0 : Int) (s1 : Int) (h : aH) : ev xs d mm_120 75 [some (.inr (.inr v0)), u1] [.inr (.inr s1), .inr (.inr s0)] h =
  bif decide (0 ≤ s1) && true then
    bV (cl xs d 72 [.inr (.inr s1)] h) (fun h1 =>
    bif aok h1.1 s0 11 then
      ev xs d mm_120 86 [some (.inr (.inr v0)), u1] [.inr (.inr (h1.1.1 : Int)), .inr (.inr v0)] ((h1.1.1 + 1, h1.1.2.1 + 9, fun q => if q = h1.1.1 then (6, 9) else h1.1.2.2 q), fun q j => if q = h1.1.1 then adf 6 j else (aup h1.2 s0.toNat 7 s1) q j)
    else none)
  else none :=
  (aB gP gX xs stp_120 6 d mm_120 75 _ _ h).trans rfl

set_option maxRecDepth 100000 in
set_option maxHeartbeats 4000000 in
theorem q_120_86 (xs : List Int) (d : Nat) (v0 : Int) (u1 : Option aV) (s0 : Int) (s1 : Int) (h : aH) : ev xs d mm_120 86 [some (.inr (.inr v0)), u1] [.inr (.inr s1), .inr (.inr s0)] h =
  bif decide (0 ≤ s1) && true then
    bV (cl xs d 72 [.inr (.inr s1)] h) (fun h1 =>
    bif aok h1.1 s0 11 then
      ev xs d mm_120 99 [some (.inr (.inr v0)), u1] [.inr (.inr (h1.1.1 : Int)), .inr (.inr v0)] ((h1.1.1 + 1, h1.1.2.1 + (30 : Int).toNat, fun q => if q = h1.1.1 then (104, (30 : Int).toNat) else h1.1.2.2 q), fun q j => if q = h1.1.1 then -1 else (aup h1.2 s0.toNat 8 s1) q j)
    else none)
  else none :=
  (aB gP gX xs stp_120 7 d mm_120 86 _ _ h).trans rfl

set_option maxRecDepth 100000 in
set_option maxHeartbeats 4000000 in
theorem q_120_99 (xs : List Int) (d : Nat) (v0 : Int) (u1 : Option aV) (s0 : Int) (s1 : Int) (h : aH) : ev xs d mm_120 99 [some (.inr (.inr v0)), u1] [.inr (.inr s1), .inr (.inr s0)] h =
  bif aok h.1 s0 11 then
    bif aok h.1 v0 11 then
      bif aok h.1 v0 11 then
        ev xs d mm_120 112 [some (.inr (.inr v0)), u1] [] (h.1, aup (aup (aup h.2 s0.toNat 9 s1) v0.toNat 10 0) v0.toNat 11 0)
      else none
    else none
  else none :=
  (aB gP gX xs stp_120 8 d mm_120 99 _ _ h).trans rfl

set_option maxRecDepth 100000 in
set_option maxHeartbeats 4000000 in
theorem q_120_112 (xs : List Int) (d : Nat) (v0 : Int) (u1 : Option aV) (h : aH) : ev xs d mm_120 112 [some (.inr (.inr v0)), u1] [] h =
  ev xs d mm_120 117 [some (.inr (.inr v0)), u1] [.inr (.inr (h.1.1 : Int)), .inr (.inr v0)] ((h.1.1 + 1, h.1.2.1 + (3 : Int).toNat, fun q => if q = h.1.1 then (104, (3 : Int).toNat) else h.1.2.2 q), fun q j => if q = h.1.1 then -1 else h.2 q j) :=
  (aB gP gX xs stp_120 4 d mm_120 112 _ _ h).trans rfl

set_option maxRecDepth 100000 in
set_option maxHeartbeats 4000000 in
theorem q_120_117 (xs : List Int) (d : Nat) (v0 : Int) (u1 : Option aV) (s0 : Int) (s1 : Int) (h : aH) : ev xs d mm_120 117 [some (.inr (.inr v0)), u1] [.inr (.inr s1), .inr (.inr s0)] h =
  bif aok h.1 s0 11 then
    bif aok h.1 v0 11 then
      ev xs d mm_120 129 [some (.inr (.inr v0)), u1] [.inr (.inr (h.1.1 : Int)), .inr (.inr v0)] ((h.1.1 + 1, h.1.2.1 + 3, fun q => if q = h.1.1 then (10, 3) else h.1.2.2 q), fun q j => if q = h.1.1 then adf 10 j else (aup (aup h.2 s0.toNat 12 s1) v0.toNat 13 0) q j)
    else none
  else none :=
  (aB gP gX xs stp_120 7 d mm_120 117 _ _ h).trans rfl

set_option maxRecDepth 100000 in
set_option maxHeartbeats 4000000 in
theorem q_120_129 (xs : List Int) (d : Nat) (v0 : Int) (u1 : Option aV) (s0 : Int) (s1 : Int) (h : aH) : ev xs d mm_120 129 [some (.inr (.inr v0)), u1] [.inr (.inr s1), .inr (.inr s0)] h =
  bif decide (0 ≤ s1) && true then
    bV (cl xs d 113 [.inr (.inr s1)] h) (fun h1 =>
    bif aok h1.1 s0 11 then
      ev xs d mm_120 140 [some (.inr (.inr v0)), u1] [.inr (.inr (h1.1.1 : Int)), .inr (.inr v0)] ((h1.1.1 + 1, h1.1.2.1 + 7, fun q => if q = h1.1.1 then (1, 7) else h1.1.2.2 q), fun q j => if q = h1.1.1 then adf 1 j else (aup h1.2 s0.toNat 14 s1) q j)
    else none)
  else none :=
  (aB gP gX xs stp_120 6 d mm_120 129 _ _ h).trans rfl

set_option maxRecDepth 100000 in
set_option maxHeartbeats 4000000 in
theorem q_120_140 (xs : List Int) (d : Nat) (v0 : Int) (u1 : Option aV) (s0 : Int) (s1 : Int) (h : aH) : ev xs d mm_120 140 [some (.inr (.inr v0)), u1] [.inr (.inr s1), .inr (.inr s0)] h =
  bif decide (0 ≤ s1) && true then
    bV (cl xs d 11 [.inr (.inr s1)] h) (fun h1 =>
    bif aok h1.1 s0 11 then
      ev xs d mm_120 151 [some (.inr (.inr v0)), u1] [.inr (.inr (h1.1.1 : Int)), .inr (.inr v0)] ((h1.1.1 + 1, h1.1.2.1 + 7, fun q => if q = h1.1.1 then (5, 7) else h1.1.2.2 q), fun q j => if q = h1.1.1 then adf 5 j else (aup h1.2 s0.toNat 15 s1) q j)
    else none)
  else none :=
  (aB gP gX xs stp_120 6 d mm_120 140 _ _ h).trans rfl

set_option maxRecDepth 100000 in
set_option maxHeartbeats 4000000 in
theorem q_120_151 (xs : List Int) (d : Nat) (v0 : Int) (u1 : Option aV) (s0 : Int) (s1 : Int) (h : aH) : ev xs d mm_120 151 [some (.inr (.inr v0)), u1] [.inr (.inr s1), .inr (.inr s0)] h =
  bif decide (0 ≤ s1) && true then
    bV (cl xs d 60 [.inr (.inr s1)] h) (fun h1 =>
    bif aok h1.1 s0 11 then
      ev xs d mm_120 162 [some (.inr (.inr v0)), u1] [.inr (.inr (h1.1.1 : Int)), .inr (.inr v0)] ((h1.1.1 + 1, h1.1.2.1 + 13, fun q => if q = h1.1.1 then (2, 13) else h1.1.2.2 q), fun q j => if q = h1.1.1 then adf 2 j else (aup h1.2 s0.toNat 16 s1) q j)
    else none)
  else none :=
  (aB gP gX xs stp_120 6 d mm_120 151 _ _ h).trans rfl

set_option maxRecDepth 100000 in
set_option maxHeartbeats 4000000 in
theorem q_120_162 (xs : List Int) (d : Nat) (v0 : Int) (u1 : Option aV) (s0 : Int) (s1 : Int) (h : aH) : ev xs d mm_120 162 [some (.inr (.inr v0)), u1] [.inr (.inr s1), .inr (.inr s0)] h =
  bif decide (0 ≤ s1) && true then
    bV (cl xs d 19 [.inr (.inr s1)] h) (fun h1 =>
    bif aok h1.1 s0 11 then
      ev xs d mm_120 173 [some (.inr (.inr v0)), u1] [.inr (.inr (h1.1.1 : Int)), .inr (.inr v0)] ((h1.1.1 + 1, h1.1.2.1 + (4 : Int).toNat, fun q => if q = h1.1.1 then (100, (4 : Int).toNat) else h1.1.2.2 q), fun q j => if q = h1.1.1 then 0 else (aup h1.2 s0.toNat 17 s1) q j)
    else none)
  else none :=
  (aB gP gX xs stp_120 7 d mm_120 162 _ _ h).trans rfl

set_option maxRecDepth 100000 in
set_option maxHeartbeats 4000000 in
theorem q_120_173 (xs : List Int) (d : Nat) (v0 : Int) (u1 : Option aV) (s0 : Int) (s1 : Int) (h : aH) : ev xs d mm_120 173 [some (.inr (.inr v0)), u1] [.inr (.inr s1), .inr (.inr s0)] h =
  bif aok h.1 s0 11 then
    ev xs d mm_120 181 [some (.inr (.inr v0)), u1] [.inr (.inr (h.1.1 : Int)), .inr (.inr v0)] ((h.1.1 + 1, h.1.2.1 + (9 : Int).toNat, fun q => if q = h.1.1 then (100, (9 : Int).toNat) else h.1.2.2 q), fun q j => if q = h.1.1 then 0 else (aup h.2 s0.toNat 18 s1) q j)
  else none :=
  (aB gP gX xs stp_120 5 d mm_120 173 _ _ h).trans rfl

set_option maxRecDepth 100000 in
set_option maxHeartbeats 4000000 in
theorem q_120_181 (xs : List Int) (d : Nat) (v0 : Int) (u1 : Option aV) (s0 : Int) (s1 : Int) (h : aH) : ev xs d mm_120 181 [some (.inr (.inr v0)), u1] [.inr (.inr s1), .inr (.inr s0)] h =
  bif aok h.1 s0 11 then
    ev xs d mm_120 186 [some (.inr (.inr v0)), some (.inl 0)] [] (h.1, aup h.2 s0.toNat 19 s1)
  else none :=
  (aB gP gX xs stp_120 4 d mm_120 181 _ _ h).trans rfl

set_option maxRecDepth 100000 in
set_option maxHeartbeats 4000000 in
theorem q_120_186 (xs : List Int) (d : Nat) (v0 : Int) (v1 : Int) (h : aH) : ev xs d mm_120 186 [some (.inr (.inr v0)), some (.inl v1)] [] h =
  bif decide (30 ≤ v1) then
    ev xs d mm_120 213 [some (.inr (.inr v0)), some (.inl 0)] [] h
  else
    bif aok h.1 v0 11 then
      ev xs d mm_120 200 [some (.inr (.inr v0)), some (.inl v1)] [.inr (.inr (h.1.1 : Int)), .inl v1, .inr (.inr (h.2 v0.toNat 9))] ((h.1.1 + 1, h.1.2.1 + 9, fun q => if q = h.1.1 then (6, 9) else h.1.2.2 q), fun q j => if q = h.1.1 then adf 6 j else h.2 q j)
    else none :=
  (aB gP gX xs stp_120 8 d mm_120 186 _ _ h).trans rfl

set_option maxRecDepth 100000 in
set_option maxHeartbeats 4000000 in
theorem q_120_200 (xs : List Int) (d : Nat) (v0 : Int) (v1 : Int) (s0 : Int) (s1 : Int) (s2 : Int) (h : aH) : ev xs d mm_120 200 [some (.inr (.inr v0)), some (.inl v1)] [.inr (.inr s2), .inl s1, .inr (.inr s0)] h =
  bif decide (0 ≤ s2) && true then
    bV (cl xs d 72 [.inr (.inr s2)] h) (fun h1 =>
    bif ain h1.1 s0 104 s1 && aok h1.1 s2 6 then
      ev xs d mm_120 186 [some (.inr (.inr v0)), some (.inl (w32 (v1 + 1)))] [] (h1.1, aup h1.2 s0.toNat s1.toNat s2)
    else none)
  else none :=
  (aB gP gX xs stp_120 6 d mm_120 200 _ _ h).trans rfl

set_option maxRecDepth 100000 in
set_option maxHeartbeats 4000000 in
theorem q_120_213 (xs : List Int) (d : Nat) (v0 : Int) (v1 : Int) (h : aH) : ev xs d mm_120 213 [some (.inr (.inr v0)), some (.inl v1)] [] h =
  bif decide (3 ≤ v1) then
    bif aok h.1 v0 11 then
      bif aok h.1 v0 11 then
        bif aok h.1 (h.2 v0.toNat 7) 6 && true then
          bV (cl xs d 73 [.inr (.inr (h.2 v0.toNat 7)), .inr (.inr (h.2 v0.toNat 5))] h) (fun h1 =>
          some (none, h1))
        else none
      else none
    else none
  else
    bif aok h.1 v0 11 then
      ev xs d mm_120 226 [some (.inr (.inr v0)), some (.inl v1)] [.inr (.inr (h.1.1 : Int)), .inl v1, .inr (.inr (h.2 v0.toNat 12))] ((h.1.1 + 1, h.1.2.1 + 9, fun q => if q = h.1.1 then (6, 9) else h.1.2.2 q), fun q j => if q = h.1.1 then adf 6 j else h.2 q j)
    else none :=
  (aB gP gX xs stp_120 10 d mm_120 213 _ _ h).trans rfl

set_option maxRecDepth 100000 in
set_option maxHeartbeats 4000000 in
theorem q_120_226 (xs : List Int) (d : Nat) (v0 : Int) (v1 : Int) (s0 : Int) (s1 : Int) (s2 : Int) (h : aH) : ev xs d mm_120 226 [some (.inr (.inr v0)), some (.inl v1)] [.inr (.inr s2), .inl s1, .inr (.inr s0)] h =
  bif decide (0 ≤ s2) && true then
    bV (cl xs d 72 [.inr (.inr s2)] h) (fun h1 =>
    bif ain h1.1 s0 104 s1 && aok h1.1 s2 6 then
      ev xs d mm_120 213 [some (.inr (.inr v0)), some (.inl (w32 (v1 + 1)))] [] (h1.1, aup h1.2 s0.toNat s1.toNat s2)
    else none)
  else none :=
  (aB gP gX xs stp_120 6 d mm_120 226 _ _ h).trans rfl

theorem c_120 (xs : List Int) (d : Nat) (v0 : Int) (h : aH) : cl xs (d + 1) 120 [.inr (.inr v0)] h =
  bif decide (0 ≤ v0) && true then
    ev xs d mm_120 10 [some (.inr (.inr v0)), none] [.inr (.inr (h.1.1 : Int)), .inr (.inr v0)] ((h.1.1 + 1, h.1.2.1 + (2000 : Int).toNat, fun q => if q = h.1.1 then (102, (2000 : Int).toNat) else h.1.2.2 q), fun q j => if q = h.1.1 then 0 else h.2 q j)
  else none :=
  (show _ = ev xs d mm_120 0 [some (.inr (.inr v0)), none] [] h from rfl).trans (q_120_0 xs d v0 h)
def stp_121 : List Nat := [0, 4]
set_option maxRecDepth 100000 in
set_option maxHeartbeats 4000000 in
theorem q_121_0 (xs : List Int) (d : Nat) (v0 : Int) (h : aH) : ev xs d mm_121 0 [some (.inr (.inl v0)), none, none, none, none] [] h =
  ev xs d mm_121 4 [some (.inr (.inl v0)), none, some (.inl 0), some (.inr (.inl v0)), none] [] h :=
  (aB gP gX xs stp_121 5 d mm_121 0 _ _ h).trans rfl

set_option maxRecDepth 100000 in
set_option maxHeartbeats 4000000 in
theorem q_121_4 (xs : List Int) (d : Nat) (v0 : Int) (u1 : Option aV) (v2 : Int) (v3 : Int) (u4 : Option aV) (h : aH) : ev xs d mm_121 4 [some (.inr (.inl v0)), u1, some (.inl v2), some (.inr (.inl v3)), u4] [] h =
  bif decide ((olcmp v3 0) = 0) then
    some (some (.inl v2), h)
  else
    bif decide (12 ≤ v2) then
      some (some (.inl v2), h)
    else
      ev xs d mm_121 4 [some (.inr (.inl v0)), acl u1, some (.inl (w32 (v2 + 1))), some (.inr (.inl (olushr v3 5))), none] [] h :=
  (aB gP gX xs stp_121 14 d mm_121 4 _ _ h).trans rfl

theorem c_121 (xs : List Int) (d : Nat) (v0 : Int) (h : aH) : cl xs (d + 1) 121 [.inr (.inl v0)] h =
  ev xs d mm_121 4 [some (.inr (.inl v0)), none, some (.inl 0), some (.inr (.inl v0)), none] [] h :=
  (show _ = ev xs d mm_121 0 [some (.inr (.inl v0)), none, none, none, none] [] h from rfl).trans (q_121_0 xs d v0 h)
def stp_122 : List Nat := [0]
set_option maxRecDepth 100000 in
set_option maxHeartbeats 4000000 in
theorem q_122_0 (xs : List Int) (d : Nat) (v0 : Int) (v2 : Int) (h : aH) : ev xs d mm_122 0 [some (.inr (.inl v0)), none, some (.inl v2)] [] h =
  some (some (.inl (oand (ol2i (olushr v0 (w32 (5 * v2)))) 31)), h) :=
  (aB gP gX xs stp_122 10 d mm_122 0 _ _ h).trans rfl

theorem c_122 (xs : List Int) (d : Nat) (v0 : Int) (v2 : Int) (h : aH) : cl xs (d + 1) 122 [.inr (.inl v0), .inl v2] h =
  some (some (.inl (oand (ol2i (olushr v0 (w32 (5 * v2)))) 31)), h) :=
  (show _ = ev xs d mm_122 0 [some (.inr (.inl v0)), none, some (.inl v2)] [] h from rfl).trans (q_122_0 xs d v0 v2 h)
def stp_123 : List Nat := [0]
set_option maxRecDepth 100000 in
set_option maxHeartbeats 4000000 in
theorem q_123_0 (xs : List Int) (d : Nat) (v0 : Int) (v2 : Int) (h : aH) : ev xs d mm_123 0 [some (.inr (.inl v0)), none, some (.inr (.inl v2)), none, none, none] [] h =
  bI (cl xs d 121 [.inr (.inl v2)] h) (fun x2 h1 =>
    bif decide (¬ (olcmp (oland v0 (w64 ((olshl 1 (w32 (5 * x2))) - 1))) v2) = 0) then
      some (some (.inl 0), h1)
    else
      some (some (.inl 1), h1)) :=
  (aB gP gX xs stp_123 19 d mm_123 0 _ _ h).trans rfl

theorem c_123 (xs : List Int) (d : Nat) (v0 : Int) (v2 : Int) (h : aH) : cl xs (d + 1) 123 [.inr (.inl v0), .inr (.inl v2)] h =
  bI (cl xs d 121 [.inr (.inl v2)] h) (fun x2 h1 =>
    bif decide (¬ (olcmp (oland v0 (w64 ((olshl 1 (w32 (5 * x2))) - 1))) v2) = 0) then
      some (some (.inl 0), h1)
    else
      some (some (.inl 1), h1)) :=
  (show _ = ev xs d mm_123 0 [some (.inr (.inl v0)), none, some (.inr (.inl v2)), none, none, none] [] h from rfl).trans (q_123_0 xs d v0 v2 h)
def stp_124 : List Nat := [0]
set_option maxRecDepth 100000 in
set_option maxHeartbeats 4000000 in
theorem q_124_0 (xs : List Int) (d : Nat) (v0 : Int) (v2 : Int) (h : aH) : ev xs d mm_124 0 [some (.inr (.inl v0)), none, some (.inr (.inl v2)), none] [] h =
  bI (cl xs d 121 [.inr (.inl v2)] h) (fun x2 h1 =>
    some (some (.inr (.inl (olushr v0 (w32 (5 * x2))))), h1)) :=
  (aB gP gX xs stp_124 8 d mm_124 0 _ _ h).trans rfl

theorem c_124 (xs : List Int) (d : Nat) (v0 : Int) (v2 : Int) (h : aH) : cl xs (d + 1) 124 [.inr (.inl v0), .inr (.inl v2)] h =
  bI (cl xs d 121 [.inr (.inl v2)] h) (fun x2 h1 =>
    some (some (.inr (.inl (olushr v0 (w32 (5 * x2))))), h1)) :=
  (show _ = ev xs d mm_124 0 [some (.inr (.inl v0)), none, some (.inr (.inl v2)), none] [] h from rfl).trans (q_124_0 xs d v0 v2 h)
def stp_125 : List Nat := [0]
set_option maxRecDepth 100000 in
set_option maxHeartbeats 4000000 in
theorem q_125_0 (xs : List Int) (d : Nat) (v0 : Int) (v2 : Int) (h : aH) : ev xs d mm_125 0 [some (.inr (.inl v0)), none, some (.inl v2)] [] h =
  bif decide (v2 < 0) then
    some (some (.inl (-1)), h)
  else
    bif decide (v2 ≤ 8) then
      bif decide (¬ v2 = 8) then
        bI (cl xs d 122 [.inr (.inl v0), .inl v2] h) (fun x2 h1 =>
          some (some (.inl x2), h1))
      else
        bI (cl xs d 121 [.inr (.inl v0)] h) (fun x4 h3 =>
          some (some (.inl x4), h3))
    else
      some (some (.inl (-1)), h) :=
  (aB gP gX xs stp_125 13 d mm_125 0 _ _ h).trans rfl

theorem c_125 (xs : List Int) (d : Nat) (v0 : Int) (v2 : Int) (h : aH) : cl xs (d + 1) 125 [.inr (.inl v0), .inl v2] h =
  bif decide (v2 < 0) then
    some (some (.inl (-1)), h)
  else
    bif decide (v2 ≤ 8) then
      bif decide (¬ v2 = 8) then
        bI (cl xs d 122 [.inr (.inl v0), .inl v2] h) (fun x2 h1 =>
          some (some (.inl x2), h1))
      else
        bI (cl xs d 121 [.inr (.inl v0)] h) (fun x4 h3 =>
          some (some (.inl x4), h3))
    else
      some (some (.inl (-1)), h) :=
  (show _ = ev xs d mm_125 0 [some (.inr (.inl v0)), none, some (.inl v2)] [] h from rfl).trans (q_125_0 xs d v0 v2 h)
def stp_126 : List Nat := [0]
set_option maxRecDepth 100000 in
set_option maxHeartbeats 4000000 in
theorem q_126_0 (xs : List Int) (d : Nat) (v0 : Int) (h : aH) : ev xs d mm_126 0 [some (.inl v0)] [] h =
  some (some (.inl (w32 ((oshl 1 v0) - 1))), h) :=
  (aB gP gX xs stp_126 7 d mm_126 0 _ _ h).trans rfl

theorem c_126 (xs : List Int) (d : Nat) (v0 : Int) (h : aH) : cl xs (d + 1) 126 [.inl v0] h =
  some (some (.inl (w32 ((oshl 1 v0) - 1))), h) :=
  (show _ = ev xs d mm_126 0 [some (.inl v0)] [] h from rfl).trans (q_126_0 xs d v0 h)
def stp_127 : List Nat := [0]
set_option maxRecDepth 100000 in
set_option maxHeartbeats 4000000 in
theorem q_127_0 (xs : List Int) (d : Nat) (v0 : Int) (v1 : Int) (v2 : Int) (v3 : Int) (v4 : Int) (v5 : Int) (h : aH) : ev xs d mm_127 0 [some (.inr (.inr v0)), some (.inl v1), some (.inl v2), some (.inl v3), some (.inl v4), some (.inl v5)] [] h =
  bif aok h.1 v0 11 then
    bif decide ((w32 ((h.2 v0.toNat 1) + 20)) ≤ 2000) then
      bif aok h.1 v0 11 && true then
        bV (cl xs d 128 [.inr (.inr v0), .inl v1] h) (fun h1 =>
        bif aok h1.1 v0 11 && true then
          bV (cl xs d 128 [.inr (.inr v0), .inl v2] h1) (fun h2 =>
          bif aok h2.1 v0 11 && true then
            bV (cl xs d 128 [.inr (.inr v0), .inl v3] h2) (fun h3 =>
            bif aok h3.1 v0 11 && true then
              bV (cl xs d 128 [.inr (.inr v0), .inl v4] h3) (fun h4 =>
              bif aok h4.1 v0 11 && true then
                bV (cl xs d 128 [.inr (.inr v0), .inl v5] h4) (fun h5 =>
                bif aok h5.1 v0 11 then
                  some (some (.inl (h5.2 v0.toNat 1)), h5)
                else none)
              else none)
            else none)
          else none)
        else none)
      else none
    else
      some (some (.inl (-1)), h)
  else none :=
  (aB gP gX xs stp_127 25 d mm_127 0 _ _ h).trans rfl

theorem c_127 (xs : List Int) (d : Nat) (v0 : Int) (v1 : Int) (v2 : Int) (v3 : Int) (v4 : Int) (v5 : Int) (h : aH) : cl xs (d + 1) 127 [.inr (.inr v0), .inl v1, .inl v2, .inl v3, .inl v4, .inl v5] h =
  bif aok h.1 v0 11 then
    bif decide ((w32 ((h.2 v0.toNat 1) + 20)) ≤ 2000) then
      bif aok h.1 v0 11 && true then
        bV (cl xs d 128 [.inr (.inr v0), .inl v1] h) (fun h1 =>
        bif aok h1.1 v0 11 && true then
          bV (cl xs d 128 [.inr (.inr v0), .inl v2] h1) (fun h2 =>
          bif aok h2.1 v0 11 && true then
            bV (cl xs d 128 [.inr (.inr v0), .inl v3] h2) (fun h3 =>
            bif aok h3.1 v0 11 && true then
              bV (cl xs d 128 [.inr (.inr v0), .inl v4] h3) (fun h4 =>
              bif aok h4.1 v0 11 && true then
                bV (cl xs d 128 [.inr (.inr v0), .inl v5] h4) (fun h5 =>
                bif aok h5.1 v0 11 then
                  some (some (.inl (h5.2 v0.toNat 1)), h5)
                else none)
              else none)
            else none)
          else none)
        else none)
      else none
    else
      some (some (.inl (-1)), h)
  else none :=
  (show _ = ev xs d mm_127 0 [some (.inr (.inr v0)), some (.inl v1), some (.inl v2), some (.inl v3), some (.inl v4), some (.inl v5)] [] h from rfl).trans (q_127_0 xs d v0 v1 v2 v3 v4 v5 h)
def stp_128 : List Nat := [0, 3]
set_option maxRecDepth 100000 in
set_option maxHeartbeats 4000000 in
theorem q_128_0 (xs : List Int) (d : Nat) (v0 : Int) (v1 : Int) (h : aH) : ev xs d mm_128 0 [some (.inr (.inr v0)), some (.inl v1), none] [] h =
  ev xs d mm_128 3 [some (.inr (.inr v0)), some (.inl v1), some (.inl 24)] [] h :=
  (aB gP gX xs stp_128 3 d mm_128 0 _ _ h).trans rfl

set_option maxRecDepth 100000 in
set_option maxHeartbeats 4000000 in
theorem q_128_3 (xs : List Int) (d : Nat) (v0 : Int) (v1 : Int) (v2 : Int) (h : aH) : ev xs d mm_128 3 [some (.inr (.inr v0)), some (.inl v1), some (.inl v2)] [] h =
  bif decide (v2 < 0) then
    some (none, h)
  else
    bif aok h.1 v0 11 then
      bif decide (2000 ≤ (h.2 v0.toNat 1)) then
        ev xs d mm_128 3 [some (.inr (.inr v0)), some (.inl v1), some (.inl (w32 (v2 + (-8))))] [] h
      else
        bif aok h.1 v0 11 then
          bif aok h.1 v0 11 then
            bif ain h.1 (h.2 v0.toNat 0) 102 (h.2 v0.toNat 1) then
              bif aok h.1 v0 11 then
                bif aok h.1 v0 11 then
                  ev xs d mm_128 3 [some (.inr (.inr v0)), some (.inl v1), some (.inl (w32 (v2 + (-8))))] [] (h.1, aup (aup h.2 (h.2 v0.toNat 0).toNat (h.2 v0.toNat 1).toNat (oi2b (oi2b (oushr v1 v2)))) v0.toNat 1 (w32 (((aup h.2 (h.2 v0.toNat 0).toNat (h.2 v0.toNat 1).toNat (oi2b (oi2b (oushr v1 v2)))) v0.toNat 1) + 1)))
                else none
              else none
            else none
          else none
        else none
    else none :=
  (aB gP gX xs stp_128 24 d mm_128 3 _ _ h).trans rfl

theorem c_128 (xs : List Int) (d : Nat) (v0 : Int) (v1 : Int) (h : aH) : cl xs (d + 1) 128 [.inr (.inr v0), .inl v1] h =
  ev xs d mm_128 3 [some (.inr (.inr v0)), some (.inl v1), some (.inl 24)] [] h :=
  (show _ = ev xs d mm_128 0 [some (.inr (.inr v0)), some (.inl v1), none] [] h from rfl).trans (q_128_0 xs d v0 v1 h)
def stp_129 : List Nat := [0]
set_option maxRecDepth 100000 in
set_option maxHeartbeats 4000000 in
theorem q_129_0 (xs : List Int) (d : Nat) (v0 : Int) (v1 : Int) (h : aH) : ev xs d mm_129 0 [some (.inr (.inr v0)), some (.inl v1)] [] h =
  bif decide (v1 < 0) then
    some (some (.inl (-1)), h)
  else
    bif aok h.1 v0 11 then
      bif decide (v1 ≤ (h.2 v0.toNat 1)) then
        bif aok h.1 v0 11 then
          bif aok h.1 v0 11 then
            bif aok h.1 v0 11 then
              some (some (.inl ((aup h.2 v0.toNat 1 (w32 ((h.2 v0.toNat 1) - v1))) v0.toNat 1)), (h.1, aup h.2 v0.toNat 1 (w32 ((h.2 v0.toNat 1) - v1))))
            else none
          else none
        else none
      else
        some (some (.inl (-1)), h)
    else none :=
  (aB gP gX xs stp_129 16 d mm_129 0 _ _ h).trans rfl

theorem c_129 (xs : List Int) (d : Nat) (v0 : Int) (v1 : Int) (h : aH) : cl xs (d + 1) 129 [.inr (.inr v0), .inl v1] h =
  bif decide (v1 < 0) then
    some (some (.inl (-1)), h)
  else
    bif aok h.1 v0 11 then
      bif decide (v1 ≤ (h.2 v0.toNat 1)) then
        bif aok h.1 v0 11 then
          bif aok h.1 v0 11 then
            bif aok h.1 v0 11 then
              some (some (.inl ((aup h.2 v0.toNat 1 (w32 ((h.2 v0.toNat 1) - v1))) v0.toNat 1)), (h.1, aup h.2 v0.toNat 1 (w32 ((h.2 v0.toNat 1) - v1))))
            else none
          else none
        else none
      else
        some (some (.inl (-1)), h)
    else none :=
  (show _ = ev xs d mm_129 0 [some (.inr (.inr v0)), some (.inl v1)] [] h from rfl).trans (q_129_0 xs d v0 v1 h)
def stp_130 : List Nat := [0, 68]
set_option maxRecDepth 100000 in
set_option maxHeartbeats 4000000 in
theorem q_130_0 (xs : List Int) (d : Nat) (v0 : Int) (h : aH) : ev xs d mm_130 0 [some (.inr (.inr v0)), none, none, none] [] h =
  bif aok h.1 v0 11 then
    bif aok h.1 v0 11 then
      bif aok h.1 v0 11 then
        bif aok h.1 v0 11 then
          bif aok h.1 ((aup h.2 v0.toNat 1 0) v0.toNat 3) 4 && true then
            bV (cl xs d 40 [.inr (.inr ((aup h.2 v0.toNat 1 0) v0.toNat 3)), .inr (.inr ((aup h.2 v0.toNat 1 0) v0.toNat 0)), .inl (h.2 v0.toNat 1)] (h.1, aup h.2 v0.toNat 1 0)) (fun h1 =>
            bif aok h1.1 v0 11 then
              bif aok h1.1 (h1.2 v0.toNat 3) 4 && true then
                bI (cl xs d 49 [.inr (.inr (h1.2 v0.toNat 3))] h1) (fun x3 h2 =>
                bif aok h2.1 v0 11 then
                  bif aok h2.1 (h2.2 v0.toNat 3) 4 then
                    bif aok h2.1 v0 11 then
                      bif decide (¬ x3 = 0) then
                        ev xs d mm_130 68 [some (.inr (.inr v0)), some (.inl (h.2 v0.toNat 1)), some (.inl x3), none] [] (h2.1, aup h2.2 v0.toNat 2 (h2.2 (h2.2 v0.toNat 3).toNat 5))
                      else
                        bif aok h2.1 v0 11 then
                          bif aok h2.1 v0 11 then
                            bif aok h2.1 ((aup h2.2 v0.toNat 2 (h2.2 (h2.2 v0.toNat 3).toNat 5)) v0.toNat 4) 8 && true then
                              bI (cl xs d 89 [.inr (.inr ((aup h2.2 v0.toNat 2 (h2.2 (h2.2 v0.toNat 3).toNat 5)) v0.toNat 4)), .inr (.inr ((aup h2.2 v0.toNat 2 (h2.2 (h2.2 v0.toNat 3).toNat 5)) v0.toNat 6))] (h2.1, aup h2.2 v0.toNat 2 (h2.2 (h2.2 v0.toNat 3).toNat 5))) (fun x5 h4 =>
                              bif aok h4.1 v0 11 then
                                bif aok h4.1 (h4.2 v0.toNat 4) 8 then
                                  bif aok h4.1 v0 11 then
                                    ev xs d mm_130 68 [some (.inr (.inr v0)), some (.inl (h.2 v0.toNat 1)), some (.inl x5), none] [] (h4.1, aup h4.2 v0.toNat 2 (h4.2 (h4.2 v0.toNat 4).toNat 1))
                                  else none
                                else none
                              else none)
                            else none
                          else none
                        else none
                    else none
                  else none
                else none)
              else none
            else none)
          else none
        else none
      else none
    else none
  else none :=
  (aB gP gX xs stp_130 35 d mm_130 0 _ _ h).trans rfl

set_option maxRecDepth 100000 in
set_option maxHeartbeats 4000000 in
theorem q_130_68 (xs : List Int) (d : Nat) (v0 : Int) (v1 : Int) (v2 : Int) (u3 : Option aV) (h : aH) : ev xs d mm_130 68 [some (.inr (.inr v0)), some (.inl v1), some (.inl v2), u3] [] h =
  bif decide (¬ v2 = 0) then
    some (some (.inl v2), h)
  else
    bif aok h.1 v0 11 then
      bif aok h.1 v0 11 then
        bif aok h.1 v0 11 then
          bif aok h.1 v0 11 then
            bif aok h.1 v0 11 && true then
              bV (cl xs d 131 [.inr (.inr v0)] (h.1, aup (aup h.2 v0.toNat 5 (h.2 v0.toNat 6)) v0.toNat 6 (h.2 v0.toNat 5))) (fun h1 =>
              some (some (.inl v2), h1))
            else none
          else none
        else none
      else none
    else none :=
  (aB gP gX xs stp_130 17 d mm_130 68 _ _ h).trans rfl

theorem c_130 (xs : List Int) (d : Nat) (v0 : Int) (h : aH) : cl xs (d + 1) 130 [.inr (.inr v0)] h =
  bif aok h.1 v0 11 then
    bif aok h.1 v0 11 then
      bif aok h.1 v0 11 then
        bif aok h.1 v0 11 then
          bif aok h.1 ((aup h.2 v0.toNat 1 0) v0.toNat 3) 4 && true then
            bV (cl xs d 40 [.inr (.inr ((aup h.2 v0.toNat 1 0) v0.toNat 3)), .inr (.inr ((aup h.2 v0.toNat 1 0) v0.toNat 0)), .inl (h.2 v0.toNat 1)] (h.1, aup h.2 v0.toNat 1 0)) (fun h1 =>
            bif aok h1.1 v0 11 then
              bif aok h1.1 (h1.2 v0.toNat 3) 4 && true then
                bI (cl xs d 49 [.inr (.inr (h1.2 v0.toNat 3))] h1) (fun x3 h2 =>
                bif aok h2.1 v0 11 then
                  bif aok h2.1 (h2.2 v0.toNat 3) 4 then
                    bif aok h2.1 v0 11 then
                      bif decide (¬ x3 = 0) then
                        ev xs d mm_130 68 [some (.inr (.inr v0)), some (.inl (h.2 v0.toNat 1)), some (.inl x3), none] [] (h2.1, aup h2.2 v0.toNat 2 (h2.2 (h2.2 v0.toNat 3).toNat 5))
                      else
                        bif aok h2.1 v0 11 then
                          bif aok h2.1 v0 11 then
                            bif aok h2.1 ((aup h2.2 v0.toNat 2 (h2.2 (h2.2 v0.toNat 3).toNat 5)) v0.toNat 4) 8 && true then
                              bI (cl xs d 89 [.inr (.inr ((aup h2.2 v0.toNat 2 (h2.2 (h2.2 v0.toNat 3).toNat 5)) v0.toNat 4)), .inr (.inr ((aup h2.2 v0.toNat 2 (h2.2 (h2.2 v0.toNat 3).toNat 5)) v0.toNat 6))] (h2.1, aup h2.2 v0.toNat 2 (h2.2 (h2.2 v0.toNat 3).toNat 5))) (fun x5 h4 =>
                              bif aok h4.1 v0 11 then
                                bif aok h4.1 (h4.2 v0.toNat 4) 8 then
                                  bif aok h4.1 v0 11 then
                                    ev xs d mm_130 68 [some (.inr (.inr v0)), some (.inl (h.2 v0.toNat 1)), some (.inl x5), none] [] (h4.1, aup h4.2 v0.toNat 2 (h4.2 (h4.2 v0.toNat 4).toNat 1))
                                  else none
                                else none
                              else none)
                            else none
                          else none
                        else none
                    else none
                  else none
                else none)
              else none
            else none)
          else none
        else none
      else none
    else none
  else none :=
  (show _ = ev xs d mm_130 0 [some (.inr (.inr v0)), none, none, none] [] h from rfl).trans (q_130_0 xs d v0 h)
def stp_131 : List Nat := [0]
set_option maxRecDepth 100000 in
set_option maxHeartbeats 4000000 in
theorem q_131_0 (xs : List Int) (d : Nat) (v0 : Int) (h : aH) : ev xs d mm_131 0 [some (.inr (.inr v0))] [] h =
  bif aok h.1 v0 11 then
    bif aok h.1 v0 11 then
      bif aok h.1 (h.2 v0.toNat 7) 6 && true then
        bV (cl xs d 73 [.inr (.inr (h.2 v0.toNat 7)), .inr (.inr (h.2 v0.toNat 5))] h) (fun h1 =>
        bif aok h1.1 v0 11 && true then
          bV (cl xs d 132 [.inr (.inr v0)] h1) (fun h2 =>
          bif aok h2.1 v0 11 then
            bif aok h2.1 v0 11 then
              bif aok h2.1 ((aup h2.2 v0.toNat 13 0) v0.toNat 15) 1 && true then
                bV (cl xs d 12 [.inr (.inr ((aup h2.2 v0.toNat 13 0) v0.toNat 15))] (h2.1, aup h2.2 v0.toNat 13 0)) (fun h3 =>
                bif aok h3.1 v0 11 && true then
                  bV (cl xs d 133 [.inr (.inr v0)] h3) (fun h4 =>
                  some (none, h4))
                else none)
              else none
            else none
          else none)
        else none)
      else none
    else none
  else none :=
  (aB gP gX xs stp_131 17 d mm_131 0 _ _ h).trans rfl

theorem c_131 (xs : List Int) (d : Nat) (v0 : Int) (h : aH) : cl xs (d + 1) 131 [.inr (.inr v0)] h =
  bif aok h.1 v0 11 then
    bif aok h.1 v0 11 then
      bif aok h.1 (h.2 v0.toNat 7) 6 && true then
        bV (cl xs d 73 [.inr (.inr (h.2 v0.toNat 7)), .inr (.inr (h.2 v0.toNat 5))] h) (fun h1 =>
        bif aok h1.1 v0 11 && true then
          bV (cl xs d 132 [.inr (.inr v0)] h1) (fun h2 =>
          bif aok h2.1 v0 11 then
            bif aok h2.1 v0 11 then
              bif aok h2.1 ((aup h2.2 v0.toNat 13 0) v0.toNat 15) 1 && true then
                bV (cl xs d 12 [.inr (.inr ((aup h2.2 v0.toNat 13 0) v0.toNat 15))] (h2.1, aup h2.2 v0.toNat 13 0)) (fun h3 =>
                bif aok h3.1 v0 11 && true then
                  bV (cl xs d 133 [.inr (.inr v0)] h3) (fun h4 =>
                  some (none, h4))
                else none)
              else none
            else none
          else none)
        else none)
      else none
    else none
  else none :=
  (show _ = ev xs d mm_131 0 [some (.inr (.inr v0))] [] h from rfl).trans (q_131_0 xs d v0 h)
def stp_132 : List Nat := [0]
set_option maxRecDepth 100000 in
set_option maxHeartbeats 4000000 in
theorem q_132_0 (xs : List Int) (d : Nat) (v0 : Int) (h : aH) : ev xs d mm_132 0 [some (.inr (.inr v0))] [] h =
  bif aok h.1 v0 11 then
    bif aok h.1 v0 11 then
      some (none, (h.1, aup (aup h.2 v0.toNat 10 0) v0.toNat 11 0))
    else none
  else none :=
  (aB gP gX xs stp_132 8 d mm_132 0 _ _ h).trans rfl

theorem c_132 (xs : List Int) (d : Nat) (v0 : Int) (h : aH) : cl xs (d + 1) 132 [.inr (.inr v0)] h =
  bif aok h.1 v0 11 then
    bif aok h.1 v0 11 then
      some (none, (h.1, aup (aup h.2 v0.toNat 10 0) v0.toNat 11 0))
    else none
  else none :=
  (show _ = ev xs d mm_132 0 [some (.inr (.inr v0))] [] h from rfl).trans (q_132_0 xs d v0 h)
def stp_133 : List Nat := [0]
set_option maxRecDepth 100000 in
set_option maxHeartbeats 4000000 in
theorem q_133_0 (xs : List Int) (d : Nat) (v0 : Int) (h : aH) : ev xs d mm_133 0 [some (.inr (.inr v0))] [] h =
  bif aok h.1 v0 11 then
    bif aok h.1 (h.2 v0.toNat 16) 5 && true then
      bif aok h.1 v0 11 then
        bif aok h.1 ((aup h.2 (h.2 v0.toNat 16).toNat 0 0) v0.toNat 17) 2 && true then
          some (none, (h.1, aup (aup h.2 (h.2 v0.toNat 16).toNat 0 0) ((aup h.2 (h.2 v0.toNat 16).toNat 0 0) v0.toNat 17).toNat 0 0))
        else none
      else none
    else none
  else none :=
  (aB gP gX xs stp_133 10 d mm_133 0 _ _ h).trans rfl

theorem c_133 (xs : List Int) (d : Nat) (v0 : Int) (h : aH) : cl xs (d + 1) 133 [.inr (.inr v0)] h =
  bif aok h.1 v0 11 then
    bif aok h.1 (h.2 v0.toNat 16) 5 && true then
      bif aok h.1 v0 11 then
        bif aok h.1 ((aup h.2 (h.2 v0.toNat 16).toNat 0 0) v0.toNat 17) 2 && true then
          some (none, (h.1, aup (aup h.2 (h.2 v0.toNat 16).toNat 0 0) ((aup h.2 (h.2 v0.toNat 16).toNat 0 0) v0.toNat 17).toNat 0 0))
        else none
      else none
    else none
  else none :=
  (show _ = ev xs d mm_133 0 [some (.inr (.inr v0))] [] h from rfl).trans (q_133_0 xs d v0 h)
def stp_134 : List Nat := [0]
set_option maxRecDepth 100000 in
set_option maxHeartbeats 4000000 in
theorem q_134_0 (xs : List Int) (d : Nat) (v0 : Int) (h : aH) : ev xs d mm_134 0 [some (.inr (.inr v0))] [] h =
  bif aok h.1 v0 11 then
    some (some (.inl (h.2 v0.toNat 2)), h)
  else none :=
  (aB gP gX xs stp_134 4 d mm_134 0 _ _ h).trans rfl

theorem c_134 (xs : List Int) (d : Nat) (v0 : Int) (h : aH) : cl xs (d + 1) 134 [.inr (.inr v0)] h =
  bif aok h.1 v0 11 then
    some (some (.inl (h.2 v0.toNat 2)), h)
  else none :=
  (show _ = ev xs d mm_134 0 [some (.inr (.inr v0))] [] h from rfl).trans (q_134_0 xs d v0 h)
def stp_135 : List Nat := [0]
set_option maxRecDepth 100000 in
set_option maxHeartbeats 4000000 in
theorem q_135_0 (xs : List Int) (d : Nat) (v0 : Int) (v1 : Int) (h : aH) : ev xs d mm_135 0 [some (.inr (.inr v0)), some (.inl v1)] [] h =
  bif decide (v1 < 0) then
    some (some (.inl 0), h)
  else
    bif aok h.1 v0 11 then
      bif aok h.1 (h.2 v0.toNat 5) 9 then
        bif decide ((h.2 (h.2 v0.toNat 5).toNat 5) ≤ v1) then
          some (some (.inl 0), h)
        else
          some (some (.inl 1), h)
      else none
    else none :=
  (aB gP gX xs stp_135 11 d mm_135 0 _ _ h).trans rfl

theorem c_135 (xs : List Int) (d : Nat) (v0 : Int) (v1 : Int) (h : aH) : cl xs (d + 1) 135 [.inr (.inr v0), .inl v1] h =
  bif decide (v1 < 0) then
    some (some (.inl 0), h)
  else
    bif aok h.1 v0 11 then
      bif aok h.1 (h.2 v0.toNat 5) 9 then
        bif decide ((h.2 (h.2 v0.toNat 5).toNat 5) ≤ v1) then
          some (some (.inl 0), h)
        else
          some (some (.inl 1), h)
      else none
    else none :=
  (show _ = ev xs d mm_135 0 [some (.inr (.inr v0)), some (.inl v1)] [] h from rfl).trans (q_135_0 xs d v0 v1 h)
def stp_136 : List Nat := [0]
set_option maxRecDepth 100000 in
set_option maxHeartbeats 4000000 in
theorem q_136_0 (xs : List Int) (d : Nat) (v0 : Int) (v1 : Int) (h : aH) : ev xs d mm_136 0 [some (.inr (.inr v0)), some (.inl v1)] [] h =
  bif decide (v1 < 0) then
    some (some (.inl 0), h)
  else
    bif aok h.1 v0 11 then
      bif aok h.1 (h.2 v0.toNat 5) 9 then
        bif aok h.1 (h.2 (h.2 v0.toNat 5).toNat 3) 7 then
          bif decide ((h.2 (h.2 (h.2 v0.toNat 5).toNat 3).toNat 0) ≤ v1) then
            some (some (.inl 0), h)
          else
            some (some (.inl 1), h)
        else none
      else none
    else none :=
  (aB gP gX xs stp_136 12 d mm_136 0 _ _ h).trans rfl

theorem c_136 (xs : List Int) (d : Nat) (v0 : Int) (v1 : Int) (h : aH) : cl xs (d + 1) 136 [.inr (.inr v0), .inl v1] h =
  bif decide (v1 < 0) then
    some (some (.inl 0), h)
  else
    bif aok h.1 v0 11 then
      bif aok h.1 (h.2 v0.toNat 5) 9 then
        bif aok h.1 (h.2 (h.2 v0.toNat 5).toNat 3) 7 then
          bif decide ((h.2 (h.2 (h.2 v0.toNat 5).toNat 3).toNat 0) ≤ v1) then
            some (some (.inl 0), h)
          else
            some (some (.inl 1), h)
        else none
      else none
    else none :=
  (show _ = ev xs d mm_136 0 [some (.inr (.inr v0)), some (.inl v1)] [] h from rfl).trans (q_136_0 xs d v0 v1 h)
def stp_137 : List Nat := [0]
set_option maxRecDepth 100000 in
set_option maxHeartbeats 4000000 in
theorem q_137_0 (xs : List Int) (d : Nat) (v0 : Int) (v1 : Int) (h : aH) : ev xs d mm_137 0 [some (.inr (.inr v0)), some (.inl v1)] [] h =
  bif decide (v1 < 0) then
    some (some (.inl 0), h)
  else
    bif aok h.1 v0 11 then
      bif aok h.1 (h.2 v0.toNat 5) 9 then
        bif decide ((h.2 (h.2 v0.toNat 5).toNat 7) < v1) then
          some (some (.inl 0), h)
        else
          some (some (.inl 1), h)
      else none
    else none :=
  (aB gP gX xs stp_137 11 d mm_137 0 _ _ h).trans rfl

theorem c_137 (xs : List Int) (d : Nat) (v0 : Int) (v1 : Int) (h : aH) : cl xs (d + 1) 137 [.inr (.inr v0), .inl v1] h =
  bif decide (v1 < 0) then
    some (some (.inl 0), h)
  else
    bif aok h.1 v0 11 then
      bif aok h.1 (h.2 v0.toNat 5) 9 then
        bif decide ((h.2 (h.2 v0.toNat 5).toNat 7) < v1) then
          some (some (.inl 0), h)
        else
          some (some (.inl 1), h)
      else none
    else none :=
  (show _ = ev xs d mm_137 0 [some (.inr (.inr v0)), some (.inl v1)] [] h from rfl).trans (q_137_0 xs d v0 v1 h)
def stp_138 : List Nat := [0]
set_option maxRecDepth 100000 in
set_option maxHeartbeats 4000000 in
theorem q_138_0 (xs : List Int) (d : Nat) (v0 : Int) (v1 : Int) (h : aH) : ev xs d mm_138 0 [some (.inr (.inr v0)), some (.inr (.inl v1)), none] [] h =
  bif aok h.1 v0 11 && true then
    bJ (cl xs d 139 [.inr (.inr v0), .inr (.inl v1), .inl 7] h) (fun x2 h1 =>
    some (some (.inr (.inl x2)), h1))
  else none :=
  (aB gP gX xs stp_138 6 d mm_138 0 _ _ h).trans rfl

theorem c_138 (xs : List Int) (d : Nat) (v0 : Int) (v1 : Int) (h : aH) : cl xs (d + 1) 138 [.inr (.inr v0), .inr (.inl v1)] h =
  bif aok h.1 v0 11 && true then
    bJ (cl xs d 139 [.inr (.inr v0), .inr (.inl v1), .inl 7] h) (fun x2 h1 =>
    some (some (.inr (.inl x2)), h1))
  else none :=
  (show _ = ev xs d mm_138 0 [some (.inr (.inr v0)), some (.inr (.inl v1)), none] [] h from rfl).trans (q_138_0 xs d v0 v1 h)
def stp_139 : List Nat := [0, 9]
set_option maxRecDepth 100000 in
set_option maxHeartbeats 4000000 in
theorem q_139_0 (xs : List Int) (d : Nat) (v0 : Int) (v1 : Int) (v3 : Int) (h : aH) : ev xs d mm_139 0 [some (.inr (.inr v0)), some (.inr (.inl v1)), none, some (.inl v3), none, none, none, none, none] [] h =
  ev xs d mm_139 9 [some (.inr (.inr v0)), some (.inr (.inl v1)), none, some (.inl v3), some (.inr (.inl v1)), none, some (.inl 0), some (.inl 0), none] [] h :=
  (aB gP gX xs stp_139 7 d mm_139 0 _ _ h).trans rfl

set_option maxRecDepth 100000 in
set_option maxHeartbeats 4000000 in
theorem q_139_9 (xs : List Int) (d : Nat) (v0 : Int) (v1 : Int) (u2 : Option aV) (v3 : Int) (v4 : Int) (u5 : Option aV) (v6 : Int) (v7 : Int) (u8 : Option aV) (h : aH) : ev xs d mm_139 9 [some (.inr (.inr v0)), some (.inr (.inl v1)), u2, some (.inl v3), some (.inr (.inl v4)), u5, some (.inl v6), some (.inl v7), u8] [] h =
  bif aok h.1 v0 11 then
    bif aok h.1 (h.2 v0.toNat 5) 9 then
      bif aok h.1 (h.2 (h.2 v0.toNat 5).toNat 3) 7 then
        bif decide ((h.2 (h.2 (h.2 v0.toNat 5).toNat 3).toNat 0) ≤ v7) then
          some (some (.inr (.inl v4)), h)
        else
          bif decide (v3 ≤ v6) then
            some (some (.inr (.inl v4)), h)
          else
            bif aok h.1 v0 11 then
              bif aok h.1 (h.2 v0.toNat 7) 6 then
                bif ain h.1 (h.2 (h.2 v0.toNat 7).toNat 1) 100 v7 then
                  bif aok h.1 v0 11 then
                    bif aok h.1 (h.2 v0.toNat 7) 6 && true then
                      bI (cl xs d 75 [.inr (.inr (h.2 v0.toNat 7)), .inl (h.2 (h.2 (h.2 v0.toNat 7).toNat 1).toNat v7.toNat)] h) (fun x2 h1 =>
                      bif decide (x2 = 0) then
                        ev xs d mm_139 9 [some (.inr (.inr v0)), some (.inr (.inl v1)), u2, some (.inl v3), some (.inr (.inl v4)), u5, some (.inl v6), some (.inl (w32 (v7 + 1))), some (.inl (h.2 (h.2 (h.2 v0.toNat 7).toNat 1).toNat v7.toNat))] [] h1
                      else
                        bif aok h1.1 v0 11 then
                          bif aok h1.1 (h1.2 v0.toNat 5) 9 then
                            bif aok h1.1 (h1.2 (h1.2 v0.toNat 5).toNat 3) 7 && true then
                              bJ (cl xs d 86 [.inr (.inr (h1.2 (h1.2 v0.toNat 5).toNat 3)), .inl (h.2 (h.2 (h.2 v0.toNat 7).toNat 1).toNat v7.toNat), .inr (.inl v4)] h1) (fun x4 h3 =>
                              ev xs d mm_139 9 [some (.inr (.inr v0)), some (.inr (.inl v1)), u2, some (.inl v3), some (.inr (.inl x4)), none, some (.inl (w32 (v6 + 1))), some (.inl (w32 (v7 + 1))), some (.inl (h.2 (h.2 (h.2 v0.toNat 7).toNat 1).toNat v7.toNat))] [] h3)
                            else none
                          else none
                        else none)
                    else none
                  else none
                else none
              else none
            else none
      else none
    else none
  else none :=
  (aB gP gX xs stp_139 31 d mm_139 9 _ _ h).trans rfl

theorem c_139 (xs : List Int) (d : Nat) (v0 : Int) (v1 : Int) (v3 : Int) (h : aH) : cl xs (d + 1) 139 [.inr (.inr v0), .inr (.inl v1), .inl v3] h =
  ev xs d mm_139 9 [some (.inr (.inr v0)), some (.inr (.inl v1)), none, some (.inl v3), some (.inr (.inl v1)), none, some (.inl 0), some (.inl 0), none] [] h :=
  (show _ = ev xs d mm_139 0 [some (.inr (.inr v0)), some (.inr (.inl v1)), none, some (.inl v3), none, none, none, none, none] [] h from rfl).trans (q_139_0 xs d v0 v1 v3 h)
def stp_140 : List Nat := [0]
set_option maxRecDepth 100000 in
set_option maxHeartbeats 4000000 in
theorem q_140_0 (xs : List Int) (d : Nat) (v0 : Int) (v1 : Int) (v2 : Int) (h : aH) : ev xs d mm_140 0 [some (.inr (.inr v0)), some (.inl v1), some (.inl v2)] [] h =
  bif aok h.1 v0 11 && true then
    bI (cl xs d 135 [.inr (.inr v0), .inl v1] h) (fun x2 h1 =>
    bif decide (x2 = 0) then
      some (some (.inl (-1)), h1)
    else
      bif aok h1.1 v0 11 then
        bif aok h1.1 (h1.2 v0.toNat 7) 6 && true then
          bI (cl xs d 76 [.inr (.inr (h1.2 v0.toNat 7)), .inl v1, .inl v2] h1) (fun x4 h3 =>
          some (some (.inl x4), h3))
        else none
      else none)
  else none :=
  (aB gP gX xs stp_140 12 d mm_140 0 _ _ h).trans rfl

theorem c_140 (xs : List Int) (d : Nat) (v0 : Int) (v1 : Int) (v2 : Int) (h : aH) : cl xs (d + 1) 140 [.inr (.inr v0), .inl v1, .inl v2] h =
  bif aok h.1 v0 11 && true then
    bI (cl xs d 135 [.inr (.inr v0), .inl v1] h) (fun x2 h1 =>
    bif decide (x2 = 0) then
      some (some (.inl (-1)), h1)
    else
      bif aok h1.1 v0 11 then
        bif aok h1.1 (h1.2 v0.toNat 7) 6 && true then
          bI (cl xs d 76 [.inr (.inr (h1.2 v0.toNat 7)), .inl v1, .inl v2] h1) (fun x4 h3 =>
          some (some (.inl x4), h3))
        else none
      else none)
  else none :=
  (show _ = ev xs d mm_140 0 [some (.inr (.inr v0)), some (.inl v1), some (.inl v2)] [] h from rfl).trans (q_140_0 xs d v0 v1 v2 h)
def stp_141 : List Nat := [0]
set_option maxRecDepth 100000 in
set_option maxHeartbeats 4000000 in
theorem q_141_0 (xs : List Int) (d : Nat) (v0 : Int) (v1 : Int) (v2 : Int) (h : aH) : ev xs d mm_141 0 [some (.inr (.inr v0)), some (.inl v1), some (.inl v2)] [] h =
  bif aok h.1 v0 11 && true then
    bI (cl xs d 135 [.inr (.inr v0), .inl v1] h) (fun x2 h1 =>
    bif decide (x2 = 0) then
      some (some (.inl (-1)), h1)
    else
      bif aok h1.1 v0 11 then
        bif aok h1.1 (h1.2 v0.toNat 7) 6 then
          bif ain h1.1 (h1.2 (h1.2 v0.toNat 7).toNat 2) 101 v1 then
            bif aok h1.1 v0 11 && true then
              bJ (cl xs d 138 [.inr (.inr v0), .inr (.inl (h1.2 (h1.2 (h1.2 v0.toNat 7).toNat 2).toNat v1.toNat))] h1) (fun x4 h3 =>
              bI (cl xs d 125 [.inr (.inl x4), .inl v2] h3) (fun x6 h5 =>
                some (some (.inl x6), h5)))
            else none
          else none
        else none
      else none)
  else none :=
  (aB gP gX xs stp_141 16 d mm_141 0 _ _ h).trans rfl

theorem c_141 (xs : List Int) (d : Nat) (v0 : Int) (v1 : Int) (v2 : Int) (h : aH) : cl xs (d + 1) 141 [.inr (.inr v0), .inl v1, .inl v2] h =
  bif aok h.1 v0 11 && true then
    bI (cl xs d 135 [.inr (.inr v0), .inl v1] h) (fun x2 h1 =>
    bif decide (x2 = 0) then
      some (some (.inl (-1)), h1)
    else
      bif aok h1.1 v0 11 then
        bif aok h1.1 (h1.2 v0.toNat 7) 6 then
          bif ain h1.1 (h1.2 (h1.2 v0.toNat 7).toNat 2) 101 v1 then
            bif aok h1.1 v0 11 && true then
              bJ (cl xs d 138 [.inr (.inr v0), .inr (.inl (h1.2 (h1.2 (h1.2 v0.toNat 7).toNat 2).toNat v1.toNat))] h1) (fun x4 h3 =>
              bI (cl xs d 125 [.inr (.inl x4), .inl v2] h3) (fun x6 h5 =>
                some (some (.inl x6), h5)))
            else none
          else none
        else none
      else none)
  else none :=
  (show _ = ev xs d mm_141 0 [some (.inr (.inr v0)), some (.inl v1), some (.inl v2)] [] h from rfl).trans (q_141_0 xs d v0 v1 v2 h)
def stp_142 : List Nat := [0]
set_option maxRecDepth 100000 in
set_option maxHeartbeats 4000000 in
theorem q_142_0 (xs : List Int) (d : Nat) (v0 : Int) (v1 : Int) (v2 : Int) (v3 : Int) (h : aH) : ev xs d mm_142 0 [some (.inr (.inr v0)), some (.inl v1), some (.inl v2), some (.inl v3)] [] h =
  bif aok h.1 v0 11 && true then
    bI (cl xs d 135 [.inr (.inr v0), .inl v1] h) (fun x2 h1 =>
    bif decide (x2 = 0) then
      some (some (.inl (-1)), h1)
    else
      bif decide (v2 < 0) then
        some (some (.inl (-1)), h1)
      else
        bif aok h1.1 v0 11 then
          bif aok h1.1 (h1.2 v0.toNat 7) 6 then
            bI (cl xs d 316 [.inl (h1.2 (h1.2 v0.toNat 7).toNat 0)] h1) (fun x4 h3 =>
              bif decide (v2 ≤ x4) then
                bif aok h3.1 v0 11 then
                  bif aok h3.1 (h3.2 v0.toNat 7) 6 then
                    bif ain h3.1 (h3.2 (h3.2 v0.toNat 7).toNat 2) 101 v1 then
                      bif aok h3.1 v0 11 && true then
                        bJ (cl xs d 139 [.inr (.inr v0), .inr (.inl (h3.2 (h3.2 (h3.2 v0.toNat 7).toNat 2).toNat v1.toNat)), .inl v2] h3) (fun x6 h5 =>
                        bI (cl xs d 125 [.inr (.inl x6), .inl v3] h5) (fun x8 h7 =>
                          some (some (.inl x8), h7)))
                      else none
                    else none
                  else none
                else none
              else
                some (some (.inl (-1)), h3))
          else none
        else none)
  else none :=
  (aB gP gX xs stp_142 24 d mm_142 0 _ _ h).trans rfl

theorem c_142 (xs : List Int) (d : Nat) (v0 : Int) (v1 : Int) (v2 : Int) (v3 : Int) (h : aH) : cl xs (d + 1) 142 [.inr (.inr v0), .inl v1, .inl v2, .inl v3] h =
  bif aok h.1 v0 11 && true then
    bI (cl xs d 135 [.inr (.inr v0), .inl v1] h) (fun x2 h1 =>
    bif decide (x2 = 0) then
      some (some (.inl (-1)), h1)
    else
      bif decide (v2 < 0) then
        some (some (.inl (-1)), h1)
      else
        bif aok h1.1 v0 11 then
          bif aok h1.1 (h1.2 v0.toNat 7) 6 then
            bI (cl xs d 316 [.inl (h1.2 (h1.2 v0.toNat 7).toNat 0)] h1) (fun x4 h3 =>
              bif decide (v2 ≤ x4) then
                bif aok h3.1 v0 11 then
                  bif aok h3.1 (h3.2 v0.toNat 7) 6 then
                    bif ain h3.1 (h3.2 (h3.2 v0.toNat 7).toNat 2) 101 v1 then
                      bif aok h3.1 v0 11 && true then
                        bJ (cl xs d 139 [.inr (.inr v0), .inr (.inl (h3.2 (h3.2 (h3.2 v0.toNat 7).toNat 2).toNat v1.toNat)), .inl v2] h3) (fun x6 h5 =>
                        bI (cl xs d 125 [.inr (.inl x6), .inl v3] h5) (fun x8 h7 =>
                          some (some (.inl x8), h7)))
                      else none
                    else none
                  else none
                else none
              else
                some (some (.inl (-1)), h3))
          else none
        else none)
  else none :=
  (show _ = ev xs d mm_142 0 [some (.inr (.inr v0)), some (.inl v1), some (.inl v2), some (.inl v3)] [] h from rfl).trans (q_142_0 xs d v0 v1 v2 v3 h)
def stp_143 : List Nat := [0, 23]
set_option maxRecDepth 100000 in
set_option maxHeartbeats 4000000 in
theorem q_143_0 (xs : List Int) (d : Nat) (v0 : Int) (v1 : Int) (h : aH) : ev xs d mm_143 0 [some (.inr (.inr v0)), some (.inl v1), none, none, none, none] [] h =
  bif aok h.1 v0 11 && true then
    bI (cl xs d 135 [.inr (.inr v0), .inl v1] h) (fun x2 h1 =>
    bif decide (¬ x2 = 0) then
      bif aok h1.1 v0 11 then
        bif aok h1.1 (h1.2 v0.toNat 7) 6 then
          bif ain h1.1 (h1.2 (h1.2 v0.toNat 7).toNat 2) 101 v1 then
            ev xs d mm_143 23 [some (.inr (.inr v0)), some (.inl v1), some (.inr (.inl (h1.2 (h1.2 (h1.2 v0.toNat 7).toNat 2).toNat v1.toNat))), none, some (.inl 0), none] [] h1
          else none
        else none
      else none
    else
      some (some (.inl (-1)), h1))
  else none :=
  (aB gP gX xs stp_143 13 d mm_143 0 _ _ h).trans rfl

set_option maxRecDepth 100000 in
set_option maxHeartbeats 4000000 in
theorem q_143_23 (xs : List Int) (d : Nat) (v0 : Int) (v1 : Int) (v2 : Int) (u3 : Option aV) (v4 : Int) (u5 : Option aV) (h : aH) : ev xs d mm_143 23 [some (.inr (.inr v0)), some (.inl v1), some (.inr (.inl v2)), u3, some (.inl v4), u5] [] h =
  bif aok h.1 v0 11 then
    bif aok h.1 (h.2 v0.toNat 5) 9 then
      bif aok h.1 (h.2 (h.2 v0.toNat 5).toNat 3) 7 then
        bif decide ((h.2 (h.2 (h.2 v0.toNat 5).toNat 3).toNat 0) ≤ v4) then
          some (some (.inl (-2)), h)
        else
          bif decide ((olcmp v2 0) = 0) then
            some (some (.inl (-2)), h)
          else
            bif aok h.1 v0 11 then
              bif aok h.1 (h.2 v0.toNat 7) 6 then
                bif ain h.1 (h.2 (h.2 v0.toNat 7).toNat 1) 100 v4 then
                  bif aok h.1 v0 11 then
                    bif aok h.1 (h.2 v0.toNat 7) 6 && true then
                      bI (cl xs d 75 [.inr (.inr (h.2 v0.toNat 7)), .inl (h.2 (h.2 (h.2 v0.toNat 7).toNat 1).toNat v4.toNat)] h) (fun x2 h1 =>
                      bif decide (x2 = 0) then
                        ev xs d mm_143 23 [some (.inr (.inr v0)), some (.inl v1), some (.inr (.inl v2)), acl u3, some (.inl (w32 (v4 + 1))), some (.inl (h.2 (h.2 (h.2 v0.toNat 7).toNat 1).toNat v4.toNat))] [] h1
                      else
                        bif aok h1.1 v0 11 then
                          bif aok h1.1 (h1.2 v0.toNat 5) 9 then
                            bif aok h1.1 (h1.2 (h1.2 v0.toNat 5).toNat 3) 7 && true then
                              bJ (cl xs d 86 [.inr (.inr (h1.2 (h1.2 v0.toNat 5).toNat 3)), .inl (h.2 (h.2 (h.2 v0.toNat 7).toNat 1).toNat v4.toNat), .inr (.inl v2)] h1) (fun x4 h3 =>
                              bif decide (¬ (olcmp x4 0) = 0) then
                                ev xs d mm_143 23 [some (.inr (.inr v0)), some (.inl v1), some (.inr (.inl x4)), none, some (.inl (w32 (v4 + 1))), some (.inl (h.2 (h.2 (h.2 v0.toNat 7).toNat 1).toNat v4.toNat))] [] h3
                              else
                                some (some (.inl (h.2 (h.2 (h.2 v0.toNat 7).toNat 1).toNat v4.toNat)), h3))
                            else none
                          else none
                        else none)
                    else none
                  else none
                else none
              else none
            else none
      else none
    else none
  else none :=
  (aB gP gX xs stp_143 35 d mm_143 23 _ _ h).trans rfl

theorem c_143 (xs : List Int) (d : Nat) (v0 : Int) (v1 : Int) (h : aH) : cl xs (d + 1) 143 [.inr (.inr v0), .inl v1] h =
  bif aok h.1 v0 11 && true then
    bI (cl xs d 135 [.inr (.inr v0), .inl v1] h) (fun x2 h1 =>
    bif decide (¬ x2 = 0) then
      bif aok h1.1 v0 11 then
        bif aok h1.1 (h1.2 v0.toNat 7) 6 then
          bif ain h1.1 (h1.2 (h1.2 v0.toNat 7).toNat 2) 101 v1 then
            ev xs d mm_143 23 [some (.inr (.inr v0)), some (.inl v1), some (.inr (.inl (h1.2 (h1.2 (h1.2 v0.toNat 7).toNat 2).toNat v1.toNat))), none, some (.inl 0), none] [] h1
          else none
        else none
      else none
    else
      some (some (.inl (-1)), h1))
  else none :=
  (show _ = ev xs d mm_143 0 [some (.inr (.inr v0)), some (.inl v1), none, none, none, none] [] h from rfl).trans (q_143_0 xs d v0 v1 h)
def stp_144 : List Nat := [0]
set_option maxRecDepth 100000 in
set_option maxHeartbeats 4000000 in
theorem q_144_0 (xs : List Int) (d : Nat) (v0 : Int) (v1 : Int) (v2 : Int) (h : aH) : ev xs d mm_144 0 [some (.inr (.inr v0)), some (.inl v1), some (.inl v2)] [] h =
  bif aok h.1 v0 11 && true then
    bI (cl xs d 135 [.inr (.inr v0), .inl v1] h) (fun x2 h1 =>
    bif decide (x2 = 0) then
      some (some (.inl (-1)), h1)
    else
      bif decide ((-1) ≤ v2) then
        bif aok h1.1 v0 11 then
          bif aok h1.1 v0 11 then
            bif aok h1.1 (h1.2 v0.toNat 5) 9 then
              bif aok h1.1 v0 11 then
                bif aok h1.1 (h1.2 v0.toNat 7) 6 then
                  bif ain h1.1 (h1.2 (h1.2 v0.toNat 7).toNat 2) 101 v1 then
                    bif aok h1.1 v0 11 && true then
                      bJ (cl xs d 138 [.inr (.inr v0), .inr (.inl (h1.2 (h1.2 (h1.2 v0.toNat 7).toNat 2).toNat v1.toNat))] h1) (fun x4 h3 =>
                      bif aok h3.1 (h1.2 v0.toNat 14) 10 && true then
                        bV (cl xs d 114 [.inr (.inr (h1.2 v0.toNat 14)), .inr (.inr (h1.2 (h1.2 v0.toNat 5).toNat 4)), .inr (.inl x4)] h3) (fun h5 =>
                        bif decide (¬ v2 = (-1)) then
                          bif aok h5.1 v0 11 then
                            bif aok h5.1 (h5.2 v0.toNat 14) 10 then
                              bif decide ((h5.2 (h5.2 v0.toNat 14).toNat 0) ≤ v2) then
                                some (some (.inl (-1)), h5)
                              else
                                bif aok h5.1 v0 11 then
                                  bif aok h5.1 (h5.2 v0.toNat 14) 10 then
                                    bif ain h5.1 (h5.2 (h5.2 v0.toNat 14).toNat 1) 100 v2 then
                                      some (some (.inl (h5.2 (h5.2 (h5.2 v0.toNat 14).toNat 1).toNat v2.toNat)), h5)
                                    else none
                                  else none
                                else none
                            else none
                          else none
                        else
                          bif aok h5.1 v0 11 then
                            bif aok h5.1 (h5.2 v0.toNat 14) 10 then
                              some (some (.inl (h5.2 (h5.2 v0.toNat 14).toNat 0)), h5)
                            else none
                          else none)
                      else none)
                    else none
                  else none
                else none
              else none
            else none
          else none
        else none
      else
        some (some (.inl (-1)), h1))
  else none :=
  (aB gP gX xs stp_144 36 d mm_144 0 _ _ h).trans rfl

theorem c_144 (xs : List Int) (d : Nat) (v0 : Int) (v1 : Int) (v2 : Int) (h : aH) : cl xs (d + 1) 144 [.inr (.inr v0), .inl v1, .inl v2] h =
  bif aok h.1 v0 11 && true then
    bI (cl xs d 135 [.inr (.inr v0), .inl v1] h) (fun x2 h1 =>
    bif decide (x2 = 0) then
      some (some (.inl (-1)), h1)
    else
      bif decide ((-1) ≤ v2) then
        bif aok h1.1 v0 11 then
          bif aok h1.1 v0 11 then
            bif aok h1.1 (h1.2 v0.toNat 5) 9 then
              bif aok h1.1 v0 11 then
                bif aok h1.1 (h1.2 v0.toNat 7) 6 then
                  bif ain h1.1 (h1.2 (h1.2 v0.toNat 7).toNat 2) 101 v1 then
                    bif aok h1.1 v0 11 && true then
                      bJ (cl xs d 138 [.inr (.inr v0), .inr (.inl (h1.2 (h1.2 (h1.2 v0.toNat 7).toNat 2).toNat v1.toNat))] h1) (fun x4 h3 =>
                      bif aok h3.1 (h1.2 v0.toNat 14) 10 && true then
                        bV (cl xs d 114 [.inr (.inr (h1.2 v0.toNat 14)), .inr (.inr (h1.2 (h1.2 v0.toNat 5).toNat 4)), .inr (.inl x4)] h3) (fun h5 =>
                        bif decide (¬ v2 = (-1)) then
                          bif aok h5.1 v0 11 then
                            bif aok h5.1 (h5.2 v0.toNat 14) 10 then
                              bif decide ((h5.2 (h5.2 v0.toNat 14).toNat 0) ≤ v2) then
                                some (some (.inl (-1)), h5)
                              else
                                bif aok h5.1 v0 11 then
                                  bif aok h5.1 (h5.2 v0.toNat 14) 10 then
                                    bif ain h5.1 (h5.2 (h5.2 v0.toNat 14).toNat 1) 100 v2 then
                                      some (some (.inl (h5.2 (h5.2 (h5.2 v0.toNat 14).toNat 1).toNat v2.toNat)), h5)
                                    else none
                                  else none
                                else none
                            else none
                          else none
                        else
                          bif aok h5.1 v0 11 then
                            bif aok h5.1 (h5.2 v0.toNat 14) 10 then
                              some (some (.inl (h5.2 (h5.2 v0.toNat 14).toNat 0)), h5)
                            else none
                          else none)
                      else none)
                    else none
                  else none
                else none
              else none
            else none
          else none
        else none
      else
        some (some (.inl (-1)), h1))
  else none :=
  (show _ = ev xs d mm_144 0 [some (.inr (.inr v0)), some (.inl v1), some (.inl v2)] [] h from rfl).trans (q_144_0 xs d v0 v1 v2 h)
def stp_145 : List Nat := [0]
set_option maxRecDepth 100000 in
set_option maxHeartbeats 4000000 in
theorem q_145_0 (xs : List Int) (d : Nat) (v0 : Int) (v1 : Int) (h : aH) : ev xs d mm_145 0 [some (.inr (.inr v0)), some (.inl v1)] [] h =
  bif aok h.1 v0 11 && true then
    bI (cl xs d 136 [.inr (.inr v0), .inl v1] h) (fun x2 h1 =>
    bif decide (x2 = 0) then
      some (some (.inl (-1)), h1)
    else
      bif aok h1.1 v0 11 then
        bif aok h1.1 (h1.2 v0.toNat 7) 6 then
          bif ain h1.1 (h1.2 (h1.2 v0.toNat 7).toNat 1) 100 v1 then
            some (some (.inl (h1.2 (h1.2 (h1.2 v0.toNat 7).toNat 1).toNat v1.toNat)), h1)
          else none
        else none
      else none)
  else none :=
  (aB gP gX xs stp_145 12 d mm_145 0 _ _ h).trans rfl

theorem c_145 (xs : List Int) (d : Nat) (v0 : Int) (v1 : Int) (h : aH) : cl xs (d + 1) 145 [.inr (.inr v0), .inl v1] h =
  bif aok h.1 v0 11 && true then
    bI (cl xs d 136 [.inr (.inr v0), .inl v1] h) (fun x2 h1 =>
    bif decide (x2 = 0) then
      some (some (.inl (-1)), h1)
    else
      bif aok h1.1 v0 11 then
        bif aok h1.1 (h1.2 v0.toNat 7) 6 then
          bif ain h1.1 (h1.2 (h1.2 v0.toNat 7).toNat 1) 100 v1 then
            some (some (.inl (h1.2 (h1.2 (h1.2 v0.toNat 7).toNat 1).toNat v1.toNat)), h1)
          else none
        else none
      else none)
  else none :=
  (show _ = ev xs d mm_145 0 [some (.inr (.inr v0)), some (.inl v1)] [] h from rfl).trans (q_145_0 xs d v0 v1 h)
def stp_146 : List Nat := [0]
set_option maxRecDepth 100000 in
set_option maxHeartbeats 4000000 in
theorem q_146_0 (xs : List Int) (d : Nat) (v0 : Int) (v1 : Int) (h : aH) : ev xs d mm_146 0 [some (.inr (.inr v0)), some (.inl v1)] [] h =
  bif aok h.1 v0 11 && true then
    bI (cl xs d 136 [.inr (.inr v0), .inl v1] h) (fun x2 h1 =>
    bif decide (¬ x2 = 0) then
      bif aok h1.1 v0 11 then
        bif aok h1.1 (h1.2 v0.toNat 7) 6 && true then
          bI (cl xs d 75 [.inr (.inr (h1.2 v0.toNat 7)), .inl v1] h1) (fun x4 h3 =>
          bif decide (x4 = 0) then
            some (some (.inl 0), h3)
          else
            some (some (.inl 1), h3))
        else none
      else none
    else
      some (some (.inl (-1)), h1))
  else none :=
  (aB gP gX xs stp_146 13 d mm_146 0 _ _ h).trans rfl

theorem c_146 (xs : List Int) (d : Nat) (v0 : Int) (v1 : Int) (h : aH) : cl xs (d + 1) 146 [.inr (.inr v0), .inl v1] h =
  bif aok h.1 v0 11 && true then
    bI (cl xs d 136 [.inr (.inr v0), .inl v1] h) (fun x2 h1 =>
    bif decide (¬ x2 = 0) then
      bif aok h1.1 v0 11 then
        bif aok h1.1 (h1.2 v0.toNat 7) 6 && true then
          bI (cl xs d 75 [.inr (.inr (h1.2 v0.toNat 7)), .inl v1] h1) (fun x4 h3 =>
          bif decide (x4 = 0) then
            some (some (.inl 0), h3)
          else
            some (some (.inl 1), h3))
        else none
      else none
    else
      some (some (.inl (-1)), h1))
  else none :=
  (show _ = ev xs d mm_146 0 [some (.inr (.inr v0)), some (.inl v1)] [] h from rfl).trans (q_146_0 xs d v0 v1 h)
def stp_147 : List Nat := [0]
set_option maxRecDepth 100000 in
set_option maxHeartbeats 4000000 in
theorem q_147_0 (xs : List Int) (d : Nat) (v0 : Int) (h : aH) : ev xs d mm_147 0 [some (.inr (.inr v0)), none] [] h =
  bif aok h.1 v0 11 then
    bif aok h.1 v0 11 then
      bif aok h.1 v0 11 then
        bif ain h.1 (h.2 v0.toNat 9) 104 (orem (w32 ((h.2 v0.toNat 10) + (h.2 v0.toNat 11))) 30) then
          bif aok h.1 v0 11 then
            bif aok h.1 (h.2 (h.2 v0.toNat 9).toNat (orem (w32 ((h.2 v0.toNat 10) + (h.2 v0.toNat 11))) 30).toNat) 6 && true then
              bV (cl xs d 74 [.inr (.inr (h.2 (h.2 v0.toNat 9).toNat (orem (w32 ((h.2 v0.toNat 10) + (h.2 v0.toNat 11))) 30).toNat)), .inr (.inr (h.2 v0.toNat 7))] h) (fun h1 =>
              bif aok h1.1 v0 11 then
                bif decide (30 ≤ (h1.2 v0.toNat 11)) then
                  bif aok h1.1 v0 11 then
                    bif aok h1.1 v0 11 then
                      some (none, (h1.1, aup h1.2 v0.toNat 10 (orem (w32 ((h1.2 v0.toNat 10) + 1)) 30)))
                    else none
                  else none
                else
                  bif aok h1.1 v0 11 then
                    bif aok h1.1 v0 11 then
                      some (none, (h1.1, aup h1.2 v0.toNat 11 (w32 ((h1.2 v0.toNat 11) + 1))))
                    else none
                  else none
              else none)
            else none
          else none
        else none
      else none
    else none
  else none :=
  (aB gP gX xs stp_147 29 d mm_147 0 _ _ h).trans rfl

theorem c_147 (xs : List Int) (d : Nat) (v0 : Int) (h : aH) : cl xs (d + 1) 147 [.inr (.inr v0)] h =
  bif aok h.1 v0 11 then
    bif aok h.1 v0 11 then
      bif aok h.1 v0 11 then
        bif ain h.1 (h.2 v0.toNat 9) 104 (orem (w32 ((h.2 v0.toNat 10) + (h.2 v0.toNat 11))) 30) then
          bif aok h.1 v0 11 then
            bif aok h.1 (h.2 (h.2 v0.toNat 9).toNat (orem (w32 ((h.2 v0.toNat 10) + (h.2 v0.toNat 11))) 30).toNat) 6 && true then
              bV (cl xs d 74 [.inr (.inr (h.2 (h.2 v0.toNat 9).toNat (orem (w32 ((h.2 v0.toNat 10) + (h.2 v0.toNat 11))) 30).toNat)), .inr (.inr (h.2 v0.toNat 7))] h) (fun h1 =>
              bif aok h1.1 v0 11 then
                bif decide (30 ≤ (h1.2 v0.toNat 11)) then
                  bif aok h1.1 v0 11 then
                    bif aok h1.1 v0 11 then
                      some (none, (h1.1, aup h1.2 v0.toNat 10 (orem (w32 ((h1.2 v0.toNat 10) + 1)) 30)))
                    else none
                  else none
                else
                  bif aok h1.1 v0 11 then
                    bif aok h1.1 v0 11 then
                      some (none, (h1.1, aup h1.2 v0.toNat 11 (w32 ((h1.2 v0.toNat 11) + 1))))
                    else none
                  else none
              else none)
            else none
          else none
        else none
      else none
    else none
  else none :=
  (show _ = ev xs d mm_147 0 [some (.inr (.inr v0)), none] [] h from rfl).trans (q_147_0 xs d v0 h)
def stp_148 : List Nat := [0]
set_option maxRecDepth 100000 in
set_option maxHeartbeats 4000000 in
theorem q_148_0 (xs : List Int) (d : Nat) (v0 : Int) (v1 : Int) (h : aH) : ev xs d mm_148 0 [some (.inr (.inr v0)), some (.inl v1)] [] h =
  bif aok h.1 v0 11 && true then
    bI (cl xs d 136 [.inr (.inr v0), .inl v1] h) (fun x2 h1 =>
    bif decide (¬ x2 = 0) then
      bif aok h1.1 v0 11 && true then
        bV (cl xs d 147 [.inr (.inr v0)] h1) (fun h3 =>
        bif aok h3.1 v0 11 then
          bif aok h3.1 (h3.2 v0.toNat 7) 6 then
            bif aok h3.1 (h3.2 v0.toNat 7) 6 then
              bif aok h3.1 v0 11 && true then
                bV (cl xs d 133 [.inr (.inr v0)] (h3.1, aup h3.2 (h3.2 v0.toNat 7).toNat 0 (oxor (h3.2 (h3.2 v0.toNat 7).toNat 0) (oshl 1 v1)))) (fun h4 =>
                some (some (.inl 1), h4))
              else none
            else none
          else none
        else none)
      else none
    else
      some (some (.inl 0), h1))
  else none :=
  (aB gP gX xs stp_148 20 d mm_148 0 _ _ h).trans rfl

theorem c_148 (xs : List Int) (d : Nat) (v0 : Int) (v1 : Int) (h : aH) : cl xs (d + 1) 148 [.inr (.inr v0), .inl v1] h =
  bif aok h.1 v0 11 && true then
    bI (cl xs d 136 [.inr (.inr v0), .inl v1] h) (fun x2 h1 =>
    bif decide (¬ x2 = 0) then
      bif aok h1.1 v0 11 && true then
        bV (cl xs d 147 [.inr (.inr v0)] h1) (fun h3 =>
        bif aok h3.1 v0 11 then
          bif aok h3.1 (h3.2 v0.toNat 7) 6 then
            bif aok h3.1 (h3.2 v0.toNat 7) 6 then
              bif aok h3.1 v0 11 && true then
                bV (cl xs d 133 [.inr (.inr v0)] (h3.1, aup h3.2 (h3.2 v0.toNat 7).toNat 0 (oxor (h3.2 (h3.2 v0.toNat 7).toNat 0) (oshl 1 v1)))) (fun h4 =>
                some (some (.inl 1), h4))
              else none
            else none
          else none
        else none)
      else none
    else
      some (some (.inl 0), h1))
  else none :=
  (show _ = ev xs d mm_148 0 [some (.inr (.inr v0)), some (.inl v1)] [] h from rfl).trans (q_148_0 xs d v0 v1 h)
def stp_149 : List Nat := [0]
set_option maxRecDepth 100000 in
set_option maxHeartbeats 4000000 in
theorem q_149_0 (xs : List Int) (d : Nat) (v0 : Int) (v1 : Int) (v2 : Int) (h : aH) : ev xs d mm_149 0 [some (.inr (.inr v0)), some (.inl v1), some (.inl v2), none] [] h =
  bif aok h.1 v0 11 && true then
    bI (cl xs d 136 [.inr (.inr v0), .inl v1] h) (fun x2 h1 =>
    bif decide (x2 = 0) then
      some (some (.inl 0), h1)
    else
      bif aok h1.1 v0 11 && true then
        bI (cl xs d 136 [.inr (.inr v0), .inl v2] h1) (fun x4 h3 =>
        bif decide (x4 = 0) then
          some (some (.inl 0), h3)
        else
          bif decide (¬ v1 = v2) then
            bif aok h3.1 v0 11 && true then
              bV (cl xs d 147 [.inr (.inr v0)] h3) (fun h5 =>
              bif aok h5.1 v0 11 then
                bif aok h5.1 (h5.2 v0.toNat 7) 6 then
                  bif ain h5.1 (h5.2 (h5.2 v0.toNat 7).toNat 1) 100 v1 then
                    bif aok h5.1 v0 11 then
                      bif aok h5.1 (h5.2 v0.toNat 7) 6 then
                        bif aok h5.1 v0 11 then
                          bif aok h5.1 (h5.2 v0.toNat 7) 6 then
                            bif ain h5.1 (h5.2 (h5.2 v0.toNat 7).toNat 1) 100 v2 then
                              bif ain h5.1 (h5.2 (h5.2 v0.toNat 7).toNat 1) 100 v1 then
                                bif aok h5.1 v0 11 then
                                  bif aok h5.1 ((aup h5.2 (h5.2 (h5.2 v0.toNat 7).toNat 1).toNat v1.toNat (h5.2 (h5.2 (h5.2 v0.toNat 7).toNat 1).toNat v2.toNat)) v0.toNat 7) 6 then
                                    bif ain h5.1 ((aup h5.2 (h5.2 (h5.2 v0.toNat 7).toNat 1).toNat v1.toNat (h5.2 (h5.2 (h5.2 v0.toNat 7).toNat 1).toNat v2.toNat)) ((aup h5.2 (h5.2 (h5.2 v0.toNat 7).toNat 1).toNat v1.toNat (h5.2 (h5.2 (h5.2 v0.toNat 7).toNat 1).toNat v2.toNat)) v0.toNat 7).toNat 1) 100 v2 then
                                      bif aok h5.1 v0 11 && true then
                                        bV (cl xs d 133 [.inr (.inr v0)] (h5.1, aup (aup h5.2 (h5.2 (h5.2 v0.toNat 7).toNat 1).toNat v1.toNat (h5.2 (h5.2 (h5.2 v0.toNat 7).toNat 1).toNat v2.toNat)) ((aup h5.2 (h5.2 (h5.2 v0.toNat 7).toNat 1).toNat v1.toNat (h5.2 (h5.2 (h5.2 v0.toNat 7).toNat 1).toNat v2.toNat)) ((aup h5.2 (h5.2 (h5.2 v0.toNat 7).toNat 1).toNat v1.toNat (h5.2 (h5.2 (h5.2 v0.toNat 7).toNat 1).toNat v2.toNat)) v0.toNat 7).toNat 1).toNat v2.toNat (h5.2 (h5.2 (h5.2 v0.toNat 7).toNat 1).toNat v1.toNat))) (fun h6 =>
                                        some (some (.inl 1), h6))
                                      else none
                                    else none
                                  else none
                                else none
                              else none
                            else none
                          else none
                        else none
                      else none
                    else none
                  else none
                else none
              else none)
            else none
          else
            some (some (.inl 0), h3))
      else none)
  else none :=
  (aB gP gX xs stp_149 40 d mm_149 0 _ _ h).trans rfl

theorem c_149 (xs : List Int) (d : Nat) (v0 : Int) (v1 : Int) (v2 : Int) (h : aH) : cl xs (d + 1) 149 [.inr (.inr v0), .inl v1, .inl v2] h =
  bif aok h.1 v0 11 && true then
    bI (cl xs d 136 [.inr (.inr v0), .inl v1] h) (fun x2 h1 =>
    bif decide (x2 = 0) then
      some (some (.inl 0), h1)
    else
      bif aok h1.1 v0 11 && true then
        bI (cl xs d 136 [.inr (.inr v0), .inl v2] h1) (fun x4 h3 =>
        bif decide (x4 = 0) then
          some (some (.inl 0), h3)
        else
          bif decide (¬ v1 = v2) then
            bif aok h3.1 v0 11 && true then
              bV (cl xs d 147 [.inr (.inr v0)] h3) (fun h5 =>
              bif aok h5.1 v0 11 then
                bif aok h5.1 (h5.2 v0.toNat 7) 6 then
                  bif ain h5.1 (h5.2 (h5.2 v0.toNat 7).toNat 1) 100 v1 then
                    bif aok h5.1 v0 11 then
                      bif aok h5.1 (h5.2 v0.toNat 7) 6 then
                        bif aok h5.1 v0 11 then
                          bif aok h5.1 (h5.2 v0.toNat 7) 6 then
                            bif ain h5.1 (h5.2 (h5.2 v0.toNat 7).toNat 1) 100 v2 then
                              bif ain h5.1 (h5.2 (h5.2 v0.toNat 7).toNat 1) 100 v1 then
                                bif aok h5.1 v0 11 then
                                  bif aok h5.1 ((aup h5.2 (h5.2 (h5.2 v0.toNat 7).toNat 1).toNat v1.toNat (h5.2 (h5.2 (h5.2 v0.toNat 7).toNat 1).toNat v2.toNat)) v0.toNat 7) 6 then
                                    bif ain h5.1 ((aup h5.2 (h5.2 (h5.2 v0.toNat 7).toNat 1).toNat v1.toNat (h5.2 (h5.2 (h5.2 v0.toNat 7).toNat 1).toNat v2.toNat)) ((aup h5.2 (h5.2 (h5.2 v0.toNat 7).toNat 1).toNat v1.toNat (h5.2 (h5.2 (h5.2 v0.toNat 7).toNat 1).toNat v2.toNat)) v0.toNat 7).toNat 1) 100 v2 then
                                      bif aok h5.1 v0 11 && true then
                                        bV (cl xs d 133 [.inr (.inr v0)] (h5.1, aup (aup h5.2 (h5.2 (h5.2 v0.toNat 7).toNat 1).toNat v1.toNat (h5.2 (h5.2 (h5.2 v0.toNat 7).toNat 1).toNat v2.toNat)) ((aup h5.2 (h5.2 (h5.2 v0.toNat 7).toNat 1).toNat v1.toNat (h5.2 (h5.2 (h5.2 v0.toNat 7).toNat 1).toNat v2.toNat)) ((aup h5.2 (h5.2 (h5.2 v0.toNat 7).toNat 1).toNat v1.toNat (h5.2 (h5.2 (h5.2 v0.toNat 7).toNat 1).toNat v2.toNat)) v0.toNat 7).toNat 1).toNat v2.toNat (h5.2 (h5.2 (h5.2 v0.toNat 7).toNat 1).toNat v1.toNat))) (fun h6 =>
                                        some (some (.inl 1), h6))
                                      else none
                                    else none
                                  else none
                                else none
                              else none
                            else none
                          else none
                        else none
                      else none
                    else none
                  else none
                else none
              else none)
            else none
          else
            some (some (.inl 0), h3))
      else none)
  else none :=
  (show _ = ev xs d mm_149 0 [some (.inr (.inr v0)), some (.inl v1), some (.inl v2), none] [] h from rfl).trans (q_149_0 xs d v0 v1 v2 h)
def stp_150 : List Nat := [0, 150, 166]
set_option maxRecDepth 100000 in
set_option maxHeartbeats 4000000 in
theorem q_150_0 (xs : List Int) (d : Nat) (v0 : Int) (v1 : Int) (h : aH) : ev xs d mm_150 0 [some (.inr (.inr v0)), some (.inl v1), none, none, none, none] [] h =
  bif aok h.1 v0 11 && true then
    bI (cl xs d 135 [.inr (.inr v0), .inl v1] h) (fun x2 h1 =>
    bif decide (¬ x2 = 0) then
      bif aok h1.1 v0 11 then
        bif aok h1.1 (h1.2 v0.toNat 7) 6 then
          bif ain h1.1 (h1.2 (h1.2 v0.toNat 7).toNat 3) 100 v1 then
            bif decide ((h1.2 (h1.2 (h1.2 v0.toNat 7).toNat 3).toNat v1.toNat) = 0) then
              bif aok h1.1 v0 11 && true then
                bV (cl xs d 147 [.inr (.inr v0)] h1) (fun h3 =>
                bif aok h3.1 v0 11 then
                  bif aok h3.1 (h3.2 v0.toNat 7) 6 then
                    bif ain h3.1 (h3.2 (h3.2 v0.toNat 7).toNat 2) 101 v1 then
                      bif aok h3.1 v0 11 && true then
                        bJ (cl xs d 138 [.inr (.inr v0), .inr (.inl (h3.2 (h3.2 (h3.2 v0.toNat 7).toNat 2).toNat v1.toNat))] h3) (fun x5 h4 =>
                        bif aok h4.1 v0 11 then
                          bif aok h4.1 v0 11 then
                            bif aok h4.1 (h4.2 v0.toNat 5) 9 then
                              bif aok h4.1 (h4.2 v0.toNat 14) 10 && true then
                                bV (cl xs d 114 [.inr (.inr (h4.2 v0.toNat 14)), .inr (.inr (h4.2 (h4.2 v0.toNat 5).toNat 4)), .inr (.inl x5)] h4) (fun h6 =>
                                bif aok h6.1 v0 11 then
                                  bif aok h6.1 (h6.2 v0.toNat 5) 9 then
                                    bif aok h6.1 (h6.2 (h6.2 v0.toNat 5).toNat 14) 0 then
                                      bV (cl xs d 318 [.inr (.inr (h6.2 (h6.2 (h6.2 v0.toNat 5).toNat 14).toNat 0)), .inl 0] h6) (fun h7 =>
                                        bif aok h7.1 v0 11 then
                                          bif aok h7.1 v0 11 then
                                            bif aok h7.1 (h7.2 v0.toNat 5) 9 then
                                              bif aok h7.1 (h7.2 v0.toNat 7) 6 && true then
                                                bI (cl xs d 77 [.inr (.inr (h7.2 v0.toNat 7)), .inl (h7.2 (h7.2 v0.toNat 5).toNat 5), .inl 1] h7) (fun x9 h8 =>
                                                bif ain h8.1 (h6.2 (h6.2 (h6.2 v0.toNat 5).toNat 14).toNat 0) 100 4 then
                                                  bif aok h8.1 v0 11 then
                                                    bif aok h8.1 v0 11 then
                                                      bif aok h8.1 ((aup h8.2 (h6.2 (h6.2 (h6.2 v0.toNat 5).toNat 14).toNat 0).toNat (4 : Int).toNat x9) v0.toNat 5) 9 then
                                                        bif aok h8.1 ((aup h8.2 (h6.2 (h6.2 (h6.2 v0.toNat 5).toNat 14).toNat 0).toNat (4 : Int).toNat x9) v0.toNat 7) 6 && true then
                                                          bI (cl xs d 77 [.inr (.inr ((aup h8.2 (h6.2 (h6.2 (h6.2 v0.toNat 5).toNat 14).toNat 0).toNat (4 : Int).toNat x9) v0.toNat 7)), .inl ((aup h8.2 (h6.2 (h6.2 (h6.2 v0.toNat 5).toNat 14).toNat 0).toNat (4 : Int).toNat x9) ((aup h8.2 (h6.2 (h6.2 (h6.2 v0.toNat 5).toNat 14).toNat 0).toNat (4 : Int).toNat x9) v0.toNat 5).toNat 5), .inl 0] (h8.1, aup h8.2 (h6.2 (h6.2 (h6.2 v0.toNat 5).toNat 14).toNat 0).toNat (4 : Int).toNat x9)) (fun x11 h10 =>
                                                          bif ain h10.1 (h6.2 (h6.2 (h6.2 v0.toNat 5).toNat 14).toNat 0) 100 5 then
                                                            bif aok h10.1 v0 11 then
                                                              bif aok h10.1 ((aup h10.2 (h6.2 (h6.2 (h6.2 v0.toNat 5).toNat 14).toNat 0).toNat (5 : Int).toNat x11) v0.toNat 14) 10 then
                                                                bif decide (((aup h10.2 (h6.2 (h6.2 (h6.2 v0.toNat 5).toNat 14).toNat 0).toNat (5 : Int).toNat x11) ((aup h10.2 (h6.2 (h6.2 (h6.2 v0.toNat 5).toNat 14).toNat 0).toNat (5 : Int).toNat x11) v0.toNat 14).toNat 0) ≤ 0) then
                                                                  bI (cl xs d 121 [.inr (.inl x5)] (h10.1, aup h10.2 (h6.2 (h6.2 (h6.2 v0.toNat 5).toNat 14).toNat 0).toNat (5 : Int).toNat x11)) (fun x13 h12 =>
                                                                    bif ain h12.1 (h6.2 (h6.2 (h6.2 v0.toNat 5).toNat 14).toNat 0) 100 3 then
                                                                      ev xs d mm_150 150 [some (.inr (.inr v0)), some (.inl v1), some (.inr (.inl x5)), none, some (.inr (.inr (h6.2 (h6.2 (h6.2 v0.toNat 5).toNat 14).toNat 0))), none] [] (h12.1, aup h12.2 (h6.2 (h6.2 (h6.2 v0.toNat 5).toNat 14).toNat 0).toNat (3 : Int).toNat x13)
                                                                    else none)
                                                                else
                                                                  bif aok h10.1 v0 11 then
                                                                    bif aok h10.1 ((aup h10.2 (h6.2 (h6.2 (h6.2 v0.toNat 5).toNat 14).toNat 0).toNat (5 : Int).toNat x11) v0.toNat 14) 10 then
                                                                      bif ain h10.1 ((aup h10.2 (h6.2 (h6.2 (h6.2 v0.toNat 5).toNat 14).toNat 0).toNat (5 : Int).toNat x11) ((aup h10.2 (h6.2 (h6.2 (h6.2 v0.toNat 5).toNat 14).toNat 0).toNat (5 : Int).toNat x11) v0.toNat 14).toNat 1) 100 0 then
                                                                        bif aok h10.1 v0 11 && true then
                                                                          bV (cl xs d 151 [.inr (.inr v0), .inl ((aup h10.2 (h6.2 (h6.2 (h6.2 v0.toNat 5).toNat 14).toNat 0).toNat (5 : Int).toNat x11) ((aup h10.2 (h6.2 (h6.2 (h6.2 v0.toNat 5).toNat 14).toNat 0).toNat (5 : Int).toNat x11) ((aup h10.2 (h6.2 (h6.2 (h6.2 v0.toNat 5).toNat 14).toNat 0).toNat (5 : Int).toNat x11) v0.toNat 14).toNat 1).toNat (0 : Int).toNat), .inr (.inr (h6.2 (h6.2 (h6.2 v0.toNat 5).toNat 14).toNat 0))] (h10.1, aup h10.2 (h6.2 (h6.2 (h6.2 v0.toNat 5).toNat 14).toNat 0).toNat (5 : Int).toNat x11)) (fun h14 =>
                                                                          ev xs d mm_150 166 [some (.inr (.inr v0)), some (.inl v1), some (.inr (.inl x5)), none, some (.inr (.inr (h6.2 (h6.2 (h6.2 v0.toNat 5).toNat 14).toNat 0))), none] [] h14)
                                                                        else none
                                                                      else none
                                                                    else none
                                                                  else none
                                                              else none
                                                            else none
                                                          else none)
                                                        else none
                                                      else none
                                                    else none
                                                  else none
                                                else none)
                                              else none
                                            else none
                                          else none
                                        else none)
                                    else none
                                  else none
                                else none)
                              else none
                            else none
                          else none
                        else none)
                      else none
                    else none
                  else none
                else none)
              else none
            else
              some (some (.inl (-2)), h1)
          else none
        else none
      else none
    else
      some (some (.inl (-1)), h1))
  else none :=
  (aB gP gX xs stp_150 69 d mm_150 0 _ _ h).trans rfl

set_option maxRecDepth 100000 in
set_option maxHeartbeats 4000000 in
theorem q_150_150 (xs : List Int) (d : Nat) (v0 : Int) (v1 : Int) (v2 : Int) (u3 : Option aV) (v4 : Int) (u5 : Option aV) (h : aH) : ev xs d mm_150 150 [some (.inr (.inr v0)), some (.inl v1), some (.inr (.inl v2)), u3, some (.inr (.inr v4)), u5] [] h =
  bif aok h.1 v0 11 then
    bif aok h.1 (h.2 v0.toNat 7) 6 then
      bif ain h.1 v4 100 3 then
        bif aok h.1 (h.2 v0.toNat 7) 6 then
          ev xs d mm_150 166 [some (.inr (.inr v0)), some (.inl v1), some (.inr (.inl v2)), u3, some (.inr (.inr v4)), u5] [] (h.1, aup h.2 (h.2 v0.toNat 7).toNat 6 (w32 ((h.2 (h.2 v0.toNat 7).toNat 6) + (h.2 v4.toNat (3 : Int).toNat))))
        else none
      else none
    else none
  else none :=
  (aB gP gX xs stp_150 10 d mm_150 150 _ _ h).trans rfl

set_option maxRecDepth 100000 in
set_option maxHeartbeats 4000000 in
theorem q_150_166 (xs : List Int) (d : Nat) (v0 : Int) (v1 : Int) (v2 : Int) (u3 : Option aV) (v4 : Int) (u5 : Option aV) (h : aH) : ev xs d mm_150 166 [some (.inr (.inr v0)), some (.inl v1), some (.inr (.inl v2)), u3, some (.inr (.inr v4)), u5] [] h =
  bif aok h.1 v0 11 then
    bif aok h.1 (h.2 v0.toNat 5) 9 then
      bif aok h.1 (h.2 (h.2 v0.toNat 5).toNat 14) 0 && true then
        bI (cl xs d 3 [.inr (.inr (h.2 (h.2 v0.toNat 5).toNat 14))] h) (fun x2 h1 =>
        bif aok h1.1 v0 11 then
          bif aok h1.1 (h1.2 v0.toNat 7) 6 then
            bif aok h1.1 (h1.2 v0.toNat 7) 6 then
              bif aok h1.1 v0 11 then
                bif aok h1.1 ((aup h1.2 (h1.2 v0.toNat 7).toNat 5 (w32 ((h1.2 (h1.2 v0.toNat 7).toNat 5) + (omax 0 (omin 999 x2))))) v0.toNat 7) 6 then
                  bif ain h1.1 ((aup h1.2 (h1.2 v0.toNat 7).toNat 5 (w32 ((h1.2 (h1.2 v0.toNat 7).toNat 5) + (omax 0 (omin 999 x2))))) ((aup h1.2 (h1.2 v0.toNat 7).toNat 5 (w32 ((h1.2 (h1.2 v0.toNat 7).toNat 5) + (omax 0 (omin 999 x2))))) v0.toNat 7).toNat 3) 100 v1 then
                    some (some (.inl (omax 0 (omin 999 x2))), (h1.1, aup (aup h1.2 (h1.2 v0.toNat 7).toNat 5 (w32 ((h1.2 (h1.2 v0.toNat 7).toNat 5) + (omax 0 (omin 999 x2))))) ((aup h1.2 (h1.2 v0.toNat 7).toNat 5 (w32 ((h1.2 (h1.2 v0.toNat 7).toNat 5) + (omax 0 (omin 999 x2))))) ((aup h1.2 (h1.2 v0.toNat 7).toNat 5 (w32 ((h1.2 (h1.2 v0.toNat 7).toNat 5) + (omax 0 (omin 999 x2))))) v0.toNat 7).toNat 3).toNat v1.toNat 1))
                  else none
                else none
              else none
            else none
          else none
        else none)
      else none
    else none
  else none :=
  (aB gP gX xs stp_150 25 d mm_150 166 _ _ h).trans rfl

theorem c_150 (xs : List Int) (d : Nat) (v0 : Int) (v1 : Int) (h : aH) : cl xs (d + 1) 150 [.inr (.inr v0), .inl v1] h =
  bif aok h.1 v0 11 && true then
    bI (cl xs d 135 [.inr (.inr v0), .inl v1] h) (fun x2 h1 =>
    bif decide (¬ x2 = 0) then
      bif aok h1.1 v0 11 then
        bif aok h1.1 (h1.2 v0.toNat 7) 6 then
          bif ain h1.1 (h1.2 (h1.2 v0.toNat 7).toNat 3) 100 v1 then
            bif decide ((h1.2 (h1.2 (h1.2 v0.toNat 7).toNat 3).toNat v1.toNat) = 0) then
              bif aok h1.1 v0 11 && true then
                bV (cl xs d 147 [.inr (.inr v0)] h1) (fun h3 =>
                bif aok h3.1 v0 11 then
                  bif aok h3.1 (h3.2 v0.toNat 7) 6 then
                    bif ain h3.1 (h3.2 (h3.2 v0.toNat 7).toNat 2) 101 v1 then
                      bif aok h3.1 v0 11 && true then
                        bJ (cl xs d 138 [.inr (.inr v0), .inr (.inl (h3.2 (h3.2 (h3.2 v0.toNat 7).toNat 2).toNat v1.toNat))] h3) (fun x5 h4 =>
                        bif aok h4.1 v0 11 then
                          bif aok h4.1 v0 11 then
                            bif aok h4.1 (h4.2 v0.toNat 5) 9 then
                              bif aok h4.1 (h4.2 v0.toNat 14) 10 && true then
                                bV (cl xs d 114 [.inr (.inr (h4.2 v0.toNat 14)), .inr (.inr (h4.2 (h4.2 v0.toNat 5).toNat 4)), .inr (.inl x5)] h4) (fun h6 =>
                                bif aok h6.1 v0 11 then
                                  bif aok h6.1 (h6.2 v0.toNat 5) 9 then
                                    bif aok h6.1 (h6.2 (h6.2 v0.toNat 5).toNat 14) 0 then
                                      bV (cl xs d 318 [.inr (.inr (h6.2 (h6.2 (h6.2 v0.toNat 5).toNat 14).toNat 0)), .inl 0] h6) (fun h7 =>
                                        bif aok h7.1 v0 11 then
                                          bif aok h7.1 v0 11 then
                                            bif aok h7.1 (h7.2 v0.toNat 5) 9 then
                                              bif aok h7.1 (h7.2 v0.toNat 7) 6 && true then
                                                bI (cl xs d 77 [.inr (.inr (h7.2 v0.toNat 7)), .inl (h7.2 (h7.2 v0.toNat 5).toNat 5), .inl 1] h7) (fun x9 h8 =>
                                                bif ain h8.1 (h6.2 (h6.2 (h6.2 v0.toNat 5).toNat 14).toNat 0) 100 4 then
                                                  bif aok h8.1 v0 11 then
                                                    bif aok h8.1 v0 11 then
                                                      bif aok h8.1 ((aup h8.2 (h6.2 (h6.2 (h6.2 v0.toNat 5).toNat 14).toNat 0).toNat (4 : Int).toNat x9) v0.toNat 5) 9 then
                                                        bif aok h8.1 ((aup h8.2 (h6.2 (h6.2 (h6.2 v0.toNat 5).toNat 14).toNat 0).toNat (4 : Int).toNat x9) v0.toNat 7) 6 && true then
                                                          bI (cl xs d 77 [.inr (.inr ((aup h8.2 (h6.2 (h6.2 (h6.2 v0.toNat 5).toNat 14).toNat 0).toNat (4 : Int).toNat x9) v0.toNat 7)), .inl ((aup h8.2 (h6.2 (h6.2 (h6.2 v0.toNat 5).toNat 14).toNat 0).toNat (4 : Int).toNat x9) ((aup h8.2 (h6.2 (h6.2 (h6.2 v0.toNat 5).toNat 14).toNat 0).toNat (4 : Int).toNat x9) v0.toNat 5).toNat 5), .inl 0] (h8.1, aup h8.2 (h6.2 (h6.2 (h6.2 v0.toNat 5).toNat 14).toNat 0).toNat (4 : Int).toNat x9)) (fun x11 h10 =>
                                                          bif ain h10.1 (h6.2 (h6.2 (h6.2 v0.toNat 5).toNat 14).toNat 0) 100 5 then
                                                            bif aok h10.1 v0 11 then
                                                              bif aok h10.1 ((aup h10.2 (h6.2 (h6.2 (h6.2 v0.toNat 5).toNat 14).toNat 0).toNat (5 : Int).toNat x11) v0.toNat 14) 10 then
                                                                bif decide (((aup h10.2 (h6.2 (h6.2 (h6.2 v0.toNat 5).toNat 14).toNat 0).toNat (5 : Int).toNat x11) ((aup h10.2 (h6.2 (h6.2 (h6.2 v0.toNat 5).toNat 14).toNat 0).toNat (5 : Int).toNat x11) v0.toNat 14).toNat 0) ≤ 0) then
                                                                  bI (cl xs d 121 [.inr (.inl x5)] (h10.1, aup h10.2 (h6.2 (h6.2 (h6.2 v0.toNat 5).toNat 14).toNat 0).toNat (5 : Int).toNat x11)) (fun x13 h12 =>
                                                                    bif ain h12.1 (h6.2 (h6.2 (h6.2 v0.toNat 5).toNat 14).toNat 0) 100 3 then
                                                                      ev xs d mm_150 150 [some (.inr (.inr v0)), some (.inl v1), some (.inr (.inl x5)), none, some (.inr (.inr (h6.2 (h6.2 (h6.2 v0.toNat 5).toNat 14).toNat 0))), none] [] (h12.1, aup h12.2 (h6.2 (h6.2 (h6.2 v0.toNat 5).toNat 14).toNat 0).toNat (3 : Int).toNat x13)
                                                                    else none)
                                                                else
                                                                  bif aok h10.1 v0 11 then
                                                                    bif aok h10.1 ((aup h10.2 (h6.2 (h6.2 (h6.2 v0.toNat 5).toNat 14).toNat 0).toNat (5 : Int).toNat x11) v0.toNat 14) 10 then
                                                                      bif ain h10.1 ((aup h10.2 (h6.2 (h6.2 (h6.2 v0.toNat 5).toNat 14).toNat 0).toNat (5 : Int).toNat x11) ((aup h10.2 (h6.2 (h6.2 (h6.2 v0.toNat 5).toNat 14).toNat 0).toNat (5 : Int).toNat x11) v0.toNat 14).toNat 1) 100 0 then
                                                                        bif aok h10.1 v0 11 && true then
                                                                          bV (cl xs d 151 [.inr (.inr v0), .inl ((aup h10.2 (h6.2 (h6.2 (h6.2 v0.toNat 5).toNat 14).toNat 0).toNat (5 : Int).toNat x11) ((aup h10.2 (h6.2 (h6.2 (h6.2 v0.toNat 5).toNat 14).toNat 0).toNat (5 : Int).toNat x11) ((aup h10.2 (h6.2 (h6.2 (h6.2 v0.toNat 5).toNat 14).toNat 0).toNat (5 : Int).toNat x11) v0.toNat 14).toNat 1).toNat (0 : Int).toNat), .inr (.inr (h6.2 (h6.2 (h6.2 v0.toNat 5).toNat 14).toNat 0))] (h10.1, aup h10.2 (h6.2 (h6.2 (h6.2 v0.toNat 5).toNat 14).toNat 0).toNat (5 : Int).toNat x11)) (fun h14 =>
                                                                          ev xs d mm_150 166 [some (.inr (.inr v0)), some (.inl v1), some (.inr (.inl x5)), none, some (.inr (.inr (h6.2 (h6.2 (h6.2 v0.toNat 5).toNat 14).toNat 0))), none] [] h14)
                                                                        else none
                                                                      else none
                                                                    else none
                                                                  else none
                                                              else none
                                                            else none
                                                          else none)
                                                        else none
                                                      else none
                                                    else none
                                                  else none
                                                else none)
                                              else none
                                            else none
                                          else none
                                        else none)
                                    else none
                                  else none
                                else none)
                              else none
                            else none
                          else none
                        else none)
                      else none
                    else none
                  else none
                else none)
              else none
            else
              some (some (.inl (-2)), h1)
          else none
        else none
      else none
    else
      some (some (.inl (-1)), h1))
  else none :=
  (show _ = ev xs d mm_150 0 [some (.inr (.inr v0)), some (.inl v1), none, none, none, none] [] h from rfl).trans (q_150_0 xs d v0 v1 h)
def stp_151 : List Nat := [0, 2, 81]
set_option maxRecDepth 100000 in
set_option maxHeartbeats 4000000 in
theorem q_151_0 (xs : List Int) (d : Nat) (v0 : Int) (v1 : Int) (v2 : Int) (h : aH) : ev xs d mm_151 0 [some (.inr (.inr v0)), some (.inl v1), some (.inr (.inr v2)), none, none, none] [] h =
  ev xs d mm_151 2 [some (.inr (.inr v0)), some (.inl v1), some (.inr (.inr v2)), some (.inl 0), none, none] [] h :=
  (aB gP gX xs stp_151 3 d mm_151 0 _ _ h).trans rfl

set_option maxRecDepth 100000 in
set_option maxHeartbeats 4000000 in
theorem q_151_2 (xs : List Int) (d : Nat) (v0 : Int) (v1 : Int) (v2 : Int) (v3 : Int) (u4 : Option aV) (u5 : Option aV) (h : aH) : ev xs d mm_151 2 [some (.inr (.inr v0)), some (.inl v1), some (.inr (.inr v2)), some (.inl v3), u4, u5] [] h =
  bif decide (4 ≤ v3) then
    some (none, h)
  else
    bI (cl xs d 119 [.inl v1, .inl v3] h) (fun x2 h1 =>
      bif decide (x2 < 0) then
        ev xs d mm_151 2 [some (.inr (.inr v0)), some (.inl v1), some (.inr (.inr v2)), some (.inl (w32 (v3 + 1))), some (.inl x2), u5] [] h1
      else
        bif decide (24 ≤ x2) then
          ev xs d mm_151 2 [some (.inr (.inr v0)), some (.inl v1), some (.inr (.inr v2)), some (.inl (w32 (v3 + 1))), some (.inl x2), u5] [] h1
        else
          bif aok h1.1 v0 11 then
            bif aok h1.1 (h1.2 v0.toNat 7) 6 then
              bif ain h1.1 (h1.2 (h1.2 v0.toNat 7).toNat 4) 100 x2 then
                bif ain h1.1 (h1.2 (h1.2 v0.toNat 7).toNat 4) 100 x2 then
                  bif ain h1.1 v2 100 2 then
                    bif aok h1.1 v0 11 then
                      bif aok h1.1 ((aup h1.2 (h1.2 (h1.2 v0.toNat 7).toNat 4).toNat x2.toNat (w32 ((h1.2 (h1.2 (h1.2 v0.toNat 7).toNat 4).toNat x2.toNat) + 1))) v0.toNat 5) 9 then
                        bif aok h1.1 ((aup h1.2 (h1.2 (h1.2 v0.toNat 7).toNat 4).toNat x2.toNat (w32 ((h1.2 (h1.2 (h1.2 v0.toNat 7).toNat 4).toNat x2.toNat) + 1))) ((aup h1.2 (h1.2 (h1.2 v0.toNat 7).toNat 4).toNat x2.toNat (w32 ((h1.2 (h1.2 (h1.2 v0.toNat 7).toNat 4).toNat x2.toNat) + 1))) v0.toNat 5).toNat 4) 3 then
                          bif ain h1.1 ((aup h1.2 (h1.2 (h1.2 v0.toNat 7).toNat 4).toNat x2.toNat (w32 ((h1.2 (h1.2 (h1.2 v0.toNat 7).toNat 4).toNat x2.toNat) + 1))) ((aup h1.2 (h1.2 (h1.2 v0.toNat 7).toNat 4).toNat x2.toNat (w32 ((h1.2 (h1.2 (h1.2 v0.toNat 7).toNat 4).toNat x2.toNat) + 1))) ((aup h1.2 (h1.2 (h1.2 v0.toNat 7).toNat 4).toNat x2.toNat (w32 ((h1.2 (h1.2 (h1.2 v0.toNat 7).toNat 4).toNat x2.toNat) + 1))) v0.toNat 5).toNat 4).toNat 2) 100 x2 then
                            bif ain h1.1 v2 100 2 then
                              bif ain h1.1 v2 100 0 then
                                bif decide (¬ (odiv x2 8) = 1) then
                                  ev xs d mm_151 81 [some (.inr (.inr v0)), some (.inl v1), some (.inr (.inr v2)), some (.inl v3), some (.inl x2), some (.inl (odiv x2 8))] [.inl 0, .inl ((aup (aup h1.2 (h1.2 (h1.2 v0.toNat 7).toNat 4).toNat x2.toNat (w32 ((h1.2 (h1.2 (h1.2 v0.toNat 7).toNat 4).toNat x2.toNat) + 1))) v2.toNat (2 : Int).toNat (w32 (((aup h1.2 (h1.2 (h1.2 v0.toNat 7).toNat 4).toNat x2.toNat (w32 ((h1.2 (h1.2 (h1.2 v0.toNat 7).toNat 4).toNat x2.toNat) + 1))) v2.toNat (2 : Int).toNat) + ((aup h1.2 (h1.2 (h1.2 v0.toNat 7).toNat 4).toNat x2.toNat (w32 ((h1.2 (h1.2 (h1.2 v0.toNat 7).toNat 4).toNat x2.toNat) + 1))) ((aup h1.2 (h1.2 (h1.2 v0.toNat 7).toNat 4).toNat x2.toNat (w32 ((h1.2 (h1.2 (h1.2 v0.toNat 7).toNat 4).toNat x2.toNat) + 1))) ((aup h1.2 (h1.2 (h1.2 v0.toNat 7).toNat 4).toNat x2.toNat (w32 ((h1.2 (h1.2 (h1.2 v0.toNat 7).toNat 4).toNat x2.toNat) + 1))) ((aup h1.2 (h1.2 (h1.2 v0.toNat 7).toNat 4).toNat x2.toNat (w32 ((h1.2 (h1.2 (h1.2 v0.toNat 7).toNat 4).toNat x2.toNat) + 1))) v0.toNat 5).toNat 4).toNat 2).toNat x2.toNat)))) v2.toNat (0 : Int).toNat), .inl 0, .inr (.inr v2)] (h1.1, aup (aup h1.2 (h1.2 (h1.2 v0.toNat 7).toNat 4).toNat x2.toNat (w32 ((h1.2 (h1.2 (h1.2 v0.toNat 7).toNat 4).toNat x2.toNat) + 1))) v2.toNat (2 : Int).toNat (w32 (((aup h1.2 (h1.2 (h1.2 v0.toNat 7).toNat 4).toNat x2.toNat (w32 ((h1.2 (h1.2 (h1.2 v0.toNat 7).toNat 4).toNat x2.toNat) + 1))) v2.toNat (2 : Int).toNat) + ((aup h1.2 (h1.2 (h1.2 v0.toNat 7).toNat 4).toNat x2.toNat (w32 ((h1.2 (h1.2 (h1.2 v0.toNat 7).toNat 4).toNat x2.toNat) + 1))) ((aup h1.2 (h1.2 (h1.2 v0.toNat 7).toNat 4).toNat x2.toNat (w32 ((h1.2 (h1.2 (h1.2 v0.toNat 7).toNat 4).toNat x2.toNat) + 1))) ((aup h1.2 (h1.2 (h1.2 v0.toNat 7).toNat 4).toNat x2.toNat (w32 ((h1.2 (h1.2 (h1.2 v0.toNat 7).toNat 4).toNat x2.toNat) + 1))) ((aup h1.2 (h1.2 (h1.2 v0.toNat 7).toNat 4).toNat x2.toNat (w32 ((h1.2 (h1.2 (h1.2 v0.toNat 7).toNat 4).toNat x2.toNat) + 1))) v0.toNat 5).toNat 4).toNat 2).toNat x2.toNat))))
                                else
                                  ev xs d mm_151 81 [some (.inr (.inr v0)), some (.inl v1), some (.inr (.inr v2)), some (.inl v3), some (.inl x2), some (.inl (odiv x2 8))] [.inl 1, .inl ((aup (aup h1.2 (h1.2 (h1.2 v0.toNat 7).toNat 4).toNat x2.toNat (w32 ((h1.2 (h1.2 (h1.2 v0.toNat 7).toNat 4).toNat x2.toNat) + 1))) v2.toNat (2 : Int).toNat (w32 (((aup h1.2 (h1.2 (h1.2 v0.toNat 7).toNat 4).toNat x2.toNat (w32 ((h1.2 (h1.2 (h1.2 v0.toNat 7).toNat 4).toNat x2.toNat) + 1))) v2.toNat (2 : Int).toNat) + ((aup h1.2 (h1.2 (h1.2 v0.toNat 7).toNat 4).toNat x2.toNat (w32 ((h1.2 (h1.2 (h1.2 v0.toNat 7).toNat 4).toNat x2.toNat) + 1))) ((aup h1.2 (h1.2 (h1.2 v0.toNat 7).toNat 4).toNat x2.toNat (w32 ((h1.2 (h1.2 (h1.2 v0.toNat 7).toNat 4).toNat x2.toNat) + 1))) ((aup h1.2 (h1.2 (h1.2 v0.toNat 7).toNat 4).toNat x2.toNat (w32 ((h1.2 (h1.2 (h1.2 v0.toNat 7).toNat 4).toNat x2.toNat) + 1))) ((aup h1.2 (h1.2 (h1.2 v0.toNat 7).toNat 4).toNat x2.toNat (w32 ((h1.2 (h1.2 (h1.2 v0.toNat 7).toNat 4).toNat x2.toNat) + 1))) v0.toNat 5).toNat 4).toNat 2).toNat x2.toNat)))) v2.toNat (0 : Int).toNat), .inl 0, .inr (.inr v2)] (h1.1, aup (aup h1.2 (h1.2 (h1.2 v0.toNat 7).toNat 4).toNat x2.toNat (w32 ((h1.2 (h1.2 (h1.2 v0.toNat 7).toNat 4).toNat x2.toNat) + 1))) v2.toNat (2 : Int).toNat (w32 (((aup h1.2 (h1.2 (h1.2 v0.toNat 7).toNat 4).toNat x2.toNat (w32 ((h1.2 (h1.2 (h1.2 v0.toNat 7).toNat 4).toNat x2.toNat) + 1))) v2.toNat (2 : Int).toNat) + ((aup h1.2 (h1.2 (h1.2 v0.toNat 7).toNat 4).toNat x2.toNat (w32 ((h1.2 (h1.2 (h1.2 v0.toNat 7).toNat 4).toNat x2.toNat) + 1))) ((aup h1.2 (h1.2 (h1.2 v0.toNat 7).toNat 4).toNat x2.toNat (w32 ((h1.2 (h1.2 (h1.2 v0.toNat 7).toNat 4).toNat x2.toNat) + 1))) ((aup h1.2 (h1.2 (h1.2 v0.toNat 7).toNat 4).toNat x2.toNat (w32 ((h1.2 (h1.2 (h1.2 v0.toNat 7).toNat 4).toNat x2.toNat) + 1))) ((aup h1.2 (h1.2 (h1.2 v0.toNat 7).toNat 4).toNat x2.toNat (w32 ((h1.2 (h1.2 (h1.2 v0.toNat 7).toNat 4).toNat x2.toNat) + 1))) v0.toNat 5).toNat 4).toNat 2).toNat x2.toNat))))
                              else none
                            else none
                          else none
                        else none
                      else none
                    else none
                  else none
                else none
              else none
            else none
          else none) :=
  (aB gP gX xs stp_151 47 d mm_151 2 _ _ h).trans rfl

set_option maxRecDepth 100000 in
set_option maxHeartbeats 4000000 in
theorem q_151_81 (xs : List Int) (d : Nat) (v0 : Int) (v1 : Int) (v2 : Int) (v3 : Int) (v4 : Int) (v5 : Int) (s0 : Int) (s1 : Int) (s2 : Int) (s3 : Int) (h : aH) : ev xs d mm_151 81 [some (.inr (.inr v0)), some (.inl v1), some (.inr (.inr v2)), some (.inl v3), some (.inl v4), some (.inl v5)] [.inl s3, .inl s2, .inl s1, .inr (.inr s0)] h =
  bif ain h.1 s0 100 s1 then
    bif ain h.1 v2 100 1 then
      bif decide (¬ v5 = 2) then
        bif ain h.1 v2 100 1 then
          ev xs d mm_151 2 [some (.inr (.inr v0)), some (.inl v1), some (.inr (.inr v2)), some (.inl (w32 (v3 + 1))), some (.inl v4), some (.inl v5)] [] (h.1, aup (aup h.2 s0.toNat s1.toNat (w32 (s2 + s3))) v2.toNat (1 : Int).toNat (w32 (((aup h.2 s0.toNat s1.toNat (w32 (s2 + s3))) v2.toNat (1 : Int).toNat) + 0)))
        else none
      else
        bif ain h.1 v2 100 1 then
          ev xs d mm_151 2 [some (.inr (.inr v0)), some (.inl v1), some (.inr (.inr v2)), some (.inl (w32 (v3 + 1))), some (.inl v4), some (.inl v5)] [] (h.1, aup (aup h.2 s0.toNat s1.toNat (w32 (s2 + s3))) v2.toNat (1 : Int).toNat (w32 (((aup h.2 s0.toNat s1.toNat (w32 (s2 + s3))) v2.toNat (1 : Int).toNat) + 1)))
        else none
    else none
  else none :=
  (aB gP gX xs stp_151 16 d mm_151 81 _ _ h).trans rfl

theorem c_151 (xs : List Int) (d : Nat) (v0 : Int) (v1 : Int) (v2 : Int) (h : aH) : cl xs (d + 1) 151 [.inr (.inr v0), .inl v1, .inr (.inr v2)] h =
  ev xs d mm_151 2 [some (.inr (.inr v0)), some (.inl v1), some (.inr (.inr v2)), some (.inl 0), none, none] [] h :=
  (show _ = ev xs d mm_151 0 [some (.inr (.inr v0)), some (.inl v1), some (.inr (.inr v2)), none, none, none] [] h from rfl).trans (q_151_0 xs d v0 v1 v2 h)
def stp_152 : List Nat := [0, 47, 121]
set_option maxRecDepth 100000 in
set_option maxHeartbeats 4000000 in
theorem q_152_0 (xs : List Int) (d : Nat) (v0 : Int) (v1 : Int) (h : aH) : ev xs d mm_152 0 [some (.inr (.inr v0)), some (.inl v1), none] [] h =
  bif decide (v1 < 0) then
    some (some (.inl 0), h)
  else
    bif aok h.1 v0 11 then
      bif aok h.1 (h.2 v0.toNat 5) 9 then
        bif decide ((h.2 (h.2 v0.toNat 5).toNat 11) ≤ v1) then
          some (some (.inl 0), h)
        else
          bif aok h.1 v0 11 then
            bif aok h.1 (h.2 v0.toNat 7) 6 then
              bif decide (¬ (oand (oushr (h.2 (h.2 v0.toNat 7).toNat 8) v1) 1) = 0) then
                some (some (.inl 0), h)
              else
                bif aok h.1 v0 11 && true then
                  bI (cl xs d 153 [.inr (.inr v0), .inl (oshl 1 v1)] h) (fun x2 h1 =>
                  bif decide (¬ x2 = 0) then
                    bif aok h1.1 v0 11 && true then
                      bV (cl xs d 147 [.inr (.inr v0)] h1) (fun h3 =>
                      ev xs d mm_152 47 [some (.inr (.inr v0)), some (.inl v1), some (.inl 0)] [] h3)
                    else none
                  else
                    some (some (.inl 0), h1))
                else none
            else none
          else none
      else none
    else none :=
  (aB gP gX xs stp_152 26 d mm_152 0 _ _ h).trans rfl

set_option maxRecDepth 100000 in
set_option maxHeartbeats 4000000 in
theorem q_152_47 (xs : List Int) (d : Nat) (v0 : Int) (v1 : Int) (v2 : Int) (h : aH) : ev xs d mm_152 47 [some (.inr (.inr v0)), some (.inl v1), some (.inl v2)] [] h =
  bif decide (24 ≤ v2) then
    bif aok h.1 v0 11 then
      bif aok h.1 (h.2 v0.toNat 7) 6 then
        bif aok h.1 v0 11 then
          bif aok h.1 (h.2 v0.toNat 5) 9 then
            bif ain h.1 (h.2 (h.2 v0.toNat 5).toNat 12) 100 v1 then
              bif aok h.1 (h.2 v0.toNat 7) 6 then
                bif aok h.1 v0 11 then
                  bif aok h.1 ((aup h.2 (h.2 v0.toNat 7).toNat 5 (w32 ((h.2 (h.2 v0.toNat 7).toNat 5) + (h.2 (h.2 (h.2 v0.toNat 5).toNat 12).toNat v1.toNat)))) v0.toNat 7) 6 then
                    bif aok h.1 ((aup h.2 (h.2 v0.toNat 7).toNat 5 (w32 ((h.2 (h.2 v0.toNat 7).toNat 5) + (h.2 (h.2 (h.2 v0.toNat 5).toNat 12).toNat v1.toNat)))) v0.toNat 7) 6 then
                      ev xs d mm_152 121 [some (.inr (.inr v0)), some (.inl v1), some (.inl v2)] [] (h.1, aup (aup h.2 (h.2 v0.toNat 7).toNat 5 (w32 ((h.2 (h.2 v0.toNat 7).toNat 5) + (h.2 (h.2 (h.2 v0.toNat 5).toNat 12).toNat v1.toNat)))) ((aup h.2 (h.2 v0.toNat 7).toNat 5 (w32 ((h.2 (h.2 v0.toNat 7).toNat 5) + (h.2 (h.2 (h.2 v0.toNat 5).toNat 12).toNat v1.toNat)))) v0.toNat 7).toNat 8 (oor ((aup h.2 (h.2 v0.toNat 7).toNat 5 (w32 ((h.2 (h.2 v0.toNat 7).toNat 5) + (h.2 (h.2 (h.2 v0.toNat 5).toNat 12).toNat v1.toNat)))) ((aup h.2 (h.2 v0.toNat 7).toNat 5 (w32 ((h.2 (h.2 v0.toNat 7).toNat 5) + (h.2 (h.2 (h.2 v0.toNat 5).toNat 12).toNat v1.toNat)))) v0.toNat 7).toNat 8) (oshl 1 v1)))
                    else none
                  else none
                else none
              else none
            else none
          else none
        else none
      else none
    else none
  else
    bif aok h.1 v0 11 then
      bif aok h.1 (h.2 v0.toNat 7) 6 then
        bif ain h.1 (h.2 (h.2 v0.toNat 7).toNat 4) 100 v2 then
          bif aok h.1 v0 11 then
            bif aok h.1 (h.2 v0.toNat 5) 9 then
              bif ain h.1 (h.2 (h.2 v0.toNat 5).toNat 13) 100 (w32 ((w32 (v1 * 24)) + v2)) then
                bif ain h.1 (h.2 (h.2 v0.toNat 7).toNat 4) 100 v2 then
                  ev xs d mm_152 47 [some (.inr (.inr v0)), some (.inl v1), some (.inl (w32 (v2 + 1)))] [] (h.1, aup h.2 (h.2 (h.2 v0.toNat 7).toNat 4).toNat v2.toNat (w32 ((h.2 (h.2 (h.2 v0.toNat 7).toNat 4).toNat v2.toNat) - (h.2 (h.2 (h.2 v0.toNat 5).toNat 13).toNat (w32 ((w32 (v1 * 24)) + v2)).toNat))))
                else none
              else none
            else none
          else none
        else none
      else none
    else none :=
  (aB gP gX xs stp_152 24 d mm_152 47 _ _ h).trans rfl

set_option maxRecDepth 100000 in
set_option maxHeartbeats 4000000 in
theorem q_152_121 (xs : List Int) (d : Nat) (v0 : Int) (v1 : Int) (v2 : Int) (h : aH) : ev xs d mm_152 121 [some (.inr (.inr v0)), some (.inl v1), some (.inl v2)] [] h =
  some (some (.inl 1), h) :=
  (aB gP gX xs stp_152 3 d mm_152 121 _ _ h).trans rfl

theorem c_152 (xs : List Int) (d : Nat) (v0 : Int) (v1 : Int) (h : aH) : cl xs (d + 1) 152 [.inr (.inr v0), .inl v1] h =
  bif decide (v1 < 0) then
    some (some (.inl 0), h)
  else
    bif aok h.1 v0 11 then
      bif aok h.1 (h.2 v0.toNat 5) 9 then
        bif decide ((h.2 (h.2 v0.toNat 5).toNat 11) ≤ v1) then
          some (some (.inl 0), h)
        else
          bif aok h.1 v0 11 then
            bif aok h.1 (h.2 v0.toNat 7) 6 then
              bif decide (¬ (oand (oushr (h.2 (h.2 v0.toNat 7).toNat 8) v1) 1) = 0) then
                some (some (.inl 0), h)
              else
                bif aok h.1 v0 11 && true then
                  bI (cl xs d 153 [.inr (.inr v0), .inl (oshl 1 v1)] h) (fun x2 h1 =>
                  bif decide (¬ x2 = 0) then
                    bif aok h1.1 v0 11 && true then
                      bV (cl xs d 147 [.inr (.inr v0)] h1) (fun h3 =>
                      ev xs d mm_152 47 [some (.inr (.inr v0)), some (.inl v1), some (.inl 0)] [] h3)
                    else none
                  else
                    some (some (.inl 0), h1))
                else none
            else none
          else none
      else none
    else none :=
  (show _ = ev xs d mm_152 0 [some (.inr (.inr v0)), some (.inl v1), none] [] h from rfl).trans (q_152_0 xs d v0 v1 h)
def stp_153 : List Nat := [0, 2]
set_option maxRecDepth 100000 in
set_option maxHeartbeats 4000000 in
theorem q_153_0 (xs : List Int) (d : Nat) (v0 : Int) (v1 : Int) (h : aH) : ev xs d mm_153 0 [some (.inr (.inr v0)), some (.inl v1), none] [] h =
  ev xs d mm_153 2 [some (.inr (.inr v0)), some (.inl v1), some (.inl 0)] [] h :=
  (aB gP gX xs stp_153 3 d mm_153 0 _ _ h).trans rfl

set_option maxRecDepth 100000 in
set_option maxHeartbeats 4000000 in
theorem q_153_2 (xs : List Int) (d : Nat) (v0 : Int) (v1 : Int) (v2 : Int) (h : aH) : ev xs d mm_153 2 [some (.inr (.inr v0)), some (.inl v1), some (.inl v2)] [] h =
  bif decide (24 ≤ v2) then
    some (some (.inl 1), h)
  else
    bif aok h.1 v0 11 then
      bif aok h.1 (h.2 v0.toNat 5) 9 && true then
        bI (cl xs d 111 [.inr (.inr (h.2 v0.toNat 5)), .inl v1, .inl v2] h) (fun x2 h1 =>
        bif aok h1.1 v0 11 then
          bif aok h1.1 (h1.2 v0.toNat 7) 6 then
            bif ain h1.1 (h1.2 (h1.2 v0.toNat 7).toNat 4) 100 v2 then
              bif decide (x2 ≤ (h1.2 (h1.2 (h1.2 v0.toNat 7).toNat 4).toNat v2.toNat)) then
                ev xs d mm_153 2 [some (.inr (.inr v0)), some (.inl v1), some (.inl (w32 (v2 + 1)))] [] h1
              else
                some (some (.inl 0), h1)
            else none
          else none
        else none)
      else none
    else none :=
  (aB gP gX xs stp_153 17 d mm_153 2 _ _ h).trans rfl

theorem c_153 (xs : List Int) (d : Nat) (v0 : Int) (v1 : Int) (h : aH) : cl xs (d + 1) 153 [.inr (.inr v0), .inl v1] h =
  ev xs d mm_153 2 [some (.inr (.inr v0)), some (.inl v1), some (.inl 0)] [] h :=
  (show _ = ev xs d mm_153 0 [some (.inr (.inr v0)), some (.inl v1), none] [] h from rfl).trans (q_153_0 xs d v0 v1 h)
def stp_154 : List Nat := [0]
set_option maxRecDepth 100000 in
set_option maxHeartbeats 4000000 in
theorem q_154_0 (xs : List Int) (d : Nat) (v0 : Int) (v1 : Int) (h : aH) : ev xs d mm_154 0 [some (.inr (.inr v0)), some (.inl v1)] [] h =
  bif decide (v1 < 0) then
    some (some (.inl (-1)), h)
  else
    bif decide (v1 ≤ 100) then
      bif decide (v1 ≤ 0) then
        bif aok h.1 v0 11 then
          bif aok h.1 (h.2 v0.toNat 7) 6 then
            some (some (.inl (h.2 (h.2 v0.toNat 7).toNat 7)), h)
          else none
        else none
      else
        bif aok h.1 v0 11 && true then
          bV (cl xs d 147 [.inr (.inr v0)] h) (fun h1 =>
          bif aok h1.1 v0 11 then
            bif aok h1.1 v0 11 then
              bif aok h1.1 (h1.2 v0.toNat 7) 6 && true then
                bV (cl xs d 79 [.inr (.inr (h1.2 v0.toNat 7)), .inr (.inr (h1.2 v0.toNat 5)), .inl v1] h1) (fun h2 =>
                bif aok h2.1 v0 11 then
                  bif aok h2.1 (h2.2 v0.toNat 7) 6 then
                    some (some (.inl (h2.2 (h2.2 v0.toNat 7).toNat 7)), h2)
                  else none
                else none)
              else none
            else none
          else none)
        else none
    else
      some (some (.inl (-1)), h) :=
  (aB gP gX xs stp_154 20 d mm_154 0 _ _ h).trans rfl

theorem c_154 (xs : List Int) (d : Nat) (v0 : Int) (v1 : Int) (h : aH) : cl xs (d + 1) 154 [.inr (.inr v0), .inl v1] h =
  bif decide (v1 < 0) then
    some (some (.inl (-1)), h)
  else
    bif decide (v1 ≤ 100) then
      bif decide (v1 ≤ 0) then
        bif aok h.1 v0 11 then
          bif aok h.1 (h.2 v0.toNat 7) 6 then
            some (some (.inl (h.2 (h.2 v0.toNat 7).toNat 7)), h)
          else none
        else none
      else
        bif aok h.1 v0 11 && true then
          bV (cl xs d 147 [.inr (.inr v0)] h) (fun h1 =>
          bif aok h1.1 v0 11 then
            bif aok h1.1 v0 11 then
              bif aok h1.1 (h1.2 v0.toNat 7) 6 && true then
                bV (cl xs d 79 [.inr (.inr (h1.2 v0.toNat 7)), .inr (.inr (h1.2 v0.toNat 5)), .inl v1] h1) (fun h2 =>
                bif aok h2.1 v0 11 then
                  bif aok h2.1 (h2.2 v0.toNat 7) 6 then
                    some (some (.inl (h2.2 (h2.2 v0.toNat 7).toNat 7)), h2)
                  else none
                else none)
              else none
            else none
          else none)
        else none
    else
      some (some (.inl (-1)), h) :=
  (show _ = ev xs d mm_154 0 [some (.inr (.inr v0)), some (.inl v1)] [] h from rfl).trans (q_154_0 xs d v0 v1 h)
def stp_155 : List Nat := [0]
set_option maxRecDepth 100000 in
set_option maxHeartbeats 4000000 in
theorem q_155_0 (xs : List Int) (d : Nat) (v0 : Int) (h : aH) : ev xs d mm_155 0 [some (.inr (.inr v0))] [] h =
  bif aok h.1 v0 11 then
    bif decide (0 < (h.2 v0.toNat 11)) then
      bif aok h.1 v0 11 then
        bif aok h.1 v0 11 then
          bif aok h.1 v0 11 then
            bif aok h.1 v0 11 then
              bif aok h.1 v0 11 then
                bif aok h.1 v0 11 then
                  bif ain h.1 ((aup h.2 v0.toNat 11 (w32 ((h.2 v0.toNat 11) - 1))) v0.toNat 9) 104 (orem (w32 (((aup h.2 v0.toNat 11 (w32 ((h.2 v0.toNat 11) - 1))) v0.toNat 10) + ((aup h.2 v0.toNat 11 (w32 ((h.2 v0.toNat 11) - 1))) v0.toNat 11))) 30) then
                    bif aok h.1 ((aup h.2 v0.toNat 11 (w32 ((h.2 v0.toNat 11) - 1))) v0.toNat 7) 6 && true then
                      bV (cl xs d 74 [.inr (.inr ((aup h.2 v0.toNat 11 (w32 ((h.2 v0.toNat 11) - 1))) v0.toNat 7)), .inr (.inr ((aup h.2 v0.toNat 11 (w32 ((h.2 v0.toNat 11) - 1))) ((aup h.2 v0.toNat 11 (w32 ((h.2 v0.toNat 11) - 1))) v0.toNat 9).toNat (orem (w32 (((aup h.2 v0.toNat 11 (w32 ((h.2 v0.toNat 11) - 1))) v0.toNat 10) + ((aup h.2 v0.toNat 11 (w32 ((h.2 v0.toNat 11) - 1))) v0.toNat 11))) 30).toNat))] (h.1, aup h.2 v0.toNat 11 (w32 ((h.2 v0.toNat 11) - 1)))) (fun h1 =>
                      bif aok h1.1 v0 11 && true then
                        bV (cl xs d 133 [.inr (.inr v0)] h1) (fun h2 =>
                        some (some (.inl 1), h2))
                      else none)
                    else none
                  else none
                else none
              else none
            else none
          else none
        else none
      else none
    else
      some (some (.inl 0), h)
  else none :=
  (aB gP gX xs stp_155 27 d mm_155 0 _ _ h).trans rfl

theorem c_155 (xs : List Int) (d : Nat) (v0 : Int) (h : aH) : cl xs (d + 1) 155 [.inr (.inr v0)] h =
  bif aok h.1 v0 11 then
    bif decide (0 < (h.2 v0.toNat 11)) then
      bif aok h.1 v0 11 then
        bif aok h.1 v0 11 then
          bif aok h.1 v0 11 then
            bif aok h.1 v0 11 then
              bif aok h.1 v0 11 then
                bif aok h.1 v0 11 then
                  bif ain h.1 ((aup h.2 v0.toNat 11 (w32 ((h.2 v0.toNat 11) - 1))) v0.toNat 9) 104 (orem (w32 (((aup h.2 v0.toNat 11 (w32 ((h.2 v0.toNat 11) - 1))) v0.toNat 10) + ((aup h.2 v0.toNat 11 (w32 ((h.2 v0.toNat 11) - 1))) v0.toNat 11))) 30) then
                    bif aok h.1 ((aup h.2 v0.toNat 11 (w32 ((h.2 v0.toNat 11) - 1))) v0.toNat 7) 6 && true then
                      bV (cl xs d 74 [.inr (.inr ((aup h.2 v0.toNat 11 (w32 ((h.2 v0.toNat 11) - 1))) v0.toNat 7)), .inr (.inr ((aup h.2 v0.toNat 11 (w32 ((h.2 v0.toNat 11) - 1))) ((aup h.2 v0.toNat 11 (w32 ((h.2 v0.toNat 11) - 1))) v0.toNat 9).toNat (orem (w32 (((aup h.2 v0.toNat 11 (w32 ((h.2 v0.toNat 11) - 1))) v0.toNat 10) + ((aup h.2 v0.toNat 11 (w32 ((h.2 v0.toNat 11) - 1))) v0.toNat 11))) 30).toNat))] (h.1, aup h.2 v0.toNat 11 (w32 ((h.2 v0.toNat 11) - 1)))) (fun h1 =>
                      bif aok h1.1 v0 11 && true then
                        bV (cl xs d 133 [.inr (.inr v0)] h1) (fun h2 =>
                        some (some (.inl 1), h2))
                      else none)
                    else none
                  else none
                else none
              else none
            else none
          else none
        else none
      else none
    else
      some (some (.inl 0), h)
  else none :=
  (show _ = ev xs d mm_155 0 [some (.inr (.inr v0))] [] h from rfl).trans (q_155_0 xs d v0 h)
def stp_156 : List Nat := [0]
set_option maxRecDepth 100000 in
set_option maxHeartbeats 4000000 in
theorem q_156_0 (xs : List Int) (d : Nat) (v0 : Int) (v1 : Int) (v2 : Int) (h : aH) : ev xs d mm_156 0 [some (.inr (.inr v0)), some (.inl v1), some (.inl v2)] [] h =
  bif aok h.1 v0 11 then
    bif aok h.1 (h.2 v0.toNat 5) 9 then
      bif aok h.1 (h.2 (h.2 v0.toNat 5).toNat 4) 3 && true then
        bI (cl xs d 31 [.inr (.inr (h.2 (h.2 v0.toNat 5).toNat 4)), .inl v1, .inl v2] h) (fun x2 h1 =>
        bif decide (x2 = 0) then
          some (some (.inl (-1)), h1)
        else
          bif aok h1.1 v0 11 then
            bif aok h1.1 (h1.2 v0.toNat 7) 6 then
              bif ain h1.1 (h1.2 (h1.2 v0.toNat 7).toNat 4) 100 (w32 ((w32 (v1 * 8)) + v2)) then
                some (some (.inl (h1.2 (h1.2 (h1.2 v0.toNat 7).toNat 4).toNat (w32 ((w32 (v1 * 8)) + v2)).toNat)), h1)
              else none
            else none
          else none)
      else none
    else none
  else none :=
  (aB gP gX xs stp_156 19 d mm_156 0 _ _ h).trans rfl

theorem c_156 (xs : List Int) (d : Nat) (v0 : Int) (v1 : Int) (v2 : Int) (h : aH) : cl xs (d + 1) 156 [.inr (.inr v0), .inl v1, .inl v2] h =
  bif aok h.1 v0 11 then
    bif aok h.1 (h.2 v0.toNat 5) 9 then
      bif aok h.1 (h.2 (h.2 v0.toNat 5).toNat 4) 3 && true then
        bI (cl xs d 31 [.inr (.inr (h.2 (h.2 v0.toNat 5).toNat 4)), .inl v1, .inl v2] h) (fun x2 h1 =>
        bif decide (x2 = 0) then
          some (some (.inl (-1)), h1)
        else
          bif aok h1.1 v0 11 then
            bif aok h1.1 (h1.2 v0.toNat 7) 6 then
              bif ain h1.1 (h1.2 (h1.2 v0.toNat 7).toNat 4) 100 (w32 ((w32 (v1 * 8)) + v2)) then
                some (some (.inl (h1.2 (h1.2 (h1.2 v0.toNat 7).toNat 4).toNat (w32 ((w32 (v1 * 8)) + v2)).toNat)), h1)
              else none
            else none
          else none)
      else none
    else none
  else none :=
  (show _ = ev xs d mm_156 0 [some (.inr (.inr v0)), some (.inl v1), some (.inl v2)] [] h from rfl).trans (q_156_0 xs d v0 v1 v2 h)
def stp_157 : List Nat := [0]
set_option maxRecDepth 100000 in
set_option maxHeartbeats 4000000 in
theorem q_157_0 (xs : List Int) (d : Nat) (v0 : Int) (v1 : Int) (v2 : Int) (h : aH) : ev xs d mm_157 0 [some (.inr (.inr v0)), some (.inl v1), some (.inl v2)] [] h =
  bif decide (v1 < 1) then
    some (some (.inl (-1)), h)
  else
    bif decide (12 < v1) then
      some (some (.inl (-1)), h)
    else
      bif decide (v2 < 0) then
        some (some (.inl (-1)), h)
      else
        bif decide (v2 < 3) then
          bif aok h.1 v0 11 then
            bif aok h.1 v0 11 then
              bif aok h.1 (h.2 v0.toNat 5) 9 then
                bif aok h.1 (h.2 v0.toNat 15) 1 && true then
                  bI (cl xs d 13 [.inr (.inr (h.2 v0.toNat 15)), .inr (.inr (h.2 (h.2 v0.toNat 5).toNat 4)), .inl v1, .inl v2] h) (fun x2 h1 =>
                  some (some (.inl x2), h1))
                else none
              else none
            else none
          else none
        else
          some (some (.inl (-1)), h) :=
  (aB gP gX xs stp_157 21 d mm_157 0 _ _ h).trans rfl

theorem c_157 (xs : List Int) (d : Nat) (v0 : Int) (v1 : Int) (v2 : Int) (h : aH) : cl xs (d + 1) 157 [.inr (.inr v0), .inl v1, .inl v2] h =
  bif decide (v1 < 1) then
    some (some (.inl (-1)), h)
  else
    bif decide (12 < v1) then
      some (some (.inl (-1)), h)
    else
      bif decide (v2 < 0) then
        some (some (.inl (-1)), h)
      else
        bif decide (v2 < 3) then
          bif aok h.1 v0 11 then
            bif aok h.1 v0 11 then
              bif aok h.1 (h.2 v0.toNat 5) 9 then
                bif aok h.1 (h.2 v0.toNat 15) 1 && true then
                  bI (cl xs d 13 [.inr (.inr (h.2 v0.toNat 15)), .inr (.inr (h.2 (h.2 v0.toNat 5).toNat 4)), .inl v1, .inl v2] h) (fun x2 h1 =>
                  some (some (.inl x2), h1))
                else none
              else none
            else none
          else none
        else
          some (some (.inl (-1)), h) :=
  (show _ = ev xs d mm_157 0 [some (.inr (.inr v0)), some (.inl v1), some (.inl v2)] [] h from rfl).trans (q_157_0 xs d v0 v1 v2 h)
def stp_158 : List Nat := [0, 13]
set_option maxRecDepth 100000 in
set_option maxHeartbeats 4000000 in
theorem q_158_0 (xs : List Int) (d : Nat) (v0 : Int) (h : aH) : ev xs d mm_158 0 [some (.inr (.inr v0)), none] [] h =
  bif aok h.1 v0 11 then
    bif aok h.1 (h.2 v0.toNat 14) 10 then
      bV (cl xs d 318 [.inr (.inr (h.2 (h.2 v0.toNat 14).toNat 2)), .inl 0] h) (fun h1 =>
        ev xs d mm_158 13 [some (.inr (.inr v0)), some (.inl 0)] [] h1)
    else none
  else none :=
  (aB gP gX xs stp_158 8 d mm_158 0 _ _ h).trans rfl

set_option maxRecDepth 100000 in
set_option maxHeartbeats 4000000 in
theorem q_158_13 (xs : List Int) (d : Nat) (v0 : Int) (v1 : Int) (h : aH) : ev xs d mm_158 13 [some (.inr (.inr v0)), some (.inl v1)] [] h =
  bif aok h.1 v0 11 then
    bif aok h.1 (h.2 v0.toNat 5) 9 then
      bif decide ((h.2 (h.2 v0.toNat 5).toNat 5) ≤ v1) then
        some (none, h)
      else
        bif aok h.1 v0 11 then
          bif aok h.1 (h.2 v0.toNat 7) 6 then
            bif ain h.1 (h.2 (h.2 v0.toNat 7).toNat 3) 100 v1 then
              bif decide (¬ (h.2 (h.2 (h.2 v0.toNat 7).toNat 3).toNat v1.toNat) = 0) then
                ev xs d mm_158 13 [some (.inr (.inr v0)), some (.inl (w32 (v1 + 1)))] [] h
              else
                bif aok h.1 v0 11 then
                  bif aok h.1 v0 11 then
                    bif aok h.1 (h.2 v0.toNat 5) 9 then
                      bif aok h.1 v0 11 then
                        bif aok h.1 (h.2 v0.toNat 7) 6 then
                          bif ain h.1 (h.2 (h.2 v0.toNat 7).toNat 2) 101 v1 then
                            bif aok h.1 v0 11 && true then
                              bJ (cl xs d 138 [.inr (.inr v0), .inr (.inl (h.2 (h.2 (h.2 v0.toNat 7).toNat 2).toNat v1.toNat))] h) (fun x2 h1 =>
                              bif aok h1.1 (h.2 v0.toNat 14) 10 && true then
                                bV (cl xs d 114 [.inr (.inr (h.2 v0.toNat 14)), .inr (.inr (h.2 (h.2 v0.toNat 5).toNat 4)), .inr (.inl x2)] h1) (fun h3 =>
                                bif aok h3.1 v0 11 then
                                  bif aok h3.1 (h3.2 v0.toNat 14) 10 && true then
                                    bV (cl xs d 118 [.inr (.inr (h3.2 v0.toNat 14))] h3) (fun h4 =>
                                    ev xs d mm_158 13 [some (.inr (.inr v0)), some (.inl (w32 (v1 + 1)))] [] h4)
                                  else none
                                else none)
                              else none)
                            else none
                          else none
                        else none
                      else none
                    else none
                  else none
                else none
            else none
          else none
        else none
    else none
  else none :=
  (aB gP gX xs stp_158 30 d mm_158 13 _ _ h).trans rfl

theorem c_158 (xs : List Int) (d : Nat) (v0 : Int) (h : aH) : cl xs (d + 1) 158 [.inr (.inr v0)] h =
  bif aok h.1 v0 11 then
    bif aok h.1 (h.2 v0.toNat 14) 10 then
      bV (cl xs d 318 [.inr (.inr (h.2 (h.2 v0.toNat 14).toNat 2)), .inl 0] h) (fun h1 =>
        ev xs d mm_158 13 [some (.inr (.inr v0)), some (.inl 0)] [] h1)
    else none
  else none :=
  (show _ = ev xs d mm_158 0 [some (.inr (.inr v0)), none] [] h from rfl).trans (q_158_0 xs d v0 h)
def stp_159 : List Nat := [0, 53]
set_option maxRecDepth 100000 in
set_option maxHeartbeats 4000000 in
theorem q_159_0 (xs : List Int) (d : Nat) (v0 : Int) (v1 : Int) (v2 : Int) (h : aH) : ev xs d mm_159 0 [some (.inr (.inr v0)), some (.inl v1), some (.inl v2), none, none, none] [] h =
  bif decide (v1 < 0) then
    some (some (.inl (-1)), h)
  else
    bif decide (3 ≤ v1) then
      some (some (.inl (-1)), h)
    else
      bif decide (v2 < 0) then
        some (some (.inl (-1)), h)
      else
        bif decide (v2 ≤ 1) then
          bif aok h.1 v0 11 then
            bif aok h.1 (h.2 v0.toNat 5) 9 then
              bif aok h.1 (h.2 (h.2 v0.toNat 5).toNat 4) 3 then
                bif ain h.1 (h.2 (h.2 (h.2 v0.toNat 5).toNat 4).toNat 0) 100 v1 then
                  bif decide (¬ (h.2 (h.2 (h.2 (h.2 v0.toNat 5).toNat 4).toNat 0).toNat v1.toNat) = 0) then
                    bif aok h.1 v0 11 && true then
                      bV (cl xs d 158 [.inr (.inr v0)] h) (fun h1 =>
                      ev xs d mm_159 53 [some (.inr (.inr v0)), some (.inl v1), some (.inl v2), some (.inl 0), some (.inl (w32 (v1 * 8))), some (.inl 1)] [] h1)
                    else none
                  else
                    some (some (.inl (-2)), h)
                else none
              else none
            else none
          else none
        else
          some (some (.inl (-1)), h) :=
  (aB gP gX xs stp_159 28 d mm_159 0 _ _ h).trans rfl

set_option maxRecDepth 100000 in
set_option maxHeartbeats 4000000 in
theorem q_159_53 (xs : List Int) (d : Nat) (v0 : Int) (v1 : Int) (v2 : Int) (v3 : Int) (v4 : Int) (v5 : Int) (h : aH) : ev xs d mm_159 53 [some (.inr (.inr v0)), some (.inl v1), some (.inl v2), some (.inl v3), some (.inl v4), some (.inl v5)] [] h =
  bif aok h.1 v0 11 then
    bif aok h.1 (h.2 v0.toNat 5) 9 then
      bif aok h.1 (h.2 (h.2 v0.toNat 5).toNat 4) 3 then
        bif ain h.1 (h.2 (h.2 (h.2 v0.toNat 5).toNat 4).toNat 0) 100 v1 then
          bif decide ((h.2 (h.2 (h.2 (h.2 v0.toNat 5).toNat 4).toNat 0).toNat v1.toNat) ≤ v5) then
            bif decide (¬ v2 = 0) then
              bif aok h.1 v0 11 then
                bif aok h.1 (h.2 v0.toNat 14) 10 then
                  bif ain h.1 (h.2 (h.2 v0.toNat 14).toNat 2) 100 (w32 (v4 + v3)) then
                    some (some (.inl (h.2 (h.2 (h.2 v0.toNat 14).toNat 2).toNat (w32 (v4 + v3)).toNat)), h)
                  else none
                else none
              else none
            else
              some (some (.inl v3), h)
          else
            bif aok h.1 v0 11 then
              bif aok h.1 (h.2 v0.toNat 14) 10 then
                bif ain h.1 (h.2 (h.2 v0.toNat 14).toNat 2) 100 (w32 (v4 + v5)) then
                  bif aok h.1 v0 11 then
                    bif aok h.1 (h.2 v0.toNat 14) 10 then
                      bif ain h.1 (h.2 (h.2 v0.toNat 14).toNat 2) 100 (w32 (v4 + v3)) then
                        bif decide ((h.2 (h.2 (h.2 v0.toNat 14).toNat 2).toNat (w32 (v4 + v5)).toNat) ≤ (h.2 (h.2 (h.2 v0.toNat 14).toNat 2).toNat (w32 (v4 + v3)).toNat)) then
                          ev xs d mm_159 53 [some (.inr (.inr v0)), some (.inl v1), some (.inl v2), some (.inl v3), some (.inl v4), some (.inl (w32 (v5 + 1)))] [] h
                        else
                          ev xs d mm_159 53 [some (.inr (.inr v0)), some (.inl v1), some (.inl v2), some (.inl v5), some (.inl v4), some (.inl (w32 (v5 + 1)))] [] h
                      else none
                    else none
                  else none
                else none
              else none
            else none
        else none
      else none
    else none
  else none :=
  (aB gP gX xs stp_159 28 d mm_159 53 _ _ h).trans rfl

theorem c_159 (xs : List Int) (d : Nat) (v0 : Int) (v1 : Int) (v2 : Int) (h : aH) : cl xs (d + 1) 159 [.inr (.inr v0), .inl v1, .inl v2] h =
  bif decide (v1 < 0) then
    some (some (.inl (-1)), h)
  else
    bif decide (3 ≤ v1) then
      some (some (.inl (-1)), h)
    else
      bif decide (v2 < 0) then
        some (some (.inl (-1)), h)
      else
        bif decide (v2 ≤ 1) then
          bif aok h.1 v0 11 then
            bif aok h.1 (h.2 v0.toNat 5) 9 then
              bif aok h.1 (h.2 (h.2 v0.toNat 5).toNat 4) 3 then
                bif ain h.1 (h.2 (h.2 (h.2 v0.toNat 5).toNat 4).toNat 0) 100 v1 then
                  bif decide (¬ (h.2 (h.2 (h.2 (h.2 v0.toNat 5).toNat 4).toNat 0).toNat v1.toNat) = 0) then
                    bif aok h.1 v0 11 && true then
                      bV (cl xs d 158 [.inr (.inr v0)] h) (fun h1 =>
                      ev xs d mm_159 53 [some (.inr (.inr v0)), some (.inl v1), some (.inl v2), some (.inl 0), some (.inl (w32 (v1 * 8))), some (.inl 1)] [] h1)
                    else none
                  else
                    some (some (.inl (-2)), h)
                else none
              else none
            else none
          else none
        else
          some (some (.inl (-1)), h) :=
  (show _ = ev xs d mm_159 0 [some (.inr (.inr v0)), some (.inl v1), some (.inl v2), none, none, none] [] h from rfl).trans (q_159_0 xs d v0 v1 v2 h)
def stp_160 : List Nat := [0]
set_option maxRecDepth 100000 in
set_option maxHeartbeats 4000000 in
theorem q_160_0 (xs : List Int) (d : Nat) (v0 : Int) (v1 : Int) (v2 : Int) (h : aH) : ev xs d mm_160 0 [some (.inr (.inr v0)), some (.inl v1), some (.inl v2), none, none] [] h =
  bif aok h.1 v0 11 then
    bif aok h.1 (h.2 v0.toNat 5) 9 then
      bif aok h.1 (h.2 (h.2 v0.toNat 5).toNat 4) 3 && true then
        bI (cl xs d 31 [.inr (.inr (h.2 (h.2 v0.toNat 5).toNat 4)), .inl v1, .inl v2] h) (fun x2 h1 =>
        bif decide (¬ x2 = 0) then
          bif aok h1.1 v0 11 then
            bif aok h1.1 (h1.2 v0.toNat 5) 9 then
              bI (cl xs d 126 [.inl (h1.2 (h1.2 v0.toNat 5).toNat 11)] h1) (fun x4 h3 =>
                bif aok h3.1 v0 11 then
                  bif aok h3.1 (h3.2 v0.toNat 7) 6 then
                    bif aok h3.1 v0 11 then
                      bif aok h3.1 (h3.2 v0.toNat 5) 9 && true then
                        bI (cl xs d 111 [.inr (.inr (h3.2 v0.toNat 5)), .inl (oand x4 (oxor (h3.2 (h3.2 v0.toNat 7).toNat 8) (-1))), .inl (w32 ((w32 (v1 * 8)) + v2))] h3) (fun x6 h5 =>
                        bif aok h5.1 v0 11 then
                          bif aok h5.1 (h5.2 v0.toNat 7) 6 then
                            bif ain h5.1 (h5.2 (h5.2 v0.toNat 7).toNat 4) 100 (w32 ((w32 (v1 * 8)) + v2)) then
                              some (some (.inl (omax 0 (w32 (x6 - (h5.2 (h5.2 (h5.2 v0.toNat 7).toNat 4).toNat (w32 ((w32 (v1 * 8)) + v2)).toNat))))), h5)
                            else none
                          else none
                        else none)
                      else none
                    else none
                  else none
                else none)
            else none
          else none
        else
          some (some (.inl (-1)), h1))
      else none
    else none
  else none :=
  (aB gP gX xs stp_160 39 d mm_160 0 _ _ h).trans rfl

theorem c_160 (xs : List Int) (d : Nat) (v0 : Int) (v1 : Int) (v2 : Int) (h : aH) : cl xs (d + 1) 160 [.inr (.inr v0), .inl v1, .inl v2] h =
  bif aok h.1 v0 11 then
    bif aok h.1 (h.2 v0.toNat 5) 9 then
      bif aok h.1 (h.2 (h.2 v0.toNat 5).toNat 4) 3 && true then
        bI (cl xs d 31 [.inr (.inr (h.2 (h.2 v0.toNat 5).toNat 4)), .inl v1, .inl v2] h) (fun x2 h1 =>
        bif decide (¬ x2 = 0) then
          bif aok h1.1 v0 11 then
            bif aok h1.1 (h1.2 v0.toNat 5) 9 then
              bI (cl xs d 126 [.inl (h1.2 (h1.2 v0.toNat 5).toNat 11)] h1) (fun x4 h3 =>
                bif aok h3.1 v0 11 then
                  bif aok h3.1 (h3.2 v0.toNat 7) 6 then
                    bif aok h3.1 v0 11 then
                      bif aok h3.1 (h3.2 v0.toNat 5) 9 && true then
                        bI (cl xs d 111 [.inr (.inr (h3.2 v0.toNat 5)), .inl (oand x4 (oxor (h3.2 (h3.2 v0.toNat 7).toNat 8) (-1))), .inl (w32 ((w32 (v1 * 8)) + v2))] h3) (fun x6 h5 =>
                        bif aok h5.1 v0 11 then
                          bif aok h5.1 (h5.2 v0.toNat 7) 6 then
                            bif ain h5.1 (h5.2 (h5.2 v0.toNat 7).toNat 4) 100 (w32 ((w32 (v1 * 8)) + v2)) then
                              some (some (.inl (omax 0 (w32 (x6 - (h5.2 (h5.2 (h5.2 v0.toNat 7).toNat 4).toNat (w32 ((w32 (v1 * 8)) + v2)).toNat))))), h5)
                            else none
                          else none
                        else none)
                      else none
                    else none
                  else none
                else none)
            else none
          else none
        else
          some (some (.inl (-1)), h1))
      else none
    else none
  else none :=
  (show _ = ev xs d mm_160 0 [some (.inr (.inr v0)), some (.inl v1), some (.inl v2), none, none] [] h from rfl).trans (q_160_0 xs d v0 v1 v2 h)
def stp_161 : List Nat := [0, 18]
set_option maxRecDepth 100000 in
set_option maxHeartbeats 4000000 in
theorem q_161_0 (xs : List Int) (d : Nat) (v0 : Int) (v1 : Int) (h : aH) : ev xs d mm_161 0 [some (.inr (.inr v0)), some (.inl v1), none, none, none, none] [] h =
  bif decide (v1 < 0) then
    some (some (.inl (-1)), h)
  else
    bif decide (v1 ≤ 1) then
      ev xs d mm_161 18 [some (.inr (.inr v0)), some (.inl v1), some (.inl 0), some (.inl 0), some (.inl 1), none] [] h
    else
      some (some (.inl (-1)), h) :=
  (aB gP gX xs stp_161 12 d mm_161 0 _ _ h).trans rfl

set_option maxRecDepth 100000 in
set_option maxHeartbeats 4000000 in
theorem q_161_18 (xs : List Int) (d : Nat) (v0 : Int) (v1 : Int) (v2 : Int) (v3 : Int) (v4 : Int) (u5 : Option aV) (h : aH) : ev xs d mm_161 18 [some (.inr (.inr v0)), some (.inl v1), some (.inl v2), some (.inl v3), some (.inl v4), u5] [] h =
  bif aok h.1 v0 11 then
    bif aok h.1 (h.2 v0.toNat 5) 9 then
      bif decide ((oshl 1 (h.2 (h.2 v0.toNat 5).toNat 11)) ≤ v4) then
        bif decide (¬ v1 = 0) then
          some (some (.inl v2), h)
        else
          some (some (.inl v3), h)
      else
        bif aok h.1 v0 11 then
          bif aok h.1 (h.2 v0.toNat 5) 9 && true then
            bI (cl xs d 112 [.inr (.inr (h.2 v0.toNat 5)), .inl v4] h) (fun x2 h1 =>
            bif decide (x2 ≤ v3) then
              ev xs d mm_161 18 [some (.inr (.inr v0)), some (.inl v1), some (.inl v2), some (.inl v3), some (.inl (w32 (v4 + 1))), some (.inl x2)] [] h1
            else
              bif aok h1.1 v0 11 then
                bif aok h1.1 (h1.2 v0.toNat 7) 6 then
                  bif decide (¬ (oand v4 (h1.2 (h1.2 v0.toNat 7).toNat 8)) = 0) then
                    ev xs d mm_161 18 [some (.inr (.inr v0)), some (.inl v1), some (.inl v2), some (.inl v3), some (.inl (w32 (v4 + 1))), some (.inl x2)] [] h1
                  else
                    bif aok h1.1 v0 11 && true then
                      bI (cl xs d 153 [.inr (.inr v0), .inl v4] h1) (fun x4 h3 =>
                      bif decide (x4 = 0) then
                        ev xs d mm_161 18 [some (.inr (.inr v0)), some (.inl v1), some (.inl v2), some (.inl v3), some (.inl (w32 (v4 + 1))), some (.inl x2)] [] h3
                      else
                        ev xs d mm_161 18 [some (.inr (.inr v0)), some (.inl v1), some (.inl v4), some (.inl x2), some (.inl (w32 (v4 + 1))), some (.inl x2)] [] h3)
                    else none
                else none
              else none)
          else none
        else none
    else none
  else none :=
  (aB gP gX xs stp_161 32 d mm_161 18 _ _ h).trans rfl

theorem c_161 (xs : List Int) (d : Nat) (v0 : Int) (v1 : Int) (h : aH) : cl xs (d + 1) 161 [.inr (.inr v0), .inl v1] h =
  bif decide (v1 < 0) then
    some (some (.inl (-1)), h)
  else
    bif decide (v1 ≤ 1) then
      ev xs d mm_161 18 [some (.inr (.inr v0)), some (.inl v1), some (.inl 0), some (.inl 0), some (.inl 1), none] [] h
    else
      some (some (.inl (-1)), h) :=
  (show _ = ev xs d mm_161 0 [some (.inr (.inr v0)), some (.inl v1), none, none, none, none] [] h from rfl).trans (q_161_0 xs d v0 v1 h)
def stp_162 : List Nat := [0, 8]
set_option maxRecDepth 100000 in
set_option maxHeartbeats 4000000 in
theorem q_162_0 (xs : List Int) (d : Nat) (v0 : Int) (h : aH) : ev xs d mm_162 0 [some (.inr (.inr v0)), none, none] [] h =
  bif aok h.1 v0 11 && true then
    bV (cl xs d 158 [.inr (.inr v0)] h) (fun h1 =>
    ev xs d mm_162 8 [some (.inr (.inr v0)), some (.inl 0), some (.inl 0)] [] h1)
  else none :=
  (aB gP gX xs stp_162 7 d mm_162 0 _ _ h).trans rfl

set_option maxRecDepth 100000 in
set_option maxHeartbeats 4000000 in
theorem q_162_8 (xs : List Int) (d : Nat) (v0 : Int) (v1 : Int) (v2 : Int) (h : aH) : ev xs d mm_162 8 [some (.inr (.inr v0)), some (.inl v1), some (.inl v2)] [] h =
  bif aok h.1 v0 11 then
    bif aok h.1 (h.2 v0.toNat 5) 9 then
      bif aok h.1 (h.2 (h.2 v0.toNat 5).toNat 4) 3 then
        bif ain h.1 (h.2 (h.2 (h.2 v0.toNat 5).toNat 4).toNat 0) 100 0 then
          bif decide ((h.2 (h.2 (h.2 (h.2 v0.toNat 5).toNat 4).toNat 0).toNat (0 : Int).toNat) ≤ v2) then
            some (some (.inl v1), h)
          else
            bif aok h.1 v0 11 then
              bif aok h.1 (h.2 v0.toNat 14) 10 then
                bif ain h.1 (h.2 (h.2 v0.toNat 14).toNat 2) 100 (w32 (0 + v2)) then
                  bif decide (¬ (h.2 (h.2 (h.2 v0.toNat 14).toNat 2).toNat (w32 (0 + v2)).toNat) = 0) then
                    ev xs d mm_162 8 [some (.inr (.inr v0)), some (.inl v1), some (.inl (w32 (v2 + 1)))] [] h
                  else
                    ev xs d mm_162 8 [some (.inr (.inr v0)), some (.inl (oor v1 (oshl 1 v2))), some (.inl (w32 (v2 + 1)))] [] h
                else none
              else none
            else none
        else none
      else none
    else none
  else none :=
  (aB gP gX xs stp_162 25 d mm_162 8 _ _ h).trans rfl

theorem c_162 (xs : List Int) (d : Nat) (v0 : Int) (h : aH) : cl xs (d + 1) 162 [.inr (.inr v0)] h =
  bif aok h.1 v0 11 && true then
    bV (cl xs d 158 [.inr (.inr v0)] h) (fun h1 =>
    ev xs d mm_162 8 [some (.inr (.inr v0)), some (.inl 0), some (.inl 0)] [] h1)
  else none :=
  (show _ = ev xs d mm_162 0 [some (.inr (.inr v0)), none, none] [] h from rfl).trans (q_162_0 xs d v0 h)
def stp_163 : List Nat := [0]
set_option maxRecDepth 100000 in
set_option maxHeartbeats 4000000 in
theorem q_163_0 (xs : List Int) (d : Nat) (v0 : Int) (h : aH) : ev xs d mm_163 0 [some (.inr (.inr v0))] [] h =
  bif aok h.1 v0 11 then
    bif aok h.1 (h.2 v0.toNat 16) 5 then
      bif decide (¬ (h.2 (h.2 v0.toNat 16).toNat 0) = 0) then
        bif aok h.1 v0 11 then
          some (some (.inr (.inr (h.2 v0.toNat 16))), h)
        else none
      else
        bif aok h.1 v0 11 then
          bif aok h.1 v0 11 then
            bif aok h.1 v0 11 then
              bif aok h.1 (h.2 v0.toNat 7) 6 then
                bif aok h.1 (h.2 v0.toNat 16) 5 && true then
                  bV (cl xs d 61 [.inr (.inr (h.2 v0.toNat 16)), .inr (.inr (h.2 v0.toNat 5)), .inr (.inr (h.2 (h.2 v0.toNat 7).toNat 1))] h) (fun h1 =>
                  bif aok h1.1 v0 11 then
                    some (some (.inr (.inr (h1.2 v0.toNat 16))), h1)
                  else none)
                else none
              else none
            else none
          else none
        else none
    else none
  else none :=
  (aB gP gX xs stp_163 16 d mm_163 0 _ _ h).trans rfl

theorem c_163 (xs : List Int) (d : Nat) (v0 : Int) (h : aH) : cl xs (d + 1) 163 [.inr (.inr v0)] h =
  bif aok h.1 v0 11 then
    bif aok h.1 (h.2 v0.toNat 16) 5 then
      bif decide (¬ (h.2 (h.2 v0.toNat 16).toNat 0) = 0) then
        bif aok h.1 v0 11 then
          some (some (.inr (.inr (h.2 v0.toNat 16))), h)
        else none
      else
        bif aok h.1 v0 11 then
          bif aok h.1 v0 11 then
            bif aok h.1 v0 11 then
              bif aok h.1 (h.2 v0.toNat 7) 6 then
                bif aok h.1 (h.2 v0.toNat 16) 5 && true then
                  bV (cl xs d 61 [.inr (.inr (h.2 v0.toNat 16)), .inr (.inr (h.2 v0.toNat 5)), .inr (.inr (h.2 (h.2 v0.toNat 7).toNat 1))] h) (fun h1 =>
                  bif aok h1.1 v0 11 then
                    some (some (.inr (.inr (h1.2 v0.toNat 16))), h1)
                  else none)
                else none
              else none
            else none
          else none
        else none
    else none
  else none :=
  (show _ = ev xs d mm_163 0 [some (.inr (.inr v0))] [] h from rfl).trans (q_163_0 xs d v0 h)
def stp_164 : List Nat := [0]
set_option maxRecDepth 100000 in
set_option maxHeartbeats 4000000 in
theorem q_164_0 (xs : List Int) (d : Nat) (v0 : Int) (h : aH) : ev xs d mm_164 0 [some (.inr (.inr v0))] [] h =
  bif aok h.1 v0 11 then
    bif aok h.1 (h.2 v0.toNat 17) 2 then
      bif decide (¬ (h.2 (h.2 v0.toNat 17).toNat 0) = 0) then
        bif aok h.1 v0 11 then
          some (some (.inr (.inr (h.2 v0.toNat 17))), h)
        else none
      else
        bif aok h.1 v0 11 then
          bif aok h.1 v0 11 then
            bif aok h.1 v0 11 then
              bif aok h.1 (h.2 v0.toNat 17) 2 && true then
                bV (cl xs d 21 [.inr (.inr (h.2 v0.toNat 17)), .inr (.inr (h.2 v0.toNat 5)), .inr (.inr (h.2 v0.toNat 7))] h) (fun h1 =>
                bif aok h1.1 v0 11 then
                  some (some (.inr (.inr (h1.2 v0.toNat 17))), h1)
                else none)
              else none
            else none
          else none
        else none
    else none
  else none :=
  (aB gP gX xs stp_164 15 d mm_164 0 _ _ h).trans rfl

theorem c_164 (xs : List Int) (d : Nat) (v0 : Int) (h : aH) : cl xs (d + 1) 164 [.inr (.inr v0)] h =
  bif aok h.1 v0 11 then
    bif aok h.1 (h.2 v0.toNat 17) 2 then
      bif decide (¬ (h.2 (h.2 v0.toNat 17).toNat 0) = 0) then
        bif aok h.1 v0 11 then
          some (some (.inr (.inr (h.2 v0.toNat 17))), h)
        else none
      else
        bif aok h.1 v0 11 then
          bif aok h.1 v0 11 then
            bif aok h.1 v0 11 then
              bif aok h.1 (h.2 v0.toNat 17) 2 && true then
                bV (cl xs d 21 [.inr (.inr (h.2 v0.toNat 17)), .inr (.inr (h.2 v0.toNat 5)), .inr (.inr (h.2 v0.toNat 7))] h) (fun h1 =>
                bif aok h1.1 v0 11 then
                  some (some (.inr (.inr (h1.2 v0.toNat 17))), h1)
                else none)
              else none
            else none
          else none
        else none
    else none
  else none :=
  (show _ = ev xs d mm_164 0 [some (.inr (.inr v0))] [] h from rfl).trans (q_164_0 xs d v0 h)
def stp_165 : List Nat := [0, 38]
set_option maxRecDepth 100000 in
set_option maxHeartbeats 4000000 in
theorem q_165_0 (xs : List Int) (d : Nat) (v0 : Int) (v1 : Int) (v2 : Int) (h : aH) : ev xs d mm_165 0 [some (.inr (.inr v0)), some (.inl v1), some (.inl v2), none, none] [] h =
  bif decide (v1 < 0) then
    some (some (.inl (-1)), h)
  else
    bif aok h.1 v0 11 then
      bif aok h.1 (h.2 v0.toNat 5) 9 then
        bif decide (v1 < (h.2 (h.2 v0.toNat 5).toNat 7)) then
          bif decide (v2 = 0) then
            ev xs d mm_165 38 [some (.inr (.inr v0)), some (.inl v1), some (.inl v2), none, none] [] h
          else
            bif aok h.1 v0 11 then
              bif aok h.1 (h.2 v0.toNat 5) 9 then
                bif ain h.1 (h.2 (h.2 v0.toNat 5).toNat 10) 101 v1 then
                  bif decide (¬ (olcmp (h.2 (h.2 (h.2 v0.toNat 5).toNat 10).toNat v1.toNat) 0) = 0) then
                    ev xs d mm_165 38 [some (.inr (.inr v0)), some (.inl v1), some (.inl v2), none, none] [] h
                  else
                    some (some (.inl (-2)), h)
                else none
              else none
            else none
        else
          some (some (.inl (-1)), h)
      else none
    else none :=
  (aB gP gX xs stp_165 20 d mm_165 0 _ _ h).trans rfl

set_option maxRecDepth 100000 in
set_option maxHeartbeats 4000000 in
theorem q_165_38 (xs : List Int) (d : Nat) (v0 : Int) (v1 : Int) (v2 : Int) (u3 : Option aV) (u4 : Option aV) (h : aH) : ev xs d mm_165 38 [some (.inr (.inr v0)), some (.inl v1), some (.inl v2), u3, u4] [] h =
  bif aok h.1 v0 11 then
    bif aok h.1 (h.2 v0.toNat 5) 9 then
      bif ain h.1 (h.2 (h.2 v0.toNat 5).toNat 8) 101 v1 then
        bif aok h.1 v0 11 && true then
          bJ (cl xs d 138 [.inr (.inr v0), .inr (.inl (h.2 (h.2 (h.2 v0.toNat 5).toNat 8).toNat v1.toNat))] h) (fun x2 h1 =>
          bif decide (v2 = 0) then
            bif aok h1.1 v0 11 then
              bif aok h1.1 (h1.2 v0.toNat 5) 9 then
                bif ain h1.1 (h1.2 (h1.2 v0.toNat 5).toNat 9) 101 v1 then
                  bif decide (¬ (olcmp x2 (h1.2 (h1.2 (h1.2 v0.toNat 5).toNat 9).toNat v1.toNat)) = 0) then
                    some (some (.inl 0), h1)
                  else
                    some (some (.inl 1), h1)
                else none
              else none
            else none
          else
            bif aok h1.1 v0 11 then
              bif aok h1.1 (h1.2 v0.toNat 5) 9 then
                bif ain h1.1 (h1.2 (h1.2 v0.toNat 5).toNat 10) 101 v1 then
                  bif decide (¬ (olcmp x2 (h1.2 (h1.2 (h1.2 v0.toNat 5).toNat 10).toNat v1.toNat)) = 0) then
                    some (some (.inl 0), h1)
                  else
                    some (some (.inl 1), h1)
                else none
              else none
            else none)
        else none
      else none
    else none
  else none :=
  (aB gP gX xs stp_165 23 d mm_165 38 _ _ h).trans rfl

theorem c_165 (xs : List Int) (d : Nat) (v0 : Int) (v1 : Int) (v2 : Int) (h : aH) : cl xs (d + 1) 165 [.inr (.inr v0), .inl v1, .inl v2] h =
  bif decide (v1 < 0) then
    some (some (.inl (-1)), h)
  else
    bif aok h.1 v0 11 then
      bif aok h.1 (h.2 v0.toNat 5) 9 then
        bif decide (v1 < (h.2 (h.2 v0.toNat 5).toNat 7)) then
          bif decide (v2 = 0) then
            ev xs d mm_165 38 [some (.inr (.inr v0)), some (.inl v1), some (.inl v2), none, none] [] h
          else
            bif aok h.1 v0 11 then
              bif aok h.1 (h.2 v0.toNat 5) 9 then
                bif ain h.1 (h.2 (h.2 v0.toNat 5).toNat 10) 101 v1 then
                  bif decide (¬ (olcmp (h.2 (h.2 (h.2 v0.toNat 5).toNat 10).toNat v1.toNat) 0) = 0) then
                    ev xs d mm_165 38 [some (.inr (.inr v0)), some (.inl v1), some (.inl v2), none, none] [] h
                  else
                    some (some (.inl (-2)), h)
                else none
              else none
            else none
        else
          some (some (.inl (-1)), h)
      else none
    else none :=
  (show _ = ev xs d mm_165 0 [some (.inr (.inr v0)), some (.inl v1), some (.inl v2), none, none] [] h from rfl).trans (q_165_0 xs d v0 v1 v2 h)
def stp_166 : List Nat := [0]
set_option maxRecDepth 100000 in
set_option maxHeartbeats 4000000 in
theorem q_166_0 (xs : List Int) (d : Nat) (v0 : Int) (v1 : Int) (h : aH) : ev xs d mm_166 0 [some (.inr (.inr v0)), some (.inl v1)] [] h =
  bif aok h.1 v0 11 && true then
    bI (cl xs d 137 [.inr (.inr v0), .inl v1] h) (fun x2 h1 =>
    bif decide (x2 = 0) then
      some (some (.inl (-1)), h1)
    else
      bif aok h1.1 v0 11 && true then
        bR (cl xs d 164 [.inr (.inr v0)] h1) (fun x4 h3 =>
        bif aok h3.1 x4 2 then
          bif ain h3.1 (h3.2 x4.toNat 1) 100 v1 then
            some (some (.inl (h3.2 (h3.2 x4.toNat 1).toNat v1.toNat)), h3)
          else none
        else none)
      else none)
  else none :=
  (aB gP gX xs stp_166 12 d mm_166 0 _ _ h).trans rfl

theorem c_166 (xs : List Int) (d : Nat) (v0 : Int) (v1 : Int) (h : aH) : cl xs (d + 1) 166 [.inr (.inr v0), .inl v1] h =
  bif aok h.1 v0 11 && true then
    bI (cl xs d 137 [.inr (.inr v0), .inl v1] h) (fun x2 h1 =>
    bif decide (x2 = 0) then
      some (some (.inl (-1)), h1)
    else
      bif aok h1.1 v0 11 && true then
        bR (cl xs d 164 [.inr (.inr v0)] h1) (fun x4 h3 =>
        bif aok h3.1 x4 2 then
          bif ain h3.1 (h3.2 x4.toNat 1) 100 v1 then
            some (some (.inl (h3.2 (h3.2 x4.toNat 1).toNat v1.toNat)), h3)
          else none
        else none)
      else none)
  else none :=
  (show _ = ev xs d mm_166 0 [some (.inr (.inr v0)), some (.inl v1)] [] h from rfl).trans (q_166_0 xs d v0 v1 h)
def stp_167 : List Nat := [0]
set_option maxRecDepth 100000 in
set_option maxHeartbeats 4000000 in
theorem q_167_0 (xs : List Int) (d : Nat) (v0 : Int) (v1 : Int) (v2 : Int) (h : aH) : ev xs d mm_167 0 [some (.inr (.inr v0)), some (.inl v1), some (.inl v2), none, none] [] h =
  bif aok h.1 v0 11 && true then
    bI (cl xs d 137 [.inr (.inr v0), .inl v1] h) (fun x2 h1 =>
    bif decide (x2 = 0) then
      some (some (.inl (-1)), h1)
    else
      bif decide (0 ≤ v2) then
        bif aok h1.1 v0 11 && true then
          bR (cl xs d 164 [.inr (.inr v0)] h1) (fun x4 h3 =>
          bif aok h3.1 x4 2 then
            bif ain h3.1 (h3.2 x4.toNat 1) 100 v1 then
              bif decide (¬ (h3.2 (h3.2 x4.toNat 1).toNat v1.toNat) = 0) then
                bif aok h3.1 v0 11 then
                  bif aok h3.1 (h3.2 v0.toNat 7) 6 then
                    bI (cl xs d 316 [.inl (h3.2 (h3.2 v0.toNat 7).toNat 0)] h3) (fun x6 h5 =>
                      bif decide (x6 ≤ v2) then
                        some (some (.inl (-1)), h5)
                      else
                        bif aok h5.1 x4 2 then
                          bif ain h5.1 (h5.2 x4.toNat 2) 100 v1 then
                            bI (cl xs d 20 [.inl (h5.2 (h5.2 x4.toNat 2).toNat v1.toNat), .inl x6, .inl v2] h5) (fun x8 h7 =>
                              some (some (.inl x8), h7))
                          else none
                        else none)
                  else none
                else none
              else
                some (some (.inl (-2)), h3)
            else none
          else none)
        else none
      else
        some (some (.inl (-1)), h1))
  else none :=
  (aB gP gX xs stp_167 32 d mm_167 0 _ _ h).trans rfl

theorem c_167 (xs : List Int) (d : Nat) (v0 : Int) (v1 : Int) (v2 : Int) (h : aH) : cl xs (d + 1) 167 [.inr (.inr v0), .inl v1, .inl v2] h =
  bif aok h.1 v0 11 && true then
    bI (cl xs d 137 [.inr (.inr v0), .inl v1] h) (fun x2 h1 =>
    bif decide (x2 = 0) then
      some (some (.inl (-1)), h1)
    else
      bif decide (0 ≤ v2) then
        bif aok h1.1 v0 11 && true then
          bR (cl xs d 164 [.inr (.inr v0)] h1) (fun x4 h3 =>
          bif aok h3.1 x4 2 then
            bif ain h3.1 (h3.2 x4.toNat 1) 100 v1 then
              bif decide (¬ (h3.2 (h3.2 x4.toNat 1).toNat v1.toNat) = 0) then
                bif aok h3.1 v0 11 then
                  bif aok h3.1 (h3.2 v0.toNat 7) 6 then
                    bI (cl xs d 316 [.inl (h3.2 (h3.2 v0.toNat 7).toNat 0)] h3) (fun x6 h5 =>
                      bif decide (x6 ≤ v2) then
                        some (some (.inl (-1)), h5)
                      else
                        bif aok h5.1 x4 2 then
                          bif ain h5.1 (h5.2 x4.toNat 2) 100 v1 then
                            bI (cl xs d 20 [.inl (h5.2 (h5.2 x4.toNat 2).toNat v1.toNat), .inl x6, .inl v2] h5) (fun x8 h7 =>
                              some (some (.inl x8), h7))
                          else none
                        else none)
                  else none
                else none
              else
                some (some (.inl (-2)), h3)
            else none
          else none)
        else none
      else
        some (some (.inl (-1)), h1))
  else none :=
  (show _ = ev xs d mm_167 0 [some (.inr (.inr v0)), some (.inl v1), some (.inl v2), none, none] [] h from rfl).trans (q_167_0 xs d v0 v1 v2 h)
def stp_168 : List Nat := [0]
set_option maxRecDepth 100000 in
set_option maxHeartbeats 4000000 in
theorem q_168_0 (xs : List Int) (d : Nat) (v0 : Int) (v1 : Int) (h : aH) : ev xs d mm_168 0 [some (.inr (.inr v0)), some (.inl v1), none] [] h =
  bif aok h.1 v0 11 && true then
    bI (cl xs d 137 [.inr (.inr v0), .inl v1] h) (fun x2 h1 =>
    bif decide (¬ x2 = 0) then
      bif aok h1.1 v0 11 && true then
        bR (cl xs d 164 [.inr (.inr v0)] h1) (fun x4 h3 =>
        bif aok h3.1 x4 2 then
          bif ain h3.1 (h3.2 x4.toNat 1) 100 v1 then
            bif decide (¬ (h3.2 (h3.2 x4.toNat 1).toNat v1.toNat) = 0) then
              bif aok h3.1 x4 2 then
                bif ain h3.1 (h3.2 x4.toNat 3) 100 v1 then
                  some (some (.inl (h3.2 (h3.2 x4.toNat 3).toNat v1.toNat)), h3)
                else none
              else none
            else
              some (some (.inl (-2)), h3)
          else none
        else none)
      else none
    else
      some (some (.inl (-1)), h1))
  else none :=
  (aB gP gX xs stp_168 18 d mm_168 0 _ _ h).trans rfl

theorem c_168 (xs : List Int) (d : Nat) (v0 : Int) (v1 : Int) (h : aH) : cl xs (d + 1) 168 [.inr (.inr v0), .inl v1] h =
  bif aok h.1 v0 11 && true then
    bI (cl xs d 137 [.inr (.inr v0), .inl v1] h) (fun x2 h1 =>
    bif decide (¬ x2 = 0) then
      bif aok h1.1 v0 11 && true then
        bR (cl xs d 164 [.inr (.inr v0)] h1) (fun x4 h3 =>
        bif aok h3.1 x4 2 then
          bif ain h3.1 (h3.2 x4.toNat 1) 100 v1 then
            bif decide (¬ (h3.2 (h3.2 x4.toNat 1).toNat v1.toNat) = 0) then
              bif aok h3.1 x4 2 then
                bif ain h3.1 (h3.2 x4.toNat 3) 100 v1 then
                  some (some (.inl (h3.2 (h3.2 x4.toNat 3).toNat v1.toNat)), h3)
                else none
              else none
            else
              some (some (.inl (-2)), h3)
          else none
        else none)
      else none
    else
      some (some (.inl (-1)), h1))
  else none :=
  (show _ = ev xs d mm_168 0 [some (.inr (.inr v0)), some (.inl v1), none] [] h from rfl).trans (q_168_0 xs d v0 v1 h)
def stp_169 : List Nat := [0]
set_option maxRecDepth 100000 in
set_option maxHeartbeats 4000000 in
theorem q_169_0 (xs : List Int) (d : Nat) (v0 : Int) (v1 : Int) (v2 : Int) (v3 : Int) (h : aH) : ev xs d mm_169 0 [some (.inr (.inr v0)), some (.inl v1), some (.inl v2), some (.inl v3), none] [] h =
  bif aok h.1 v0 11 && true then
    bI (cl xs d 137 [.inr (.inr v0), .inl v1] h) (fun x2 h1 =>
    bif decide (x2 = 0) then
      some (some (.inl (-1)), h1)
    else
      bif decide (v3 < 0) then
        some (some (.inl (-1)), h1)
      else
        bif decide (v3 ≤ 1) then
          bif aok h1.1 v0 11 && true then
            bR (cl xs d 163 [.inr (.inr v0)] h1) (fun x4 h3 =>
            bif decide (¬ v3 = 0) then
              bif aok h3.1 x4 5 && true then
                bI (cl xs d 67 [.inr (.inr x4), .inl v1, .inl v2] h3) (fun x6 h5 =>
                some (some (.inl x6), h5))
              else none
            else
              bif aok h3.1 x4 5 && true then
                bI (cl xs d 66 [.inr (.inr x4), .inl v1, .inl v2] h3) (fun x8 h7 =>
                some (some (.inl x8), h7))
              else none)
          else none
        else
          some (some (.inl (-1)), h1))
  else none :=
  (aB gP gX xs stp_169 21 d mm_169 0 _ _ h).trans rfl

theorem c_169 (xs : List Int) (d : Nat) (v0 : Int) (v1 : Int) (v2 : Int) (v3 : Int) (h : aH) : cl xs (d + 1) 169 [.inr (.inr v0), .inl v1, .inl v2, .inl v3] h =
  bif aok h.1 v0 11 && true then
    bI (cl xs d 137 [.inr (.inr v0), .inl v1] h) (fun x2 h1 =>
    bif decide (x2 = 0) then
      some (some (.inl (-1)), h1)
    else
      bif decide (v3 < 0) then
        some (some (.inl (-1)), h1)
      else
        bif decide (v3 ≤ 1) then
          bif aok h1.1 v0 11 && true then
            bR (cl xs d 163 [.inr (.inr v0)] h1) (fun x4 h3 =>
            bif decide (¬ v3 = 0) then
              bif aok h3.1 x4 5 && true then
                bI (cl xs d 67 [.inr (.inr x4), .inl v1, .inl v2] h3) (fun x6 h5 =>
                some (some (.inl x6), h5))
              else none
            else
              bif aok h3.1 x4 5 && true then
                bI (cl xs d 66 [.inr (.inr x4), .inl v1, .inl v2] h3) (fun x8 h7 =>
                some (some (.inl x8), h7))
              else none)
          else none
        else
          some (some (.inl (-1)), h1))
  else none :=
  (show _ = ev xs d mm_169 0 [some (.inr (.inr v0)), some (.inl v1), some (.inl v2), some (.inl v3), none] [] h from rfl).trans (q_169_0 xs d v0 v1 v2 v3 h)
def stp_170 : List Nat := [0]
set_option maxRecDepth 100000 in
set_option maxHeartbeats 4000000 in
theorem q_170_0 (xs : List Int) (d : Nat) (v0 : Int) (v1 : Int) (h : aH) : ev xs d mm_170 0 [some (.inr (.inr v0)), some (.inl v1), none, none] [] h =
  bif decide (v1 < 0) then
    some (some (.inl (-1)), h)
  else
    bif decide (v1 ≤ 2) then
      bif aok h.1 v0 11 && true then
        bR (cl xs d 163 [.inr (.inr v0)] h) (fun x2 h1 =>
        bif aok h1.1 v0 11 then
          bif aok h1.1 x2 5 && true then
            bI (cl xs d 69 [.inr (.inr x2), .inr (.inr (h1.2 v0.toNat 5))] h1) (fun x4 h3 =>
            bif decide (¬ v1 = 0) then
              bif decide (¬ v1 = 1) then
                bif aok h3.1 v0 11 then
                  bif aok h3.1 (h3.2 v0.toNat 5) 9 then
                    bI (cl xs d 126 [.inl (h3.2 (h3.2 v0.toNat 5).toNat 7)] h3) (fun x6 h5 =>
                      bif aok h5.1 x2 5 && true then
                        bI (cl xs d 64 [.inr (.inr x2), .inl x4, .inl 0] h5) (fun x8 h7 =>
                        some (some (.inl (oand x6 (oxor x8 (-1)))), h7))
                      else none)
                  else none
                else none
              else
                some (some (.inl x4), h3)
            else
              bif aok h3.1 v0 11 then
                bif aok h3.1 x2 5 && true then
                  bI (cl xs d 68 [.inr (.inr x2), .inr (.inr (h3.2 v0.toNat 5)), .inl x4] h3) (fun x10 h9 =>
                  some (some (.inl x10), h9))
                else none
              else none)
          else none
        else none)
      else none
    else
      some (some (.inl (-1)), h) :=
  (aB gP gX xs stp_170 31 d mm_170 0 _ _ h).trans rfl

theorem c_170 (xs : List Int) (d : Nat) (v0 : Int) (v1 : Int) (h : aH) : cl xs (d + 1) 170 [.inr (.inr v0), .inl v1] h =
  bif decide (v1 < 0) then
    some (some (.inl (-1)), h)
  else
    bif decide (v1 ≤ 2) then
      bif aok h.1 v0 11 && true then
        bR (cl xs d 163 [.inr (.inr v0)] h) (fun x2 h1 =>
        bif aok h1.1 v0 11 then
          bif aok h1.1 x2 5 && true then
            bI (cl xs d 69 [.inr (.inr x2), .inr (.inr (h1.2 v0.toNat 5))] h1) (fun x4 h3 =>
            bif decide (¬ v1 = 0) then
              bif decide (¬ v1 = 1) then
                bif aok h3.1 v0 11 then
                  bif aok h3.1 (h3.2 v0.toNat 5) 9 then
                    bI (cl xs d 126 [.inl (h3.2 (h3.2 v0.toNat 5).toNat 7)] h3) (fun x6 h5 =>
                      bif aok h5.1 x2 5 && true then
                        bI (cl xs d 64 [.inr (.inr x2), .inl x4, .inl 0] h5) (fun x8 h7 =>
                        some (some (.inl (oand x6 (oxor x8 (-1)))), h7))
                      else none)
                  else none
                else none
              else
                some (some (.inl x4), h3)
            else
              bif aok h3.1 v0 11 then
                bif aok h3.1 x2 5 && true then
                  bI (cl xs d 68 [.inr (.inr x2), .inr (.inr (h3.2 v0.toNat 5)), .inl x4] h3) (fun x10 h9 =>
                  some (some (.inl x10), h9))
                else none
              else none)
          else none
        else none)
      else none
    else
      some (some (.inl (-1)), h) :=
  (show _ = ev xs d mm_170 0 [some (.inr (.inr v0)), some (.inl v1), none, none] [] h from rfl).trans (q_170_0 xs d v0 v1 h)
def stp_171 : List Nat := [0, 34]
set_option maxRecDepth 100000 in
set_option maxHeartbeats 4000000 in
theorem q_171_0 (xs : List Int) (d : Nat) (v0 : Int) (v1 : Int) (v2 : Int) (h : aH) : ev xs d mm_171 0 [some (.inr (.inr v0)), some (.inl v1), some (.inl v2), none, none, none, none, none] [] h =
  bif aok h.1 v0 11 && true then
    bI (cl xs d 137 [.inr (.inr v0), .inl v1] h) (fun x2 h1 =>
    bif decide (x2 = 0) then
      some (some (.inl (-1)), h1)
    else
      bif decide (v2 < 0) then
        some (some (.inl (-1)), h1)
      else
        bif decide (v2 ≤ 1) then
          bif aok h1.1 v0 11 && true then
            bR (cl xs d 163 [.inr (.inr v0)] h1) (fun x4 h3 =>
            ev xs d mm_171 34 [some (.inr (.inr v0)), some (.inl v1), some (.inl v2), some (.inr (.inr x4)), some (.inl (-2)), some (.inl 0), some (.inl v1), none] [] h3)
          else none
        else
          some (some (.inl (-1)), h1))
  else none :=
  (aB gP gX xs stp_171 19 d mm_171 0 _ _ h).trans rfl

set_option maxRecDepth 100000 in
set_option maxHeartbeats 4000000 in
theorem q_171_34 (xs : List Int) (d : Nat) (v0 : Int) (v1 : Int) (v2 : Int) (v3 : Int) (v4 : Int) (v5 : Int) (v6 : Int) (u7 : Option aV) (h : aH) : ev xs d mm_171 34 [some (.inr (.inr v0)), some (.inl v1), some (.inl v2), some (.inr (.inr v3)), some (.inl v4), some (.inl v5), some (.inl v6), u7] [] h =
  bif aok h.1 v0 11 then
    bif aok h.1 (h.2 v0.toNat 5) 9 then
      bif decide ((h.2 (h.2 v0.toNat 5).toNat 7) ≤ v6) then
        bif decide (v2 = 0) then
          some (some (.inl v4), h)
        else
          bif decide (¬ v4 = (-2)) then
            some (some (.inl v5), h)
          else
            some (some (.inl v4), h)
      else
        bif aok h.1 v3 5 && true then
          bI (cl xs d 70 [.inr (.inr v3), .inl v6, .inl v1] h) (fun x2 h1 =>
          bif decide (x2 ≤ v5) then
            ev xs d mm_171 34 [some (.inr (.inr v0)), some (.inl v1), some (.inl v2), some (.inr (.inr v3)), some (.inl v4), some (.inl v5), some (.inl (w32 (v6 + 1))), some (.inl x2)] [] h1
          else
            ev xs d mm_171 34 [some (.inr (.inr v0)), some (.inl v1), some (.inl v2), some (.inr (.inr v3)), some (.inl v6), some (.inl x2), some (.inl (w32 (v6 + 1))), some (.inl x2)] [] h1)
        else none
    else none
  else none :=
  (aB gP gX xs stp_171 20 d mm_171 34 _ _ h).trans rfl

theorem c_171 (xs : List Int) (d : Nat) (v0 : Int) (v1 : Int) (v2 : Int) (h : aH) : cl xs (d + 1) 171 [.inr (.inr v0), .inl v1, .inl v2] h =
  bif aok h.1 v0 11 && true then
    bI (cl xs d 137 [.inr (.inr v0), .inl v1] h) (fun x2 h1 =>
    bif decide (x2 = 0) then
      some (some (.inl (-1)), h1)
    else
      bif decide (v2 < 0) then
        some (some (.inl (-1)), h1)
      else
        bif decide (v2 ≤ 1) then
          bif aok h1.1 v0 11 && true then
            bR (cl xs d 163 [.inr (.inr v0)] h1) (fun x4 h3 =>
            ev xs d mm_171 34 [some (.inr (.inr v0)), some (.inl v1), some (.inl v2), some (.inr (.inr x4)), some (.inl (-2)), some (.inl 0), some (.inl v1), none] [] h3)
          else none
        else
          some (some (.inl (-1)), h1))
  else none :=
  (show _ = ev xs d mm_171 0 [some (.inr (.inr v0)), some (.inl v1), some (.inl v2), none, none, none, none, none] [] h from rfl).trans (q_171_0 xs d v0 v1 v2 h)
def stp_172 : List Nat := [0]
set_option maxRecDepth 100000 in
set_option maxHeartbeats 4000000 in
theorem q_172_0 (xs : List Int) (d : Nat) (v0 : Int) (v1 : Int) (h : aH) : ev xs d mm_172 0 [some (.inr (.inr v0)), some (.inl v1), none, none, none] [] h =
  bif aok h.1 v0 11 && true then
    bI (cl xs d 137 [.inr (.inr v0), .inl v1] h) (fun x2 h1 =>
    bif decide (¬ x2 = 0) then
      bif aok h1.1 v0 11 && true then
        bR (cl xs d 163 [.inr (.inr v0)] h1) (fun x4 h3 =>
        bif aok h3.1 v0 11 then
          bif aok h3.1 (h3.2 v0.toNat 7) 6 then
            bif aok h3.1 x4 5 && true then
              bI (cl xs d 71 [.inr (.inr x4), .inl v1, .inl 0, .inr (.inr (h3.2 (h3.2 v0.toNat 7).toNat 1))] h3) (fun x6 h5 =>
              bif aok h5.1 v0 11 then
                bif aok h5.1 (h5.2 v0.toNat 7) 6 then
                  bif aok h5.1 x4 5 && true then
                    bI (cl xs d 71 [.inr (.inr x4), .inl v1, .inl 1, .inr (.inr (h5.2 (h5.2 v0.toNat 7).toNat 1))] h5) (fun x8 h7 =>
                    bif decide (x6 < 0) then
                      some (some (.inl (-2)), h7)
                    else
                      bif decide (0 ≤ x8) then
                        some (some (.inl (omin x6 x8)), h7)
                      else
                        some (some (.inl (-2)), h7))
                  else none
                else none
              else none)
            else none
          else none
        else none)
      else none
    else
      some (some (.inl (-1)), h1))
  else none :=
  (aB gP gX xs stp_172 32 d mm_172 0 _ _ h).trans rfl

theorem c_172 (xs : List Int) (d : Nat) (v0 : Int) (v1 : Int) (h : aH) : cl xs (d + 1) 172 [.inr (.inr v0), .inl v1] h =
  bif aok h.1 v0 11 && true then
    bI (cl xs d 137 [.inr (.inr v0), .inl v1] h) (fun x2 h1 =>
    bif decide (¬ x2 = 0) then
      bif aok h1.1 v0 11 && true then
        bR (cl xs d 163 [.inr (.inr v0)] h1) (fun x4 h3 =>
        bif aok h3.1 v0 11 then
          bif aok h3.1 (h3.2 v0.toNat 7) 6 then
            bif aok h3.1 x4 5 && true then
              bI (cl xs d 71 [.inr (.inr x4), .inl v1, .inl 0, .inr (.inr (h3.2 (h3.2 v0.toNat 7).toNat 1))] h3) (fun x6 h5 =>
              bif aok h5.1 v0 11 then
                bif aok h5.1 (h5.2 v0.toNat 7) 6 then
                  bif aok h5.1 x4 5 && true then
                    bI (cl xs d 71 [.inr (.inr x4), .inl v1, .inl 1, .inr (.inr (h5.2 (h5.2 v0.toNat 7).toNat 1))] h5) (fun x8 h7 =>
                    bif decide (x6 < 0) then
                      some (some (.inl (-2)), h7)
                    else
                      bif decide (0 ≤ x8) then
                        some (some (.inl (omin x6 x8)), h7)
                      else
                        some (some (.inl (-2)), h7))
                  else none
                else none
              else none)
            else none
          else none
        else none)
      else none
    else
      some (some (.inl (-1)), h1))
  else none :=
  (show _ = ev xs d mm_172 0 [some (.inr (.inr v0)), some (.inl v1), none, none, none] [] h from rfl).trans (q_172_0 xs d v0 v1 h)
def stp_173 : List Nat := [0, 39]
set_option maxRecDepth 100000 in
set_option maxHeartbeats 4000000 in
theorem q_173_0 (xs : List Int) (d : Nat) (v0 : Int) (v1 : Int) (h : aH) : ev xs d mm_173 0 [some (.inr (.inr v0)), some (.inl v1), none, none, none, none, none] [] h =
  bif decide (v1 < 0) then
    some (some (.inl (-1)), h)
  else
    bif decide (v1 ≤ 1) then
      bif aok h.1 v0 11 && true then
        bR (cl xs d 163 [.inr (.inr v0)] h) (fun x2 h1 =>
        bif aok h1.1 v0 11 then
          bif aok h1.1 (h1.2 v0.toNat 7) 6 then
            bif aok h1.1 x2 5 && true then
              bI (cl xs d 64 [.inr (.inr x2), .inl (h1.2 (h1.2 v0.toNat 7).toNat 0), .inl 0] h1) (fun x4 h3 =>
              bI (cl xs d 316 [.inl x4] h3) (fun x6 h5 =>
                ev xs d mm_173 39 [some (.inr (.inr v0)), some (.inl v1), some (.inr (.inr x2)), some (.inl (-2)), some (.inl x6), some (.inl 0), none] [] h5))
            else none
          else none
        else none)
      else none
    else
      some (some (.inl (-1)), h) :=
  (aB gP gX xs stp_173 21 d mm_173 0 _ _ h).trans rfl

set_option maxRecDepth 100000 in
set_option maxHeartbeats 4000000 in
theorem q_173_39 (xs : List Int) (d : Nat) (v0 : Int) (v1 : Int) (v2 : Int) (v3 : Int) (v4 : Int) (v5 : Int) (u6 : Option aV) (h : aH) : ev xs d mm_173 39 [some (.inr (.inr v0)), some (.inl v1), some (.inr (.inr v2)), some (.inl v3), some (.inl v4), some (.inl v5), u6] [] h =
  bif aok h.1 v0 11 then
    bif aok h.1 (h.2 v0.toNat 5) 9 then
      bif aok h.1 (h.2 (h.2 v0.toNat 5).toNat 3) 7 then
        bif decide ((h.2 (h.2 (h.2 v0.toNat 5).toNat 3).toNat 0) ≤ v5) then
          bif decide (¬ v1 = 0) then
            some (some (.inl v4), h)
          else
            some (some (.inl v3), h)
        else
          bif aok h.1 v0 11 then
            bif aok h.1 (h.2 v0.toNat 7) 6 then
              bif aok h.1 v2 5 && true then
                bI (cl xs d 64 [.inr (.inr v2), .inl (oxor (h.2 (h.2 v0.toNat 7).toNat 0) (oshl 1 v5)), .inl 0] h) (fun x2 h1 =>
                bI (cl xs d 316 [.inl x2] h1) (fun x4 h3 =>
                  bif decide (x4 ≤ v4) then
                    ev xs d mm_173 39 [some (.inr (.inr v0)), some (.inl v1), some (.inr (.inr v2)), some (.inl v3), some (.inl v4), some (.inl (w32 (v5 + 1))), some (.inl x4)] [] h3
                  else
                    ev xs d mm_173 39 [some (.inr (.inr v0)), some (.inl v1), some (.inr (.inr v2)), some (.inl v5), some (.inl x4), some (.inl (w32 (v5 + 1))), some (.inl x4)] [] h3))
              else none
            else none
          else none
      else none
    else none
  else none :=
  (aB gP gX xs stp_173 28 d mm_173 39 _ _ h).trans rfl

theorem c_173 (xs : List Int) (d : Nat) (v0 : Int) (v1 : Int) (h : aH) : cl xs (d + 1) 173 [.inr (.inr v0), .inl v1] h =
  bif decide (v1 < 0) then
    some (some (.inl (-1)), h)
  else
    bif decide (v1 ≤ 1) then
      bif aok h.1 v0 11 && true then
        bR (cl xs d 163 [.inr (.inr v0)] h) (fun x2 h1 =>
        bif aok h1.1 v0 11 then
          bif aok h1.1 (h1.2 v0.toNat 7) 6 then
            bif aok h1.1 x2 5 && true then
              bI (cl xs d 64 [.inr (.inr x2), .inl (h1.2 (h1.2 v0.toNat 7).toNat 0), .inl 0] h1) (fun x4 h3 =>
              bI (cl xs d 316 [.inl x4] h3) (fun x6 h5 =>
                ev xs d mm_173 39 [some (.inr (.inr v0)), some (.inl v1), some (.inr (.inr x2)), some (.inl (-2)), some (.inl x6), some (.inl 0), none] [] h5))
            else none
          else none
        else none)
      else none
    else
      some (some (.inl (-1)), h) :=
  (show _ = ev xs d mm_173 0 [some (.inr (.inr v0)), some (.inl v1), none, none, none, none, none] [] h from rfl).trans (q_173_0 xs d v0 v1 h)
def stp_174 : List Nat := [0, 26]
set_option maxRecDepth 100000 in
set_option maxHeartbeats 4000000 in
theorem q_174_0 (xs : List Int) (d : Nat) (v0 : Int) (v1 : Int) (v2 : Int) (v3 : Int) (h : aH) : ev xs d mm_174 0 [some (.inr (.inr v0)), some (.inl v1), some (.inl v2), some (.inl v3), none] [] h =
  bif aok h.1 v0 11 && true then
    bI (cl xs d 135 [.inr (.inr v0), .inl v1] h) (fun x2 h1 =>
    bif decide (x2 = 0) then
      some (some (.inl (-1)), h1)
    else
      bif aok h1.1 v0 11 && true then
        bI (cl xs d 135 [.inr (.inr v0), .inl v2] h1) (fun x4 h3 =>
        bif decide (x4 = 0) then
          some (some (.inl (-1)), h3)
        else
          bif decide ((-1) ≤ v3) then
            ev xs d mm_174 26 [some (.inr (.inr v0)), some (.inl v1), some (.inl v2), some (.inl v3), some (.inl 0)] [] h3
          else
            some (some (.inl (-1)), h3))
      else none)
  else none :=
  (aB gP gX xs stp_174 14 d mm_174 0 _ _ h).trans rfl

set_option maxRecDepth 100000 in
set_option maxHeartbeats 4000000 in
theorem q_174_26 (xs : List Int) (d : Nat) (v0 : Int) (v1 : Int) (v2 : Int) (v3 : Int) (v4 : Int) (h : aH) : ev xs d mm_174 26 [some (.inr (.inr v0)), some (.inl v1), some (.inl v2), some (.inl v3), some (.inl v4)] [] h =
  bif decide (4 < v4) then
    some (some (.inl (-2)), h)
  else
    bif aok h.1 v0 11 then
      bif aok h.1 (h.2 v0.toNat 5) 9 then
        bif aok h.1 v0 11 then
          bif aok h.1 v0 11 then
            bif aok h.1 (h.2 v0.toNat 7) 6 then
              bif ain h.1 (h.2 (h.2 v0.toNat 7).toNat 2) 101 v1 then
                bif aok h.1 v0 11 then
                  bif aok h.1 (h.2 v0.toNat 7) 6 then
                    bif ain h.1 (h.2 (h.2 v0.toNat 7).toNat 2) 101 v2 then
                      bI (cl xs d 175 [.inr (.inr (h.2 (h.2 v0.toNat 5).toNat 3)), .inr (.inr (h.2 v0.toNat 18)), .inr (.inl (h.2 (h.2 (h.2 v0.toNat 7).toNat 2).toNat v1.toNat)), .inr (.inl (h.2 (h.2 (h.2 v0.toNat 7).toNat 2).toNat v2.toNat)), .inl 0, .inl v4] h) (fun x2 h1 =>
                        bif decide (x2 = 0) then
                          ev xs d mm_174 26 [some (.inr (.inr v0)), some (.inl v1), some (.inl v2), some (.inl v3), some (.inl (w32 (v4 + 1)))] [] h1
                        else
                          bif decide (¬ v3 = (-1)) then
                            bif decide (v4 ≤ v3) then
                              some (some (.inl (-1)), h1)
                            else
                              bif aok h1.1 v0 11 then
                                bif ain h1.1 (h1.2 v0.toNat 18) 100 v3 then
                                  some (some (.inl (h1.2 (h1.2 v0.toNat 18).toNat v3.toNat)), h1)
                                else none
                              else none
                          else
                            some (some (.inl v4), h1))
                    else none
                  else none
                else none
              else none
            else none
          else none
        else none
      else none
    else none :=
  (aB gP gX xs stp_174 35 d mm_174 26 _ _ h).trans rfl

theorem c_174 (xs : List Int) (d : Nat) (v0 : Int) (v1 : Int) (v2 : Int) (v3 : Int) (h : aH) : cl xs (d + 1) 174 [.inr (.inr v0), .inl v1, .inl v2, .inl v3] h =
  bif aok h.1 v0 11 && true then
    bI (cl xs d 135 [.inr (.inr v0), .inl v1] h) (fun x2 h1 =>
    bif decide (x2 = 0) then
      some (some (.inl (-1)), h1)
    else
      bif aok h1.1 v0 11 && true then
        bI (cl xs d 135 [.inr (.inr v0), .inl v2] h1) (fun x4 h3 =>
        bif decide (x4 = 0) then
          some (some (.inl (-1)), h3)
        else
          bif decide ((-1) ≤ v3) then
            ev xs d mm_174 26 [some (.inr (.inr v0)), some (.inl v1), some (.inl v2), some (.inl v3), some (.inl 0)] [] h3
          else
            some (some (.inl (-1)), h3))
      else none)
  else none :=
  (show _ = ev xs d mm_174 0 [some (.inr (.inr v0)), some (.inl v1), some (.inl v2), some (.inl v3), none] [] h from rfl).trans (q_174_0 xs d v0 v1 v2 v3 h)
def stp_175 : List Nat := [0, 30]
set_option maxRecDepth 100000 in
set_option maxHeartbeats 4000000 in
theorem q_175_0 (xs : List Int) (d : Nat) (v0 : Int) (v1 : Int) (v2 : Int) (v4 : Int) (v6 : Int) (v7 : Int) (h : aH) : ev xs d mm_175 0 [some (.inr (.inr v0)), some (.inr (.inr v1)), some (.inr (.inl v2)), none, some (.inr (.inl v4)), none, some (.inl v6), some (.inl v7), none, none, none] [] h =
  bif decide (v7 ≤ v6) then
    bif decide (¬ (olcmp v2 v4) = 0) then
      some (some (.inl 0), h)
    else
      some (some (.inl 1), h)
  else
    bif aoa h.1 v1 then
      bif decide (v6 < (aln h.1 v1 : Int)) then
        ev xs d mm_175 30 [some (.inr (.inr v0)), some (.inr (.inr v1)), some (.inr (.inl v2)), none, some (.inr (.inl v4)), none, some (.inl v6), some (.inl v7), some (.inl 0), none, none] [] h
      else
        bif decide (¬ (olcmp v2 v4) = 0) then
          some (some (.inl 0), h)
        else
          some (some (.inl 1), h)
    else none :=
  (aB gP gX xs stp_175 15 d mm_175 0 _ _ h).trans rfl

set_option maxRecDepth 100000 in
set_option maxHeartbeats 4000000 in
theorem q_175_30 (xs : List Int) (d : Nat) (v0 : Int) (v1 : Int) (v2 : Int) (u3 : Option aV) (v4 : Int) (u5 : Option aV) (v6 : Int) (v7 : Int) (v8 : Int) (u9 : Option aV) (u10 : Option aV) (h : aH) : ev xs d mm_175 30 [some (.inr (.inr v0)), some (.inr (.inr v1)), some (.inr (.inl v2)), u3, some (.inr (.inl v4)), u5, some (.inl v6), some (.inl v7), some (.inl v8), u9, u10] [] h =
  bif aok h.1 v0 7 then
    bif decide ((h.2 v0.toNat 0) ≤ v8) then
      some (some (.inl 0), h)
    else
      bif aok h.1 v0 7 && true then
        bJ (cl xs d 86 [.inr (.inr v0), .inl v8, .inr (.inl v2)] h) (fun x2 h1 =>
        bif decide ((olcmp x2 v2) = 0) then
          ev xs d mm_175 30 [some (.inr (.inr v0)), some (.inr (.inr v1)), some (.inr (.inl v2)), u3, some (.inr (.inl v4)), u5, some (.inl v6), some (.inl v7), some (.inl (w32 (v8 + 1))), some (.inr (.inl x2)), none] [] h1
        else
          bif ain h1.1 v1 100 v6 then
            bI (cl xs d 175 [.inr (.inr v0), .inr (.inr v1), .inr (.inl x2), .inr (.inl v4), .inl (w32 (v6 + 1)), .inl v7] (h1.1, aup h1.2 v1.toNat v6.toNat v8)) (fun x4 h3 =>
              bif decide (x4 = 0) then
                ev xs d mm_175 30 [some (.inr (.inr v0)), some (.inr (.inr v1)), some (.inr (.inl v2)), u3, some (.inr (.inl v4)), u5, some (.inl v6), some (.inl v7), some (.inl (w32 (v8 + 1))), some (.inr (.inl x2)), none] [] h3
              else
                some (some (.inl 1), h3))
          else none)
      else none
  else none :=
  (aB gP gX xs stp_175 30 d mm_175 30 _ _ h).trans rfl

theorem c_175 (xs : List Int) (d : Nat) (v0 : Int) (v1 : Int) (v2 : Int) (v4 : Int) (v6 : Int) (v7 : Int) (h : aH) : cl xs (d + 1) 175 [.inr (.inr v0), .inr (.inr v1), .inr (.inl v2), .inr (.inl v4), .inl v6, .inl v7] h =
  bif decide (v7 ≤ v6) then
    bif decide (¬ (olcmp v2 v4) = 0) then
      some (some (.inl 0), h)
    else
      some (some (.inl 1), h)
  else
    bif aoa h.1 v1 then
      bif decide (v6 < (aln h.1 v1 : Int)) then
        ev xs d mm_175 30 [some (.inr (.inr v0)), some (.inr (.inr v1)), some (.inr (.inl v2)), none, some (.inr (.inl v4)), none, some (.inl v6), some (.inl v7), some (.inl 0), none, none] [] h
      else
        bif decide (¬ (olcmp v2 v4) = 0) then
          some (some (.inl 0), h)
        else
          some (some (.inl 1), h)
    else none :=
  (show _ = ev xs d mm_175 0 [some (.inr (.inr v0)), some (.inr (.inr v1)), some (.inr (.inl v2)), none, some (.inr (.inl v4)), none, some (.inl v6), some (.inl v7), none, none, none] [] h from rfl).trans (q_175_0 xs d v0 v1 v2 v4 v6 v7 h)
def stp_176 : List Nat := [0, 42, 67, 97, 127]
set_option maxRecDepth 100000 in
set_option maxHeartbeats 4000000 in
theorem q_176_0 (xs : List Int) (d : Nat) (v0 : Int) (v1 : Int) (v2 : Int) (h : aH) : ev xs d mm_176 0 [some (.inr (.inr v0)), some (.inl v1), some (.inl v2), none, none, none, none, none, none, none, none] [] h =
  bif aok h.1 v0 11 && true then
    bI (cl xs d 135 [.inr (.inr v0), .inl v1] h) (fun x2 h1 =>
    bif decide (x2 = 0) then
      some (some (.inl (-1)), h1)
    else
      bif aok h1.1 v0 11 && true then
        bI (cl xs d 135 [.inr (.inr v0), .inl v2] h1) (fun x4 h3 =>
        bif decide (¬ x4 = 0) then
          bif aok h3.1 v0 11 then
            bif aok h3.1 (h3.2 v0.toNat 7) 6 then
              bif ain h3.1 (h3.2 (h3.2 v0.toNat 7).toNat 2) 101 v1 then
                bif aok h3.1 v0 11 then
                  bif aok h3.1 (h3.2 v0.toNat 7) 6 then
                    bif ain h3.1 (h3.2 (h3.2 v0.toNat 7).toNat 2) 101 v2 then
                      ev xs d mm_176 42 [some (.inr (.inr v0)), some (.inl v1), some (.inl v2), some (.inr (.inl (h3.2 (h3.2 (h3.2 v0.toNat 7).toNat 2).toNat v1.toNat))), none, some (.inr (.inl (h3.2 (h3.2 (h3.2 v0.toNat 7).toNat 2).toNat v2.toNat))), none, some (.inl 0), none, none, none] [] h3
                    else none
                  else none
                else none
              else none
            else none
          else none
        else
          some (some (.inl (-1)), h3))
      else none)
  else none :=
  (aB gP gX xs stp_176 23 d mm_176 0 _ _ h).trans rfl

set_option maxRecDepth 100000 in
set_option maxHeartbeats 4000000 in
theorem q_176_42 (xs : List Int) (d : Nat) (v0 : Int) (v1 : Int) (v2 : Int) (v3 : Int) (u4 : Option aV) (v5 : Int) (u6 : Option aV) (v7 : Int) (u8 : Option aV) (u9 : Option aV) (u10 : Option aV) (h : aH) : ev xs d mm_176 42 [some (.inr (.inr v0)), some (.inl v1), some (.inl v2), some (.inr (.inl v3)), u4, some (.inr (.inl v5)), u6, some (.inl v7), u8, u9, u10] [] h =
  bif decide (8 < v7) then
    ev xs d mm_176 67 [some (.inr (.inr v0)), some (.inl v1), some (.inl v2), some (.inr (.inl v3)), u4, some (.inr (.inl v5)), acl u6, some (.inl 0), u8, u9, u10] [] h
  else
    bif aok h.1 v0 11 then
      bif ain h.1 (h.2 v0.toNat 19) 100 v7 then
        ev xs d mm_176 42 [some (.inr (.inr v0)), some (.inl v1), some (.inl v2), some (.inr (.inl v3)), u4, some (.inr (.inl v5)), acl u6, some (.inl (w32 (v7 + 1))), u8, u9, u10] [] (h.1, aup h.2 (h.2 v0.toNat 19).toNat v7.toNat v7)
      else none
    else none :=
  (aB gP gX xs stp_176 11 d mm_176 42 _ _ h).trans rfl

set_option maxRecDepth 100000 in
set_option maxHeartbeats 4000000 in
theorem q_176_67 (xs : List Int) (d : Nat) (v0 : Int) (v1 : Int) (v2 : Int) (v3 : Int) (u4 : Option aV) (v5 : Int) (u6 : Option aV) (v7 : Int) (u8 : Option aV) (u9 : Option aV) (u10 : Option aV) (h : aH) : ev xs d mm_176 67 [some (.inr (.inr v0)), some (.inl v1), some (.inl v2), some (.inr (.inl v3)), u4, some (.inr (.inl v5)), u6, some (.inl v7), u8, u9, u10] [] h =
  bI (cl xs d 121 [.inr (.inl v3)] h) (fun x2 h1 =>
    bif decide (x2 ≤ v7) then
      bif aok h1.1 v0 11 then
        bI (cl xs d 121 [.inr (.inl v5)] h1) (fun x4 h3 =>
          bif ain h3.1 (h1.2 v0.toNat 19) 100 (omin 8 x4) then
            some (some (.inl (h3.2 (h1.2 v0.toNat 19).toNat (omin 8 x4).toNat)), h3)
          else none)
      else none
    else
      bif aok h1.1 v0 11 then
        bif ain h1.1 (h1.2 v0.toNat 19) 100 0 then
          bif aok h1.1 v0 11 then
            bif ain h1.1 (h1.2 v0.toNat 19) 100 0 then
              ev xs d mm_176 97 [some (.inr (.inr v0)), some (.inl v1), some (.inl v2), some (.inr (.inl v3)), u4, some (.inr (.inl v5)), u6, some (.inl v7), some (.inl (h1.2 (h1.2 v0.toNat 19).toNat (0 : Int).toNat)), some (.inl 0), u10] [] (h1.1, aup h1.2 (h1.2 v0.toNat 19).toNat (0 : Int).toNat (w32 (v7 + 1)))
            else none
          else none
        else none
      else none) :=
  (aB gP gX xs stp_176 19 d mm_176 67 _ _ h).trans rfl

set_option maxRecDepth 100000 in
set_option maxHeartbeats 4000000 in
theorem q_176_97 (xs : List Int) (d : Nat) (v0 : Int) (v1 : Int) (v2 : Int) (v3 : Int) (u4 : Option aV) (v5 : Int) (u6 : Option aV) (v7 : Int) (v8 : Int) (v9 : Int) (u10 : Option aV) (h : aH) : ev xs d mm_176 97 [some (.inr (.inr v0)), some (.inl v1), some (.inl v2), some (.inr (.inl v3)), u4, some (.inr (.inl v5)), u6, some (.inl v7), some (.inl v8), some (.inl v9), u10] [] h =
  bif decide (8 ≤ v9) then
    ev xs d mm_176 67 [some (.inr (.inr v0)), some (.inl v1), some (.inl v2), some (.inr (.inl v3)), u4, some (.inr (.inl v5)), acl u6, some (.inl (w32 (v7 + 1))), some (.inl v8), some (.inl v9), u10] [] h
  else
    bI (cl xs d 122 [.inr (.inl v3), .inl v7] h) (fun x2 h1 =>
      bI (cl xs d 122 [.inr (.inl v5), .inl v9] h1) (fun x4 h3 =>
        bif decide (¬ x2 = x4) then
          ev xs d mm_176 127 [some (.inr (.inr v0)), some (.inl v1), some (.inl v2), some (.inr (.inl v3)), u4, some (.inr (.inl v5)), u6, some (.inl v7), some (.inl v8), some (.inl v9), u10] [.inl 1, .inl v8] h3
        else
          ev xs d mm_176 127 [some (.inr (.inr v0)), some (.inl v1), some (.inl v2), some (.inr (.inl v3)), u4, some (.inr (.inl v5)), u6, some (.inl v7), some (.inl v8), some (.inl v9), u10] [.inl 0, .inl v8] h3)) :=
  (aB gP gX xs stp_176 14 d mm_176 97 _ _ h).trans rfl

set_option maxRecDepth 100000 in
set_option maxHeartbeats 4000000 in
theorem q_176_127 (xs : List Int) (d : Nat) (v0 : Int) (v1 : Int) (v2 : Int) (v3 : Int) (u4 : Option aV) (v5 : Int) (u6 : Option aV) (v7 : Int) (v8 : Int) (v9 : Int) (u10 : Option aV) (s0 : Int) (s1 : Int) (h : aH) : ev xs d mm_176 127 [some (.inr (.inr v0)), some (.inl v1), some (.inl v2), some (.inr (.inl v3)), u4, some (.inr (.inl v5)), u6, some (.inl v7), some (.inl v8), some (.inl v9), u10] [.inl s1, .inl s0] h =
  bif aok h.1 v0 11 then
    bif ain h.1 (h.2 v0.toNat 19) 100 (w32 (v9 + 1)) then
      bif aok h.1 v0 11 then
        bif aok h.1 v0 11 then
          bif ain h.1 (h.2 v0.toNat 19) 100 v9 then
            bif ain h.1 (h.2 v0.toNat 19) 100 (w32 (v9 + 1)) then
              ev xs d mm_176 97 [some (.inr (.inr v0)), some (.inl v1), some (.inl v2), some (.inr (.inl v3)), u4, some (.inr (.inl v5)), u6, some (.inl v7), some (.inl (h.2 (h.2 v0.toNat 19).toNat (w32 (v9 + 1)).toNat)), some (.inl (w32 (v9 + 1))), some (.inl (w32 (s0 + s1)))] [] (h.1, aup h.2 (h.2 v0.toNat 19).toNat (w32 (v9 + 1)).toNat (omin (w32 (s0 + s1)) (w32 ((omin (h.2 (h.2 v0.toNat 19).toNat v9.toNat) (h.2 (h.2 v0.toNat 19).toNat (w32 (v9 + 1)).toNat)) + 1))))
            else none
          else none
        else none
      else none
    else none
  else none :=
  (aB gP gX xs stp_176 28 d mm_176 127 _ _ h).trans rfl

theorem c_176 (xs : List Int) (d : Nat) (v0 : Int) (v1 : Int) (v2 : Int) (h : aH) : cl xs (d + 1) 176 [.inr (.inr v0), .inl v1, .inl v2] h =
  bif aok h.1 v0 11 && true then
    bI (cl xs d 135 [.inr (.inr v0), .inl v1] h) (fun x2 h1 =>
    bif decide (x2 = 0) then
      some (some (.inl (-1)), h1)
    else
      bif aok h1.1 v0 11 && true then
        bI (cl xs d 135 [.inr (.inr v0), .inl v2] h1) (fun x4 h3 =>
        bif decide (¬ x4 = 0) then
          bif aok h3.1 v0 11 then
            bif aok h3.1 (h3.2 v0.toNat 7) 6 then
              bif ain h3.1 (h3.2 (h3.2 v0.toNat 7).toNat 2) 101 v1 then
                bif aok h3.1 v0 11 then
                  bif aok h3.1 (h3.2 v0.toNat 7) 6 then
                    bif ain h3.1 (h3.2 (h3.2 v0.toNat 7).toNat 2) 101 v2 then
                      ev xs d mm_176 42 [some (.inr (.inr v0)), some (.inl v1), some (.inl v2), some (.inr (.inl (h3.2 (h3.2 (h3.2 v0.toNat 7).toNat 2).toNat v1.toNat))), none, some (.inr (.inl (h3.2 (h3.2 (h3.2 v0.toNat 7).toNat 2).toNat v2.toNat))), none, some (.inl 0), none, none, none] [] h3
                    else none
                  else none
                else none
              else none
            else none
          else none
        else
          some (some (.inl (-1)), h3))
      else none)
  else none :=
  (show _ = ev xs d mm_176 0 [some (.inr (.inr v0)), some (.inl v1), some (.inl v2), none, none, none, none, none, none, none, none] [] h from rfl).trans (q_176_0 xs d v0 v1 v2 h)
def stp_177 : List Nat := [0, 64]
set_option maxRecDepth 100000 in
set_option maxHeartbeats 4000000 in
theorem q_177_0 (xs : List Int) (d : Nat) (v0 : Int) (v1 : Int) (v2 : Int) (h : aH) : ev xs d mm_177 0 [some (.inr (.inr v0)), some (.inl v1), some (.inl v2), none, none, none, none, none, none, none, none] [] h =
  bif aok h.1 v0 11 && true then
    bI (cl xs d 135 [.inr (.inr v0), .inl v1] h) (fun x2 h1 =>
    bif decide (x2 = 0) then
      some (some (.inl (-1)), h1)
    else
      bif aok h1.1 v0 11 && true then
        bI (cl xs d 135 [.inr (.inr v0), .inl v2] h1) (fun x4 h3 =>
        bif decide (¬ x4 = 0) then
          bif aok h3.1 v0 11 then
            bif aok h3.1 (h3.2 v0.toNat 7) 6 then
              bif ain h3.1 (h3.2 (h3.2 v0.toNat 7).toNat 2) 101 v1 then
                bif aok h3.1 v0 11 then
                  bif aok h3.1 (h3.2 v0.toNat 7) 6 then
                    bif ain h3.1 (h3.2 (h3.2 v0.toNat 7).toNat 2) 101 v2 then
                      bI (cl xs d 121 [.inr (.inl (h3.2 (h3.2 (h3.2 v0.toNat 7).toNat 2).toNat v1.toNat))] h3) (fun x6 h5 =>
                        bI (cl xs d 121 [.inr (.inl (h3.2 (h3.2 (h3.2 v0.toNat 7).toNat 2).toNat v2.toNat))] h5) (fun x8 h7 =>
                          ev xs d mm_177 64 [some (.inr (.inr v0)), some (.inl v1), some (.inl v2), some (.inr (.inl (h3.2 (h3.2 (h3.2 v0.toNat 7).toNat 2).toNat v1.toNat))), none, some (.inr (.inl (h3.2 (h3.2 (h3.2 v0.toNat 7).toNat 2).toNat v2.toNat))), none, some (.inl x6), some (.inl x8), some (.inl (omin x6 x8)), some (.inl 0)] [] h7))
                    else none
                  else none
                else none
              else none
            else none
          else none
        else
          some (some (.inl (-1)), h3))
      else none)
  else none :=
  (aB gP gX xs stp_177 33 d mm_177 0 _ _ h).trans rfl

set_option maxRecDepth 100000 in
set_option maxHeartbeats 4000000 in
theorem q_177_64 (xs : List Int) (d : Nat) (v0 : Int) (v1 : Int) (v2 : Int) (v3 : Int) (u4 : Option aV) (v5 : Int) (u6 : Option aV) (v7 : Int) (v8 : Int) (v9 : Int) (v10 : Int) (h : aH) : ev xs d mm_177 64 [some (.inr (.inr v0)), some (.inl v1), some (.inl v2), some (.inr (.inl v3)), u4, some (.inr (.inl v5)), u6, some (.inl v7), some (.inl v8), some (.inl v9), some (.inl v10)] [] h =
  bif decide (v9 ≤ v10) then
    some (some (.inl v9), h)
  else
    bI (cl xs d 122 [.inr (.inl v3), .inl (w32 ((w32 (v7 - 1)) - v10))] h) (fun x2 h1 =>
      bI (cl xs d 122 [.inr (.inl v5), .inl (w32 ((w32 (v8 - 1)) - v10))] h1) (fun x4 h3 =>
        bif decide (x2 = x4) then
          ev xs d mm_177 64 [some (.inr (.inr v0)), some (.inl v1), some (.inl v2), some (.inr (.inl v3)), u4, some (.inr (.inl v5)), u6, some (.inl v7), some (.inl v8), some (.inl v9), some (.inl (w32 (v10 + 1)))] [] h3
        else
          some (some (.inl v10), h3))) :=
  (aB gP gX xs stp_177 21 d mm_177 64 _ _ h).trans rfl

theorem c_177 (xs : List Int) (d : Nat) (v0 : Int) (v1 : Int) (v2 : Int) (h : aH) : cl xs (d + 1) 177 [.inr (.inr v0), .inl v1, .inl v2] h =
  bif aok h.1 v0 11 && true then
    bI (cl xs d 135 [.inr (.inr v0), .inl v1] h) (fun x2 h1 =>
    bif decide (x2 = 0) then
      some (some (.inl (-1)), h1)
    else
      bif aok h1.1 v0 11 && true then
        bI (cl xs d 135 [.inr (.inr v0), .inl v2] h1) (fun x4 h3 =>
        bif decide (¬ x4 = 0) then
          bif aok h3.1 v0 11 then
            bif aok h3.1 (h3.2 v0.toNat 7) 6 then
              bif ain h3.1 (h3.2 (h3.2 v0.toNat 7).toNat 2) 101 v1 then
                bif aok h3.1 v0 11 then
                  bif aok h3.1 (h3.2 v0.toNat 7) 6 then
                    bif ain h3.1 (h3.2 (h3.2 v0.toNat 7).toNat 2) 101 v2 then
                      bI (cl xs d 121 [.inr (.inl (h3.2 (h3.2 (h3.2 v0.toNat 7).toNat 2).toNat v1.toNat))] h3) (fun x6 h5 =>
                        bI (cl xs d 121 [.inr (.inl (h3.2 (h3.2 (h3.2 v0.toNat 7).toNat 2).toNat v2.toNat))] h5) (fun x8 h7 =>
                          ev xs d mm_177 64 [some (.inr (.inr v0)), some (.inl v1), some (.inl v2), some (.inr (.inl (h3.2 (h3.2 (h3.2 v0.toNat 7).toNat 2).toNat v1.toNat))), none, some (.inr (.inl (h3.2 (h3.2 (h3.2 v0.toNat 7).toNat 2).toNat v2.toNat))), none, some (.inl x6), some (.inl x8), some (.inl (omin x6 x8)), some (.inl 0)] [] h7))
                    else none
                  else none
                else none
              else none
            else none
          else none
        else
          some (some (.inl (-1)), h3))
      else none)
  else none :=
  (show _ = ev xs d mm_177 0 [some (.inr (.inr v0)), some (.inl v1), some (.inl v2), none, none, none, none, none, none, none, none] [] h from rfl).trans (q_177_0 xs d v0 v1 v2 h)
def stp_178 : List Nat := [0]
set_option maxRecDepth 100000 in
set_option maxHeartbeats 4000000 in
theorem q_178_0 (xs : List Int) (d : Nat) (v0 : Int) (h : aH) : ev xs d mm_178 0 [some (.inl v0)] [] h =
  bif decide (v0 < 0) then
    some (some (.inl 0), h)
  else
    bif decide (300 < v0) then
      some (some (.inl 0), h)
    else
      some (some (.inl 1), h) :=
  (aB gP gX xs stp_178 9 d mm_178 0 _ _ h).trans rfl

theorem c_178 (xs : List Int) (d : Nat) (v0 : Int) (h : aH) : cl xs (d + 1) 178 [.inl v0] h =
  bif decide (v0 < 0) then
    some (some (.inl 0), h)
  else
    bif decide (300 < v0) then
      some (some (.inl 0), h)
    else
      some (some (.inl 1), h) :=
  (show _ = ev xs d mm_178 0 [some (.inl v0)] [] h from rfl).trans (q_178_0 xs d v0 h)
def stp_179 : List Nat := [0]
set_option maxRecDepth 100000 in
set_option maxHeartbeats 4000000 in
theorem q_179_0 (xs : List Int) (d : Nat) (v0 : Int) (v1 : Int) (h : aH) : ev xs d mm_179 0 [some (.inr (.inr v0)), some (.inl v1)] [] h =
  bif aok h.1 v0 11 then
    bif aok h.1 v0 11 then
      bif aok h.1 (h.2 v0.toNat 8) 6 && true then
        bV (cl xs d 74 [.inr (.inr (h.2 v0.toNat 8)), .inr (.inr (h.2 v0.toNat 7))] h) (fun h1 =>
        bif aok h1.1 v0 11 then
          bif aok h1.1 v0 11 then
            bif aok h1.1 (h1.2 v0.toNat 8) 6 && true then
              bV (cl xs d 79 [.inr (.inr (h1.2 v0.toNat 8)), .inr (.inr (h1.2 v0.toNat 5)), .inl v1] h1) (fun h2 =>
              bif aok h2.1 v0 11 then
                some (some (.inr (.inr (h2.2 v0.toNat 8))), h2)
              else none)
            else none
          else none
        else none)
      else none
    else none
  else none :=
  (aB gP gX xs stp_179 15 d mm_179 0 _ _ h).trans rfl

theorem c_179 (xs : List Int) (d : Nat) (v0 : Int) (v1 : Int) (h : aH) : cl xs (d + 1) 179 [.inr (.inr v0), .inl v1] h =
  bif aok h.1 v0 11 then
    bif aok h.1 v0 11 then
      bif aok h.1 (h.2 v0.toNat 8) 6 && true then
        bV (cl xs d 74 [.inr (.inr (h.2 v0.toNat 8)), .inr (.inr (h.2 v0.toNat 7))] h) (fun h1 =>
        bif aok h1.1 v0 11 then
          bif aok h1.1 v0 11 then
            bif aok h1.1 (h1.2 v0.toNat 8) 6 && true then
              bV (cl xs d 79 [.inr (.inr (h1.2 v0.toNat 8)), .inr (.inr (h1.2 v0.toNat 5)), .inl v1] h1) (fun h2 =>
              bif aok h2.1 v0 11 then
                some (some (.inr (.inr (h2.2 v0.toNat 8))), h2)
              else none)
            else none
          else none
        else none)
      else none
    else none
  else none :=
  (show _ = ev xs d mm_179 0 [some (.inr (.inr v0)), some (.inl v1)] [] h from rfl).trans (q_179_0 xs d v0 v1 h)
def stp_180 : List Nat := [0]
set_option maxRecDepth 100000 in
set_option maxHeartbeats 4000000 in
theorem q_180_0 (xs : List Int) (d : Nat) (v0 : Int) (v1 : Int) (v2 : Int) (v3 : Int) (h : aH) : ev xs d mm_180 0 [some (.inr (.inr v0)), some (.inl v1), some (.inl v2), some (.inl v3)] [] h =
  bif aok h.1 v0 11 && true then
    bI (cl xs d 135 [.inr (.inr v0), .inl v1] h) (fun x2 h1 =>
    bif decide (x2 = 0) then
      some (some (.inl (-1)), h1)
    else
      bI (cl xs d 178 [.inl v2] h1) (fun x4 h3 =>
        bif decide (x4 = 0) then
          some (some (.inl (-1)), h3)
        else
          bif aok h3.1 v0 11 && true then
            bR (cl xs d 179 [.inr (.inr v0), .inl v2] h3) (fun x6 h5 =>
            bif aok h5.1 x6 6 && true then
              bI (cl xs d 76 [.inr (.inr x6), .inl v1, .inl v3] h5) (fun x8 h7 =>
              some (some (.inl x8), h7))
            else none)
          else none))
  else none :=
  (aB gP gX xs stp_180 16 d mm_180 0 _ _ h).trans rfl

theorem c_180 (xs : List Int) (d : Nat) (v0 : Int) (v1 : Int) (v2 : Int) (v3 : Int) (h : aH) : cl xs (d + 1) 180 [.inr (.inr v0), .inl v1, .inl v2, .inl v3] h =
  bif aok h.1 v0 11 && true then
    bI (cl xs d 135 [.inr (.inr v0), .inl v1] h) (fun x2 h1 =>
    bif decide (x2 = 0) then
      some (some (.inl (-1)), h1)
    else
      bI (cl xs d 178 [.inl v2] h1) (fun x4 h3 =>
        bif decide (x4 = 0) then
          some (some (.inl (-1)), h3)
        else
          bif aok h3.1 v0 11 && true then
            bR (cl xs d 179 [.inr (.inr v0), .inl v2] h3) (fun x6 h5 =>
            bif aok h5.1 x6 6 && true then
              bI (cl xs d 76 [.inr (.inr x6), .inl v1, .inl v3] h5) (fun x8 h7 =>
              some (some (.inl x8), h7))
            else none)
          else none))
  else none :=
  (show _ = ev xs d mm_180 0 [some (.inr (.inr v0)), some (.inl v1), some (.inl v2), some (.inl v3)] [] h from rfl).trans (q_180_0 xs d v0 v1 v2 v3 h)
def stp_181 : List Nat := [0, 38]
set_option maxRecDepth 100000 in
set_option maxHeartbeats 4000000 in
theorem q_181_0 (xs : List Int) (d : Nat) (v0 : Int) (v1 : Int) (h : aH) : ev xs d mm_181 0 [some (.inr (.inr v0)), some (.inl v1), none] [] h =
  bif aok h.1 v0 11 && true then
    bI (cl xs d 135 [.inr (.inr v0), .inl v1] h) (fun x2 h1 =>
    bif decide (¬ x2 = 0) then
      bif aok h1.1 v0 11 then
        bif aok h1.1 (h1.2 v0.toNat 7) 6 then
          bif ain h1.1 (h1.2 (h1.2 v0.toNat 7).toNat 3) 100 v1 then
            bif decide ((h1.2 (h1.2 (h1.2 v0.toNat 7).toNat 3).toNat v1.toNat) = 0) then
              bif aok h1.1 v0 11 then
                bif aok h1.1 v0 11 then
                  bif aok h1.1 (h1.2 v0.toNat 8) 6 && true then
                    bV (cl xs d 74 [.inr (.inr (h1.2 v0.toNat 8)), .inr (.inr (h1.2 v0.toNat 7))] h1) (fun h3 =>
                    ev xs d mm_181 38 [some (.inr (.inr v0)), some (.inl v1), some (.inl 1)] [] h3)
                  else none
                else none
              else none
            else
              some (some (.inl (-2)), h1)
          else none
        else none
      else none
    else
      some (some (.inl (-1)), h1))
  else none :=
  (aB gP gX xs stp_181 18 d mm_181 0 _ _ h).trans rfl

set_option maxRecDepth 100000 in
set_option maxHeartbeats 4000000 in
theorem q_181_38 (xs : List Int) (d : Nat) (v0 : Int) (v1 : Int) (v2 : Int) (h : aH) : ev xs d mm_181 38 [some (.inr (.inr v0)), some (.inl v1), some (.inl v2)] [] h =
  bif decide (300 < v2) then
    some (some (.inl (-2)), h)
  else
    bif aok h.1 v0 11 then
      bif aok h.1 v0 11 then
        bif aok h.1 (h.2 v0.toNat 8) 6 && true then
          bV (cl xs d 80 [.inr (.inr (h.2 v0.toNat 8)), .inr (.inr (h.2 v0.toNat 5))] h) (fun h1 =>
          bif aok h1.1 v0 11 then
            bif aok h1.1 (h1.2 v0.toNat 8) 6 then
              bif ain h1.1 (h1.2 (h1.2 v0.toNat 8).toNat 3) 100 v1 then
                bif decide (¬ (h1.2 (h1.2 (h1.2 v0.toNat 8).toNat 3).toNat v1.toNat) = 2) then
                  ev xs d mm_181 38 [some (.inr (.inr v0)), some (.inl v1), some (.inl (w32 (v2 + 1)))] [] h1
                else
                  some (some (.inl v2), h1)
              else none
            else none
          else none)
        else none
      else none
    else none :=
  (aB gP gX xs stp_181 18 d mm_181 38 _ _ h).trans rfl

theorem c_181 (xs : List Int) (d : Nat) (v0 : Int) (v1 : Int) (h : aH) : cl xs (d + 1) 181 [.inr (.inr v0), .inl v1] h =
  bif aok h.1 v0 11 && true then
    bI (cl xs d 135 [.inr (.inr v0), .inl v1] h) (fun x2 h1 =>
    bif decide (¬ x2 = 0) then
      bif aok h1.1 v0 11 then
        bif aok h1.1 (h1.2 v0.toNat 7) 6 then
          bif ain h1.1 (h1.2 (h1.2 v0.toNat 7).toNat 3) 100 v1 then
            bif decide ((h1.2 (h1.2 (h1.2 v0.toNat 7).toNat 3).toNat v1.toNat) = 0) then
              bif aok h1.1 v0 11 then
                bif aok h1.1 v0 11 then
                  bif aok h1.1 (h1.2 v0.toNat 8) 6 && true then
                    bV (cl xs d 74 [.inr (.inr (h1.2 v0.toNat 8)), .inr (.inr (h1.2 v0.toNat 7))] h1) (fun h3 =>
                    ev xs d mm_181 38 [some (.inr (.inr v0)), some (.inl v1), some (.inl 1)] [] h3)
                  else none
                else none
              else none
            else
              some (some (.inl (-2)), h1)
          else none
        else none
      else none
    else
      some (some (.inl (-1)), h1))
  else none :=
  (show _ = ev xs d mm_181 0 [some (.inr (.inr v0)), some (.inl v1), none] [] h from rfl).trans (q_181_0 xs d v0 v1 h)
def stp_182 : List Nat := [0]
set_option maxRecDepth 100000 in
set_option maxHeartbeats 4000000 in
theorem q_182_0 (xs : List Int) (d : Nat) (v0 : Int) (v1 : Int) (h : aH) : ev xs d mm_182 0 [some (.inr (.inr v0)), some (.inl v1)] [] h =
  bI (cl xs d 178 [.inl v1] h) (fun x2 h1 =>
    bif decide (x2 = 0) then
      some (some (.inl (-1)), h1)
    else
      bif aok h1.1 v0 11 && true then
        bR (cl xs d 179 [.inr (.inr v0), .inl v1] h1) (fun x4 h3 =>
        bif aok h3.1 v0 11 then
          bif aok h3.1 (h3.2 v0.toNat 5) 9 then
            bif aok h3.1 x4 6 && true then
              bI (cl xs d 78 [.inr (.inr x4), .inl (h3.2 (h3.2 v0.toNat 5).toNat 5)] h3) (fun x6 h5 =>
              some (some (.inl x6), h5))
            else none
          else none
        else none)
      else none) :=
  (aB gP gX xs stp_182 13 d mm_182 0 _ _ h).trans rfl

theorem c_182 (xs : List Int) (d : Nat) (v0 : Int) (v1 : Int) (h : aH) : cl xs (d + 1) 182 [.inr (.inr v0), .inl v1] h =
  bI (cl xs d 178 [.inl v1] h) (fun x2 h1 =>
    bif decide (x2 = 0) then
      some (some (.inl (-1)), h1)
    else
      bif aok h1.1 v0 11 && true then
        bR (cl xs d 179 [.inr (.inr v0), .inl v1] h1) (fun x4 h3 =>
        bif aok h3.1 v0 11 then
          bif aok h3.1 (h3.2 v0.toNat 5) 9 then
            bif aok h3.1 x4 6 && true then
              bI (cl xs d 78 [.inr (.inr x4), .inl (h3.2 (h3.2 v0.toNat 5).toNat 5)] h3) (fun x6 h5 =>
              some (some (.inl x6), h5))
            else none
          else none
        else none)
      else none) :=
  (show _ = ev xs d mm_182 0 [some (.inr (.inr v0)), some (.inl v1)] [] h from rfl).trans (q_182_0 xs d v0 v1 h)
def stp_183 : List Nat := [0]
set_option maxRecDepth 100000 in
set_option maxHeartbeats 4000000 in
theorem q_183_0 (xs : List Int) (d : Nat) (v0 : Int) (v1 : Int) (h : aH) : ev xs d mm_183 0 [some (.inr (.inr v0)), some (.inl v1)] [] h =
  bif decide (v1 < 0) then
    some (some (.inl 0), h)
  else
    bif decide (v1 < 3) then
      bif aok h.1 v0 11 then
        bif ain h.1 (h.2 v0.toNat 12) 104 v1 then
          bif aok h.1 v0 11 then
            bif aok h.1 (h.2 (h.2 v0.toNat 12).toNat v1.toNat) 6 && true then
              bV (cl xs d 74 [.inr (.inr (h.2 (h.2 v0.toNat 12).toNat v1.toNat)), .inr (.inr (h.2 v0.toNat 7))] h) (fun h1 =>
              bif aok h1.1 v0 11 then
                bif aok h1.1 v0 11 then
                  some (some (.inl 1), (h1.1, aup h1.2 v0.toNat 13 (oor (h1.2 v0.toNat 13) (oshl 1 v1))))
                else none
              else none)
            else none
          else none
        else none
      else none
    else
      some (some (.inl 0), h) :=
  (aB gP gX xs stp_183 23 d mm_183 0 _ _ h).trans rfl

theorem c_183 (xs : List Int) (d : Nat) (v0 : Int) (v1 : Int) (h : aH) : cl xs (d + 1) 183 [.inr (.inr v0), .inl v1] h =
  bif decide (v1 < 0) then
    some (some (.inl 0), h)
  else
    bif decide (v1 < 3) then
      bif aok h.1 v0 11 then
        bif ain h.1 (h.2 v0.toNat 12) 104 v1 then
          bif aok h.1 v0 11 then
            bif aok h.1 (h.2 (h.2 v0.toNat 12).toNat v1.toNat) 6 && true then
              bV (cl xs d 74 [.inr (.inr (h.2 (h.2 v0.toNat 12).toNat v1.toNat)), .inr (.inr (h.2 v0.toNat 7))] h) (fun h1 =>
              bif aok h1.1 v0 11 then
                bif aok h1.1 v0 11 then
                  some (some (.inl 1), (h1.1, aup h1.2 v0.toNat 13 (oor (h1.2 v0.toNat 13) (oshl 1 v1))))
                else none
              else none)
            else none
          else none
        else none
      else none
    else
      some (some (.inl 0), h) :=
  (show _ = ev xs d mm_183 0 [some (.inr (.inr v0)), some (.inl v1)] [] h from rfl).trans (q_183_0 xs d v0 v1 h)
def stp_184 : List Nat := [0]
set_option maxRecDepth 100000 in
set_option maxHeartbeats 4000000 in
theorem q_184_0 (xs : List Int) (d : Nat) (v0 : Int) (v1 : Int) (h : aH) : ev xs d mm_184 0 [some (.inr (.inr v0)), some (.inl v1)] [] h =
  bif decide (v1 < 0) then
    some (some (.inl 0), h)
  else
    bif decide (3 ≤ v1) then
      some (some (.inl 0), h)
    else
      bif aok h.1 v0 11 then
        bif decide (¬ (oand (oushr (h.2 v0.toNat 13) v1) 1) = 0) then
          bif aok h.1 v0 11 then
            bif aok h.1 v0 11 then
              bif ain h.1 (h.2 v0.toNat 12) 104 v1 then
                bif aok h.1 (h.2 v0.toNat 7) 6 && true then
                  bV (cl xs d 74 [.inr (.inr (h.2 v0.toNat 7)), .inr (.inr (h.2 (h.2 v0.toNat 12).toNat v1.toNat))] h) (fun h1 =>
                  bif aok h1.1 v0 11 && true then
                    bV (cl xs d 132 [.inr (.inr v0)] h1) (fun h2 =>
                    bif aok h2.1 v0 11 && true then
                      bV (cl xs d 133 [.inr (.inr v0)] h2) (fun h3 =>
                      some (some (.inl 1), h3))
                    else none)
                  else none)
                else none
              else none
            else none
          else none
        else
          some (some (.inl 0), h)
      else none :=
  (aB gP gX xs stp_184 26 d mm_184 0 _ _ h).trans rfl

theorem c_184 (xs : List Int) (d : Nat) (v0 : Int) (v1 : Int) (h : aH) : cl xs (d + 1) 184 [.inr (.inr v0), .inl v1] h =
  bif decide (v1 < 0) then
    some (some (.inl 0), h)
  else
    bif decide (3 ≤ v1) then
      some (some (.inl 0), h)
    else
      bif aok h.1 v0 11 then
        bif decide (¬ (oand (oushr (h.2 v0.toNat 13) v1) 1) = 0) then
          bif aok h.1 v0 11 then
            bif aok h.1 v0 11 then
              bif ain h.1 (h.2 v0.toNat 12) 104 v1 then
                bif aok h.1 (h.2 v0.toNat 7) 6 && true then
                  bV (cl xs d 74 [.inr (.inr (h.2 v0.toNat 7)), .inr (.inr (h.2 (h.2 v0.toNat 12).toNat v1.toNat))] h) (fun h1 =>
                  bif aok h1.1 v0 11 && true then
                    bV (cl xs d 132 [.inr (.inr v0)] h1) (fun h2 =>
                    bif aok h2.1 v0 11 && true then
                      bV (cl xs d 133 [.inr (.inr v0)] h2) (fun h3 =>
                      some (some (.inl 1), h3))
                    else none)
                  else none)
                else none
              else none
            else none
          else none
        else
          some (some (.inl 0), h)
      else none :=
  (show _ = ev xs d mm_184 0 [some (.inr (.inr v0)), some (.inl v1)] [] h from rfl).trans (q_184_0 xs d v0 v1 h)
def stp_185 : List Nat := [0, 182, 216, 224]
set_option maxRecDepth 100000 in
set_option maxHeartbeats 4000000 in
theorem q_185_0 (xs : List Int) (d : Nat) (v0 : Int) (v1 : Int) (h : aH) : ev xs d mm_185 0 [some (.inr (.inr v0)), some (.inl v1)] [] h =
  ev xs d mm_185 (asw 1 236 0 16 #[83, 91, 102, 115, 128, 141, 149, 157, 165, 173, 181, 197, 205, 210, 215, 223, 228] v1) [some (.inr (.inr v0)), some (.inl v1)] [] h :=
  (aB gP gX xs stp_185 1 d mm_185 0 _ _ h).trans rfl

set_option maxRecDepth 100000 in
set_option maxHeartbeats 4000000 in
theorem q_185_182 (xs : List Int) (d : Nat) (v0 : Int) (v1 : Int) (h : aH) : ev xs d mm_185 182 [some (.inr (.inr v0)), some (.inl v1)] [] h =
  bif aok h.1 v0 11 then
    bif aok h.1 v0 11 then
      bif aok h.1 (h.2 v0.toNat 5) 9 then
        bif aok h.1 (h.2 v0.toNat 7) 6 && true then
          bI (cl xs d 77 [.inr (.inr (h.2 v0.toNat 7)), .inl (h.2 (h.2 v0.toNat 5).toNat 5), .inl 0] h) (fun x2 h1 =>
          some (some (.inl x2), h1))
        else none
      else none
    else none
  else none :=
  (aB gP gX xs stp_185 9 d mm_185 182 _ _ h).trans rfl

set_option maxRecDepth 100000 in
set_option maxHeartbeats 4000000 in
theorem q_185_216 (xs : List Int) (d : Nat) (v0 : Int) (v1 : Int) (h : aH) : ev xs d mm_185 216 [some (.inr (.inr v0)), some (.inl v1)] [] h =
  bif aok h.1 v0 11 then
    bI (cl xs d 316 [.inl (h.2 v0.toNat 13)] h) (fun x2 h1 =>
      some (some (.inl x2), h1))
  else none :=
  (aB gP gX xs stp_185 5 d mm_185 216 _ _ h).trans rfl

set_option maxRecDepth 100000 in
set_option maxHeartbeats 4000000 in
theorem q_185_224 (xs : List Int) (d : Nat) (v0 : Int) (v1 : Int) (h : aH) : ev xs d mm_185 224 [some (.inr (.inr v0)), some (.inl v1)] [] h =
  bif aok h.1 v0 11 && true then
    bI (cl xs d 186 [.inr (.inr v0)] h) (fun x2 h1 =>
    some (some (.inl x2), h1))
  else none :=
  (aB gP gX xs stp_185 4 d mm_185 224 _ _ h).trans rfl

theorem c_185 (xs : List Int) (d : Nat) (v0 : Int) (v1 : Int) (h : aH) : cl xs (d + 1) 185 [.inr (.inr v0), .inl v1] h =
  ev xs d mm_185 (asw 1 236 0 16 #[83, 91, 102, 115, 128, 141, 149, 157, 165, 173, 181, 197, 205, 210, 215, 223, 228] v1) [some (.inr (.inr v0)), some (.inl v1)] [] h :=
  (show _ = ev xs d mm_185 0 [some (.inr (.inr v0)), some (.inl v1)] [] h from rfl).trans (q_185_0 xs d v0 v1 h)
def stp_186 : List Nat := [0, 4]
set_option maxRecDepth 100000 in
set_option maxHeartbeats 4000000 in
theorem q_186_0 (xs : List Int) (d : Nat) (v0 : Int) (h : aH) : ev xs d mm_186 0 [some (.inr (.inr v0)), none, none] [] h =
  ev xs d mm_186 4 [some (.inr (.inr v0)), some (.inl 0), some (.inl 0)] [] h :=
  (aB gP gX xs stp_186 5 d mm_186 0 _ _ h).trans rfl

set_option maxRecDepth 100000 in
set_option maxHeartbeats 4000000 in
theorem q_186_4 (xs : List Int) (d : Nat) (v0 : Int) (v1 : Int) (v2 : Int) (h : aH) : ev xs d mm_186 4 [some (.inr (.inr v0)), some (.inl v1), some (.inl v2)] [] h =
  bif decide (24 ≤ v2) then
    some (some (.inl v1), h)
  else
    bif aok h.1 v0 11 then
      bif aok h.1 (h.2 v0.toNat 7) 6 then
        bif ain h.1 (h.2 (h.2 v0.toNat 7).toNat 4) 100 v2 then
          bif aok h.1 v0 11 then
            bif aok h.1 (h.2 v0.toNat 5) 9 then
              bif aok h.1 (h.2 (h.2 v0.toNat 5).toNat 4) 3 then
                bif ain h.1 (h.2 (h.2 (h.2 v0.toNat 5).toNat 4).toNat 2) 100 v2 then
                  ev xs d mm_186 4 [some (.inr (.inr v0)), some (.inl (w32 (v1 + (w32 ((h.2 (h.2 (h.2 v0.toNat 7).toNat 4).toNat v2.toNat) * (h.2 (h.2 (h.2 (h.2 v0.toNat 5).toNat 4).toNat 2).toNat v2.toNat)))))), some (.inl (w32 (v2 + 1)))] [] h
                else none
              else none
            else none
          else none
        else none
      else none
    else none :=
  (aB gP gX xs stp_186 21 d mm_186 4 _ _ h).trans rfl

theorem c_186 (xs : List Int) (d : Nat) (v0 : Int) (h : aH) : cl xs (d + 1) 186 [.inr (.inr v0)] h =
  ev xs d mm_186 4 [some (.inr (.inr v0)), some (.inl 0), some (.inl 0)] [] h :=
  (show _ = ev xs d mm_186 0 [some (.inr (.inr v0)), none, none] [] h from rfl).trans (q_186_0 xs d v0 h)
def stp_187 : List Nat := [0, 10, 19, 28, 37, 46, 55, 63, 75, 83, 91, 98, 106, 114, 122, 130, 138, 146, 154, 162, 170, 177, 185, 192, 200, 208, 216, 223, 231, 239, 247, 255, 262, 269, 276, 285, 294, 303, 312, 321, 330, 339, 347, 355, 364, 372, 380, 388, 397, 406, 415, 423, 431, 439, 448, 456, 464, 471, 480, 525, 584, 648, 713, 778, 839, 903, 966]
set_option maxRecDepth 100000 in
set_option maxHeartbeats 4000000 in
theorem q_187_0 (xs : List Int) (d : Nat) (v0 : Int) (h : aH) : ev xs d mm_187 0 [some (.inr (.inr v0))] [] h =
  bif decide (0 ≤ v0) && true then
    ev xs d mm_187 10 [some (.inr (.inr v0))] [.inr (.inr (h.1.1 : Int)), .inr (.inr v0)] ((h.1.1 + 1, h.1.2.1 + (2000 : Int).toNat, fun q => if q = h.1.1 then (102, (2000 : Int).toNat) else h.1.2.2 q), fun q j => if q = h.1.1 then 0 else h.2 q j)
  else none :=
  (aB gP gX xs stp_187 6 d mm_187 0 _ _ h).trans rfl

set_option maxRecDepth 100000 in
set_option maxHeartbeats 4000000 in
theorem q_187_10 (xs : List Int) (d : Nat) (v0 : Int) (s0 : Int) (s1 : Int) (h : aH) : ev xs d mm_187 10 [some (.inr (.inr v0))] [.inr (.inr s1), .inr (.inr s0)] h =
  bif aok h.1 s0 12 then
    ev xs d mm_187 19 [some (.inr (.inr v0))] [.inr (.inr (h.1.1 : Int)), .inr (.inr v0)] ((h.1.1 + 1, h.1.2.1 + (2000 : Int).toNat, fun q => if q = h.1.1 then (102, (2000 : Int).toNat) else h.1.2.2 q), fun q j => if q = h.1.1 then 0 else (aup h.2 s0.toNat 1 s1) q j)
  else none :=
  (aB gP gX xs stp_187 5 d mm_187 10 _ _ h).trans rfl

set_option maxRecDepth 100000 in
set_option maxHeartbeats 4000000 in
theorem q_187_19 (xs : List Int) (d : Nat) (v0 : Int) (s0 : Int) (s1 : Int) (h : aH) : ev xs d mm_187 19 [some (.inr (.inr v0))] [.inr (.inr s1), .inr (.inr s0)] h =
  bif aok h.1 s0 12 then
    ev xs d mm_187 28 [some (.inr (.inr v0))] [.inr (.inr (h.1.1 : Int)), .inr (.inr v0)] ((h.1.1 + 1, h.1.2.1 + (403 : Int).toNat, fun q => if q = h.1.1 then (100, (403 : Int).toNat) else h.1.2.2 q), fun q j => if q = h.1.1 then 0 else (aup h.2 s0.toNat 3 s1) q j)
  else none :=
  (aB gP gX xs stp_187 5 d mm_187 19 _ _ h).trans rfl

set_option maxRecDepth 100000 in
set_option maxHeartbeats 4000000 in
theorem q_187_28 (xs : List Int) (d : Nat) (v0 : Int) (s0 : Int) (s1 : Int) (h : aH) : ev xs d mm_187 28 [some (.inr (.inr v0))] [.inr (.inr s1), .inr (.inr s0)] h =
  bif aok h.1 s0 12 then
    ev xs d mm_187 37 [some (.inr (.inr v0))] [.inr (.inr (h.1.1 : Int)), .inr (.inr v0)] ((h.1.1 + 1, h.1.2.1 + (403 : Int).toNat, fun q => if q = h.1.1 then (100, (403 : Int).toNat) else h.1.2.2 q), fun q j => if q = h.1.1 then 0 else (aup h.2 s0.toNat 5 s1) q j)
  else none :=
  (aB gP gX xs stp_187 5 d mm_187 28 _ _ h).trans rfl

set_option maxRecDepth 100000 in
set_option maxHeartbeats 4000000 in
theorem q_187_37 (xs : List Int) (d : Nat) (v0 : Int) (s0 : Int) (s1 : Int) (h : aH) : ev xs d mm_187 37 [some (.inr (.inr v0))] [.inr (.inr s1), .inr (.inr s0)] h =
  bif aok h.1 s0 12 then
    ev xs d mm_187 46 [some (.inr (.inr v0))] [.inr (.inr (h.1.1 : Int)), .inr (.inr v0)] ((h.1.1 + 1, h.1.2.1 + (403 : Int).toNat, fun q => if q = h.1.1 then (100, (403 : Int).toNat) else h.1.2.2 q), fun q j => if q = h.1.1 then 0 else (aup h.2 s0.toNat 6 s1) q j)
  else none :=
  (aB gP gX xs stp_187 5 d mm_187 37 _ _ h).trans rfl

set_option maxRecDepth 100000 in
set_option maxHeartbeats 4000000 in
theorem q_187_46 (xs : List Int) (d : Nat) (v0 : Int) (s0 : Int) (s1 : Int) (h : aH) : ev xs d mm_187 46 [some (.inr (.inr v0))] [.inr (.inr s1), .inr (.inr s0)] h =
  bif aok h.1 s0 12 then
    ev xs d mm_187 55 [some (.inr (.inr v0))] [.inr (.inr (h.1.1 : Int)), .inr (.inr v0)] ((h.1.1 + 1, h.1.2.1 + (403 : Int).toNat, fun q => if q = h.1.1 then (101, (403 : Int).toNat) else h.1.2.2 q), fun q j => if q = h.1.1 then 0 else (aup h.2 s0.toNat 7 s1) q j)
  else none :=
  (aB gP gX xs stp_187 5 d mm_187 46 _ _ h).trans rfl

set_option maxRecDepth 100000 in
set_option maxHeartbeats 4000000 in
theorem q_187_55 (xs : List Int) (d : Nat) (v0 : Int) (s0 : Int) (s1 : Int) (h : aH) : ev xs d mm_187 55 [some (.inr (.inr v0))] [.inr (.inr s1), .inr (.inr s0)] h =
  bif aok h.1 s0 12 then
    ev xs d mm_187 63 [some (.inr (.inr v0))] [.inr (.inr (h.1.1 : Int)), .inr (.inr v0)] ((h.1.1 + 1, h.1.2.1 + (24 : Int).toNat, fun q => if q = h.1.1 then (101, (24 : Int).toNat) else h.1.2.2 q), fun q j => if q = h.1.1 then 0 else (aup h.2 s0.toNat 8 s1) q j)
  else none :=
  (aB gP gX xs stp_187 5 d mm_187 55 _ _ h).trans rfl

set_option maxRecDepth 100000 in
set_option maxHeartbeats 4000000 in
theorem q_187_63 (xs : List Int) (d : Nat) (v0 : Int) (s0 : Int) (s1 : Int) (h : aH) : ev xs d mm_187 63 [some (.inr (.inr v0))] [.inr (.inr s1), .inr (.inr s0)] h =
  bif aok h.1 s0 12 then
    bif aok h.1 v0 12 then
      ev xs d mm_187 75 [some (.inr (.inr v0))] [.inr (.inr (h.1.1 : Int)), .inr (.inr v0)] ((h.1.1 + 1, h.1.2.1 + (2 : Int).toNat, fun q => if q = h.1.1 then (100, (2 : Int).toNat) else h.1.2.2 q), fun q j => if q = h.1.1 then 0 else (aup (aup h.2 s0.toNat 9 s1) v0.toNat 17 (-1)) q j)
    else none
  else none :=
  (aB gP gX xs stp_187 8 d mm_187 63 _ _ h).trans rfl

set_option maxRecDepth 100000 in
set_option maxHeartbeats 4000000 in
theorem q_187_75 (xs : List Int) (d : Nat) (v0 : Int) (s0 : Int) (s1 : Int) (h : aH) : ev xs d mm_187 75 [some (.inr (.inr v0))] [.inr (.inr s1), .inr (.inr s0)] h =
  bif aok h.1 s0 12 then
    ev xs d mm_187 83 [some (.inr (.inr v0))] [.inr (.inr (h.1.1 : Int)), .inr (.inr v0)] ((h.1.1 + 1, h.1.2.1 + (12 : Int).toNat, fun q => if q = h.1.1 then (101, (12 : Int).toNat) else h.1.2.2 q), fun q j => if q = h.1.1 then 0 else (aup h.2 s0.toNat 20 s1) q j)
  else none :=
  (aB gP gX xs stp_187 5 d mm_187 75 _ _ h).trans rfl

set_option maxRecDepth 100000 in
set_option maxHeartbeats 4000000 in
theorem q_187_83 (xs : List Int) (d : Nat) (v0 : Int) (s0 : Int) (s1 : Int) (h : aH) : ev xs d mm_187 83 [some (.inr (.inr v0))] [.inr (.inr s1), .inr (.inr s0)] h =
  bif aok h.1 s0 12 then
    ev xs d mm_187 91 [some (.inr (.inr v0))] [.inr (.inr (h.1.1 : Int)), .inr (.inr v0)] ((h.1.1 + 1, h.1.2.1 + (12 : Int).toNat, fun q => if q = h.1.1 then (100, (12 : Int).toNat) else h.1.2.2 q), fun q j => if q = h.1.1 then 0 else (aup h.2 s0.toNat 21 s1) q j)
  else none :=
  (aB gP gX xs stp_187 5 d mm_187 83 _ _ h).trans rfl

set_option maxRecDepth 100000 in
set_option maxHeartbeats 4000000 in
theorem q_187_91 (xs : List Int) (d : Nat) (v0 : Int) (s0 : Int) (s1 : Int) (h : aH) : ev xs d mm_187 91 [some (.inr (.inr v0))] [.inr (.inr s1), .inr (.inr s0)] h =
  bif aok h.1 s0 12 then
    ev xs d mm_187 98 [some (.inr (.inr v0))] [.inr (.inr (h.1.1 : Int)), .inr (.inr v0)] ((h.1.1 + 1, h.1.2.1 + (2 : Int).toNat, fun q => if q = h.1.1 then (100, (2 : Int).toNat) else h.1.2.2 q), fun q j => if q = h.1.1 then 0 else (aup h.2 s0.toNat 22 s1) q j)
  else none :=
  (aB gP gX xs stp_187 5 d mm_187 91 _ _ h).trans rfl

set_option maxRecDepth 100000 in
set_option maxHeartbeats 4000000 in
theorem q_187_98 (xs : List Int) (d : Nat) (v0 : Int) (s0 : Int) (s1 : Int) (h : aH) : ev xs d mm_187 98 [some (.inr (.inr v0))] [.inr (.inr s1), .inr (.inr s0)] h =
  bif aok h.1 s0 12 then
    ev xs d mm_187 106 [some (.inr (.inr v0))] [.inr (.inr (h.1.1 : Int)), .inr (.inr v0)] ((h.1.1 + 1, h.1.2.1 + (14 : Int).toNat, fun q => if q = h.1.1 then (100, (14 : Int).toNat) else h.1.2.2 q), fun q j => if q = h.1.1 then 0 else (aup h.2 s0.toNat 23 s1) q j)
  else none :=
  (aB gP gX xs stp_187 5 d mm_187 98 _ _ h).trans rfl

set_option maxRecDepth 100000 in
set_option maxHeartbeats 4000000 in
theorem q_187_106 (xs : List Int) (d : Nat) (v0 : Int) (s0 : Int) (s1 : Int) (h : aH) : ev xs d mm_187 106 [some (.inr (.inr v0))] [.inr (.inr s1), .inr (.inr s0)] h =
  bif aok h.1 s0 12 then
    ev xs d mm_187 114 [some (.inr (.inr v0))] [.inr (.inr (h.1.1 : Int)), .inr (.inr v0)] ((h.1.1 + 1, h.1.2.1 + (14 : Int).toNat, fun q => if q = h.1.1 then (100, (14 : Int).toNat) else h.1.2.2 q), fun q j => if q = h.1.1 then 0 else (aup h.2 s0.toNat 24 s1) q j)
  else none :=
  (aB gP gX xs stp_187 5 d mm_187 106 _ _ h).trans rfl

set_option maxRecDepth 100000 in
set_option maxHeartbeats 4000000 in
theorem q_187_114 (xs : List Int) (d : Nat) (v0 : Int) (s0 : Int) (s1 : Int) (h : aH) : ev xs d mm_187 114 [some (.inr (.inr v0))] [.inr (.inr s1), .inr (.inr s0)] h =
  bif aok h.1 s0 12 then
    ev xs d mm_187 122 [some (.inr (.inr v0))] [.inr (.inr (h.1.1 : Int)), .inr (.inr v0)] ((h.1.1 + 1, h.1.2.1 + (14 : Int).toNat, fun q => if q = h.1.1 then (100, (14 : Int).toNat) else h.1.2.2 q), fun q j => if q = h.1.1 then 0 else (aup h.2 s0.toNat 25 s1) q j)
  else none :=
  (aB gP gX xs stp_187 5 d mm_187 114 _ _ h).trans rfl

set_option maxRecDepth 100000 in
set_option maxHeartbeats 4000000 in
theorem q_187_122 (xs : List Int) (d : Nat) (v0 : Int) (s0 : Int) (s1 : Int) (h : aH) : ev xs d mm_187 122 [some (.inr (.inr v0))] [.inr (.inr s1), .inr (.inr s0)] h =
  bif aok h.1 s0 12 then
    ev xs d mm_187 130 [some (.inr (.inr v0))] [.inr (.inr (h.1.1 : Int)), .inr (.inr v0)] ((h.1.1 + 1, h.1.2.1 + (14 : Int).toNat, fun q => if q = h.1.1 then (100, (14 : Int).toNat) else h.1.2.2 q), fun q j => if q = h.1.1 then 0 else (aup h.2 s0.toNat 26 s1) q j)
  else none :=
  (aB gP gX xs stp_187 5 d mm_187 122 _ _ h).trans rfl

set_option maxRecDepth 100000 in
set_option maxHeartbeats 4000000 in
theorem q_187_130 (xs : List Int) (d : Nat) (v0 : Int) (s0 : Int) (s1 : Int) (h : aH) : ev xs d mm_187 130 [some (.inr (.inr v0))] [.inr (.inr s1), .inr (.inr s0)] h =
  bif aok h.1 s0 12 then
    ev xs d mm_187 138 [some (.inr (.inr v0))] [.inr (.inr (h.1.1 : Int)), .inr (.inr v0)] ((h.1.1 + 1, h.1.2.1 + (14 : Int).toNat, fun q => if q = h.1.1 then (100, (14 : Int).toNat) else h.1.2.2 q), fun q j => if q = h.1.1 then 0 else (aup h.2 s0.toNat 27 s1) q j)
  else none :=
  (aB gP gX xs stp_187 5 d mm_187 130 _ _ h).trans rfl

set_option maxRecDepth 100000 in
set_option maxHeartbeats 4000000 in
theorem q_187_138 (xs : List Int) (d : Nat) (v0 : Int) (s0 : Int) (s1 : Int) (h : aH) : ev xs d mm_187 138 [some (.inr (.inr v0))] [.inr (.inr s1), .inr (.inr s0)] h =
  bif aok h.1 s0 12 then
    ev xs d mm_187 146 [some (.inr (.inr v0))] [.inr (.inr (h.1.1 : Int)), .inr (.inr v0)] ((h.1.1 + 1, h.1.2.1 + (14 : Int).toNat, fun q => if q = h.1.1 then (100, (14 : Int).toNat) else h.1.2.2 q), fun q j => if q = h.1.1 then 0 else (aup h.2 s0.toNat 28 s1) q j)
  else none :=
  (aB gP gX xs stp_187 5 d mm_187 138 _ _ h).trans rfl

set_option maxRecDepth 100000 in
set_option maxHeartbeats 4000000 in
theorem q_187_146 (xs : List Int) (d : Nat) (v0 : Int) (s0 : Int) (s1 : Int) (h : aH) : ev xs d mm_187 146 [some (.inr (.inr v0))] [.inr (.inr s1), .inr (.inr s0)] h =
  bif aok h.1 s0 12 then
    ev xs d mm_187 154 [some (.inr (.inr v0))] [.inr (.inr (h.1.1 : Int)), .inr (.inr v0)] ((h.1.1 + 1, h.1.2.1 + (6 : Int).toNat, fun q => if q = h.1.1 then (100, (6 : Int).toNat) else h.1.2.2 q), fun q j => if q = h.1.1 then 0 else (aup h.2 s0.toNat 29 s1) q j)
  else none :=
  (aB gP gX xs stp_187 5 d mm_187 146 _ _ h).trans rfl

set_option maxRecDepth 100000 in
set_option maxHeartbeats 4000000 in
theorem q_187_154 (xs : List Int) (d : Nat) (v0 : Int) (s0 : Int) (s1 : Int) (h : aH) : ev xs d mm_187 154 [some (.inr (.inr v0))] [.inr (.inr s1), .inr (.inr s0)] h =
  bif aok h.1 s0 12 then
    ev xs d mm_187 162 [some (.inr (.inr v0))] [.inr (.inr (h.1.1 : Int)), .inr (.inr v0)] ((h.1.1 + 1, h.1.2.1 + (48 : Int).toNat, fun q => if q = h.1.1 then (101, (48 : Int).toNat) else h.1.2.2 q), fun q j => if q = h.1.1 then 0 else (aup h.2 s0.toNat 30 s1) q j)
  else none :=
  (aB gP gX xs stp_187 5 d mm_187 154 _ _ h).trans rfl

set_option maxRecDepth 100000 in
set_option maxHeartbeats 4000000 in
theorem q_187_162 (xs : List Int) (d : Nat) (v0 : Int) (s0 : Int) (s1 : Int) (h : aH) : ev xs d mm_187 162 [some (.inr (.inr v0))] [.inr (.inr s1), .inr (.inr s0)] h =
  bif aok h.1 s0 12 then
    ev xs d mm_187 170 [some (.inr (.inr v0))] [.inr (.inr (h.1.1 : Int)), .inr (.inr v0)] ((h.1.1 + 1, h.1.2.1 + (48 : Int).toNat, fun q => if q = h.1.1 then (100, (48 : Int).toNat) else h.1.2.2 q), fun q j => if q = h.1.1 then 0 else (aup h.2 s0.toNat 31 s1) q j)
  else none :=
  (aB gP gX xs stp_187 5 d mm_187 162 _ _ h).trans rfl

set_option maxRecDepth 100000 in
set_option maxHeartbeats 4000000 in
theorem q_187_170 (xs : List Int) (d : Nat) (v0 : Int) (s0 : Int) (s1 : Int) (h : aH) : ev xs d mm_187 170 [some (.inr (.inr v0))] [.inr (.inr s1), .inr (.inr s0)] h =
  bif aok h.1 s0 12 then
    ev xs d mm_187 177 [some (.inr (.inr v0))] [.inr (.inr (h.1.1 : Int)), .inr (.inr v0)] ((h.1.1 + 1, h.1.2.1 + (2 : Int).toNat, fun q => if q = h.1.1 then (100, (2 : Int).toNat) else h.1.2.2 q), fun q j => if q = h.1.1 then 0 else (aup h.2 s0.toNat 32 s1) q j)
  else none :=
  (aB gP gX xs stp_187 5 d mm_187 170 _ _ h).trans rfl

set_option maxRecDepth 100000 in
set_option maxHeartbeats 4000000 in
theorem q_187_177 (xs : List Int) (d : Nat) (v0 : Int) (s0 : Int) (s1 : Int) (h : aH) : ev xs d mm_187 177 [some (.inr (.inr v0))] [.inr (.inr s1), .inr (.inr s0)] h =
  bif aok h.1 s0 12 then
    ev xs d mm_187 185 [some (.inr (.inr v0))] [.inr (.inr (h.1.1 : Int)), .inr (.inr v0)] ((h.1.1 + 1, h.1.2.1 + (20 : Int).toNat, fun q => if q = h.1.1 then (101, (20 : Int).toNat) else h.1.2.2 q), fun q j => if q = h.1.1 then 0 else (aup h.2 s0.toNat 33 s1) q j)
  else none :=
  (aB gP gX xs stp_187 5 d mm_187 177 _ _ h).trans rfl

set_option maxRecDepth 100000 in
set_option maxHeartbeats 4000000 in
theorem q_187_185 (xs : List Int) (d : Nat) (v0 : Int) (s0 : Int) (s1 : Int) (h : aH) : ev xs d mm_187 185 [some (.inr (.inr v0))] [.inr (.inr s1), .inr (.inr s0)] h =
  bif aok h.1 s0 12 then
    ev xs d mm_187 192 [some (.inr (.inr v0))] [.inr (.inr (h.1.1 : Int)), .inr (.inr v0)] ((h.1.1 + 1, h.1.2.1 + (2 : Int).toNat, fun q => if q = h.1.1 then (100, (2 : Int).toNat) else h.1.2.2 q), fun q j => if q = h.1.1 then 0 else (aup h.2 s0.toNat 34 s1) q j)
  else none :=
  (aB gP gX xs stp_187 5 d mm_187 185 _ _ h).trans rfl

set_option maxRecDepth 100000 in
set_option maxHeartbeats 4000000 in
theorem q_187_192 (xs : List Int) (d : Nat) (v0 : Int) (s0 : Int) (s1 : Int) (h : aH) : ev xs d mm_187 192 [some (.inr (.inr v0))] [.inr (.inr s1), .inr (.inr s0)] h =
  bif aok h.1 s0 12 then
    ev xs d mm_187 200 [some (.inr (.inr v0))] [.inr (.inr (h.1.1 : Int)), .inr (.inr v0)] ((h.1.1 + 1, h.1.2.1 + (16 : Int).toNat, fun q => if q = h.1.1 then (101, (16 : Int).toNat) else h.1.2.2 q), fun q j => if q = h.1.1 then 0 else (aup h.2 s0.toNat 35 s1) q j)
  else none :=
  (aB gP gX xs stp_187 5 d mm_187 192 _ _ h).trans rfl

set_option maxRecDepth 100000 in
set_option maxHeartbeats 4000000 in
theorem q_187_200 (xs : List Int) (d : Nat) (v0 : Int) (s0 : Int) (s1 : Int) (h : aH) : ev xs d mm_187 200 [some (.inr (.inr v0))] [.inr (.inr s1), .inr (.inr s0)] h =
  bif aok h.1 s0 12 then
    ev xs d mm_187 208 [some (.inr (.inr v0))] [.inr (.inr (h.1.1 : Int)), .inr (.inr v0)] ((h.1.1 + 1, h.1.2.1 + (16 : Int).toNat, fun q => if q = h.1.1 then (101, (16 : Int).toNat) else h.1.2.2 q), fun q j => if q = h.1.1 then 0 else (aup h.2 s0.toNat 36 s1) q j)
  else none :=
  (aB gP gX xs stp_187 5 d mm_187 200 _ _ h).trans rfl

set_option maxRecDepth 100000 in
set_option maxHeartbeats 4000000 in
theorem q_187_208 (xs : List Int) (d : Nat) (v0 : Int) (s0 : Int) (s1 : Int) (h : aH) : ev xs d mm_187 208 [some (.inr (.inr v0))] [.inr (.inr s1), .inr (.inr s0)] h =
  bif aok h.1 s0 12 then
    ev xs d mm_187 216 [some (.inr (.inr v0))] [.inr (.inr (h.1.1 : Int)), .inr (.inr v0)] ((h.1.1 + 1, h.1.2.1 + (16 : Int).toNat, fun q => if q = h.1.1 then (101, (16 : Int).toNat) else h.1.2.2 q), fun q j => if q = h.1.1 then 0 else (aup h.2 s0.toNat 37 s1) q j)
  else none :=
  (aB gP gX xs stp_187 5 d mm_187 208 _ _ h).trans rfl

set_option maxRecDepth 100000 in
set_option maxHeartbeats 4000000 in
theorem q_187_216 (xs : List Int) (d : Nat) (v0 : Int) (s0 : Int) (s1 : Int) (h : aH) : ev xs d mm_187 216 [some (.inr (.inr v0))] [.inr (.inr s1), .inr (.inr s0)] h =
  bif aok h.1 s0 12 then
    ev xs d mm_187 223 [some (.inr (.inr v0))] [.inr (.inr (h.1.1 : Int)), .inr (.inr v0)] ((h.1.1 + 1, h.1.2.1 + (2 : Int).toNat, fun q => if q = h.1.1 then (100, (2 : Int).toNat) else h.1.2.2 q), fun q j => if q = h.1.1 then 0 else (aup h.2 s0.toNat 38 s1) q j)
  else none :=
  (aB gP gX xs stp_187 5 d mm_187 216 _ _ h).trans rfl

set_option maxRecDepth 100000 in
set_option maxHeartbeats 4000000 in
theorem q_187_223 (xs : List Int) (d : Nat) (v0 : Int) (s0 : Int) (s1 : Int) (h : aH) : ev xs d mm_187 223 [some (.inr (.inr v0))] [.inr (.inr s1), .inr (.inr s0)] h =
  bif aok h.1 s0 12 then
    ev xs d mm_187 231 [some (.inr (.inr v0))] [.inr (.inr (h.1.1 : Int)), .inr (.inr v0)] ((h.1.1 + 1, h.1.2.1 + (10 : Int).toNat, fun q => if q = h.1.1 then (100, (10 : Int).toNat) else h.1.2.2 q), fun q j => if q = h.1.1 then 0 else (aup h.2 s0.toNat 39 s1) q j)
  else none :=
  (aB gP gX xs stp_187 5 d mm_187 223 _ _ h).trans rfl

set_option maxRecDepth 100000 in
set_option maxHeartbeats 4000000 in
theorem q_187_231 (xs : List Int) (d : Nat) (v0 : Int) (s0 : Int) (s1 : Int) (h : aH) : ev xs d mm_187 231 [some (.inr (.inr v0))] [.inr (.inr s1), .inr (.inr s0)] h =
  bif aok h.1 s0 12 then
    ev xs d mm_187 239 [some (.inr (.inr v0))] [.inr (.inr (h.1.1 : Int)), .inr (.inr v0)] ((h.1.1 + 1, h.1.2.1 + (10 : Int).toNat, fun q => if q = h.1.1 then (100, (10 : Int).toNat) else h.1.2.2 q), fun q j => if q = h.1.1 then 0 else (aup h.2 s0.toNat 40 s1) q j)
  else none :=
  (aB gP gX xs stp_187 5 d mm_187 231 _ _ h).trans rfl

set_option maxRecDepth 100000 in
set_option maxHeartbeats 4000000 in
theorem q_187_239 (xs : List Int) (d : Nat) (v0 : Int) (s0 : Int) (s1 : Int) (h : aH) : ev xs d mm_187 239 [some (.inr (.inr v0))] [.inr (.inr s1), .inr (.inr s0)] h =
  bif aok h.1 s0 12 then
    ev xs d mm_187 247 [some (.inr (.inr v0))] [.inr (.inr (h.1.1 : Int)), .inr (.inr v0)] ((h.1.1 + 1, h.1.2.1 + (40 : Int).toNat, fun q => if q = h.1.1 then (100, (40 : Int).toNat) else h.1.2.2 q), fun q j => if q = h.1.1 then 0 else (aup h.2 s0.toNat 41 s1) q j)
  else none :=
  (aB gP gX xs stp_187 5 d mm_187 239 _ _ h).trans rfl

set_option maxRecDepth 100000 in
set_option maxHeartbeats 4000000 in
theorem q_187_247 (xs : List Int) (d : Nat) (v0 : Int) (s0 : Int) (s1 : Int) (h : aH) : ev xs d mm_187 247 [some (.inr (.inr v0))] [.inr (.inr s1), .inr (.inr s0)] h =
  bif aok h.1 s0 12 then
    ev xs d mm_187 255 [some (.inr (.inr v0))] [.inr (.inr (h.1.1 : Int)), .inr (.inr v0)] ((h.1.1 + 1, h.1.2.1 + (40 : Int).toNat, fun q => if q = h.1.1 then (100, (40 : Int).toNat) else h.1.2.2 q), fun q j => if q = h.1.1 then 0 else (aup h.2 s0.toNat 42 s1) q j)
  else none :=
  (aB gP gX xs stp_187 5 d mm_187 247 _ _ h).trans rfl

set_option maxRecDepth 100000 in
set_option maxHeartbeats 4000000 in
theorem q_187_255 (xs : List Int) (d : Nat) (v0 : Int) (s0 : Int) (s1 : Int) (h : aH) : ev xs d mm_187 255 [some (.inr (.inr v0))] [.inr (.inr s1), .inr (.inr s0)] h =
  bif aok h.1 s0 12 then
    ev xs d mm_187 262 [some (.inr (.inr v0))] [.inr (.inr (h.1.1 : Int)), .inr (.inr v0)] ((h.1.1 + 1, h.1.2.1 + (2 : Int).toNat, fun q => if q = h.1.1 then (100, (2 : Int).toNat) else h.1.2.2 q), fun q j => if q = h.1.1 then 0 else (aup h.2 s0.toNat 43 s1) q j)
  else none :=
  (aB gP gX xs stp_187 5 d mm_187 255 _ _ h).trans rfl

set_option maxRecDepth 100000 in
set_option maxHeartbeats 4000000 in
theorem q_187_262 (xs : List Int) (d : Nat) (v0 : Int) (s0 : Int) (s1 : Int) (h : aH) : ev xs d mm_187 262 [some (.inr (.inr v0))] [.inr (.inr s1), .inr (.inr s0)] h =
  bif aok h.1 s0 12 then
    ev xs d mm_187 269 [some (.inr (.inr v0))] [.inr (.inr (h.1.1 : Int)), .inr (.inr v0)] ((h.1.1 + 1, h.1.2.1 + (2 : Int).toNat, fun q => if q = h.1.1 then (100, (2 : Int).toNat) else h.1.2.2 q), fun q j => if q = h.1.1 then 0 else (aup h.2 s0.toNat 44 s1) q j)
  else none :=
  (aB gP gX xs stp_187 5 d mm_187 262 _ _ h).trans rfl

set_option maxRecDepth 100000 in
set_option maxHeartbeats 4000000 in
theorem q_187_269 (xs : List Int) (d : Nat) (v0 : Int) (s0 : Int) (s1 : Int) (h : aH) : ev xs d mm_187 269 [some (.inr (.inr v0))] [.inr (.inr s1), .inr (.inr s0)] h =
  bif aok h.1 s0 12 then
    ev xs d mm_187 276 [some (.inr (.inr v0))] [.inr (.inr (h.1.1 : Int)), .inr (.inr v0)] ((h.1.1 + 1, h.1.2.1 + (2 : Int).toNat, fun q => if q = h.1.1 then (100, (2 : Int).toNat) else h.1.2.2 q), fun q j => if q = h.1.1 then 0 else (aup h.2 s0.toNat 45 s1) q j)
  else none :=
  (aB gP gX xs stp_187 5 d mm_187 269 _ _ h).trans rfl

set_option maxRecDepth 100000 in
set_option maxHeartbeats 4000000 in
theorem q_187_276 (xs : List Int) (d : Nat) (v0 : Int) (s0 : Int) (s1 : Int) (h : aH) : ev xs d mm_187 276 [some (.inr (.inr v0))] [.inr (.inr s1), .inr (.inr s0)] h =
  bif aok h.1 s0 12 then
    ev xs d mm_187 285 [some (.inr (.inr v0))] [.inr (.inr (h.1.1 : Int)), .inr (.inr v0)] ((h.1.1 + 1, h.1.2.1 + (260 : Int).toNat, fun q => if q = h.1.1 then (103, (260 : Int).toNat) else h.1.2.2 q), fun q j => if q = h.1.1 then 0 else (aup h.2 s0.toNat 46 s1) q j)
  else none :=
  (aB gP gX xs stp_187 5 d mm_187 276 _ _ h).trans rfl

set_option maxRecDepth 100000 in
set_option maxHeartbeats 4000000 in
theorem q_187_285 (xs : List Int) (d : Nat) (v0 : Int) (s0 : Int) (s1 : Int) (h : aH) : ev xs d mm_187 285 [some (.inr (.inr v0))] [.inr (.inr s1), .inr (.inr s0)] h =
  bif aok h.1 s0 12 then
    ev xs d mm_187 294 [some (.inr (.inr v0))] [.inr (.inr (h.1.1 : Int)), .inr (.inr v0)] ((h.1.1 + 1, h.1.2.1 + (260 : Int).toNat, fun q => if q = h.1.1 then (100, (260 : Int).toNat) else h.1.2.2 q), fun q j => if q = h.1.1 then 0 else (aup h.2 s0.toNat 48 s1) q j)
  else none :=
  (aB gP gX xs stp_187 5 d mm_187 285 _ _ h).trans rfl

set_option maxRecDepth 100000 in
set_option maxHeartbeats 4000000 in
theorem q_187_294 (xs : List Int) (d : Nat) (v0 : Int) (s0 : Int) (s1 : Int) (h : aH) : ev xs d mm_187 294 [some (.inr (.inr v0))] [.inr (.inr s1), .inr (.inr s0)] h =
  bif aok h.1 s0 12 then
    ev xs d mm_187 303 [some (.inr (.inr v0))] [.inr (.inr (h.1.1 : Int)), .inr (.inr v0)] ((h.1.1 + 1, h.1.2.1 + (260 : Int).toNat, fun q => if q = h.1.1 then (100, (260 : Int).toNat) else h.1.2.2 q), fun q j => if q = h.1.1 then 0 else (aup h.2 s0.toNat 49 s1) q j)
  else none :=
  (aB gP gX xs stp_187 5 d mm_187 294 _ _ h).trans rfl

set_option maxRecDepth 100000 in
set_option maxHeartbeats 4000000 in
theorem q_187_303 (xs : List Int) (d : Nat) (v0 : Int) (s0 : Int) (s1 : Int) (h : aH) : ev xs d mm_187 303 [some (.inr (.inr v0))] [.inr (.inr s1), .inr (.inr s0)] h =
  bif aok h.1 s0 12 then
    ev xs d mm_187 312 [some (.inr (.inr v0))] [.inr (.inr (h.1.1 : Int)), .inr (.inr v0)] ((h.1.1 + 1, h.1.2.1 + (260 : Int).toNat, fun q => if q = h.1.1 then (100, (260 : Int).toNat) else h.1.2.2 q), fun q j => if q = h.1.1 then 0 else (aup h.2 s0.toNat 50 s1) q j)
  else none :=
  (aB gP gX xs stp_187 5 d mm_187 303 _ _ h).trans rfl

set_option maxRecDepth 100000 in
set_option maxHeartbeats 4000000 in
theorem q_187_312 (xs : List Int) (d : Nat) (v0 : Int) (s0 : Int) (s1 : Int) (h : aH) : ev xs d mm_187 312 [some (.inr (.inr v0))] [.inr (.inr s1), .inr (.inr s0)] h =
  bif aok h.1 s0 12 then
    ev xs d mm_187 321 [some (.inr (.inr v0))] [.inr (.inr (h.1.1 : Int)), .inr (.inr v0)] ((h.1.1 + 1, h.1.2.1 + (260 : Int).toNat, fun q => if q = h.1.1 then (100, (260 : Int).toNat) else h.1.2.2 q), fun q j => if q = h.1.1 then 0 else (aup h.2 s0.toNat 51 s1) q j)
  else none :=
  (aB gP gX xs stp_187 5 d mm_187 312 _ _ h).trans rfl

set_option maxRecDepth 100000 in
set_option maxHeartbeats 4000000 in
theorem q_187_321 (xs : List Int) (d : Nat) (v0 : Int) (s0 : Int) (s1 : Int) (h : aH) : ev xs d mm_187 321 [some (.inr (.inr v0))] [.inr (.inr s1), .inr (.inr s0)] h =
  bif aok h.1 s0 12 then
    ev xs d mm_187 330 [some (.inr (.inr v0))] [.inr (.inr (h.1.1 : Int)), .inr (.inr v0)] ((h.1.1 + 1, h.1.2.1 + (840 : Int).toNat, fun q => if q = h.1.1 then (100, (840 : Int).toNat) else h.1.2.2 q), fun q j => if q = h.1.1 then 0 else (aup h.2 s0.toNat 52 s1) q j)
  else none :=
  (aB gP gX xs stp_187 5 d mm_187 321 _ _ h).trans rfl

set_option maxRecDepth 100000 in
set_option maxHeartbeats 4000000 in
theorem q_187_330 (xs : List Int) (d : Nat) (v0 : Int) (s0 : Int) (s1 : Int) (h : aH) : ev xs d mm_187 330 [some (.inr (.inr v0))] [.inr (.inr s1), .inr (.inr s0)] h =
  bif aok h.1 s0 12 then
    ev xs d mm_187 339 [some (.inr (.inr v0))] [.inr (.inr (h.1.1 : Int)), .inr (.inr v0)] ((h.1.1 + 1, h.1.2.1 + (840 : Int).toNat, fun q => if q = h.1.1 then (100, (840 : Int).toNat) else h.1.2.2 q), fun q j => if q = h.1.1 then 0 else (aup h.2 s0.toNat 54 s1) q j)
  else none :=
  (aB gP gX xs stp_187 5 d mm_187 330 _ _ h).trans rfl

set_option maxRecDepth 100000 in
set_option maxHeartbeats 4000000 in
theorem q_187_339 (xs : List Int) (d : Nat) (v0 : Int) (s0 : Int) (s1 : Int) (h : aH) : ev xs d mm_187 339 [some (.inr (.inr v0))] [.inr (.inr s1), .inr (.inr s0)] h =
  bif aok h.1 s0 12 then
    ev xs d mm_187 347 [some (.inr (.inr v0))] [.inr (.inr (h.1.1 : Int)), .inr (.inr v0)] ((h.1.1 + 1, h.1.2.1 + (64 : Int).toNat, fun q => if q = h.1.1 then (100, (64 : Int).toNat) else h.1.2.2 q), fun q j => if q = h.1.1 then 0 else (aup h.2 s0.toNat 55 s1) q j)
  else none :=
  (aB gP gX xs stp_187 5 d mm_187 339 _ _ h).trans rfl

set_option maxRecDepth 100000 in
set_option maxHeartbeats 4000000 in
theorem q_187_347 (xs : List Int) (d : Nat) (v0 : Int) (s0 : Int) (s1 : Int) (h : aH) : ev xs d mm_187 347 [some (.inr (.inr v0))] [.inr (.inr s1), .inr (.inr s0)] h =
  bif aok h.1 s0 12 then
    ev xs d mm_187 355 [some (.inr (.inr v0))] [.inr (.inr (h.1.1 : Int)), .inr (.inr v0)] ((h.1.1 + 1, h.1.2.1 + (6 : Int).toNat, fun q => if q = h.1.1 then (100, (6 : Int).toNat) else h.1.2.2 q), fun q j => if q = h.1.1 then 0 else (aup h.2 s0.toNat 58 s1) q j)
  else none :=
  (aB gP gX xs stp_187 5 d mm_187 347 _ _ h).trans rfl

set_option maxRecDepth 100000 in
set_option maxHeartbeats 4000000 in
theorem q_187_355 (xs : List Int) (d : Nat) (v0 : Int) (s0 : Int) (s1 : Int) (h : aH) : ev xs d mm_187 355 [some (.inr (.inr v0))] [.inr (.inr s1), .inr (.inr s0)] h =
  bif aok h.1 s0 12 then
    ev xs d mm_187 364 [some (.inr (.inr v0))] [.inr (.inr (h.1.1 : Int)), .inr (.inr v0)] ((h.1.1 + 1, h.1.2.1 + (400 : Int).toNat, fun q => if q = h.1.1 then (100, (400 : Int).toNat) else h.1.2.2 q), fun q j => if q = h.1.1 then 0 else (aup h.2 s0.toNat 60 s1) q j)
  else none :=
  (aB gP gX xs stp_187 5 d mm_187 355 _ _ h).trans rfl

set_option maxRecDepth 100000 in
set_option maxHeartbeats 4000000 in
theorem q_187_364 (xs : List Int) (d : Nat) (v0 : Int) (s0 : Int) (s1 : Int) (h : aH) : ev xs d mm_187 364 [some (.inr (.inr v0))] [.inr (.inr s1), .inr (.inr s0)] h =
  bif aok h.1 s0 12 then
    ev xs d mm_187 372 [some (.inr (.inr v0))] [.inr (.inr (h.1.1 : Int)), .inr (.inr v0)] ((h.1.1 + 1, h.1.2.1 + (60 : Int).toNat, fun q => if q = h.1.1 then (101, (60 : Int).toNat) else h.1.2.2 q), fun q j => if q = h.1.1 then 0 else (aup h.2 s0.toNat 61 s1) q j)
  else none :=
  (aB gP gX xs stp_187 5 d mm_187 364 _ _ h).trans rfl

set_option maxRecDepth 100000 in
set_option maxHeartbeats 4000000 in
theorem q_187_372 (xs : List Int) (d : Nat) (v0 : Int) (s0 : Int) (s1 : Int) (h : aH) : ev xs d mm_187 372 [some (.inr (.inr v0))] [.inr (.inr s1), .inr (.inr s0)] h =
  bif aok h.1 s0 12 then
    ev xs d mm_187 380 [some (.inr (.inr v0))] [.inr (.inr (h.1.1 : Int)), .inr (.inr v0)] ((h.1.1 + 1, h.1.2.1 + (60 : Int).toNat, fun q => if q = h.1.1 then (101, (60 : Int).toNat) else h.1.2.2 q), fun q j => if q = h.1.1 then 0 else (aup h.2 s0.toNat 63 s1) q j)
  else none :=
  (aB gP gX xs stp_187 5 d mm_187 372 _ _ h).trans rfl

set_option maxRecDepth 100000 in
set_option maxHeartbeats 4000000 in
theorem q_187_380 (xs : List Int) (d : Nat) (v0 : Int) (s0 : Int) (s1 : Int) (h : aH) : ev xs d mm_187 380 [some (.inr (.inr v0))] [.inr (.inr s1), .inr (.inr s0)] h =
  bif aok h.1 s0 12 then
    ev xs d mm_187 388 [some (.inr (.inr v0))] [.inr (.inr (h.1.1 : Int)), .inr (.inr v0)] ((h.1.1 + 1, h.1.2.1 + (10 : Int).toNat, fun q => if q = h.1.1 then (100, (10 : Int).toNat) else h.1.2.2 q), fun q j => if q = h.1.1 then 0 else (aup h.2 s0.toNat 64 s1) q j)
  else none :=
  (aB gP gX xs stp_187 5 d mm_187 380 _ _ h).trans rfl

set_option maxRecDepth 100000 in
set_option maxHeartbeats 4000000 in
theorem q_187_388 (xs : List Int) (d : Nat) (v0 : Int) (s0 : Int) (s1 : Int) (h : aH) : ev xs d mm_187 388 [some (.inr (.inr v0))] [.inr (.inr s1), .inr (.inr s0)] h =
  bif aok h.1 s0 12 then
    ev xs d mm_187 397 [some (.inr (.inr v0))] [.inr (.inr (h.1.1 : Int)), .inr (.inr v0)] ((h.1.1 + 1, h.1.2.1 + (1800 : Int).toNat, fun q => if q = h.1.1 then (101, (1800 : Int).toNat) else h.1.2.2 q), fun q j => if q = h.1.1 then 0 else (aup h.2 s0.toNat 65 s1) q j)
  else none :=
  (aB gP gX xs stp_187 5 d mm_187 388 _ _ h).trans rfl

set_option maxRecDepth 100000 in
set_option maxHeartbeats 4000000 in
theorem q_187_397 (xs : List Int) (d : Nat) (v0 : Int) (s0 : Int) (s1 : Int) (h : aH) : ev xs d mm_187 397 [some (.inr (.inr v0))] [.inr (.inr s1), .inr (.inr s0)] h =
  bif aok h.1 s0 12 then
    ev xs d mm_187 406 [some (.inr (.inr v0))] [.inr (.inr (h.1.1 : Int)), .inr (.inr v0)] ((h.1.1 + 1, h.1.2.1 + (1800 : Int).toNat, fun q => if q = h.1.1 then (101, (1800 : Int).toNat) else h.1.2.2 q), fun q j => if q = h.1.1 then 0 else (aup h.2 s0.toNat 71 s1) q j)
  else none :=
  (aB gP gX xs stp_187 5 d mm_187 397 _ _ h).trans rfl

set_option maxRecDepth 100000 in
set_option maxHeartbeats 4000000 in
theorem q_187_406 (xs : List Int) (d : Nat) (v0 : Int) (s0 : Int) (s1 : Int) (h : aH) : ev xs d mm_187 406 [some (.inr (.inr v0))] [.inr (.inr s1), .inr (.inr s0)] h =
  bif aok h.1 s0 12 then
    ev xs d mm_187 415 [some (.inr (.inr v0))] [.inr (.inr (h.1.1 : Int)), .inr (.inr v0)] ((h.1.1 + 1, h.1.2.1 + (1800 : Int).toNat, fun q => if q = h.1.1 then (100, (1800 : Int).toNat) else h.1.2.2 q), fun q j => if q = h.1.1 then 0 else (aup h.2 s0.toNat 72 s1) q j)
  else none :=
  (aB gP gX xs stp_187 5 d mm_187 406 _ _ h).trans rfl

set_option maxRecDepth 100000 in
set_option maxHeartbeats 4000000 in
theorem q_187_415 (xs : List Int) (d : Nat) (v0 : Int) (s0 : Int) (s1 : Int) (h : aH) : ev xs d mm_187 415 [some (.inr (.inr v0))] [.inr (.inr s1), .inr (.inr s0)] h =
  bif aok h.1 s0 12 then
    ev xs d mm_187 423 [some (.inr (.inr v0))] [.inr (.inr (h.1.1 : Int)), .inr (.inr v0)] ((h.1.1 + 1, h.1.2.1 + (7 : Int).toNat, fun q => if q = h.1.1 then (100, (7 : Int).toNat) else h.1.2.2 q), fun q j => if q = h.1.1 then 0 else (aup h.2 s0.toNat 73 s1) q j)
  else none :=
  (aB gP gX xs stp_187 5 d mm_187 415 _ _ h).trans rfl

set_option maxRecDepth 100000 in
set_option maxHeartbeats 4000000 in
theorem q_187_423 (xs : List Int) (d : Nat) (v0 : Int) (s0 : Int) (s1 : Int) (h : aH) : ev xs d mm_187 423 [some (.inr (.inr v0))] [.inr (.inr s1), .inr (.inr s0)] h =
  bif aok h.1 s0 12 then
    ev xs d mm_187 431 [some (.inr (.inr v0))] [.inr (.inr (h.1.1 : Int)), .inr (.inr v0)] ((h.1.1 + 1, h.1.2.1 + (7 : Int).toNat, fun q => if q = h.1.1 then (100, (7 : Int).toNat) else h.1.2.2 q), fun q j => if q = h.1.1 then 0 else (aup h.2 s0.toNat 75 s1) q j)
  else none :=
  (aB gP gX xs stp_187 5 d mm_187 423 _ _ h).trans rfl

set_option maxRecDepth 100000 in
set_option maxHeartbeats 4000000 in
theorem q_187_431 (xs : List Int) (d : Nat) (v0 : Int) (s0 : Int) (s1 : Int) (h : aH) : ev xs d mm_187 431 [some (.inr (.inr v0))] [.inr (.inr s1), .inr (.inr s0)] h =
  bif aok h.1 s0 12 then
    ev xs d mm_187 439 [some (.inr (.inr v0))] [.inr (.inr (h.1.1 : Int)), .inr (.inr v0)] ((h.1.1 + 1, h.1.2.1 + (7 : Int).toNat, fun q => if q = h.1.1 then (100, (7 : Int).toNat) else h.1.2.2 q), fun q j => if q = h.1.1 then 0 else (aup h.2 s0.toNat 76 s1) q j)
  else none :=
  (aB gP gX xs stp_187 5 d mm_187 431 _ _ h).trans rfl

set_option maxRecDepth 100000 in
set_option maxHeartbeats 4000000 in
theorem q_187_439 (xs : List Int) (d : Nat) (v0 : Int) (s0 : Int) (s1 : Int) (h : aH) : ev xs d mm_187 439 [some (.inr (.inr v0))] [.inr (.inr s1), .inr (.inr s0)] h =
  bif aok h.1 s0 12 then
    ev xs d mm_187 448 [some (.inr (.inr v0))] [.inr (.inr (h.1.1 : Int)), .inr (.inr v0)] ((h.1.1 + 1, h.1.2.1 + (128 : Int).toNat, fun q => if q = h.1.1 then (101, (128 : Int).toNat) else h.1.2.2 q), fun q j => if q = h.1.1 then 0 else (aup h.2 s0.toNat 78 s1) q j)
  else none :=
  (aB gP gX xs stp_187 5 d mm_187 439 _ _ h).trans rfl

set_option maxRecDepth 100000 in
set_option maxHeartbeats 4000000 in
theorem q_187_448 (xs : List Int) (d : Nat) (v0 : Int) (s0 : Int) (s1 : Int) (h : aH) : ev xs d mm_187 448 [some (.inr (.inr v0))] [.inr (.inr s1), .inr (.inr s0)] h =
  bif aok h.1 s0 12 then
    ev xs d mm_187 456 [some (.inr (.inr v0))] [.inr (.inr (h.1.1 : Int)), .inr (.inr v0)] ((h.1.1 + 1, h.1.2.1 + (81 : Int).toNat, fun q => if q = h.1.1 then (100, (81 : Int).toNat) else h.1.2.2 q), fun q j => if q = h.1.1 then 0 else (aup h.2 s0.toNat 80 s1) q j)
  else none :=
  (aB gP gX xs stp_187 5 d mm_187 448 _ _ h).trans rfl

set_option maxRecDepth 100000 in
set_option maxHeartbeats 4000000 in
theorem q_187_456 (xs : List Int) (d : Nat) (v0 : Int) (s0 : Int) (s1 : Int) (h : aH) : ev xs d mm_187 456 [some (.inr (.inr v0))] [.inr (.inr s1), .inr (.inr s0)] h =
  bif aok h.1 s0 12 then
    ev xs d mm_187 464 [some (.inr (.inr v0))] [.inr (.inr (h.1.1 : Int)), .inr (.inr v0)] ((h.1.1 + 1, h.1.2.1 + (24 : Int).toNat, fun q => if q = h.1.1 then (100, (24 : Int).toNat) else h.1.2.2 q), fun q j => if q = h.1.1 then 0 else (aup h.2 s0.toNat 81 s1) q j)
  else none :=
  (aB gP gX xs stp_187 5 d mm_187 456 _ _ h).trans rfl

set_option maxRecDepth 100000 in
set_option maxHeartbeats 4000000 in
theorem q_187_464 (xs : List Int) (d : Nat) (v0 : Int) (s0 : Int) (s1 : Int) (h : aH) : ev xs d mm_187 464 [some (.inr (.inr v0))] [.inr (.inr s1), .inr (.inr s0)] h =
  bif aok h.1 s0 12 then
    ev xs d mm_187 471 [some (.inr (.inr v0))] [.inr (.inr (h.1.1 : Int)), .inr (.inr v0)] ((h.1.1 + 1, h.1.2.1 + (3 : Int).toNat, fun q => if q = h.1.1 then (103, (3 : Int).toNat) else h.1.2.2 q), fun q j => if q = h.1.1 then 0 else (aup h.2 s0.toNat 82 s1) q j)
  else none :=
  (aB gP gX xs stp_187 5 d mm_187 464 _ _ h).trans rfl

set_option maxRecDepth 100000 in
set_option maxHeartbeats 4000000 in
theorem q_187_471 (xs : List Int) (d : Nat) (v0 : Int) (s0 : Int) (s1 : Int) (h : aH) : ev xs d mm_187 471 [some (.inr (.inr v0))] [.inr (.inr s1), .inr (.inr s0)] h =
  bif aok h.1 s0 12 then
    ev xs d mm_187 480 [some (.inr (.inr v0))] [.inr (.inr (h.1.1 : Int)), .inr (.inr v0)] ((h.1.1 + 1, h.1.2.1 + (180 : Int).toNat, fun q => if q = h.1.1 then (101, (180 : Int).toNat) else h.1.2.2 q), fun q j => if q = h.1.1 then 0 else (aup h.2 s0.toNat 83 s1) q j)
  else none :=
  (aB gP gX xs stp_187 5 d mm_187 471 _ _ h).trans rfl

set_option maxRecDepth 100000 in
set_option maxHeartbeats 4000000 in
theorem q_187_480 (xs : List Int) (d : Nat) (v0 : Int) (s0 : Int) (s1 : Int) (h : aH) : ev xs d mm_187 480 [some (.inr (.inr v0))] [.inr (.inr s1), .inr (.inr s0)] h =
  bif aok h.1 s0 12 then
    bif aok h.1 v0 12 then
      bJ (cl xs d 195 [.inl 99, .inl 108, .inl 97, .inl 115, .inl 115, .inl 0, .inl 0] (h.1, aup h.2 s0.toNat 84 s1)) (fun x2 h1 =>
        bif ain h1.1 ((aup h.2 s0.toNat 84 s1) v0.toNat 9) 101 0 then
          bif aok h1.1 v0 12 then
            bJ (cl xs d 195 [.inl 115, .inl 116, .inl 111, .inl 110, .inl 101, .inl 0, .inl 0] (h1.1, aup h1.2 ((aup h.2 s0.toNat 84 s1) v0.toNat 9).toNat (0 : Int).toNat x2)) (fun x4 h3 =>
              bif ain h3.1 ((aup h1.2 ((aup h.2 s0.toNat 84 s1) v0.toNat 9).toNat (0 : Int).toNat x2) v0.toNat 9) 101 1 then
                ev xs d mm_187 525 [some (.inr (.inr v0))] [] (h3.1, aup h3.2 ((aup h1.2 ((aup h.2 s0.toNat 84 s1) v0.toNat 9).toNat (0 : Int).toNat x2) v0.toNat 9).toNat (1 : Int).toNat x4)
              else none)
          else none
        else none)
    else none
  else none :=
  (aB gP gX xs stp_187 26 d mm_187 480 _ _ h).trans rfl

set_option maxRecDepth 100000 in
set_option maxHeartbeats 4000000 in
theorem q_187_525 (xs : List Int) (d : Nat) (v0 : Int) (h : aH) : ev xs d mm_187 525 [some (.inr (.inr v0))] [] h =
  bif aok h.1 v0 12 then
    bJ (cl xs d 195 [.inl 116, .inl 111, .inl 0, .inl 0, .inl 0, .inl 0, .inl 0] h) (fun x2 h1 =>
      bif ain h1.1 (h.2 v0.toNat 9) 101 2 then
        bif aok h1.1 v0 12 then
          bJ (cl xs d 195 [.inl 110, .inl 111, .inl 110, .inl 101, .inl 0, .inl 0, .inl 0] (h1.1, aup h1.2 (h.2 v0.toNat 9).toNat (2 : Int).toNat x2)) (fun x4 h3 =>
            bif ain h3.1 ((aup h1.2 (h.2 v0.toNat 9).toNat (2 : Int).toNat x2) v0.toNat 9) 101 3 then
              bif aok h3.1 v0 12 then
                bJ (cl xs d 195 [.inl 97, .inl 102, .inl 116, .inl 101, .inl 114, .inl 0, .inl 0] (h3.1, aup h3.2 ((aup h1.2 (h.2 v0.toNat 9).toNat (2 : Int).toNat x2) v0.toNat 9).toNat (3 : Int).toNat x4)) (fun x6 h5 =>
                  bif ain h5.1 ((aup h3.2 ((aup h1.2 (h.2 v0.toNat 9).toNat (2 : Int).toNat x2) v0.toNat 9).toNat (3 : Int).toNat x4) v0.toNat 9) 101 4 then
                    ev xs d mm_187 584 [some (.inr (.inr v0))] [] (h5.1, aup h5.2 ((aup h3.2 ((aup h1.2 (h.2 v0.toNat 9).toNat (2 : Int).toNat x2) v0.toNat 9).toNat (3 : Int).toNat x4) v0.toNat 9).toNat (4 : Int).toNat x6)
                  else none)
              else none
            else none)
        else none
      else none)
  else none :=
  (aB gP gX xs stp_187 37 d mm_187 525 _ _ h).trans rfl

set_option maxRecDepth 100000 in
set_option maxHeartbeats 4000000 in
theorem q_187_584 (xs : List Int) (d : Nat) (v0 : Int) (h : aH) : ev xs d mm_187 584 [some (.inr (.inr v0))] [] h =
  bif aok h.1 v0 12 then
    bJ (cl xs d 195 [.inl 98, .inl 101, .inl 102, .inl 111, .inl 114, .inl 101, .inl 0] h) (fun x2 h1 =>
      bif ain h1.1 (h.2 v0.toNat 9) 101 5 then
        bif aok h1.1 v0 12 then
          bJ (cl xs d 195 [.inl 101, .inl 100, .inl 103, .inl 101, .inl 0, .inl 0, .inl 0] (h1.1, aup h1.2 (h.2 v0.toNat 9).toNat (5 : Int).toNat x2)) (fun x4 h3 =>
            bif ain h3.1 ((aup h1.2 (h.2 v0.toNat 9).toNat (5 : Int).toNat x2) v0.toNat 9) 101 6 then
              bif aok h3.1 v0 12 then
                bJ (cl xs d 195 [.inl 114, .inl 111, .inl 111, .inl 116, .inl 0, .inl 0, .inl 0] (h3.1, aup h3.2 ((aup h1.2 (h.2 v0.toNat 9).toNat (5 : Int).toNat x2) v0.toNat 9).toNat (6 : Int).toNat x4)) (fun x6 h5 =>
                  bif ain h5.1 ((aup h3.2 ((aup h1.2 (h.2 v0.toNat 9).toNat (5 : Int).toNat x2) v0.toNat 9).toNat (6 : Int).toNat x4) v0.toNat 9) 101 7 then
                    ev xs d mm_187 648 [some (.inr (.inr v0))] [] (h5.1, aup h5.2 ((aup h3.2 ((aup h1.2 (h.2 v0.toNat 9).toNat (5 : Int).toNat x2) v0.toNat 9).toNat (6 : Int).toNat x4) v0.toNat 9).toNat (7 : Int).toNat x6)
                  else none)
              else none
            else none)
        else none
      else none)
  else none :=
  (aB gP gX xs stp_187 37 d mm_187 584 _ _ h).trans rfl

set_option maxRecDepth 100000 in
set_option maxHeartbeats 4000000 in
theorem q_187_648 (xs : List Int) (d : Nat) (v0 : Int) (h : aH) : ev xs d mm_187 648 [some (.inr (.inr v0))] [] h =
  bif aok h.1 v0 12 then
    bJ (cl xs d 195 [.inl 101, .inl 110, .inl 100, .inl 105, .inl 110, .inl 103, .inl 0] h) (fun x2 h1 =>
      bif ain h1.1 (h.2 v0.toNat 9) 101 8 then
        bif aok h1.1 v0 12 then
          bJ (cl xs d 195 [.inl 104, .inl 101, .inl 97, .inl 100, .inl 0, .inl 0, .inl 0] (h1.1, aup h1.2 (h.2 v0.toNat 9).toNat (8 : Int).toNat x2)) (fun x4 h3 =>
            bif ain h3.1 ((aup h1.2 (h.2 v0.toNat 9).toNat (8 : Int).toNat x2) v0.toNat 9) 101 9 then
              bif aok h3.1 v0 12 then
                bJ (cl xs d 195 [.inl 119, .inl 111, .inl 114, .inl 100, .inl 0, .inl 0, .inl 0] (h3.1, aup h3.2 ((aup h1.2 (h.2 v0.toNat 9).toNat (8 : Int).toNat x2) v0.toNat 9).toNat (9 : Int).toNat x4)) (fun x6 h5 =>
                  bif ain h5.1 ((aup h3.2 ((aup h1.2 (h.2 v0.toNat 9).toNat (8 : Int).toNat x2) v0.toNat 9).toNat (9 : Int).toNat x4) v0.toNat 9) 101 10 then
                    ev xs d mm_187 713 [some (.inr (.inr v0))] [] (h5.1, aup h5.2 ((aup h3.2 ((aup h1.2 (h.2 v0.toNat 9).toNat (8 : Int).toNat x2) v0.toNat 9).toNat (9 : Int).toNat x4) v0.toNat 9).toNat (10 : Int).toNat x6)
                  else none)
              else none
            else none)
        else none
      else none)
  else none :=
  (aB gP gX xs stp_187 37 d mm_187 648 _ _ h).trans rfl

set_option maxRecDepth 100000 in
set_option maxHeartbeats 4000000 in
theorem q_187_713 (xs : List Int) (d : Nat) (v0 : Int) (h : aH) : ev xs d mm_187 713 [some (.inr (.inr v0))] [] h =
  bif aok h.1 v0 12 then
    bJ (cl xs d 195 [.inl 112, .inl 97, .inl 105, .inl 114, .inl 0, .inl 0, .inl 0] h) (fun x2 h1 =>
      bif ain h1.1 (h.2 v0.toNat 9) 101 11 then
        bif aok h1.1 v0 12 then
          bJ (cl xs d 195 [.inl 108, .inl 97, .inl 110, .inl 100, .inl 0, .inl 0, .inl 0] (h1.1, aup h1.2 (h.2 v0.toNat 9).toNat (11 : Int).toNat x2)) (fun x4 h3 =>
            bif ain h3.1 ((aup h1.2 (h.2 v0.toNat 9).toNat (11 : Int).toNat x2) v0.toNat 9) 101 12 then
              bif aok h3.1 v0 12 then
                bJ (cl xs d 195 [.inl 98, .inl 114, .inl 105, .inl 110, .inl 103, .inl 115, .inl 0] (h3.1, aup h3.2 ((aup h1.2 (h.2 v0.toNat 9).toNat (11 : Int).toNat x2) v0.toNat 9).toNat (12 : Int).toNat x4)) (fun x6 h5 =>
                  bif ain h5.1 ((aup h3.2 ((aup h1.2 (h.2 v0.toNat 9).toNat (11 : Int).toNat x2) v0.toNat 9).toNat (12 : Int).toNat x4) v0.toNat 9) 101 13 then
                    ev xs d mm_187 778 [some (.inr (.inr v0))] [] (h5.1, aup h5.2 ((aup h3.2 ((aup h1.2 (h.2 v0.toNat 9).toNat (11 : Int).toNat x2) v0.toNat 9).toNat (12 : Int).toNat x4) v0.toNat 9).toNat (13 : Int).toNat x6)
                  else none)
              else none
            else none)
        else none
      else none)
  else none :=
  (aB gP gX xs stp_187 37 d mm_187 713 _ _ h).trans rfl

set_option maxRecDepth 100000 in
set_option maxHeartbeats 4000000 in
theorem q_187_778 (xs : List Int) (d : Nat) (v0 : Int) (h : aH) : ev xs d mm_187 778 [some (.inr (.inr v0))] [] h =
  bif aok h.1 v0 12 then
    bJ (cl xs d 195 [.inl 115, .inl 101, .inl 101, .inl 100, .inl 0, .inl 0, .inl 0] h) (fun x2 h1 =>
      bif ain h1.1 (h.2 v0.toNat 9) 101 14 then
        bif aok h1.1 v0 12 then
          bJ (cl xs d 195 [.inl 105, .inl 102, .inl 0, .inl 0, .inl 0, .inl 0, .inl 0] (h1.1, aup h1.2 (h.2 v0.toNat 9).toNat (14 : Int).toNat x2)) (fun x4 h3 =>
            bif ain h3.1 ((aup h1.2 (h.2 v0.toNat 9).toNat (14 : Int).toNat x2) v0.toNat 9) 101 15 then
              bif aok h3.1 v0 12 then
                bJ (cl xs d 195 [.inl 116, .inl 104, .inl 101, .inl 110, .inl 0, .inl 0, .inl 0] (h3.1, aup h3.2 ((aup h1.2 (h.2 v0.toNat 9).toNat (14 : Int).toNat x2) v0.toNat 9).toNat (15 : Int).toNat x4)) (fun x6 h5 =>
                  bif ain h5.1 ((aup h3.2 ((aup h1.2 (h.2 v0.toNat 9).toNat (14 : Int).toNat x2) v0.toNat 9).toNat (15 : Int).toNat x4) v0.toNat 9) 101 16 then
                    ev xs d mm_187 839 [some (.inr (.inr v0))] [] (h5.1, aup h5.2 ((aup h3.2 ((aup h1.2 (h.2 v0.toNat 9).toNat (14 : Int).toNat x2) v0.toNat 9).toNat (15 : Int).toNat x4) v0.toNat 9).toNat (16 : Int).toNat x6)
                  else none)
              else none
            else none)
        else none
      else none)
  else none :=
  (aB gP gX xs stp_187 37 d mm_187 778 _ _ h).trans rfl

set_option maxRecDepth 100000 in
set_option maxHeartbeats 4000000 in
theorem q_187_839 (xs : List Int) (d : Nat) (v0 : Int) (h : aH) : ev xs d mm_187 839 [some (.inr (.inr v0))] [] h =
  bif aok h.1 v0 12 then
    bJ (cl xs d 195 [.inl 101, .inl 108, .inl 115, .inl 101, .inl 0, .inl 0, .inl 0] h) (fun x2 h1 =>
      bif ain h1.1 (h.2 v0.toNat 9) 101 17 then
        bif aok h1.1 v0 12 then
          bJ (cl xs d 195 [.inl 101, .inl 110, .inl 100, .inl 115, .inl 0, .inl 0, .inl 0] (h1.1, aup h1.2 (h.2 v0.toNat 9).toNat (17 : Int).toNat x2)) (fun x4 h3 =>
            bif ain h3.1 ((aup h1.2 (h.2 v0.toNat 9).toNat (17 : Int).toNat x2) v0.toNat 9) 101 18 then
              bif aok h3.1 v0 12 then
                bJ (cl xs d 195 [.inl 104, .inl 101, .inl 97, .inl 100, .inl 115, .inl 0, .inl 0] (h3.1, aup h3.2 ((aup h1.2 (h.2 v0.toNat 9).toNat (17 : Int).toNat x2) v0.toNat 9).toNat (18 : Int).toNat x4)) (fun x6 h5 =>
                  bif ain h5.1 ((aup h3.2 ((aup h1.2 (h.2 v0.toNat 9).toNat (17 : Int).toNat x2) v0.toNat 9).toNat (18 : Int).toNat x4) v0.toNat 9) 101 19 then
                    ev xs d mm_187 903 [some (.inr (.inr v0))] [] (h5.1, aup h5.2 ((aup h3.2 ((aup h1.2 (h.2 v0.toNat 9).toNat (17 : Int).toNat x2) v0.toNat 9).toNat (18 : Int).toNat x4) v0.toNat 9).toNat (19 : Int).toNat x6)
                  else none)
              else none
            else none)
        else none
      else none)
  else none :=
  (aB gP gX xs stp_187 37 d mm_187 839 _ _ h).trans rfl

set_option maxRecDepth 100000 in
set_option maxHeartbeats 4000000 in
theorem q_187_903 (xs : List Int) (d : Nat) (v0 : Int) (h : aH) : ev xs d mm_187 903 [some (.inr (.inr v0))] [] h =
  bif aok h.1 v0 12 then
    bJ (cl xs d 195 [.inl 116, .inl 111, .inl 110, .inl 115, .inl 0, .inl 0, .inl 0] h) (fun x2 h1 =>
      bif ain h1.1 (h.2 v0.toNat 9) 101 20 then
        bif aok h1.1 v0 12 then
          bJ (cl xs d 195 [.inl 100, .inl 117, .inl 115, .inl 116, .inl 0, .inl 0, .inl 0] (h1.1, aup h1.2 (h.2 v0.toNat 9).toNat (20 : Int).toNat x2)) (fun x4 h3 =>
            bif ain h3.1 ((aup h1.2 (h.2 v0.toNat 9).toNat (20 : Int).toNat x2) v0.toNat 9) 101 21 then
              bif aok h3.1 v0 12 then
                bJ (cl xs d 195 [.inl 116, .inl 117, .inl 114, .inl 110, .inl 0, .inl 0, .inl 0] (h3.1, aup h3.2 ((aup h1.2 (h.2 v0.toNat 9).toNat (20 : Int).toNat x2) v0.toNat 9).toNat (21 : Int).toNat x4)) (fun x6 h5 =>
                  bif ain h5.1 ((aup h3.2 ((aup h1.2 (h.2 v0.toNat 9).toNat (20 : Int).toNat x2) v0.toNat 9).toNat (21 : Int).toNat x4) v0.toNat 9) 101 22 then
                    ev xs d mm_187 966 [some (.inr (.inr v0))] [] (h5.1, aup h5.2 ((aup h3.2 ((aup h1.2 (h.2 v0.toNat 9).toNat (20 : Int).toNat x2) v0.toNat 9).toNat (21 : Int).toNat x4) v0.toNat 9).toNat (22 : Int).toNat x6)
                  else none)
              else none
            else none)
        else none
      else none)
  else none :=
  (aB gP gX xs stp_187 37 d mm_187 903 _ _ h).trans rfl

set_option maxRecDepth 100000 in
set_option maxHeartbeats 4000000 in
theorem q_187_966 (xs : List Int) (d : Nat) (v0 : Int) (h : aH) : ev xs d mm_187 966 [some (.inr (.inr v0))] [] h =
  bif aok h.1 v0 12 then
    bJ (cl xs d 195 [.inl 108, .inl 101, .inl 102, .inl 116, .inl 0, .inl 0, .inl 0] h) (fun x2 h1 =>
      bif ain h1.1 (h.2 v0.toNat 9) 101 23 then
        bif aok h1.1 v0 12 && true then
          bV (cl xs d 227 [.inr (.inr v0)] (h1.1, aup h1.2 (h.2 v0.toNat 9).toNat (23 : Int).toNat x2)) (fun h3 =>
          bif aok h3.1 v0 12 && true then
            bV (cl xs d 228 [.inr (.inr v0)] h3) (fun h4 =>
            some (none, h4))
          else none)
        else none
      else none)
  else none :=
  (aB gP gX xs stp_187 18 d mm_187 966 _ _ h).trans rfl

theorem c_187 (xs : List Int) (d : Nat) (v0 : Int) (h : aH) : cl xs (d + 1) 187 [.inr (.inr v0)] h =
  bif decide (0 ≤ v0) && true then
    ev xs d mm_187 10 [some (.inr (.inr v0))] [.inr (.inr (h.1.1 : Int)), .inr (.inr v0)] ((h.1.1 + 1, h.1.2.1 + (2000 : Int).toNat, fun q => if q = h.1.1 then (102, (2000 : Int).toNat) else h.1.2.2 q), fun q j => if q = h.1.1 then 0 else h.2 q j)
  else none :=
  (show _ = ev xs d mm_187 0 [some (.inr (.inr v0))] [] h from rfl).trans (q_187_0 xs d v0 h)
def stp_188 : List Nat := [0]
set_option maxRecDepth 100000 in
set_option maxHeartbeats 4000000 in
theorem q_188_0 (xs : List Int) (d : Nat) (v0 : Int) (v1 : Int) (v2 : Int) (v3 : Int) (v4 : Int) (v5 : Int) (h : aH) : ev xs d mm_188 0 [some (.inr (.inr v0)), some (.inl v1), some (.inl v2), some (.inl v3), some (.inl v4), some (.inl v5)] [] h =
  bif aok h.1 v0 12 then
    bif decide ((w32 ((h.2 v0.toNat 2) + 20)) ≤ 2000) then
      bif aok h.1 v0 12 && true then
        bV (cl xs d 189 [.inr (.inr v0), .inl v1] h) (fun h1 =>
        bif aok h1.1 v0 12 && true then
          bV (cl xs d 189 [.inr (.inr v0), .inl v2] h1) (fun h2 =>
          bif aok h2.1 v0 12 && true then
            bV (cl xs d 189 [.inr (.inr v0), .inl v3] h2) (fun h3 =>
            bif aok h3.1 v0 12 && true then
              bV (cl xs d 189 [.inr (.inr v0), .inl v4] h3) (fun h4 =>
              bif aok h4.1 v0 12 && true then
                bV (cl xs d 189 [.inr (.inr v0), .inl v5] h4) (fun h5 =>
                bif aok h5.1 v0 12 then
                  some (some (.inl (h5.2 v0.toNat 2)), h5)
                else none)
              else none)
            else none)
          else none)
        else none)
      else none
    else
      some (some (.inl (-1)), h)
  else none :=
  (aB gP gX xs stp_188 25 d mm_188 0 _ _ h).trans rfl

theorem c_188 (xs : List Int) (d : Nat) (v0 : Int) (v1 : Int) (v2 : Int) (v3 : Int) (v4 : Int) (v5 : Int) (h : aH) : cl xs (d + 1) 188 [.inr (.inr v0), .inl v1, .inl v2, .inl v3, .inl v4, .inl v5] h =
  bif aok h.1 v0 12 then
    bif decide ((w32 ((h.2 v0.toNat 2) + 20)) ≤ 2000) then
      bif aok h.1 v0 12 && true then
        bV (cl xs d 189 [.inr (.inr v0), .inl v1] h) (fun h1 =>
        bif aok h1.1 v0 12 && true then
          bV (cl xs d 189 [.inr (.inr v0), .inl v2] h1) (fun h2 =>
          bif aok h2.1 v0 12 && true then
            bV (cl xs d 189 [.inr (.inr v0), .inl v3] h2) (fun h3 =>
            bif aok h3.1 v0 12 && true then
              bV (cl xs d 189 [.inr (.inr v0), .inl v4] h3) (fun h4 =>
              bif aok h4.1 v0 12 && true then
                bV (cl xs d 189 [.inr (.inr v0), .inl v5] h4) (fun h5 =>
                bif aok h5.1 v0 12 then
                  some (some (.inl (h5.2 v0.toNat 2)), h5)
                else none)
              else none)
            else none)
          else none)
        else none)
      else none
    else
      some (some (.inl (-1)), h)
  else none :=
  (show _ = ev xs d mm_188 0 [some (.inr (.inr v0)), some (.inl v1), some (.inl v2), some (.inl v3), some (.inl v4), some (.inl v5)] [] h from rfl).trans (q_188_0 xs d v0 v1 v2 v3 v4 v5 h)
def stp_189 : List Nat := [0, 3]
set_option maxRecDepth 100000 in
set_option maxHeartbeats 4000000 in
theorem q_189_0 (xs : List Int) (d : Nat) (v0 : Int) (v1 : Int) (h : aH) : ev xs d mm_189 0 [some (.inr (.inr v0)), some (.inl v1), none] [] h =
  ev xs d mm_189 3 [some (.inr (.inr v0)), some (.inl v1), some (.inl 24)] [] h :=
  (aB gP gX xs stp_189 3 d mm_189 0 _ _ h).trans rfl

set_option maxRecDepth 100000 in
set_option maxHeartbeats 4000000 in
theorem q_189_3 (xs : List Int) (d : Nat) (v0 : Int) (v1 : Int) (v2 : Int) (h : aH) : ev xs d mm_189 3 [some (.inr (.inr v0)), some (.inl v1), some (.inl v2)] [] h =
  bif decide (v2 < 0) then
    some (none, h)
  else
    bif aok h.1 v0 12 then
      bif aok h.1 v0 12 then
        bif ain h.1 (h.2 v0.toNat 1) 102 (h.2 v0.toNat 2) then
          bif aok h.1 v0 12 then
            bif aok h.1 v0 12 then
              ev xs d mm_189 3 [some (.inr (.inr v0)), some (.inl v1), some (.inl (w32 (v2 + (-8))))] [] (h.1, aup (aup h.2 (h.2 v0.toNat 1).toNat (h.2 v0.toNat 2).toNat (oi2b (oi2b (oshr v1 v2)))) v0.toNat 2 (w32 (((aup h.2 (h.2 v0.toNat 1).toNat (h.2 v0.toNat 2).toNat (oi2b (oi2b (oshr v1 v2)))) v0.toNat 2) + 1)))
            else none
          else none
        else none
      else none
    else none :=
  (aB gP gX xs stp_189 20 d mm_189 3 _ _ h).trans rfl

theorem c_189 (xs : List Int) (d : Nat) (v0 : Int) (v1 : Int) (h : aH) : cl xs (d + 1) 189 [.inr (.inr v0), .inl v1] h =
  ev xs d mm_189 3 [some (.inr (.inr v0)), some (.inl v1), some (.inl 24)] [] h :=
  (show _ = ev xs d mm_189 0 [some (.inr (.inr v0)), some (.inl v1), none] [] h from rfl).trans (q_189_0 xs d v0 v1 h)
def stp_190 : List Nat := [0]
set_option maxRecDepth 100000 in
set_option maxHeartbeats 4000000 in
theorem q_190_0 (xs : List Int) (d : Nat) (v0 : Int) (v1 : Int) (h : aH) : ev xs d mm_190 0 [some (.inr (.inr v0)), some (.inl v1)] [] h =
  bif decide (v1 < 0) then
    some (some (.inl (-1)), h)
  else
    bif aok h.1 v0 12 then
      bif decide (v1 ≤ (h.2 v0.toNat 2)) then
        bif aok h.1 v0 12 then
          bif aok h.1 v0 12 then
            bif aok h.1 v0 12 then
              some (some (.inl ((aup h.2 v0.toNat 2 (w32 ((h.2 v0.toNat 2) - v1))) v0.toNat 2)), (h.1, aup h.2 v0.toNat 2 (w32 ((h.2 v0.toNat 2) - v1))))
            else none
          else none
        else none
      else
        some (some (.inl (-1)), h)
    else none :=
  (aB gP gX xs stp_190 16 d mm_190 0 _ _ h).trans rfl

theorem c_190 (xs : List Int) (d : Nat) (v0 : Int) (v1 : Int) (h : aH) : cl xs (d + 1) 190 [.inr (.inr v0), .inl v1] h =
  bif decide (v1 < 0) then
    some (some (.inl (-1)), h)
  else
    bif aok h.1 v0 12 then
      bif decide (v1 ≤ (h.2 v0.toNat 2)) then
        bif aok h.1 v0 12 then
          bif aok h.1 v0 12 then
            bif aok h.1 v0 12 then
              some (some (.inl ((aup h.2 v0.toNat 2 (w32 ((h.2 v0.toNat 2) - v1))) v0.toNat 2)), (h.1, aup h.2 v0.toNat 2 (w32 ((h.2 v0.toNat 2) - v1))))
            else none
          else none
        else none
      else
        some (some (.inl (-1)), h)
    else none :=
  (show _ = ev xs d mm_190 0 [some (.inr (.inr v0)), some (.inl v1)] [] h from rfl).trans (q_190_0 xs d v0 v1 h)
def stp_191 : List Nat := [0]
set_option maxRecDepth 100000 in
set_option maxHeartbeats 4000000 in
theorem q_191_0 (xs : List Int) (d : Nat) (v0 : Int) (v1 : Int) (h : aH) : ev xs d mm_191 0 [some (.inr (.inr v0)), some (.inl v1)] [] h =
  bif aok h.1 v0 12 then
    bif decide ((h.2 v0.toNat 4) ≤ v1) then
      some (some (.inl 0), h)
    else
      bif aok h.1 v0 12 then
        bif ain h.1 (h.2 v0.toNat 3) 102 v1 then
          some (some (.inl (oand (h.2 (h.2 v0.toNat 3).toNat v1.toNat) 255)), h)
        else none
      else none
  else none :=
  (aB gP gX xs stp_191 13 d mm_191 0 _ _ h).trans rfl

theorem c_191 (xs : List Int) (d : Nat) (v0 : Int) (v1 : Int) (h : aH) : cl xs (d + 1) 191 [.inr (.inr v0), .inl v1] h =
  bif aok h.1 v0 12 then
    bif decide ((h.2 v0.toNat 4) ≤ v1) then
      some (some (.inl 0), h)
    else
      bif aok h.1 v0 12 then
        bif ain h.1 (h.2 v0.toNat 3) 102 v1 then
          some (some (.inl (oand (h.2 (h.2 v0.toNat 3).toNat v1.toNat) 255)), h)
        else none
      else none
  else none :=
  (show _ = ev xs d mm_191 0 [some (.inr (.inr v0)), some (.inl v1)] [] h from rfl).trans (q_191_0 xs d v0 v1 h)
def stp_192 : List Nat := [0]
set_option maxRecDepth 100000 in
set_option maxHeartbeats 4000000 in
theorem q_192_0 (xs : List Int) (d : Nat) (v0 : Int) (h : aH) : ev xs d mm_192 0 [some (.inl v0)] [] h =
  bif decide (v0 < 48) then
    some (some (.inl 0), h)
  else
    bif decide (57 < v0) then
      some (some (.inl 0), h)
    else
      some (some (.inl 1), h) :=
  (aB gP gX xs stp_192 10 d mm_192 0 _ _ h).trans rfl

theorem c_192 (xs : List Int) (d : Nat) (v0 : Int) (h : aH) : cl xs (d + 1) 192 [.inl v0] h =
  bif decide (v0 < 48) then
    some (some (.inl 0), h)
  else
    bif decide (57 < v0) then
      some (some (.inl 0), h)
    else
      some (some (.inl 1), h) :=
  (show _ = ev xs d mm_192 0 [some (.inl v0)] [] h from rfl).trans (q_192_0 xs d v0 h)
def stp_193 : List Nat := [0]
set_option maxRecDepth 100000 in
set_option maxHeartbeats 4000000 in
theorem q_193_0 (xs : List Int) (d : Nat) (v0 : Int) (h : aH) : ev xs d mm_193 0 [some (.inl v0)] [] h =
  bif decide (v0 < 97) then
    some (some (.inl 0), h)
  else
    bif decide (122 < v0) then
      some (some (.inl 0), h)
    else
      some (some (.inl 1), h) :=
  (aB gP gX xs stp_193 10 d mm_193 0 _ _ h).trans rfl

theorem c_193 (xs : List Int) (d : Nat) (v0 : Int) (h : aH) : cl xs (d + 1) 193 [.inl v0] h =
  bif decide (v0 < 97) then
    some (some (.inl 0), h)
  else
    bif decide (122 < v0) then
      some (some (.inl 0), h)
    else
      some (some (.inl 1), h) :=
  (show _ = ev xs d mm_193 0 [some (.inl v0)] [] h from rfl).trans (q_193_0 xs d v0 h)
def stp_194 : List Nat := [0]
set_option maxRecDepth 100000 in
set_option maxHeartbeats 4000000 in
theorem q_194_0 (xs : List Int) (d : Nat) (v0 : Int) (v2 : Int) (h : aH) : ev xs d mm_194 0 [some (.inr (.inl v0)), none, some (.inl v2)] [] h =
  bif decide (¬ v2 = 0) then
    some (some (.inr (.inl (w64 ((w64 (27 * v0)) + (w32 ((w32 (v2 - 97)) + 1)))))), h)
  else
    some (some (.inr (.inl v0)), h) :=
  (aB gP gX xs stp_194 14 d mm_194 0 _ _ h).trans rfl

theorem c_194 (xs : List Int) (d : Nat) (v0 : Int) (v2 : Int) (h : aH) : cl xs (d + 1) 194 [.inr (.inl v0), .inl v2] h =
  bif decide (¬ v2 = 0) then
    some (some (.inr (.inl (w64 ((w64 (27 * v0)) + (w32 ((w32 (v2 - 97)) + 1)))))), h)
  else
    some (some (.inr (.inl v0)), h) :=
  (show _ = ev xs d mm_194 0 [some (.inr (.inl v0)), none, some (.inl v2)] [] h from rfl).trans (q_194_0 xs d v0 v2 h)
def stp_195 : List Nat := [0]
set_option maxRecDepth 100000 in
set_option maxHeartbeats 4000000 in
theorem q_195_0 (xs : List Int) (d : Nat) (v0 : Int) (v1 : Int) (v2 : Int) (v3 : Int) (v4 : Int) (v5 : Int) (v6 : Int) (h : aH) : ev xs d mm_195 0 [some (.inl v0), some (.inl v1), some (.inl v2), some (.inl v3), some (.inl v4), some (.inl v5), some (.inl v6)] [] h =
  bJ (cl xs d 194 [.inr (.inl 0), .inl v0] h) (fun x2 h1 =>
    bJ (cl xs d 194 [.inr (.inl x2), .inl v1] h1) (fun x4 h3 =>
      bJ (cl xs d 194 [.inr (.inl x4), .inl v2] h3) (fun x6 h5 =>
        bJ (cl xs d 194 [.inr (.inl x6), .inl v3] h5) (fun x8 h7 =>
          bJ (cl xs d 194 [.inr (.inl x8), .inl v4] h7) (fun x10 h9 =>
            bJ (cl xs d 194 [.inr (.inl x10), .inl v5] h9) (fun x12 h11 =>
              bJ (cl xs d 194 [.inr (.inl x12), .inl v6] h11) (fun x14 h13 =>
                some (some (.inr (.inl x14)), h13)))))))) :=
  (aB gP gX xs stp_195 17 d mm_195 0 _ _ h).trans rfl

theorem c_195 (xs : List Int) (d : Nat) (v0 : Int) (v1 : Int) (v2 : Int) (v3 : Int) (v4 : Int) (v5 : Int) (v6 : Int) (h : aH) : cl xs (d + 1) 195 [.inl v0, .inl v1, .inl v2, .inl v3, .inl v4, .inl v5, .inl v6] h =
  bJ (cl xs d 194 [.inr (.inl 0), .inl v0] h) (fun x2 h1 =>
    bJ (cl xs d 194 [.inr (.inl x2), .inl v1] h1) (fun x4 h3 =>
      bJ (cl xs d 194 [.inr (.inl x4), .inl v2] h3) (fun x6 h5 =>
        bJ (cl xs d 194 [.inr (.inl x6), .inl v3] h5) (fun x8 h7 =>
          bJ (cl xs d 194 [.inr (.inl x8), .inl v4] h7) (fun x10 h9 =>
            bJ (cl xs d 194 [.inr (.inl x10), .inl v5] h9) (fun x12 h11 =>
              bJ (cl xs d 194 [.inr (.inl x12), .inl v6] h11) (fun x14 h13 =>
                some (some (.inr (.inl x14)), h13)))))))) :=
  (show _ = ev xs d mm_195 0 [some (.inl v0), some (.inl v1), some (.inl v2), some (.inl v3), some (.inl v4), some (.inl v5), some (.inl v6)] [] h from rfl).trans (q_195_0 xs d v0 v1 v2 v3 v4 v5 v6 h)
def stp_196 : List Nat := [0, 30]
set_option maxRecDepth 100000 in
set_option maxHeartbeats 4000000 in
theorem q_196_0 (xs : List Int) (d : Nat) (v0 : Int) (v1 : Int) (v2 : Int) (v3 : Int) (v4 : Int) (h : aH) : ev xs d mm_196 0 [some (.inr (.inr v0)), some (.inl v1), some (.inl v2), some (.inl v3), some (.inr (.inl v4)), none] [] h =
  bif aok h.1 v0 12 then
    bif aok h.1 v0 12 then
      bif ain h.1 (h.2 v0.toNat 5) 100 (h.2 v0.toNat 10) then
        bif aok h.1 v0 12 then
          bif aok h.1 v0 12 then
            bif ain h.1 ((aup h.2 (h.2 v0.toNat 5).toNat (h.2 v0.toNat 10).toNat v1) v0.toNat 6) 100 ((aup h.2 (h.2 v0.toNat 5).toNat (h.2 v0.toNat 10).toNat v1) v0.toNat 10) then
              bif aok h.1 v0 12 then
                bif aok h.1 v0 12 then
                  bif ain h.1 ((aup (aup h.2 (h.2 v0.toNat 5).toNat (h.2 v0.toNat 10).toNat v1) ((aup h.2 (h.2 v0.toNat 5).toNat (h.2 v0.toNat 10).toNat v1) v0.toNat 6).toNat ((aup h.2 (h.2 v0.toNat 5).toNat (h.2 v0.toNat 10).toNat v1) v0.toNat 10).toNat v2) v0.toNat 7) 100 ((aup (aup h.2 (h.2 v0.toNat 5).toNat (h.2 v0.toNat 10).toNat v1) ((aup h.2 (h.2 v0.toNat 5).toNat (h.2 v0.toNat 10).toNat v1) v0.toNat 6).toNat ((aup h.2 (h.2 v0.toNat 5).toNat (h.2 v0.toNat 10).toNat v1) v0.toNat 10).toNat v2) v0.toNat 10) then
                    ev xs d mm_196 30 [some (.inr (.inr v0)), some (.inl v1), some (.inl v2), some (.inl v3), some (.inr (.inl v4)), none] [] (h.1, aup (aup (aup h.2 (h.2 v0.toNat 5).toNat (h.2 v0.toNat 10).toNat v1) ((aup h.2 (h.2 v0.toNat 5).toNat (h.2 v0.toNat 10).toNat v1) v0.toNat 6).toNat ((aup h.2 (h.2 v0.toNat 5).toNat (h.2 v0.toNat 10).toNat v1) v0.toNat 10).toNat v2) ((aup (aup h.2 (h.2 v0.toNat 5).toNat (h.2 v0.toNat 10).toNat v1) ((aup h.2 (h.2 v0.toNat 5).toNat (h.2 v0.toNat 10).toNat v1) v0.toNat 6).toNat ((aup h.2 (h.2 v0.toNat 5).toNat (h.2 v0.toNat 10).toNat v1) v0.toNat 10).toNat v2) v0.toNat 7).toNat ((aup (aup h.2 (h.2 v0.toNat 5).toNat (h.2 v0.toNat 10).toNat v1) ((aup h.2 (h.2 v0.toNat 5).toNat (h.2 v0.toNat 10).toNat v1) v0.toNat 6).toNat ((aup h.2 (h.2 v0.toNat 5).toNat (h.2 v0.toNat 10).toNat v1) v0.toNat 10).toNat v2) v0.toNat 10).toNat v3)
                  else none
                else none
              else none
            else none
          else none
        else none
      else none
    else none
  else none :=
  (aB gP gX xs stp_196 19 d mm_196 0 _ _ h).trans rfl

set_option maxRecDepth 100000 in
set_option maxHeartbeats 4000000 in
theorem q_196_30 (xs : List Int) (d : Nat) (v0 : Int) (v1 : Int) (v2 : Int) (v3 : Int) (v4 : Int) (u5 : Option aV) (h : aH) : ev xs d mm_196 30 [some (.inr (.inr v0)), some (.inl v1), some (.inl v2), some (.inl v3), some (.inr (.inl v4)), u5] [] h =
  bif aok h.1 v0 12 then
    bif aok h.1 v0 12 then
      bif ain h.1 (h.2 v0.toNat 8) 101 (h.2 v0.toNat 10) then
        bif aok h.1 v0 12 then
          bif aok h.1 v0 12 then
            some (none, (h.1, aup (aup h.2 (h.2 v0.toNat 8).toNat (h.2 v0.toNat 10).toNat v4) v0.toNat 10 (w32 (((aup h.2 (h.2 v0.toNat 8).toNat (h.2 v0.toNat 10).toNat v4) v0.toNat 10) + 1))))
          else none
        else none
      else none
    else none
  else none :=
  (aB gP gX xs stp_196 14 d mm_196 30 _ _ h).trans rfl

theorem c_196 (xs : List Int) (d : Nat) (v0 : Int) (v1 : Int) (v2 : Int) (v3 : Int) (v4 : Int) (h : aH) : cl xs (d + 1) 196 [.inr (.inr v0), .inl v1, .inl v2, .inl v3, .inr (.inl v4)] h =
  bif aok h.1 v0 12 then
    bif aok h.1 v0 12 then
      bif ain h.1 (h.2 v0.toNat 5) 100 (h.2 v0.toNat 10) then
        bif aok h.1 v0 12 then
          bif aok h.1 v0 12 then
            bif ain h.1 ((aup h.2 (h.2 v0.toNat 5).toNat (h.2 v0.toNat 10).toNat v1) v0.toNat 6) 100 ((aup h.2 (h.2 v0.toNat 5).toNat (h.2 v0.toNat 10).toNat v1) v0.toNat 10) then
              bif aok h.1 v0 12 then
                bif aok h.1 v0 12 then
                  bif ain h.1 ((aup (aup h.2 (h.2 v0.toNat 5).toNat (h.2 v0.toNat 10).toNat v1) ((aup h.2 (h.2 v0.toNat 5).toNat (h.2 v0.toNat 10).toNat v1) v0.toNat 6).toNat ((aup h.2 (h.2 v0.toNat 5).toNat (h.2 v0.toNat 10).toNat v1) v0.toNat 10).toNat v2) v0.toNat 7) 100 ((aup (aup h.2 (h.2 v0.toNat 5).toNat (h.2 v0.toNat 10).toNat v1) ((aup h.2 (h.2 v0.toNat 5).toNat (h.2 v0.toNat 10).toNat v1) v0.toNat 6).toNat ((aup h.2 (h.2 v0.toNat 5).toNat (h.2 v0.toNat 10).toNat v1) v0.toNat 10).toNat v2) v0.toNat 10) then
                    ev xs d mm_196 30 [some (.inr (.inr v0)), some (.inl v1), some (.inl v2), some (.inl v3), some (.inr (.inl v4)), none] [] (h.1, aup (aup (aup h.2 (h.2 v0.toNat 5).toNat (h.2 v0.toNat 10).toNat v1) ((aup h.2 (h.2 v0.toNat 5).toNat (h.2 v0.toNat 10).toNat v1) v0.toNat 6).toNat ((aup h.2 (h.2 v0.toNat 5).toNat (h.2 v0.toNat 10).toNat v1) v0.toNat 10).toNat v2) ((aup (aup h.2 (h.2 v0.toNat 5).toNat (h.2 v0.toNat 10).toNat v1) ((aup h.2 (h.2 v0.toNat 5).toNat (h.2 v0.toNat 10).toNat v1) v0.toNat 6).toNat ((aup h.2 (h.2 v0.toNat 5).toNat (h.2 v0.toNat 10).toNat v1) v0.toNat 10).toNat v2) v0.toNat 7).toNat ((aup (aup h.2 (h.2 v0.toNat 5).toNat (h.2 v0.toNat 10).toNat v1) ((aup h.2 (h.2 v0.toNat 5).toNat (h.2 v0.toNat 10).toNat v1) v0.toNat 6).toNat ((aup h.2 (h.2 v0.toNat 5).toNat (h.2 v0.toNat 10).toNat v1) v0.toNat 10).toNat v2) v0.toNat 10).toNat v3)
                  else none
                else none
              else none
            else none
          else none
        else none
      else none
    else none
  else none :=
  (show _ = ev xs d mm_196 0 [some (.inr (.inr v0)), some (.inl v1), some (.inl v2), some (.inl v3), some (.inr (.inl v4)), none] [] h from rfl).trans (q_196_0 xs d v0 v1 v2 v3 v4 h)
def stp_197 : List Nat := [0, 7, 85, 146, 179, 208, 261]
set_option maxRecDepth 100000 in
set_option maxHeartbeats 4000000 in
theorem q_197_0 (xs : List Int) (d : Nat) (v0 : Int) (h : aH) : ev xs d mm_197 0 [some (.inr (.inr v0)), none, none, none, none, none, none, none] [] h =
  bif aok h.1 v0 12 then
    ev xs d mm_197 7 [some (.inr (.inr v0)), some (.inl 0), none, none, none, none, none, none] [] (h.1, aup h.2 v0.toNat 10 0)
  else none :=
  (aB gP gX xs stp_197 6 d mm_197 0 _ _ h).trans rfl

set_option maxRecDepth 100000 in
set_option maxHeartbeats 4000000 in
theorem q_197_7 (xs : List Int) (d : Nat) (v0 : Int) (v1 : Int) (u2 : Option aV) (u3 : Option aV) (u4 : Option aV) (u5 : Option aV) (u6 : Option aV) (u7 : Option aV) (h : aH) : ev xs d mm_197 7 [some (.inr (.inr v0)), some (.inl v1), u2, u3, u4, u5, u6, u7] [] h =
  bif aok h.1 v0 12 then
    bif decide (400 < (h.2 v0.toNat 10)) then
      some (none, h)
    else
      bif aok h.1 v0 12 && true then
        bI (cl xs d 191 [.inr (.inr v0), .inl v1] h) (fun x2 h1 =>
        bif aok h1.1 v0 12 then
          bif decide (v1 < (h1.2 v0.toNat 4)) then
            bif decide (x2 = 9) then
              ev xs d mm_197 7 [some (.inr (.inr v0)), some (.inl (w32 (v1 + 1))), some (.inl x2), u3, u4, u5, u6, u7] [] h1
            else
              bif decide (x2 = 10) then
                ev xs d mm_197 7 [some (.inr (.inr v0)), some (.inl (w32 (v1 + 1))), some (.inl x2), u3, u4, u5, u6, u7] [] h1
              else
                bif decide (x2 = 13) then
                  ev xs d mm_197 7 [some (.inr (.inr v0)), some (.inl (w32 (v1 + 1))), some (.inl x2), u3, u4, u5, u6, u7] [] h1
                else
                  bif decide (¬ x2 = 32) then
                    bI (cl xs d 193 [.inl x2] h1) (fun x4 h3 =>
                      bif decide (x4 = 0) then
                        bI (cl xs d 192 [.inl x2] h3) (fun x6 h5 =>
                          bif decide (x6 = 0) then
                            bif aok h5.1 v0 12 && true then
                              bI (cl xs d 191 [.inr (.inr v0), .inl (w32 (v1 + 1))] h5) (fun x8 h7 =>
                              bif aok h7.1 v0 12 && true then
                                bI (cl xs d 198 [.inr (.inr v0), .inl v1, .inl x2, .inl x8] h7) (fun x10 h9 =>
                                ev xs d mm_197 7 [some (.inr (.inr v0)), some (.inl (w32 (v1 + x10))), some (.inl x2), u3, u4, u5, u6, u7] [] h9)
                              else none)
                            else none
                          else
                            ev xs d mm_197 208 [some (.inr (.inr v0)), some (.inl v1), some (.inl x2), some (.inl 0), some (.inl 0), u5, u6, u7] [] h5)
                      else
                        ev xs d mm_197 85 [some (.inr (.inr v0)), some (.inl v1), some (.inl x2), some (.inl 0), some (.inr (.inl 0)), none, u6, u7] [] h3)
                  else
                    ev xs d mm_197 7 [some (.inr (.inr v0)), some (.inl (w32 (v1 + 1))), some (.inl x2), u3, u4, u5, u6, u7] [] h1
          else
            bif aok h1.1 v0 12 then
              bif aok h1.1 v0 12 && true then
                bV (cl xs d 196 [.inr (.inr v0), .inl 0, .inl (h1.2 v0.toNat 4), .inl 0, .inr (.inl 0)] h1) (fun h11 =>
                some (none, h11))
              else none
            else none
        else none)
      else none
  else none :=
  (aB gP gX xs stp_197 44 d mm_197 7 _ _ h).trans rfl

set_option maxRecDepth 100000 in
set_option maxHeartbeats 4000000 in
theorem q_197_85 (xs : List Int) (d : Nat) (v0 : Int) (v1 : Int) (v2 : Int) (v3 : Int) (v4 : Int) (u5 : Option aV) (u6 : Option aV) (u7 : Option aV) (h : aH) : ev xs d mm_197 85 [some (.inr (.inr v0)), some (.inl v1), some (.inl v2), some (.inl v3), some (.inr (.inl v4)), u5, u6, u7] [] h =
  bif aok h.1 v0 12 && true then
    bI (cl xs d 191 [.inr (.inr v0), .inl (w32 (v1 + v3))] h) (fun x2 h1 =>
    bI (cl xs d 193 [.inl x2] h1) (fun x4 h3 =>
      bif decide (x4 = 0) then
        bif decide (v3 ≤ 8) then
          bif decide (7 < v3) then
            ev xs d mm_197 179 [some (.inr (.inr v0)), some (.inl v1), some (.inl v2), some (.inl v3), some (.inr (.inl v4)), acl u5, some (.inl 1), u7] [] h3
          else
            ev xs d mm_197 146 [some (.inr (.inr v0)), some (.inl v1), some (.inl v2), some (.inl v3), some (.inr (.inl v4)), acl u5, some (.inl 1), some (.inl 0)] [] h3
        else
          bif decide (7 < v3) then
            ev xs d mm_197 179 [some (.inr (.inr v0)), some (.inl v1), some (.inl v2), some (.inl v3), some (.inr (.inl v4)), acl u5, some (.inl 3), u7] [] h3
          else
            ev xs d mm_197 146 [some (.inr (.inr v0)), some (.inl v1), some (.inl v2), some (.inl v3), some (.inr (.inl v4)), acl u5, some (.inl 3), some (.inl 0)] [] h3
      else
        bif decide (8 ≤ v3) then
          ev xs d mm_197 85 [some (.inr (.inr v0)), some (.inl v1), some (.inl v2), some (.inl (w32 (v3 + 1))), some (.inr (.inl v4)), u5, u6, u7] [] h3
        else
          bif aok h3.1 v0 12 && true then
            bI (cl xs d 191 [.inr (.inr v0), .inl (w32 (v1 + v3))] h3) (fun x6 h5 =>
            bJ (cl xs d 194 [.inr (.inl v4), .inl x6] h5) (fun x8 h7 =>
              ev xs d mm_197 85 [some (.inr (.inr v0)), some (.inl v1), some (.inl v2), some (.inl (w32 (v3 + 1))), some (.inr (.inl x8)), none, u6, u7] [] h7))
          else none))
  else none :=
  (aB gP gX xs stp_197 21 d mm_197 85 _ _ h).trans rfl

set_option maxRecDepth 100000 in
set_option maxHeartbeats 4000000 in
theorem q_197_146 (xs : List Int) (d : Nat) (v0 : Int) (v1 : Int) (v2 : Int) (v3 : Int) (v4 : Int) (u5 : Option aV) (v6 : Int) (v7 : Int) (h : aH) : ev xs d mm_197 146 [some (.inr (.inr v0)), some (.inl v1), some (.inl v2), some (.inl v3), some (.inr (.inl v4)), u5, some (.inl v6), some (.inl v7)] [] h =
  bif decide (24 ≤ v7) then
    ev xs d mm_197 179 [some (.inr (.inr v0)), some (.inl v1), some (.inl v2), some (.inl v3), some (.inr (.inl v4)), u5, some (.inl v6), some (.inl v7)] [] h
  else
    bif aok h.1 v0 12 then
      bif ain h.1 (h.2 v0.toNat 9) 101 v7 then
        bif decide (¬ (olcmp (h.2 (h.2 v0.toNat 9).toNat v7.toNat) v4) = 0) then
          ev xs d mm_197 146 [some (.inr (.inr v0)), some (.inl v1), some (.inl v2), some (.inl v3), some (.inr (.inl v4)), u5, some (.inl v6), some (.inl (w32 (v7 + 1)))] [] h
        else
          ev xs d mm_197 146 [some (.inr (.inr v0)), some (.inl v1), some (.inl v2), some (.inl v3), some (.inr (.inl v4)), acl u5, some (.inl (w32 (20 + v7))), some (.inl (w32 (v7 + 1)))] [] h
      else none
    else none :=
  (aB gP gX xs stp_197 17 d mm_197 146 _ _ h).trans rfl

set_option maxRecDepth 100000 in
set_option maxHeartbeats 4000000 in
theorem q_197_179 (xs : List Int) (d : Nat) (v0 : Int) (v1 : Int) (v2 : Int) (v3 : Int) (v4 : Int) (u5 : Option aV) (v6 : Int) (u7 : Option aV) (h : aH) : ev xs d mm_197 179 [some (.inr (.inr v0)), some (.inl v1), some (.inl v2), some (.inl v3), some (.inr (.inl v4)), u5, some (.inl v6), u7] [] h =
  bif aok h.1 v0 12 && true then
    bV (cl xs d 196 [.inr (.inr v0), .inl v6, .inl v1, .inl 0, .inr (.inl v4)] h) (fun h1 =>
    ev xs d mm_197 7 [some (.inr (.inr v0)), some (.inl (w32 (v1 + v3))), some (.inl v2), some (.inl v3), some (.inr (.inl v4)), u5, some (.inl v6), u7] [] h1)
  else none :=
  (aB gP gX xs stp_197 13 d mm_197 179 _ _ h).trans rfl

set_option maxRecDepth 100000 in
set_option maxHeartbeats 4000000 in
theorem q_197_208 (xs : List Int) (d : Nat) (v0 : Int) (v1 : Int) (v2 : Int) (v3 : Int) (v4 : Int) (u5 : Option aV) (u6 : Option aV) (u7 : Option aV) (h : aH) : ev xs d mm_197 208 [some (.inr (.inr v0)), some (.inl v1), some (.inl v2), some (.inl v3), some (.inl v4), u5, u6, u7] [] h =
  bif aok h.1 v0 12 && true then
    bI (cl xs d 191 [.inr (.inr v0), .inl (w32 (v1 + v3))] h) (fun x2 h1 =>
    bI (cl xs d 192 [.inl x2] h1) (fun x4 h3 =>
      bif decide (x4 = 0) then
        bif decide (v3 ≤ 4) then
          ev xs d mm_197 261 [some (.inr (.inr v0)), some (.inl v1), some (.inl v2), some (.inl v3), some (.inl v4), u5, u6, u7] [.inl 2, .inr (.inr v0)] h3
        else
          ev xs d mm_197 261 [some (.inr (.inr v0)), some (.inl v1), some (.inl v2), some (.inl v3), some (.inl v4), u5, u6, u7] [.inl 3, .inr (.inr v0)] h3
      else
        bif decide (4 ≤ v3) then
          ev xs d mm_197 208 [some (.inr (.inr v0)), some (.inl v1), some (.inl v2), some (.inl (w32 (v3 + 1))), some (.inl v4), u5, u6, u7] [] h3
        else
          bif aok h3.1 v0 12 && true then
            bI (cl xs d 191 [.inr (.inr v0), .inl (w32 (v1 + v3))] h3) (fun x6 h5 =>
            ev xs d mm_197 208 [some (.inr (.inr v0)), some (.inl v1), some (.inl v2), some (.inl (w32 (v3 + 1))), some (.inl (w32 ((w32 ((w32 (10 * v4)) + x6)) - 48))), u5, u6, u7] [] h5)
          else none))
  else none :=
  (aB gP gX xs stp_197 25 d mm_197 208 _ _ h).trans rfl

set_option maxRecDepth 100000 in
set_option maxHeartbeats 4000000 in
theorem q_197_261 (xs : List Int) (d : Nat) (v0 : Int) (v1 : Int) (v2 : Int) (v3 : Int) (v4 : Int) (u5 : Option aV) (u6 : Option aV) (u7 : Option aV) (s0 : Int) (s1 : Int) (h : aH) : ev xs d mm_197 261 [some (.inr (.inr v0)), some (.inl v1), some (.inl v2), some (.inl v3), some (.inl v4), u5, u6, u7] [.inl s1, .inr (.inr s0)] h =
  bif aok h.1 s0 12 && true then
    bV (cl xs d 196 [.inr (.inr s0), .inl s1, .inl v1, .inl v4, .inr (.inl 0)] h) (fun h1 =>
    ev xs d mm_197 7 [some (.inr (.inr v0)), some (.inl (w32 (v1 + v3))), some (.inl v2), some (.inl v3), some (.inl v4), u5, u6, u7] [] h1)
  else none :=
  (aB gP gX xs stp_197 11 d mm_197 261 _ _ h).trans rfl

theorem c_197 (xs : List Int) (d : Nat) (v0 : Int) (h : aH) : cl xs (d + 1) 197 [.inr (.inr v0)] h =
  bif aok h.1 v0 12 then
    ev xs d mm_197 7 [some (.inr (.inr v0)), some (.inl 0), none, none, none, none, none, none] [] (h.1, aup h.2 v0.toNat 10 0)
  else none :=
  (show _ = ev xs d mm_197 0 [some (.inr (.inr v0)), none, none, none, none, none, none, none] [] h from rfl).trans (q_197_0 xs d v0 h)
def stp_198 : List Nat := [0, 55, 75, 95]
set_option maxRecDepth 100000 in
set_option maxHeartbeats 4000000 in
theorem q_198_0 (xs : List Int) (d : Nat) (v0 : Int) (v1 : Int) (v2 : Int) (v3 : Int) (h : aH) : ev xs d mm_198 0 [some (.inr (.inr v0)), some (.inl v1), some (.inl v2), some (.inl v3), none] [] h =
  bif decide (¬ v2 = 59) then
    bif decide (¬ v2 = 61) then
      bif decide (¬ v2 = 40) then
        bif decide (¬ v2 = 41) then
          bif decide (¬ v2 = 43) then
            ev xs d mm_198 55 [some (.inr (.inr v0)), some (.inl v1), some (.inl v2), some (.inl v3), some (.inl 3)] [] h
          else
            ev xs d mm_198 55 [some (.inr (.inr v0)), some (.inl v1), some (.inl v2), some (.inl v3), some (.inl 8)] [] h
        else
          bif decide (¬ v2 = 43) then
            ev xs d mm_198 55 [some (.inr (.inr v0)), some (.inl v1), some (.inl v2), some (.inl v3), some (.inl 7)] [] h
          else
            ev xs d mm_198 55 [some (.inr (.inr v0)), some (.inl v1), some (.inl v2), some (.inl v3), some (.inl 8)] [] h
      else
        bif decide (¬ v2 = 43) then
          ev xs d mm_198 55 [some (.inr (.inr v0)), some (.inl v1), some (.inl v2), some (.inl v3), some (.inl 6)] [] h
        else
          ev xs d mm_198 55 [some (.inr (.inr v0)), some (.inl v1), some (.inl v2), some (.inl v3), some (.inl 8)] [] h
    else
      bif decide (¬ v2 = 43) then
        ev xs d mm_198 55 [some (.inr (.inr v0)), some (.inl v1), some (.inl v2), some (.inl v3), some (.inl 5)] [] h
      else
        ev xs d mm_198 55 [some (.inr (.inr v0)), some (.inl v1), some (.inl v2), some (.inl v3), some (.inl 8)] [] h
  else
    bif decide (¬ v2 = 43) then
      ev xs d mm_198 55 [some (.inr (.inr v0)), some (.inl v1), some (.inl v2), some (.inl v3), some (.inl 4)] [] h
    else
      ev xs d mm_198 55 [some (.inr (.inr v0)), some (.inl v1), some (.inl v2), some (.inl v3), some (.inl 8)] [] h :=
  (aB gP gX xs stp_198 21 d mm_198 0 _ _ h).trans rfl

set_option maxRecDepth 100000 in
set_option maxHeartbeats 4000000 in
theorem q_198_55 (xs : List Int) (d : Nat) (v0 : Int) (v1 : Int) (v2 : Int) (v3 : Int) (v4 : Int) (h : aH) : ev xs d mm_198 55 [some (.inr (.inr v0)), some (.inl v1), some (.inl v2), some (.inl v3), some (.inl v4)] [] h =
  bif decide (¬ v2 = 45) then
    bif decide (¬ v2 = 42) then
      ev xs d mm_198 75 [some (.inr (.inr v0)), some (.inl v1), some (.inl v2), some (.inl v3), some (.inl v4)] [] h
    else
      ev xs d mm_198 75 [some (.inr (.inr v0)), some (.inl v1), some (.inl v2), some (.inl v3), some (.inl 10)] [] h
  else
    bif decide (¬ v2 = 42) then
      ev xs d mm_198 75 [some (.inr (.inr v0)), some (.inl v1), some (.inl v2), some (.inl v3), some (.inl 9)] [] h
    else
      ev xs d mm_198 75 [some (.inr (.inr v0)), some (.inl v1), some (.inl v2), some (.inl v3), some (.inl 10)] [] h :=
  (aB gP gX xs stp_198 11 d mm_198 55 _ _ h).trans rfl

set_option maxRecDepth 100000 in
set_option maxHeartbeats 4000000 in
theorem q_198_75 (xs : List Int) (d : Nat) (v0 : Int) (v1 : Int) (v2 : Int) (v3 : Int) (v4 : Int) (h : aH) : ev xs d mm_198 75 [some (.inr (.inr v0)), some (.inl v1), some (.inl v2), some (.inl v3), some (.inl v4)] [] h =
  bif decide (¬ v2 = 47) then
    bif decide (¬ v2 = 60) then
      ev xs d mm_198 95 [some (.inr (.inr v0)), some (.inl v1), some (.inl v2), some (.inl v3), some (.inl v4)] [] h
    else
      ev xs d mm_198 95 [some (.inr (.inr v0)), some (.inl v1), some (.inl v2), some (.inl v3), some (.inl 13)] [] h
  else
    bif decide (¬ v2 = 60) then
      ev xs d mm_198 95 [some (.inr (.inr v0)), some (.inl v1), some (.inl v2), some (.inl v3), some (.inl 15)] [] h
    else
      ev xs d mm_198 95 [some (.inr (.inr v0)), some (.inl v1), some (.inl v2), some (.inl v3), some (.inl 13)] [] h :=
  (aB gP gX xs stp_198 11 d mm_198 75 _ _ h).trans rfl

set_option maxRecDepth 100000 in
set_option maxHeartbeats 4000000 in
theorem q_198_95 (xs : List Int) (d : Nat) (v0 : Int) (v1 : Int) (v2 : Int) (v3 : Int) (v4 : Int) (h : aH) : ev xs d mm_198 95 [some (.inr (.inr v0)), some (.inl v1), some (.inl v2), some (.inl v3), some (.inl v4)] [] h =
  bif aok h.1 v0 12 && true then
    bV (cl xs d 196 [.inr (.inr v0), .inl v4, .inl v1, .inl 0, .inr (.inl 0)] h) (fun h1 =>
    some (some (.inl 1), h1))
  else none :=
  (aB gP gX xs stp_198 9 d mm_198 95 _ _ h).trans rfl

theorem c_198 (xs : List Int) (d : Nat) (v0 : Int) (v1 : Int) (v2 : Int) (v3 : Int) (h : aH) : cl xs (d + 1) 198 [.inr (.inr v0), .inl v1, .inl v2, .inl v3] h =
  bif decide (¬ v2 = 59) then
    bif decide (¬ v2 = 61) then
      bif decide (¬ v2 = 40) then
        bif decide (¬ v2 = 41) then
          bif decide (¬ v2 = 43) then
            ev xs d mm_198 55 [some (.inr (.inr v0)), some (.inl v1), some (.inl v2), some (.inl v3), some (.inl 3)] [] h
          else
            ev xs d mm_198 55 [some (.inr (.inr v0)), some (.inl v1), some (.inl v2), some (.inl v3), some (.inl 8)] [] h
        else
          bif decide (¬ v2 = 43) then
            ev xs d mm_198 55 [some (.inr (.inr v0)), some (.inl v1), some (.inl v2), some (.inl v3), some (.inl 7)] [] h
          else
            ev xs d mm_198 55 [some (.inr (.inr v0)), some (.inl v1), some (.inl v2), some (.inl v3), some (.inl 8)] [] h
      else
        bif decide (¬ v2 = 43) then
          ev xs d mm_198 55 [some (.inr (.inr v0)), some (.inl v1), some (.inl v2), some (.inl v3), some (.inl 6)] [] h
        else
          ev xs d mm_198 55 [some (.inr (.inr v0)), some (.inl v1), some (.inl v2), some (.inl v3), some (.inl 8)] [] h
    else
      bif decide (¬ v2 = 43) then
        ev xs d mm_198 55 [some (.inr (.inr v0)), some (.inl v1), some (.inl v2), some (.inl v3), some (.inl 5)] [] h
      else
        ev xs d mm_198 55 [some (.inr (.inr v0)), some (.inl v1), some (.inl v2), some (.inl v3), some (.inl 8)] [] h
  else
    bif decide (¬ v2 = 43) then
      ev xs d mm_198 55 [some (.inr (.inr v0)), some (.inl v1), some (.inl v2), some (.inl v3), some (.inl 4)] [] h
    else
      ev xs d mm_198 55 [some (.inr (.inr v0)), some (.inl v1), some (.inl v2), some (.inl v3), some (.inl 8)] [] h :=
  (show _ = ev xs d mm_198 0 [some (.inr (.inr v0)), some (.inl v1), some (.inl v2), some (.inl v3), none] [] h from rfl).trans (q_198_0 xs d v0 v1 v2 v3 h)
def stp_199 : List Nat := [0]
set_option maxRecDepth 100000 in
set_option maxHeartbeats 4000000 in
theorem q_199_0 (xs : List Int) (d : Nat) (v0 : Int) (v1 : Int) (h : aH) : ev xs d mm_199 0 [some (.inr (.inr v0)), some (.inl v1)] [] h =
  bif aok h.1 v0 12 then
    bif decide (¬ (h.2 v0.toNat 13) = 0) then
      some (some (.inl 0), h)
    else
      bif aok h.1 v0 12 then
        bif aok h.1 v0 12 then
          bif ain h.1 (h.2 v0.toNat 5) 100 (h.2 v0.toNat 11) then
            bif decide (¬ (h.2 (h.2 v0.toNat 5).toNat (h.2 v0.toNat 11).toNat) = v1) then
              some (some (.inl 0), h)
            else
              some (some (.inl 1), h)
          else none
        else none
      else none
  else none :=
  (aB gP gX xs stp_199 14 d mm_199 0 _ _ h).trans rfl

theorem c_199 (xs : List Int) (d : Nat) (v0 : Int) (v1 : Int) (h : aH) : cl xs (d + 1) 199 [.inr (.inr v0), .inl v1] h =
  bif aok h.1 v0 12 then
    bif decide (¬ (h.2 v0.toNat 13) = 0) then
      some (some (.inl 0), h)
    else
      bif aok h.1 v0 12 then
        bif aok h.1 v0 12 then
          bif ain h.1 (h.2 v0.toNat 5) 100 (h.2 v0.toNat 11) then
            bif decide (¬ (h.2 (h.2 v0.toNat 5).toNat (h.2 v0.toNat 11).toNat) = v1) then
              some (some (.inl 0), h)
            else
              some (some (.inl 1), h)
          else none
        else none
      else none
  else none :=
  (show _ = ev xs d mm_199 0 [some (.inr (.inr v0)), some (.inl v1)] [] h from rfl).trans (q_199_0 xs d v0 v1 h)
def stp_200 : List Nat := [0]
set_option maxRecDepth 100000 in
set_option maxHeartbeats 4000000 in
theorem q_200_0 (xs : List Int) (d : Nat) (v0 : Int) (v1 : Int) (h : aH) : ev xs d mm_200 0 [some (.inr (.inr v0)), some (.inl v1)] [] h =
  bif aok h.1 v0 12 then
    bif decide ((h.2 v0.toNat 13) ≤ 0) then
      bif aok h.1 v0 12 then
        bif aok h.1 v0 12 then
          bif aok h.1 v0 12 then
            bif ain h.1 ((aup h.2 v0.toNat 13 v1) v0.toNat 6) 100 ((aup h.2 v0.toNat 13 v1) v0.toNat 11) then
              bif aok h.1 v0 12 then
                some (none, (h.1, aup (aup h.2 v0.toNat 13 v1) v0.toNat 14 ((aup h.2 v0.toNat 13 v1) ((aup h.2 v0.toNat 13 v1) v0.toNat 6).toNat ((aup h.2 v0.toNat 13 v1) v0.toNat 11).toNat)))
              else none
            else none
          else none
        else none
      else none
    else
      some (none, h)
  else none :=
  (aB gP gX xs stp_200 15 d mm_200 0 _ _ h).trans rfl

theorem c_200 (xs : List Int) (d : Nat) (v0 : Int) (v1 : Int) (h : aH) : cl xs (d + 1) 200 [.inr (.inr v0), .inl v1] h =
  bif aok h.1 v0 12 then
    bif decide ((h.2 v0.toNat 13) ≤ 0) then
      bif aok h.1 v0 12 then
        bif aok h.1 v0 12 then
          bif aok h.1 v0 12 then
            bif ain h.1 ((aup h.2 v0.toNat 13 v1) v0.toNat 6) 100 ((aup h.2 v0.toNat 13 v1) v0.toNat 11) then
              bif aok h.1 v0 12 then
                some (none, (h.1, aup (aup h.2 v0.toNat 13 v1) v0.toNat 14 ((aup h.2 v0.toNat 13 v1) ((aup h.2 v0.toNat 13 v1) v0.toNat 6).toNat ((aup h.2 v0.toNat 13 v1) v0.toNat 11).toNat)))
              else none
            else none
          else none
        else none
      else none
    else
      some (none, h)
  else none :=
  (show _ = ev xs d mm_200 0 [some (.inr (.inr v0)), some (.inl v1)] [] h from rfl).trans (q_200_0 xs d v0 v1 h)
def stp_201 : List Nat := [0]
set_option maxRecDepth 100000 in
set_option maxHeartbeats 4000000 in
theorem q_201_0 (xs : List Int) (d : Nat) (v0 : Int) (v1 : Int) (v2 : Int) (h : aH) : ev xs d mm_201 0 [some (.inr (.inr v0)), some (.inl v1), some (.inl v2), none] [] h =
  bif aok h.1 v0 12 then
    bif ain h.1 (h.2 v0.toNat 6) 100 v2 then
      bif aok h.1 v0 12 then
        bif decide (0 < (h.2 v0.toNat 13)) then
          some (none, h)
        else
          bif aok h.1 v0 12 then
            bif decide ((h.2 v0.toNat 15) = 0) then
              bif aok h.1 v0 12 then
                bif aok h.1 v0 12 then
                  some (none, (h.1, aup (aup h.2 v0.toNat 15 v1) v0.toNat 16 (h.2 (h.2 v0.toNat 6).toNat v2.toNat)))
                else none
              else none
            else
              bif aok h.1 v0 12 then
                bif decide ((h.2 v0.toNat 16) < (h.2 (h.2 v0.toNat 6).toNat v2.toNat)) then
                  some (none, h)
                else
                  bif aok h.1 v0 12 then
                    bif decide (¬ (h.2 (h.2 v0.toNat 6).toNat v2.toNat) = (h.2 v0.toNat 16)) then
                      bif aok h.1 v0 12 then
                        bif aok h.1 v0 12 then
                          some (none, (h.1, aup (aup h.2 v0.toNat 15 v1) v0.toNat 16 (h.2 (h.2 v0.toNat 6).toNat v2.toNat)))
                        else none
                      else none
                    else
                      bif aok h.1 v0 12 then
                        bif decide (v1 < (h.2 v0.toNat 15)) then
                          bif aok h.1 v0 12 then
                            bif aok h.1 v0 12 then
                              some (none, (h.1, aup (aup h.2 v0.toNat 15 v1) v0.toNat 16 (h.2 (h.2 v0.toNat 6).toNat v2.toNat)))
                            else none
                          else none
                        else
                          some (none, h)
                      else none
                  else none
              else none
          else none
      else none
    else none
  else none :=
  (aB gP gX xs stp_201 31 d mm_201 0 _ _ h).trans rfl

theorem c_201 (xs : List Int) (d : Nat) (v0 : Int) (v1 : Int) (v2 : Int) (h : aH) : cl xs (d + 1) 201 [.inr (.inr v0), .inl v1, .inl v2] h =
  bif aok h.1 v0 12 then
    bif ain h.1 (h.2 v0.toNat 6) 100 v2 then
      bif aok h.1 v0 12 then
        bif decide (0 < (h.2 v0.toNat 13)) then
          some (none, h)
        else
          bif aok h.1 v0 12 then
            bif decide ((h.2 v0.toNat 15) = 0) then
              bif aok h.1 v0 12 then
                bif aok h.1 v0 12 then
                  some (none, (h.1, aup (aup h.2 v0.toNat 15 v1) v0.toNat 16 (h.2 (h.2 v0.toNat 6).toNat v2.toNat)))
                else none
              else none
            else
              bif aok h.1 v0 12 then
                bif decide ((h.2 v0.toNat 16) < (h.2 (h.2 v0.toNat 6).toNat v2.toNat)) then
                  some (none, h)
                else
                  bif aok h.1 v0 12 then
                    bif decide (¬ (h.2 (h.2 v0.toNat 6).toNat v2.toNat) = (h.2 v0.toNat 16)) then
                      bif aok h.1 v0 12 then
                        bif aok h.1 v0 12 then
                          some (none, (h.1, aup (aup h.2 v0.toNat 15 v1) v0.toNat 16 (h.2 (h.2 v0.toNat 6).toNat v2.toNat)))
                        else none
                      else none
                    else
                      bif aok h.1 v0 12 then
                        bif decide (v1 < (h.2 v0.toNat 15)) then
                          bif aok h.1 v0 12 then
                            bif aok h.1 v0 12 then
                              some (none, (h.1, aup (aup h.2 v0.toNat 15 v1) v0.toNat 16 (h.2 (h.2 v0.toNat 6).toNat v2.toNat)))
                            else none
                          else none
                        else
                          some (none, h)
                      else none
                  else none
              else none
          else none
      else none
    else none
  else none :=
  (show _ = ev xs d mm_201 0 [some (.inr (.inr v0)), some (.inl v1), some (.inl v2), none] [] h from rfl).trans (q_201_0 xs d v0 v1 v2 h)
def stp_202 : List Nat := [0]
set_option maxRecDepth 100000 in
set_option maxHeartbeats 4000000 in
theorem q_202_0 (xs : List Int) (d : Nat) (v0 : Int) (h : aH) : ev xs d mm_202 0 [some (.inr (.inr v0))] [] h =
  bif aok h.1 v0 12 then
    bif decide (¬ (h.2 v0.toNat 11) = 400) then
      bif aok h.1 v0 12 then
        bif aok h.1 v0 12 then
          some (none, (h.1, aup h.2 v0.toNat 11 (w32 ((h.2 v0.toNat 11) + 1))))
        else none
      else none
    else
      bif aok h.1 v0 12 && true then
        bV (cl xs d 200 [.inr (.inr v0), .inl 2] h) (fun h1 =>
        some (none, h1))
      else none
  else none :=
  (aB gP gX xs stp_202 12 d mm_202 0 _ _ h).trans rfl

theorem c_202 (xs : List Int) (d : Nat) (v0 : Int) (h : aH) : cl xs (d + 1) 202 [.inr (.inr v0)] h =
  bif aok h.1 v0 12 then
    bif decide (¬ (h.2 v0.toNat 11) = 400) then
      bif aok h.1 v0 12 then
        bif aok h.1 v0 12 then
          some (none, (h.1, aup h.2 v0.toNat 11 (w32 ((h.2 v0.toNat 11) + 1))))
        else none
      else none
    else
      bif aok h.1 v0 12 && true then
        bV (cl xs d 200 [.inr (.inr v0), .inl 2] h) (fun h1 =>
        some (none, h1))
      else none
  else none :=
  (show _ = ev xs d mm_202 0 [some (.inr (.inr v0))] [] h from rfl).trans (q_202_0 xs d v0 h)
def stp_203 : List Nat := [0]
set_option maxRecDepth 100000 in
set_option maxHeartbeats 4000000 in
theorem q_203_0 (xs : List Int) (d : Nat) (v0 : Int) (v1 : Int) (h : aH) : ev xs d mm_203 0 [some (.inr (.inr v0)), some (.inl v1)] [] h =
  bif aok h.1 v0 12 && true then
    bI (cl xs d 199 [.inr (.inr v0), .inl v1] h) (fun x2 h1 =>
    bif decide (x2 = 0) then
      bif aok h1.1 v0 12 && true then
        bV (cl xs d 200 [.inr (.inr v0), .inl 1] h1) (fun h3 =>
        some (none, h3))
      else none
    else
      bif aok h1.1 v0 12 && true then
        bV (cl xs d 202 [.inr (.inr v0)] h1) (fun h4 =>
        some (none, h4))
      else none)
  else none :=
  (aB gP gX xs stp_203 9 d mm_203 0 _ _ h).trans rfl

theorem c_203 (xs : List Int) (d : Nat) (v0 : Int) (v1 : Int) (h : aH) : cl xs (d + 1) 203 [.inr (.inr v0), .inl v1] h =
  bif aok h.1 v0 12 && true then
    bI (cl xs d 199 [.inr (.inr v0), .inl v1] h) (fun x2 h1 =>
    bif decide (x2 = 0) then
      bif aok h1.1 v0 12 && true then
        bV (cl xs d 200 [.inr (.inr v0), .inl 1] h1) (fun h3 =>
        some (none, h3))
      else none
    else
      bif aok h1.1 v0 12 && true then
        bV (cl xs d 202 [.inr (.inr v0)] h1) (fun h4 =>
        some (none, h4))
      else none)
  else none :=
  (show _ = ev xs d mm_203 0 [some (.inr (.inr v0)), some (.inl v1)] [] h from rfl).trans (q_203_0 xs d v0 v1 h)
def stp_204 : List Nat := [0, 10, 50, 65, 95, 97, 142, 174, 206, 228, 258, 306, 308]
set_option maxRecDepth 100000 in
set_option maxHeartbeats 4000000 in
theorem q_204_0 (xs : List Int) (d : Nat) (v0 : Int) (h : aH) : ev xs d mm_204 0 [some (.inr (.inr v0)), none] [] h =
  bif aok h.1 v0 12 then
    bif aok h.1 v0 12 then
      ev xs d mm_204 10 [some (.inr (.inr v0)), some (.inl 0)] [] (h.1, aup h.2 v0.toNat 4 (h.2 v0.toNat 2))
    else none
  else none :=
  (aB gP gX xs stp_204 7 d mm_204 0 _ _ h).trans rfl

set_option maxRecDepth 100000 in
set_option maxHeartbeats 4000000 in
theorem q_204_10 (xs : List Int) (d : Nat) (v0 : Int) (v1 : Int) (h : aH) : ev xs d mm_204 10 [some (.inr (.inr v0)), some (.inl v1)] [] h =
  bif aok h.1 v0 12 then
    bif decide ((h.2 v0.toNat 4) ≤ v1) then
      bif aok h.1 v0 12 then
        bif aok h.1 v0 12 && true then
          bV (cl xs d 197 [.inr (.inr v0)] (h.1, aup h.2 v0.toNat 2 0)) (fun h1 =>
          bif aok h1.1 v0 12 then
            ev xs d mm_204 50 [some (.inr (.inr v0)), some (.inl v1)] [] (h1.1, aup h1.2 v0.toNat 11 0)
          else none)
        else none
      else none
    else
      bif aok h.1 v0 12 then
        bif aok h.1 v0 12 then
          bif ain h.1 (h.2 v0.toNat 1) 102 v1 then
            bif ain h.1 (h.2 v0.toNat 3) 102 v1 then
              ev xs d mm_204 10 [some (.inr (.inr v0)), some (.inl (w32 (v1 + 1)))] [] (h.1, aup h.2 (h.2 v0.toNat 3).toNat v1.toNat (oi2b (h.2 (h.2 v0.toNat 1).toNat v1.toNat)))
            else none
          else none
        else none
      else none
  else none :=
  (aB gP gX xs stp_204 15 d mm_204 10 _ _ h).trans rfl

set_option maxRecDepth 100000 in
set_option maxHeartbeats 4000000 in
theorem q_204_50 (xs : List Int) (d : Nat) (v0 : Int) (v1 : Int) (h : aH) : ev xs d mm_204 50 [some (.inr (.inr v0)), some (.inl v1)] [] h =
  bif aok h.1 v0 12 then
    bif aok h.1 v0 12 then
      bif aok h.1 v0 12 then
        ev xs d mm_204 65 [some (.inr (.inr v0)), some (.inl v1)] [] (h.1, aup (aup (aup h.2 v0.toNat 12 0) v0.toNat 13 0) v0.toNat 15 0)
      else none
    else none
  else none :=
  (aB gP gX xs stp_204 10 d mm_204 50 _ _ h).trans rfl

set_option maxRecDepth 100000 in
set_option maxHeartbeats 4000000 in
theorem q_204_65 (xs : List Int) (d : Nat) (v0 : Int) (v1 : Int) (h : aH) : ev xs d mm_204 65 [some (.inr (.inr v0)), some (.inl v1)] [] h =
  bif aok h.1 v0 12 then
    bif aok h.1 v0 12 then
      bif aok h.1 v0 12 then
        bif aok h.1 v0 12 then
          bif ain h.1 ((aup h.2 v0.toNat 19 (w32 (1 - (h.2 v0.toNat 18)))) v0.toNat 20) 100 ((aup h.2 v0.toNat 19 (w32 (1 - (h.2 v0.toNat 18)))) v0.toNat 19) then
            bif aok h.1 v0 12 then
              bif aok h.1 v0 12 then
                bif ain h.1 ((aup (aup h.2 v0.toNat 19 (w32 (1 - (h.2 v0.toNat 18)))) ((aup h.2 v0.toNat 19 (w32 (1 - (h.2 v0.toNat 18)))) v0.toNat 20).toNat ((aup h.2 v0.toNat 19 (w32 (1 - (h.2 v0.toNat 18)))) v0.toNat 19).toNat 0) v0.toNat 23) 100 ((aup (aup h.2 v0.toNat 19 (w32 (1 - (h.2 v0.toNat 18)))) ((aup h.2 v0.toNat 19 (w32 (1 - (h.2 v0.toNat 18)))) v0.toNat 20).toNat ((aup h.2 v0.toNat 19 (w32 (1 - (h.2 v0.toNat 18)))) v0.toNat 19).toNat 0) v0.toNat 19) then
                  ev xs d mm_204 95 [some (.inr (.inr v0)), some (.inl v1)] [] (h.1, aup (aup (aup h.2 v0.toNat 19 (w32 (1 - (h.2 v0.toNat 18)))) ((aup h.2 v0.toNat 19 (w32 (1 - (h.2 v0.toNat 18)))) v0.toNat 20).toNat ((aup h.2 v0.toNat 19 (w32 (1 - (h.2 v0.toNat 18)))) v0.toNat 19).toNat 0) ((aup (aup h.2 v0.toNat 19 (w32 (1 - (h.2 v0.toNat 18)))) ((aup h.2 v0.toNat 19 (w32 (1 - (h.2 v0.toNat 18)))) v0.toNat 20).toNat ((aup h.2 v0.toNat 19 (w32 (1 - (h.2 v0.toNat 18)))) v0.toNat 19).toNat 0) v0.toNat 23).toNat ((aup (aup h.2 v0.toNat 19 (w32 (1 - (h.2 v0.toNat 18)))) ((aup h.2 v0.toNat 19 (w32 (1 - (h.2 v0.toNat 18)))) v0.toNat 20).toNat ((aup h.2 v0.toNat 19 (w32 (1 - (h.2 v0.toNat 18)))) v0.toNat 19).toNat 0) v0.toNat 19).toNat 0)
                else none
              else none
            else none
          else none
        else none
      else none
    else none
  else none :=
  (aB gP gX xs stp_204 19 d mm_204 65 _ _ h).trans rfl

set_option maxRecDepth 100000 in
set_option maxHeartbeats 4000000 in
theorem q_204_95 (xs : List Int) (d : Nat) (v0 : Int) (v1 : Int) (h : aH) : ev xs d mm_204 95 [some (.inr (.inr v0)), some (.inl v1)] [] h =
  ev xs d mm_204 97 [some (.inr (.inr v0)), some (.inl 0)] [] h :=
  (aB gP gX xs stp_204 3 d mm_204 95 _ _ h).trans rfl

set_option maxRecDepth 100000 in
set_option maxHeartbeats 4000000 in
theorem q_204_97 (xs : List Int) (d : Nat) (v0 : Int) (v1 : Int) (h : aH) : ev xs d mm_204 97 [some (.inr (.inr v0)), some (.inl v1)] [] h =
  bif decide (3 ≤ v1) then
    bif aok h.1 v0 12 then
      bif aok h.1 v0 12 then
        bif ain h.1 (h.2 v0.toNat 33) 100 (h.2 v0.toNat 19) then
          bif aok h.1 v0 12 then
            bif aok h.1 v0 12 then
              bif ain h.1 ((aup h.2 (h.2 v0.toNat 33).toNat (h.2 v0.toNat 19).toNat 0) v0.toNat 35) 100 ((aup h.2 (h.2 v0.toNat 33).toNat (h.2 v0.toNat 19).toNat 0) v0.toNat 19) then
                ev xs d mm_204 142 [some (.inr (.inr v0)), some (.inl v1)] [] (h.1, aup (aup h.2 (h.2 v0.toNat 33).toNat (h.2 v0.toNat 19).toNat 0) ((aup h.2 (h.2 v0.toNat 33).toNat (h.2 v0.toNat 19).toNat 0) v0.toNat 35).toNat ((aup h.2 (h.2 v0.toNat 33).toNat (h.2 v0.toNat 19).toNat 0) v0.toNat 19).toNat 0)
              else none
            else none
          else none
        else none
      else none
    else none
  else
    bif aok h.1 v0 12 then
      bif aok h.1 v0 12 then
        bif ain h.1 (h.2 v0.toNat 30) 100 (w32 ((w32 (3 * (h.2 v0.toNat 19))) + v1)) then
          ev xs d mm_204 97 [some (.inr (.inr v0)), some (.inl (w32 (v1 + 1)))] [] (h.1, aup h.2 (h.2 v0.toNat 30).toNat (w32 ((w32 (3 * (h.2 v0.toNat 19))) + v1)).toNat 0)
        else none
      else none
    else none :=
  (aB gP gX xs stp_204 16 d mm_204 97 _ _ h).trans rfl

set_option maxRecDepth 100000 in
set_option maxHeartbeats 4000000 in
theorem q_204_142 (xs : List Int) (d : Nat) (v0 : Int) (v1 : Int) (h : aH) : ev xs d mm_204 142 [some (.inr (.inr v0)), some (.inl v1)] [] h =
  bif aok h.1 v0 12 then
    bif aok h.1 v0 12 then
      bif ain h.1 (h.2 v0.toNat 39) 100 (h.2 v0.toNat 19) then
        bif aok h.1 v0 12 then
          bif aok h.1 v0 12 then
            bif ain h.1 ((aup h.2 (h.2 v0.toNat 39).toNat (h.2 v0.toNat 19).toNat 0) v0.toNat 44) 100 ((aup h.2 (h.2 v0.toNat 39).toNat (h.2 v0.toNat 19).toNat 0) v0.toNat 19) then
              bif aok h.1 v0 12 then
                bif aok h.1 v0 12 then
                  ev xs d mm_204 174 [some (.inr (.inr v0)), some (.inl v1)] [] (h.1, aup (aup (aup h.2 (h.2 v0.toNat 39).toNat (h.2 v0.toNat 19).toNat 0) ((aup h.2 (h.2 v0.toNat 39).toNat (h.2 v0.toNat 19).toNat 0) v0.toNat 44).toNat ((aup h.2 (h.2 v0.toNat 39).toNat (h.2 v0.toNat 19).toNat 0) v0.toNat 19).toNat 0) v0.toNat 47 (w32 (130 * ((aup (aup h.2 (h.2 v0.toNat 39).toNat (h.2 v0.toNat 19).toNat 0) ((aup h.2 (h.2 v0.toNat 39).toNat (h.2 v0.toNat 19).toNat 0) v0.toNat 44).toNat ((aup h.2 (h.2 v0.toNat 39).toNat (h.2 v0.toNat 19).toNat 0) v0.toNat 19).toNat 0) v0.toNat 19))))
                else none
              else none
            else none
          else none
        else none
      else none
    else none
  else none :=
  (aB gP gX xs stp_204 19 d mm_204 142 _ _ h).trans rfl

set_option maxRecDepth 100000 in
set_option maxHeartbeats 4000000 in
theorem q_204_174 (xs : List Int) (d : Nat) (v0 : Int) (v1 : Int) (h : aH) : ev xs d mm_204 174 [some (.inr (.inr v0)), some (.inl v1)] [] h =
  bif aok h.1 v0 12 then
    bif aok h.1 v0 12 then
      bif aok h.1 v0 12 then
        bif aok h.1 v0 12 then
          bif ain h.1 ((aup h.2 v0.toNat 53 (w32 (420 * (h.2 v0.toNat 19)))) v0.toNat 45) 100 ((aup h.2 v0.toNat 53 (w32 (420 * (h.2 v0.toNat 19)))) v0.toNat 19) then
            bif aok h.1 v0 12 then
              bif aok h.1 v0 12 then
                bif ain h.1 ((aup (aup h.2 v0.toNat 53 (w32 (420 * (h.2 v0.toNat 19)))) ((aup h.2 v0.toNat 53 (w32 (420 * (h.2 v0.toNat 19)))) v0.toNat 45).toNat ((aup h.2 v0.toNat 53 (w32 (420 * (h.2 v0.toNat 19)))) v0.toNat 19).toNat 0) v0.toNat 46) 100 ((aup (aup h.2 v0.toNat 53 (w32 (420 * (h.2 v0.toNat 19)))) ((aup h.2 v0.toNat 53 (w32 (420 * (h.2 v0.toNat 19)))) v0.toNat 45).toNat ((aup h.2 v0.toNat 53 (w32 (420 * (h.2 v0.toNat 19)))) v0.toNat 19).toNat 0) v0.toNat 19) then
                  ev xs d mm_204 206 [some (.inr (.inr v0)), some (.inl v1)] [] (h.1, aup (aup (aup h.2 v0.toNat 53 (w32 (420 * (h.2 v0.toNat 19)))) ((aup h.2 v0.toNat 53 (w32 (420 * (h.2 v0.toNat 19)))) v0.toNat 45).toNat ((aup h.2 v0.toNat 53 (w32 (420 * (h.2 v0.toNat 19)))) v0.toNat 19).toNat 0) ((aup (aup h.2 v0.toNat 53 (w32 (420 * (h.2 v0.toNat 19)))) ((aup h.2 v0.toNat 53 (w32 (420 * (h.2 v0.toNat 19)))) v0.toNat 45).toNat ((aup h.2 v0.toNat 53 (w32 (420 * (h.2 v0.toNat 19)))) v0.toNat 19).toNat 0) v0.toNat 46).toNat ((aup (aup h.2 v0.toNat 53 (w32 (420 * (h.2 v0.toNat 19)))) ((aup h.2 v0.toNat 53 (w32 (420 * (h.2 v0.toNat 19)))) v0.toNat 45).toNat ((aup h.2 v0.toNat 53 (w32 (420 * (h.2 v0.toNat 19)))) v0.toNat 19).toNat 0) v0.toNat 19).toNat 0)
                else none
              else none
            else none
          else none
        else none
      else none
    else none
  else none :=
  (aB gP gX xs stp_204 19 d mm_204 174 _ _ h).trans rfl

set_option maxRecDepth 100000 in
set_option maxHeartbeats 4000000 in
theorem q_204_206 (xs : List Int) (d : Nat) (v0 : Int) (v1 : Int) (h : aH) : ev xs d mm_204 206 [some (.inr (.inr v0)), some (.inl v1)] [] h =
  bif aok h.1 v0 12 then
    bif decide (¬ (h.2 v0.toNat 13) = 0) then
      ev xs d mm_204 228 [some (.inr (.inr v0)), some (.inl v1)] [] h
    else
      bif aok h.1 v0 12 && true then
        bI (cl xs d 199 [.inr (.inr v0), .inl 0] h) (fun x2 h1 =>
        bif decide (¬ x2 = 0) then
          ev xs d mm_204 228 [some (.inr (.inr v0)), some (.inl v1)] [] h1
        else
          bif aok h1.1 v0 12 && true then
            bV (cl xs d 208 [.inr (.inr v0)] h1) (fun h3 =>
            ev xs d mm_204 206 [some (.inr (.inr v0)), some (.inl v1)] [] h3)
          else none)
      else none
  else none :=
  (aB gP gX xs stp_204 11 d mm_204 206 _ _ h).trans rfl

set_option maxRecDepth 100000 in
set_option maxHeartbeats 4000000 in
theorem q_204_228 (xs : List Int) (d : Nat) (v0 : Int) (v1 : Int) (h : aH) : ev xs d mm_204 228 [some (.inr (.inr v0)), some (.inl v1)] [] h =
  bif aok h.1 v0 12 then
    bif decide ((h.2 v0.toNat 13) ≤ 0) then
      bif aok h.1 v0 12 then
        bif decide ((h.2 v0.toNat 15) ≤ 0) then
          ev xs d mm_204 258 [some (.inr (.inr v0)), some (.inl v1)] [.inl (-1), .inr (.inr v0)] h
        else
          bif aok h.1 v0 12 then
            ev xs d mm_204 258 [some (.inr (.inr v0)), some (.inl v1)] [.inl (h.2 v0.toNat 16), .inr (.inr v0)] h
          else none
      else none
    else
      bif aok h.1 v0 12 then
        ev xs d mm_204 258 [some (.inr (.inr v0)), some (.inl v1)] [.inl (h.2 v0.toNat 14), .inr (.inr v0)] h
      else none
  else none :=
  (aB gP gX xs stp_204 11 d mm_204 228 _ _ h).trans rfl

set_option maxRecDepth 100000 in
set_option maxHeartbeats 4000000 in
theorem q_204_258 (xs : List Int) (d : Nat) (v0 : Int) (v1 : Int) (s0 : Int) (s1 : Int) (h : aH) : ev xs d mm_204 258 [some (.inr (.inr v0)), some (.inl v1)] [.inl s1, .inr (.inr s0)] h =
  bif aok h.1 s0 12 then
    bif aok h.1 v0 12 then
      bif decide (((aup h.2 s0.toNat 17 s1) v0.toNat 13) ≤ 0) then
        bif aok h.1 v0 12 then
          bif decide (((aup h.2 s0.toNat 17 s1) v0.toNat 15) ≤ 0) then
            bif aok h.1 v0 12 then
              bif aok h.1 v0 12 then
                bif aok h.1 v0 12 && true then
                  bV (cl xs d 227 [.inr (.inr v0)] (h.1, aup (aup h.2 s0.toNat 17 s1) v0.toNat 18 ((aup h.2 s0.toNat 17 s1) v0.toNat 19))) (fun h1 =>
                  bif aok h1.1 v0 12 && true then
                    bV (cl xs d 228 [.inr (.inr v0)] h1) (fun h2 =>
                    bif aok h2.1 v0 12 then
                      ev xs d mm_204 306 [some (.inr (.inr v0)), some (.inl v1)] [] (h2.1, aup h2.2 v0.toNat 70 0)
                    else none)
                  else none)
                else none
              else none
            else none
          else
            bif aok h.1 v0 12 then
              some (some (.inl ((aup h.2 s0.toNat 17 s1) v0.toNat 15)), (h.1, aup h.2 s0.toNat 17 s1))
            else none
        else none
      else
        bif aok h.1 v0 12 then
          some (some (.inl ((aup h.2 s0.toNat 17 s1) v0.toNat 13)), (h.1, aup h.2 s0.toNat 17 s1))
        else none
    else none
  else none :=
  (aB gP gX xs stp_204 19 d mm_204 258 _ _ h).trans rfl

set_option maxRecDepth 100000 in
set_option maxHeartbeats 4000000 in
theorem q_204_306 (xs : List Int) (d : Nat) (v0 : Int) (v1 : Int) (h : aH) : ev xs d mm_204 306 [some (.inr (.inr v0)), some (.inl v1)] [] h =
  ev xs d mm_204 308 [some (.inr (.inr v0)), some (.inl 0)] [] h :=
  (aB gP gX xs stp_204 3 d mm_204 306 _ _ h).trans rfl

set_option maxRecDepth 100000 in
set_option maxHeartbeats 4000000 in
theorem q_204_308 (xs : List Int) (d : Nat) (v0 : Int) (v1 : Int) (h : aH) : ev xs d mm_204 308 [some (.inr (.inr v0)), some (.inl v1)] [] h =
  bif decide (3 ≤ v1) then
    some (some (.inl 0), h)
  else
    bif aok h.1 v0 12 then
      bif ain h.1 (h.2 v0.toNat 83) 103 v1 && true then
        ev xs d mm_204 308 [some (.inr (.inr v0)), some (.inl (w32 (v1 + 1)))] [] (h.1, aup h.2 (h.2 v0.toNat 83).toNat v1.toNat 0)
      else none
    else none :=
  (aB gP gX xs stp_204 11 d mm_204 308 _ _ h).trans rfl

theorem c_204 (xs : List Int) (d : Nat) (v0 : Int) (h : aH) : cl xs (d + 1) 204 [.inr (.inr v0)] h =
  bif aok h.1 v0 12 then
    bif aok h.1 v0 12 then
      ev xs d mm_204 10 [some (.inr (.inr v0)), some (.inl 0)] [] (h.1, aup h.2 v0.toNat 4 (h.2 v0.toNat 2))
    else none
  else none :=
  (show _ = ev xs d mm_204 0 [some (.inr (.inr v0)), none] [] h from rfl).trans (q_204_0 xs d v0 h)
def stp_205 : List Nat := [0]
set_option maxRecDepth 100000 in
set_option maxHeartbeats 4000000 in
theorem q_205_0 (xs : List Int) (d : Nat) (v0 : Int) (h : aH) : ev xs d mm_205 0 [some (.inr (.inr v0))] [] h =
  bif aok h.1 v0 12 then
    some (some (.inl (h.2 v0.toNat 17)), h)
  else none :=
  (aB gP gX xs stp_205 4 d mm_205 0 _ _ h).trans rfl

theorem c_205 (xs : List Int) (d : Nat) (v0 : Int) (h : aH) : cl xs (d + 1) 205 [.inr (.inr v0)] h =
  bif aok h.1 v0 12 then
    some (some (.inl (h.2 v0.toNat 17)), h)
  else none :=
  (show _ = ev xs d mm_205 0 [some (.inr (.inr v0))] [] h from rfl).trans (q_205_0 xs d v0 h)
def stp_206 : List Nat := [0, 10]
set_option maxRecDepth 100000 in
set_option maxHeartbeats 4000000 in
theorem q_206_0 (xs : List Int) (d : Nat) (v0 : Int) (v1 : Int) (v2 : Int) (h : aH) : ev xs d mm_206 0 [some (.inr (.inr v0)), some (.inl v1), some (.inl v2)] [] h =
  bif decide (¬ v1 = v2) then
    ev xs d mm_206 10 [some (.inr (.inr v0)), some (.inl v1), some (.inl v2)] [] h
  else
    bif aok h.1 v0 12 && true then
      bV (cl xs d 200 [.inr (.inr v0), .inl 2] h) (fun h1 =>
      ev xs d mm_206 10 [some (.inr (.inr v0)), some (.inl v1), some (.inl v2)] [] h1)
    else none :=
  (aB gP gX xs stp_206 7 d mm_206 0 _ _ h).trans rfl

set_option maxRecDepth 100000 in
set_option maxHeartbeats 4000000 in
theorem q_206_10 (xs : List Int) (d : Nat) (v0 : Int) (v1 : Int) (v2 : Int) (h : aH) : ev xs d mm_206 10 [some (.inr (.inr v0)), some (.inl v1), some (.inl v2)] [] h =
  bif aok h.1 v0 12 then
    bif decide (¬ (h.2 v0.toNat 13) = 0) then
      some (none, h)
    else
      bif aok h.1 v0 12 && true then
        bV (cl xs d 202 [.inr (.inr v0)] h) (fun h1 =>
        some (none, h1))
      else none
  else none :=
  (aB gP gX xs stp_206 7 d mm_206 10 _ _ h).trans rfl

theorem c_206 (xs : List Int) (d : Nat) (v0 : Int) (v1 : Int) (v2 : Int) (h : aH) : cl xs (d + 1) 206 [.inr (.inr v0), .inl v1, .inl v2] h =
  bif decide (¬ v1 = v2) then
    ev xs d mm_206 10 [some (.inr (.inr v0)), some (.inl v1), some (.inl v2)] [] h
  else
    bif aok h.1 v0 12 && true then
      bV (cl xs d 200 [.inr (.inr v0), .inl 2] h) (fun h1 =>
      ev xs d mm_206 10 [some (.inr (.inr v0)), some (.inl v1), some (.inl v2)] [] h1)
    else none :=
  (show _ = ev xs d mm_206 0 [some (.inr (.inr v0)), some (.inl v1), some (.inl v2)] [] h from rfl).trans (q_206_0 xs d v0 v1 v2 h)
def stp_207 : List Nat := [0]
set_option maxRecDepth 100000 in
set_option maxHeartbeats 4000000 in
theorem q_207_0 (xs : List Int) (d : Nat) (v0 : Int) (h : aH) : ev xs d mm_207 0 [some (.inl v0)] [] h =
  bif decide (¬ v0 = 0) then
    bif decide (¬ v0 = 1) then
      some (some (.inl 4), h)
    else
      some (some (.inl 6), h)
  else
    some (some (.inl 8), h) :=
  (aB gP gX xs stp_207 9 d mm_207 0 _ _ h).trans rfl

theorem c_207 (xs : List Int) (d : Nat) (v0 : Int) (h : aH) : cl xs (d + 1) 207 [.inl v0] h =
  bif decide (¬ v0 = 0) then
    bif decide (¬ v0 = 1) then
      some (some (.inl 4), h)
    else
      some (some (.inl 6), h)
  else
    some (some (.inl 8), h) :=
  (show _ = ev xs d mm_207 0 [some (.inl v0)] [] h from rfl).trans (q_207_0 xs d v0 h)
def stp_208 : List Nat := [0, 84, 113, 142, 224, 253, 281, 292, 321, 352, 357]
set_option maxRecDepth 100000 in
set_option maxHeartbeats 4000000 in
theorem q_208_0 (xs : List Int) (d : Nat) (v0 : Int) (h : aH) : ev xs d mm_208 0 [some (.inr (.inr v0)), none] [] h =
  bif aok h.1 v0 12 then
    bif aok h.1 v0 12 then
      bif ain h.1 (h.2 v0.toNat 5) 100 (h.2 v0.toNat 11) then
        ev xs d mm_208 (asw 9 312 20 34 #[75, 104, 312, 312, 312, 312, 312, 312, 312, 312, 133, 215, 244, 272, 283] (h.2 (h.2 v0.toNat 5).toNat (h.2 v0.toNat 11).toNat)) [some (.inr (.inr v0)), none] [] h
      else none
    else none
  else none :=
  (aB gP gX xs stp_208 5 d mm_208 0 _ _ h).trans rfl

set_option maxRecDepth 100000 in
set_option maxHeartbeats 4000000 in
theorem q_208_84 (xs : List Int) (d : Nat) (v0 : Int) (u1 : Option aV) (h : aH) : ev xs d mm_208 84 [some (.inr (.inr v0)), u1] [] h =
  bif aok h.1 v0 12 then
    bif aok h.1 v0 12 then
      bif ain h.1 (h.2 v0.toNat 20) 100 (h.2 v0.toNat 19) then
        bif aok h.1 v0 12 && true then
          bV (cl xs d 206 [.inr (.inr v0), .inl (h.2 (h.2 v0.toNat 20).toNat (h.2 v0.toNat 19).toNat), .inl 6] h) (fun h1 =>
          bif aok h1.1 v0 12 then
            bif decide (¬ (h1.2 v0.toNat 13) = 0) then
              some (none, h1)
            else
              bif aok h1.1 v0 12 && true then
                bV (cl xs d 210 [.inr (.inr v0)] h1) (fun h2 =>
                some (none, h2))
              else none
          else none)
        else none
      else none
    else none
  else none :=
  (aB gP gX xs stp_208 16 d mm_208 84 _ _ h).trans rfl

set_option maxRecDepth 100000 in
set_option maxHeartbeats 4000000 in
theorem q_208_113 (xs : List Int) (d : Nat) (v0 : Int) (u1 : Option aV) (h : aH) : ev xs d mm_208 113 [some (.inr (.inr v0)), u1] [] h =
  bif aok h.1 v0 12 then
    bif aok h.1 v0 12 then
      bif ain h.1 (h.2 v0.toNat 23) 100 (h.2 v0.toNat 19) then
        bif aok h.1 v0 12 && true then
          bV (cl xs d 206 [.inr (.inr v0), .inl (h.2 (h.2 v0.toNat 23).toNat (h.2 v0.toNat 19).toNat), .inl 7] h) (fun h1 =>
          bif aok h1.1 v0 12 then
            bif decide (¬ (h1.2 v0.toNat 13) = 0) then
              some (none, h1)
            else
              bif aok h1.1 v0 12 && true then
                bV (cl xs d 214 [.inr (.inr v0)] h1) (fun h2 =>
                some (none, h2))
              else none
          else none)
        else none
      else none
    else none
  else none :=
  (aB gP gX xs stp_208 16 d mm_208 113 _ _ h).trans rfl

set_option maxRecDepth 100000 in
set_option maxHeartbeats 4000000 in
theorem q_208_142 (xs : List Int) (d : Nat) (v0 : Int) (u1 : Option aV) (h : aH) : ev xs d mm_208 142 [some (.inr (.inr v0)), u1] [] h =
  bif aok h.1 v0 12 then
    bif aok h.1 v0 12 then
      bif ain h.1 (h.2 v0.toNat 33) 100 (h.2 v0.toNat 19) then
        bif aok h.1 v0 12 && true then
          bV (cl xs d 206 [.inr (.inr v0), .inl (h.2 (h.2 v0.toNat 33).toNat (h.2 v0.toNat 19).toNat), .inl 10] h) (fun h1 =>
          bif aok h1.1 v0 12 then
            bif aok h1.1 v0 12 && true then
              bV (cl xs d 203 [.inr (.inr v0), .inl 1] h1) (fun h2 =>
              bif aok h2.1 v0 12 && true then
                bV (cl xs d 203 [.inr (.inr v0), .inl 4] h2) (fun h3 =>
                bif aok h3.1 v0 12 then
                  bif decide ((h3.2 v0.toNat 13) ≤ 0) then
                    bif aok h3.1 v0 12 then
                      bif aok h3.1 v0 12 then
                        bif aok h3.1 v0 12 then
                          bif aok h3.1 v0 12 then
                            bif ain h3.1 (h3.2 v0.toNat 33) 100 (h3.2 v0.toNat 19) then
                              bif aok h3.1 v0 12 then
                                bif ain h3.1 (h3.2 v0.toNat 8) 101 (h1.2 v0.toNat 11) then
                                  bif ain h3.1 (h3.2 v0.toNat 34) 101 (w32 ((w32 (10 * (h3.2 v0.toNat 19))) + (h3.2 (h3.2 v0.toNat 33).toNat (h3.2 v0.toNat 19).toNat))) then
                                    bif aok h3.1 v0 12 then
                                      bif aok h3.1 v0 12 then
                                        bif ain h3.1 ((aup h3.2 (h3.2 v0.toNat 34).toNat (w32 ((w32 (10 * (h3.2 v0.toNat 19))) + (h3.2 (h3.2 v0.toNat 33).toNat (h3.2 v0.toNat 19).toNat))).toNat (h3.2 (h3.2 v0.toNat 8).toNat (h1.2 v0.toNat 11).toNat)) v0.toNat 33) 100 ((aup h3.2 (h3.2 v0.toNat 34).toNat (w32 ((w32 (10 * (h3.2 v0.toNat 19))) + (h3.2 (h3.2 v0.toNat 33).toNat (h3.2 v0.toNat 19).toNat))).toNat (h3.2 (h3.2 v0.toNat 8).toNat (h1.2 v0.toNat 11).toNat)) v0.toNat 19) then
                                          bif ain h3.1 ((aup h3.2 (h3.2 v0.toNat 34).toNat (w32 ((w32 (10 * (h3.2 v0.toNat 19))) + (h3.2 (h3.2 v0.toNat 33).toNat (h3.2 v0.toNat 19).toNat))).toNat (h3.2 (h3.2 v0.toNat 8).toNat (h1.2 v0.toNat 11).toNat)) v0.toNat 33) 100 ((aup h3.2 (h3.2 v0.toNat 34).toNat (w32 ((w32 (10 * (h3.2 v0.toNat 19))) + (h3.2 (h3.2 v0.toNat 33).toNat (h3.2 v0.toNat 19).toNat))).toNat (h3.2 (h3.2 v0.toNat 8).toNat (h1.2 v0.toNat 11).toNat)) v0.toNat 19) then
                                            some (none, (h3.1, aup (aup h3.2 (h3.2 v0.toNat 34).toNat (w32 ((w32 (10 * (h3.2 v0.toNat 19))) + (h3.2 (h3.2 v0.toNat 33).toNat (h3.2 v0.toNat 19).toNat))).toNat (h3.2 (h3.2 v0.toNat 8).toNat (h1.2 v0.toNat 11).toNat)) ((aup h3.2 (h3.2 v0.toNat 34).toNat (w32 ((w32 (10 * (h3.2 v0.toNat 19))) + (h3.2 (h3.2 v0.toNat 33).toNat (h3.2 v0.toNat 19).toNat))).toNat (h3.2 (h3.2 v0.toNat 8).toNat (h1.2 v0.toNat 11).toNat)) v0.toNat 33).toNat ((aup h3.2 (h3.2 v0.toNat 34).toNat (w32 ((w32 (10 * (h3.2 v0.toNat 19))) + (h3.2 (h3.2 v0.toNat 33).toNat (h3.2 v0.toNat 19).toNat))).toNat (h3.2 (h3.2 v0.toNat 8).toNat (h1.2 v0.toNat 11).toNat)) v0.toNat 19).toNat (w32 (((aup h3.2 (h3.2 v0.toNat 34).toNat (w32 ((w32 (10 * (h3.2 v0.toNat 19))) + (h3.2 (h3.2 v0.toNat 33).toNat (h3.2 v0.toNat 19).toNat))).toNat (h3.2 (h3.2 v0.toNat 8).toNat (h1.2 v0.toNat 11).toNat)) ((aup h3.2 (h3.2 v0.toNat 34).toNat (w32 ((w32 (10 * (h3.2 v0.toNat 19))) + (h3.2 (h3.2 v0.toNat 33).toNat (h3.2 v0.toNat 19).toNat))).toNat (h3.2 (h3.2 v0.toNat 8).toNat (h1.2 v0.toNat 11).toNat)) v0.toNat 33).toNat ((aup h3.2 (h3.2 v0.toNat 34).toNat (w32 ((w32 (10 * (h3.2 v0.toNat 19))) + (h3.2 (h3.2 v0.toNat 33).toNat (h3.2 v0.toNat 19).toNat))).toNat (h3.2 (h3.2 v0.toNat 8).toNat (h1.2 v0.toNat 11).toNat)) v0.toNat 19).toNat) + 1))))
                                          else none
                                        else none
                                      else none
                                    else none
                                  else none
                                else none
                              else none
                            else none
                          else none
                        else none
                      else none
                    else none
                  else
                    some (none, h3)
                else none)
              else none)
            else none
          else none)
        else none
      else none
    else none
  else none :=
  (aB gP gX xs stp_208 49 d mm_208 142 _ _ h).trans rfl

set_option maxRecDepth 100000 in
set_option maxHeartbeats 4000000 in
theorem q_208_224 (xs : List Int) (d : Nat) (v0 : Int) (u1 : Option aV) (h : aH) : ev xs d mm_208 224 [some (.inr (.inr v0)), u1] [] h =
  bif aok h.1 v0 12 then
    bif aok h.1 v0 12 then
      bif ain h.1 (h.2 v0.toNat 35) 100 (h.2 v0.toNat 19) then
        bif aok h.1 v0 12 && true then
          bV (cl xs d 206 [.inr (.inr v0), .inl (h.2 (h.2 v0.toNat 35).toNat (h.2 v0.toNat 19).toNat), .inl 8] h) (fun h1 =>
          bif aok h1.1 v0 12 then
            bif decide (¬ (h1.2 v0.toNat 13) = 0) then
              some (none, h1)
            else
              bif aok h1.1 v0 12 && true then
                bV (cl xs d 217 [.inr (.inr v0)] h1) (fun h2 =>
                some (none, h2))
              else none
          else none)
        else none
      else none
    else none
  else none :=
  (aB gP gX xs stp_208 16 d mm_208 224 _ _ h).trans rfl

set_option maxRecDepth 100000 in
set_option maxHeartbeats 4000000 in
theorem q_208_253 (xs : List Int) (d : Nat) (v0 : Int) (u1 : Option aV) (h : aH) : ev xs d mm_208 253 [some (.inr (.inr v0)), u1] [] h =
  bif aok h.1 v0 12 then
    bif aok h.1 v0 12 then
      bif ain h.1 (h.2 v0.toNat 39) 100 (h.2 v0.toNat 19) then
        bif aok h.1 v0 12 && true then
          bV (cl xs d 206 [.inr (.inr v0), .inl (h.2 (h.2 v0.toNat 39).toNat (h.2 v0.toNat 19).toNat), .inl 5] h) (fun h1 =>
          bif aok h1.1 v0 12 then
            bif decide (¬ (h1.2 v0.toNat 13) = 0) then
              some (none, h1)
            else
              bif aok h1.1 v0 12 && true then
                bV (cl xs d 218 [.inr (.inr v0)] h1) (fun h2 =>
                some (none, h2))
              else none
          else none)
        else none
      else none
    else none
  else none :=
  (aB gP gX xs stp_208 16 d mm_208 253 _ _ h).trans rfl

set_option maxRecDepth 100000 in
set_option maxHeartbeats 4000000 in
theorem q_208_281 (xs : List Int) (d : Nat) (v0 : Int) (u1 : Option aV) (h : aH) : ev xs d mm_208 281 [some (.inr (.inr v0)), u1] [] h =
  bif aok h.1 v0 12 && true then
    bV (cl xs d 202 [.inr (.inr v0)] h) (fun h1 =>
    bif aok h1.1 v0 12 && true then
      bV (cl xs d 219 [.inr (.inr v0)] h1) (fun h2 =>
      some (none, h2))
    else none)
  else none :=
  (aB gP gX xs stp_208 7 d mm_208 281 _ _ h).trans rfl

set_option maxRecDepth 100000 in
set_option maxHeartbeats 4000000 in
theorem q_208_292 (xs : List Int) (d : Nat) (v0 : Int) (u1 : Option aV) (h : aH) : ev xs d mm_208 292 [some (.inr (.inr v0)), u1] [] h =
  bif aok h.1 v0 12 && true then
    bV (cl xs d 202 [.inr (.inr v0)] h) (fun h1 =>
    bif aok h1.1 v0 12 then
      bif aok h1.1 v0 12 then
        bif aok h1.1 v0 12 && true then
          bI (cl xs d 209 [.inr (.inr v0), .inl 0, .inl 9999] h1) (fun x3 h2 =>
          bif ain h2.1 (h1.2 v0.toNat 44) 100 (h1.2 v0.toNat 19) then
            bif aok h2.1 v0 12 && true then
              bV (cl xs d 203 [.inr (.inr v0), .inl 4] (h2.1, aup h2.2 (h1.2 v0.toNat 44).toNat (h1.2 v0.toNat 19).toNat x3)) (fun h4 =>
              some (none, h4))
            else none
          else none)
        else none
      else none
    else none)
  else none :=
  (aB gP gX xs stp_208 17 d mm_208 292 _ _ h).trans rfl

set_option maxRecDepth 100000 in
set_option maxHeartbeats 4000000 in
theorem q_208_321 (xs : List Int) (d : Nat) (v0 : Int) (u1 : Option aV) (h : aH) : ev xs d mm_208 321 [some (.inr (.inr v0)), u1] [] h =
  bif aok h.1 v0 12 then
    bif aok h.1 v0 12 then
      bif ain h.1 (h.2 v0.toNat 5) 100 (h.2 v0.toNat 11) then
        bif decide ((w32 ((h.2 (h.2 v0.toNat 5).toNat (h.2 v0.toNat 11).toNat) - 27)) < 0) then
          ev xs d mm_208 352 [some (.inr (.inr v0)), some (.inl (w32 ((h.2 (h.2 v0.toNat 5).toNat (h.2 v0.toNat 11).toNat) - 27)))] [] h
        else
          bif aok h.1 v0 12 then
            bif aok h.1 v0 12 then
              bif ain h.1 (h.2 v0.toNat 5) 100 (h.2 v0.toNat 11) then
                bif decide ((h.2 (h.2 v0.toNat 5).toNat (h.2 v0.toNat 11).toNat) ≤ 29) then
                  ev xs d mm_208 357 [some (.inr (.inr v0)), some (.inl (w32 ((h.2 (h.2 v0.toNat 5).toNat (h.2 v0.toNat 11).toNat) - 27)))] [] h
                else
                  ev xs d mm_208 352 [some (.inr (.inr v0)), some (.inl (w32 ((h.2 (h.2 v0.toNat 5).toNat (h.2 v0.toNat 11).toNat) - 27)))] [] h
              else none
            else none
          else none
      else none
    else none
  else none :=
  (aB gP gX xs stp_208 18 d mm_208 321 _ _ h).trans rfl

set_option maxRecDepth 100000 in
set_option maxHeartbeats 4000000 in
theorem q_208_352 (xs : List Int) (d : Nat) (v0 : Int) (v1 : Int) (h : aH) : ev xs d mm_208 352 [some (.inr (.inr v0)), some (.inl v1)] [] h =
  bif aok h.1 v0 12 && true then
    bV (cl xs d 200 [.inr (.inr v0), .inl 1] h) (fun h1 =>
    ev xs d mm_208 357 [some (.inr (.inr v0)), some (.inl v1)] [] h1)
  else none :=
  (aB gP gX xs stp_208 4 d mm_208 352 _ _ h).trans rfl

set_option maxRecDepth 100000 in
set_option maxHeartbeats 4000000 in
theorem q_208_357 (xs : List Int) (d : Nat) (v0 : Int) (v1 : Int) (h : aH) : ev xs d mm_208 357 [some (.inr (.inr v0)), some (.inl v1)] [] h =
  bif aok h.1 v0 12 then
    bif decide ((h.2 v0.toNat 13) ≤ 0) then
      bif aok h.1 v0 12 then
        bif aok h.1 v0 12 then
          bif ain h.1 (h.2 v0.toNat 30) 100 (w32 ((w32 (3 * (h.2 v0.toNat 19))) + v1)) then
            bI (cl xs d 207 [.inl v1] h) (fun x2 h1 =>
              bif aok h1.1 v0 12 && true then
                bV (cl xs d 206 [.inr (.inr v0), .inl (h.2 (h.2 v0.toNat 30).toNat (w32 ((w32 (3 * (h.2 v0.toNat 19))) + v1)).toNat), .inl x2] h1) (fun h3 =>
                bif aok h3.1 v0 12 then
                  bif decide (¬ (h3.2 v0.toNat 13) = 0) then
                    some (none, h3)
                  else
                    bif aok h3.1 v0 12 && true then
                      bV (cl xs d 216 [.inr (.inr v0), .inl v1] h3) (fun h4 =>
                      some (none, h4))
                    else none
                else none)
              else none)
          else none
        else none
      else none
    else
      some (none, h)
  else none :=
  (aB gP gX xs stp_208 24 d mm_208 357 _ _ h).trans rfl

theorem c_208 (xs : List Int) (d : Nat) (v0 : Int) (h : aH) : cl xs (d + 1) 208 [.inr (.inr v0)] h =
  bif aok h.1 v0 12 then
    bif aok h.1 v0 12 then
      bif ain h.1 (h.2 v0.toNat 5) 100 (h.2 v0.toNat 11) then
        ev xs d mm_208 (asw 9 312 20 34 #[75, 104, 312, 312, 312, 312, 312, 312, 312, 312, 133, 215, 244, 272, 283] (h.2 (h.2 v0.toNat 5).toNat (h.2 v0.toNat 11).toNat)) [some (.inr (.inr v0)), none] [] h
      else none
    else none
  else none :=
  (show _ = ev xs d mm_208 0 [some (.inr (.inr v0)), none] [] h from rfl).trans (q_208_0 xs d v0 h)
def stp_209 : List Nat := [0, 15, 42, 51]
set_option maxRecDepth 100000 in
set_option maxHeartbeats 4000000 in
theorem q_209_0 (xs : List Int) (d : Nat) (v0 : Int) (v1 : Int) (v2 : Int) (h : aH) : ev xs d mm_209 0 [some (.inr (.inr v0)), some (.inl v1), some (.inl v2), none] [] h =
  bif aok h.1 v0 12 then
    bif decide (0 < (h.2 v0.toNat 13)) then
      ev xs d mm_209 15 [some (.inr (.inr v0)), some (.inl v1), some (.inl v2), none] [] h
    else
      bif aok h.1 v0 12 && true then
        bI (cl xs d 199 [.inr (.inr v0), .inl 2] h) (fun x2 h1 =>
        bif decide (¬ x2 = 0) then
          bif aok h1.1 v0 12 then
            bif aok h1.1 v0 12 then
              bif ain h1.1 (h1.2 v0.toNat 7) 100 (h1.2 v0.toNat 11) then
                bif decide ((h1.2 (h1.2 v0.toNat 7).toNat (h1.2 v0.toNat 11).toNat) < v1) then
                  ev xs d mm_209 42 [some (.inr (.inr v0)), some (.inl v1), some (.inl v2), some (.inl (h1.2 (h1.2 v0.toNat 7).toNat (h1.2 v0.toNat 11).toNat))] [] h1
                else
                  bif decide ((h1.2 (h1.2 v0.toNat 7).toNat (h1.2 v0.toNat 11).toNat) ≤ v2) then
                    ev xs d mm_209 51 [some (.inr (.inr v0)), some (.inl v1), some (.inl v2), some (.inl (h1.2 (h1.2 v0.toNat 7).toNat (h1.2 v0.toNat 11).toNat))] [] h1
                  else
                    ev xs d mm_209 42 [some (.inr (.inr v0)), some (.inl v1), some (.inl v2), some (.inl (h1.2 (h1.2 v0.toNat 7).toNat (h1.2 v0.toNat 11).toNat))] [] h1
              else none
            else none
          else none
        else
          ev xs d mm_209 15 [some (.inr (.inr v0)), some (.inl v1), some (.inl v2), none] [] h1)
      else none
  else none :=
  (aB gP gX xs stp_209 20 d mm_209 0 _ _ h).trans rfl

set_option maxRecDepth 100000 in
set_option maxHeartbeats 4000000 in
theorem q_209_15 (xs : List Int) (d : Nat) (v0 : Int) (v1 : Int) (v2 : Int) (u3 : Option aV) (h : aH) : ev xs d mm_209 15 [some (.inr (.inr v0)), some (.inl v1), some (.inl v2), u3] [] h =
  bif aok h.1 v0 12 && true then
    bV (cl xs d 200 [.inr (.inr v0), .inl 1] h) (fun h1 =>
    some (some (.inl v1), h1))
  else none :=
  (aB gP gX xs stp_209 6 d mm_209 15 _ _ h).trans rfl

set_option maxRecDepth 100000 in
set_option maxHeartbeats 4000000 in
theorem q_209_42 (xs : List Int) (d : Nat) (v0 : Int) (v1 : Int) (v2 : Int) (v3 : Int) (h : aH) : ev xs d mm_209 42 [some (.inr (.inr v0)), some (.inl v1), some (.inl v2), some (.inl v3)] [] h =
  bif aok h.1 v0 12 then
    bif aok h.1 v0 12 && true then
      bV (cl xs d 201 [.inr (.inr v0), .inl 5, .inl (h.2 v0.toNat 11)] h) (fun h1 =>
      ev xs d mm_209 51 [some (.inr (.inr v0)), some (.inl v1), some (.inl v2), some (.inl v3)] [] h1)
    else none
  else none :=
  (aB gP gX xs stp_209 6 d mm_209 42 _ _ h).trans rfl

set_option maxRecDepth 100000 in
set_option maxHeartbeats 4000000 in
theorem q_209_51 (xs : List Int) (d : Nat) (v0 : Int) (v1 : Int) (v2 : Int) (v3 : Int) (h : aH) : ev xs d mm_209 51 [some (.inr (.inr v0)), some (.inl v1), some (.inl v2), some (.inl v3)] [] h =
  bif aok h.1 v0 12 && true then
    bV (cl xs d 202 [.inr (.inr v0)] h) (fun h1 =>
    some (some (.inl v3), h1))
  else none :=
  (aB gP gX xs stp_209 5 d mm_209 51 _ _ h).trans rfl

theorem c_209 (xs : List Int) (d : Nat) (v0 : Int) (v1 : Int) (v2 : Int) (h : aH) : cl xs (d + 1) 209 [.inr (.inr v0), .inl v1, .inl v2] h =
  bif aok h.1 v0 12 then
    bif decide (0 < (h.2 v0.toNat 13)) then
      ev xs d mm_209 15 [some (.inr (.inr v0)), some (.inl v1), some (.inl v2), none] [] h
    else
      bif aok h.1 v0 12 && true then
        bI (cl xs d 199 [.inr (.inr v0), .inl 2] h) (fun x2 h1 =>
        bif decide (¬ x2 = 0) then
          bif aok h1.1 v0 12 then
            bif aok h1.1 v0 12 then
              bif ain h1.1 (h1.2 v0.toNat 7) 100 (h1.2 v0.toNat 11) then
                bif decide ((h1.2 (h1.2 v0.toNat 7).toNat (h1.2 v0.toNat 11).toNat) < v1) then
                  ev xs d mm_209 42 [some (.inr (.inr v0)), some (.inl v1), some (.inl v2), some (.inl (h1.2 (h1.2 v0.toNat 7).toNat (h1.2 v0.toNat 11).toNat))] [] h1
                else
                  bif decide ((h1.2 (h1.2 v0.toNat 7).toNat (h1.2 v0.toNat 11).toNat) ≤ v2) then
                    ev xs d mm_209 51 [some (.inr (.inr v0)), some (.inl v1), some (.inl v2), some (.inl (h1.2 (h1.2 v0.toNat 7).toNat (h1.2 v0.toNat 11).toNat))] [] h1
                  else
                    ev xs d mm_209 42 [some (.inr (.inr v0)), some (.inl v1), some (.inl v2), some (.inl (h1.2 (h1.2 v0.toNat 7).toNat (h1.2 v0.toNat 11).toNat))] [] h1
              else none
            else none
          else none
        else
          ev xs d mm_209 15 [some (.inr (.inr v0)), some (.inl v1), some (.inl v2), none] [] h1)
      else none
  else none :=
  (show _ = ev xs d mm_209 0 [some (.inr (.inr v0)), some (.inl v1), some (.inl v2), none] [] h from rfl).trans (q_209_0 xs d v0 v1 v2 h)
def stp_210 : List Nat := [0, 54, 80, 130]
set_option maxRecDepth 100000 in
set_option maxHeartbeats 4000000 in
theorem q_210_0 (xs : List Int) (d : Nat) (v0 : Int) (h : aH) : ev xs d mm_210 0 [some (.inr (.inr v0)), none, none, none, none, none] [] h =
  bif aok h.1 v0 12 then
    bif aok h.1 v0 12 then
      bif aok h.1 v0 12 then
        bif ain h.1 (h.2 v0.toNat 20) 100 (h.2 v0.toNat 19) then
          bif aok h.1 v0 12 then
            bif aok h.1 v0 12 && true then
              bV (cl xs d 203 [.inr (.inr v0), .inl 1] h) (fun h1 =>
              bif aok h1.1 v0 12 then
                bif decide (¬ (h1.2 v0.toNat 13) = 0) then
                  ev xs d mm_210 54 [some (.inr (.inr v0)), some (.inl (w32 ((w32 (6 * (h.2 v0.toNat 19))) + (h.2 (h.2 v0.toNat 20).toNat (h.2 v0.toNat 19).toNat)))), some (.inl (h.2 v0.toNat 11)), none, none, none] [] h1
                else
                  bif aok h1.1 v0 12 then
                    bif ain h1.1 (h1.2 v0.toNat 8) 101 (h.2 v0.toNat 11) then
                      bif aok h1.1 v0 12 && true then
                        bI (cl xs d 211 [.inr (.inr v0), .inr (.inl (h1.2 (h1.2 v0.toNat 8).toNat (h.2 v0.toNat 11).toNat))] h1) (fun x3 h2 =>
                        bif decide (x3 < 0) then
                          ev xs d mm_210 54 [some (.inr (.inr v0)), some (.inl (w32 ((w32 (6 * (h.2 v0.toNat 19))) + (h.2 (h.2 v0.toNat 20).toNat (h.2 v0.toNat 19).toNat)))), some (.inl (h.2 v0.toNat 11)), none, none, none] [] h2
                        else
                          bif aok h2.1 v0 12 && true then
                            bV (cl xs d 201 [.inr (.inr v0), .inl 3, .inl (h.2 v0.toNat 11)] h2) (fun h4 =>
                            ev xs d mm_210 54 [some (.inr (.inr v0)), some (.inl (w32 ((w32 (6 * (h.2 v0.toNat 19))) + (h.2 (h.2 v0.toNat 20).toNat (h.2 v0.toNat 19).toNat)))), some (.inl (h.2 v0.toNat 11)), none, none, none] [] h4)
                          else none)
                      else none
                    else none
                  else none
              else none)
            else none
          else none
        else none
      else none
    else none
  else none :=
  (aB gP gX xs stp_210 32 d mm_210 0 _ _ h).trans rfl

set_option maxRecDepth 100000 in
set_option maxHeartbeats 4000000 in
theorem q_210_54 (xs : List Int) (d : Nat) (v0 : Int) (v1 : Int) (v2 : Int) (u3 : Option aV) (u4 : Option aV) (u5 : Option aV) (h : aH) : ev xs d mm_210 54 [some (.inr (.inr v0)), some (.inl v1), some (.inl v2), u3, u4, u5] [] h =
  bif aok h.1 v0 12 then
    bif decide (¬ (h.2 v0.toNat 13) = 0) then
      ev xs d mm_210 80 [some (.inr (.inr v0)), some (.inl v1), some (.inl v2), u3, u4, u5] [] h
    else
      bif aok h.1 v0 12 then
        bif ain h.1 (h.2 v0.toNat 8) 101 v2 then
          bif decide (0 ≤ (olcmp (h.2 (h.2 v0.toNat 8).toNat v2.toNat) 27)) then
            ev xs d mm_210 80 [some (.inr (.inr v0)), some (.inl v1), some (.inl v2), u3, u4, u5] [] h
          else
            bif aok h.1 v0 12 && true then
              bV (cl xs d 201 [.inr (.inr v0), .inl 5, .inl v2] h) (fun h1 =>
              ev xs d mm_210 80 [some (.inr (.inr v0)), some (.inl v1), some (.inl v2), u3, u4, u5] [] h1)
            else none
        else none
      else none
  else none :=
  (aB gP gX xs stp_210 15 d mm_210 54 _ _ h).trans rfl

set_option maxRecDepth 100000 in
set_option maxHeartbeats 4000000 in
theorem q_210_80 (xs : List Int) (d : Nat) (v0 : Int) (v1 : Int) (v2 : Int) (u3 : Option aV) (u4 : Option aV) (u5 : Option aV) (h : aH) : ev xs d mm_210 80 [some (.inr (.inr v0)), some (.inl v1), some (.inl v2), u3, u4, u5] [] h =
  bif aok h.1 v0 12 then
    bif aok h.1 v0 12 && true then
      bV (cl xs d 203 [.inr (.inr v0), .inl 1] h) (fun h1 =>
      bif aok h1.1 v0 12 && true then
        bV (cl xs d 203 [.inr (.inr v0), .inl 4] h1) (fun h2 =>
        bif aok h2.1 v0 12 then
          bif decide ((h2.2 v0.toNat 13) ≤ 0) then
            bif aok h2.1 v0 12 then
              bif aok h2.1 v0 12 then
                bif ain h2.1 (h2.2 v0.toNat 8) 101 v2 then
                  bif ain h2.1 (h2.2 v0.toNat 21) 101 v1 then
                    bif aok h2.1 v0 12 then
                      bif ain h2.1 ((aup h2.2 (h2.2 v0.toNat 21).toNat v1.toNat (h2.2 (h2.2 v0.toNat 8).toNat v2.toNat)) v0.toNat 22) 100 v1 then
                        bif aok h2.1 v0 12 then
                          bif ain h2.1 ((aup (aup h2.2 (h2.2 v0.toNat 21).toNat v1.toNat (h2.2 (h2.2 v0.toNat 8).toNat v2.toNat)) ((aup h2.2 (h2.2 v0.toNat 21).toNat v1.toNat (h2.2 (h2.2 v0.toNat 8).toNat v2.toNat)) v0.toNat 22).toNat v1.toNat 0) v0.toNat 8) 101 (h.2 v0.toNat 11) then
                            ev xs d mm_210 130 [some (.inr (.inr v0)), some (.inl v1), some (.inl v2), some (.inl (h.2 v0.toNat 11)), some (.inr (.inl ((aup (aup h2.2 (h2.2 v0.toNat 21).toNat v1.toNat (h2.2 (h2.2 v0.toNat 8).toNat v2.toNat)) ((aup h2.2 (h2.2 v0.toNat 21).toNat v1.toNat (h2.2 (h2.2 v0.toNat 8).toNat v2.toNat)) v0.toNat 22).toNat v1.toNat 0) ((aup (aup h2.2 (h2.2 v0.toNat 21).toNat v1.toNat (h2.2 (h2.2 v0.toNat 8).toNat v2.toNat)) ((aup h2.2 (h2.2 v0.toNat 21).toNat v1.toNat (h2.2 (h2.2 v0.toNat 8).toNat v2.toNat)) v0.toNat 22).toNat v1.toNat 0) v0.toNat 8).toNat (h.2 v0.toNat 11).toNat))), none] [] (h2.1, aup (aup h2.2 (h2.2 v0.toNat 21).toNat v1.toNat (h2.2 (h2.2 v0.toNat 8).toNat v2.toNat)) ((aup h2.2 (h2.2 v0.toNat 21).toNat v1.toNat (h2.2 (h2.2 v0.toNat 8).toNat v2.toNat)) v0.toNat 22).toNat v1.toNat 0)
                          else none
                        else none
                      else none
                    else none
                  else none
                else none
              else none
            else none
          else
            some (none, h2)
        else none)
      else none)
    else none
  else none :=
  (aB gP gX xs stp_210 31 d mm_210 80 _ _ h).trans rfl

set_option maxRecDepth 100000 in
set_option maxHeartbeats 4000000 in
theorem q_210_130 (xs : List Int) (d : Nat) (v0 : Int) (v1 : Int) (v2 : Int) (v3 : Int) (v4 : Int) (u5 : Option aV) (h : aH) : ev xs d mm_210 130 [some (.inr (.inr v0)), some (.inl v1), some (.inl v2), some (.inl v3), some (.inr (.inl v4)), u5] [] h =
  bif decide ((olcmp v4 0) ≤ 0) then
    bif aok h.1 v0 12 then
      bif aok h.1 v0 12 then
        bif ain h.1 (h.2 v0.toNat 20) 100 (h.2 v0.toNat 19) then
          bif ain h.1 (h.2 v0.toNat 20) 100 (h.2 v0.toNat 19) then
            some (none, (h.1, aup h.2 (h.2 v0.toNat 20).toNat (h.2 v0.toNat 19).toNat (w32 ((h.2 (h.2 v0.toNat 20).toNat (h.2 v0.toNat 19).toNat) + 1))))
          else none
        else none
      else none
    else none
  else
    bif aok h.1 v0 12 then
      bif ain h.1 (h.2 v0.toNat 22) 100 v1 then
        bif ain h.1 (h.2 v0.toNat 22) 100 v1 then
          ev xs d mm_210 130 [some (.inr (.inr v0)), some (.inl v1), some (.inl v2), some (.inl v3), some (.inr (.inl (oldiv v4 27))), none] [] (h.1, aup h.2 (h.2 v0.toNat 22).toNat v1.toNat (oor (h.2 (h.2 v0.toNat 22).toNat v1.toNat) (oshl 1 (ol2i (olrem v4 27)))))
        else none
      else none
    else none :=
  (aB gP gX xs stp_210 23 d mm_210 130 _ _ h).trans rfl

theorem c_210 (xs : List Int) (d : Nat) (v0 : Int) (h : aH) : cl xs (d + 1) 210 [.inr (.inr v0)] h =
  bif aok h.1 v0 12 then
    bif aok h.1 v0 12 then
      bif aok h.1 v0 12 then
        bif ain h.1 (h.2 v0.toNat 20) 100 (h.2 v0.toNat 19) then
          bif aok h.1 v0 12 then
            bif aok h.1 v0 12 && true then
              bV (cl xs d 203 [.inr (.inr v0), .inl 1] h) (fun h1 =>
              bif aok h1.1 v0 12 then
                bif decide (¬ (h1.2 v0.toNat 13) = 0) then
                  ev xs d mm_210 54 [some (.inr (.inr v0)), some (.inl (w32 ((w32 (6 * (h.2 v0.toNat 19))) + (h.2 (h.2 v0.toNat 20).toNat (h.2 v0.toNat 19).toNat)))), some (.inl (h.2 v0.toNat 11)), none, none, none] [] h1
                else
                  bif aok h1.1 v0 12 then
                    bif ain h1.1 (h1.2 v0.toNat 8) 101 (h.2 v0.toNat 11) then
                      bif aok h1.1 v0 12 && true then
                        bI (cl xs d 211 [.inr (.inr v0), .inr (.inl (h1.2 (h1.2 v0.toNat 8).toNat (h.2 v0.toNat 11).toNat))] h1) (fun x3 h2 =>
                        bif decide (x3 < 0) then
                          ev xs d mm_210 54 [some (.inr (.inr v0)), some (.inl (w32 ((w32 (6 * (h.2 v0.toNat 19))) + (h.2 (h.2 v0.toNat 20).toNat (h.2 v0.toNat 19).toNat)))), some (.inl (h.2 v0.toNat 11)), none, none, none] [] h2
                        else
                          bif aok h2.1 v0 12 && true then
                            bV (cl xs d 201 [.inr (.inr v0), .inl 3, .inl (h.2 v0.toNat 11)] h2) (fun h4 =>
                            ev xs d mm_210 54 [some (.inr (.inr v0)), some (.inl (w32 ((w32 (6 * (h.2 v0.toNat 19))) + (h.2 (h.2 v0.toNat 20).toNat (h.2 v0.toNat 19).toNat)))), some (.inl (h.2 v0.toNat 11)), none, none, none] [] h4)
                          else none)
                      else none
                    else none
                  else none
              else none)
            else none
          else none
        else none
      else none
    else none
  else none :=
  (show _ = ev xs d mm_210 0 [some (.inr (.inr v0)), none, none, none, none, none] [] h from rfl).trans (q_210_0 xs d v0 h)
def stp_211 : List Nat := [0, 2]
set_option maxRecDepth 100000 in
set_option maxHeartbeats 4000000 in
theorem q_211_0 (xs : List Int) (d : Nat) (v0 : Int) (v1 : Int) (h : aH) : ev xs d mm_211 0 [some (.inr (.inr v0)), some (.inr (.inl v1)), none, none] [] h =
  ev xs d mm_211 2 [some (.inr (.inr v0)), some (.inr (.inl v1)), none, some (.inl 0)] [] h :=
  (aB gP gX xs stp_211 3 d mm_211 0 _ _ h).trans rfl

set_option maxRecDepth 100000 in
set_option maxHeartbeats 4000000 in
theorem q_211_2 (xs : List Int) (d : Nat) (v0 : Int) (v1 : Int) (u2 : Option aV) (v3 : Int) (h : aH) : ev xs d mm_211 2 [some (.inr (.inr v0)), some (.inr (.inl v1)), u2, some (.inl v3)] [] h =
  bif aok h.1 v0 12 then
    bif aok h.1 v0 12 then
      bif ain h.1 (h.2 v0.toNat 20) 100 (h.2 v0.toNat 19) then
        bif decide ((h.2 (h.2 v0.toNat 20).toNat (h.2 v0.toNat 19).toNat) ≤ v3) then
          some (some (.inl (-1)), h)
        else
          bif aok h.1 v0 12 then
            bif aok h.1 v0 12 then
              bif ain h.1 (h.2 v0.toNat 21) 101 (w32 ((w32 (6 * (h.2 v0.toNat 19))) + v3)) then
                bif decide (¬ (olcmp (h.2 (h.2 v0.toNat 21).toNat (w32 ((w32 (6 * (h.2 v0.toNat 19))) + v3)).toNat) v1) = 0) then
                  ev xs d mm_211 2 [some (.inr (.inr v0)), some (.inr (.inl v1)), acl u2, some (.inl (w32 (v3 + 1)))] [] h
                else
                  some (some (.inl v3), h)
              else none
            else none
          else none
      else none
    else none
  else none :=
  (aB gP gX xs stp_211 22 d mm_211 2 _ _ h).trans rfl

theorem c_211 (xs : List Int) (d : Nat) (v0 : Int) (v1 : Int) (h : aH) : cl xs (d + 1) 211 [.inr (.inr v0), .inr (.inl v1)] h =
  ev xs d mm_211 2 [some (.inr (.inr v0)), some (.inr (.inl v1)), none, some (.inl 0)] [] h :=
  (show _ = ev xs d mm_211 0 [some (.inr (.inr v0)), some (.inr (.inl v1)), none, none] [] h from rfl).trans (q_211_0 xs d v0 v1 h)
def stp_212 : List Nat := [0]
set_option maxRecDepth 100000 in
set_option maxHeartbeats 4000000 in
theorem q_212_0 (xs : List Int) (d : Nat) (v0 : Int) (h : aH) : ev xs d mm_212 0 [some (.inr (.inr v0)), none] [] h =
  bif aok h.1 v0 12 then
    bif aok h.1 v0 12 && true then
      bV (cl xs d 203 [.inr (.inr v0), .inl 1] h) (fun h1 =>
      bif aok h1.1 v0 12 then
        bif decide (¬ (h1.2 v0.toNat 13) = 0) then
          bif aok h1.1 v0 12 then
            bif ain h1.1 (h1.2 v0.toNat 8) 101 (h.2 v0.toNat 11) then
              some (some (.inl (ol2i (olrem (h1.2 (h1.2 v0.toNat 8).toNat (h.2 v0.toNat 11).toNat) 27))), h1)
            else none
          else none
        else
          bif aok h1.1 v0 12 then
            bif ain h1.1 (h1.2 v0.toNat 8) 101 (h.2 v0.toNat 11) then
              bif decide ((olcmp (h1.2 (h1.2 v0.toNat 8).toNat (h.2 v0.toNat 11).toNat) 26) ≤ 0) then
                bif aok h1.1 v0 12 then
                  bif ain h1.1 (h1.2 v0.toNat 8) 101 (h.2 v0.toNat 11) then
                    some (some (.inl (ol2i (olrem (h1.2 (h1.2 v0.toNat 8).toNat (h.2 v0.toNat 11).toNat) 27))), h1)
                  else none
                else none
              else
                bif aok h1.1 v0 12 && true then
                  bV (cl xs d 201 [.inr (.inr v0), .inl 5, .inl (h.2 v0.toNat 11)] h1) (fun h2 =>
                  bif aok h2.1 v0 12 then
                    bif ain h2.1 (h2.2 v0.toNat 8) 101 (h.2 v0.toNat 11) then
                      some (some (.inl (ol2i (olrem (h2.2 (h2.2 v0.toNat 8).toNat (h.2 v0.toNat 11).toNat) 27))), h2)
                    else none
                  else none)
                else none
            else none
          else none
      else none)
    else none
  else none :=
  (aB gP gX xs stp_212 29 d mm_212 0 _ _ h).trans rfl

theorem c_212 (xs : List Int) (d : Nat) (v0 : Int) (h : aH) : cl xs (d + 1) 212 [.inr (.inr v0)] h =
  bif aok h.1 v0 12 then
    bif aok h.1 v0 12 && true then
      bV (cl xs d 203 [.inr (.inr v0), .inl 1] h) (fun h1 =>
      bif aok h1.1 v0 12 then
        bif decide (¬ (h1.2 v0.toNat 13) = 0) then
          bif aok h1.1 v0 12 then
            bif ain h1.1 (h1.2 v0.toNat 8) 101 (h.2 v0.toNat 11) then
              some (some (.inl (ol2i (olrem (h1.2 (h1.2 v0.toNat 8).toNat (h.2 v0.toNat 11).toNat) 27))), h1)
            else none
          else none
        else
          bif aok h1.1 v0 12 then
            bif ain h1.1 (h1.2 v0.toNat 8) 101 (h.2 v0.toNat 11) then
              bif decide ((olcmp (h1.2 (h1.2 v0.toNat 8).toNat (h.2 v0.toNat 11).toNat) 26) ≤ 0) then
                bif aok h1.1 v0 12 then
                  bif ain h1.1 (h1.2 v0.toNat 8) 101 (h.2 v0.toNat 11) then
                    some (some (.inl (ol2i (olrem (h1.2 (h1.2 v0.toNat 8).toNat (h.2 v0.toNat 11).toNat) 27))), h1)
                  else none
                else none
              else
                bif aok h1.1 v0 12 && true then
                  bV (cl xs d 201 [.inr (.inr v0), .inl 5, .inl (h.2 v0.toNat 11)] h1) (fun h2 =>
                  bif aok h2.1 v0 12 then
                    bif ain h2.1 (h2.2 v0.toNat 8) 101 (h.2 v0.toNat 11) then
                      some (some (.inl (ol2i (olrem (h2.2 (h2.2 v0.toNat 8).toNat (h.2 v0.toNat 11).toNat) 27))), h2)
                    else none
                  else none)
                else none
            else none
          else none
      else none)
    else none
  else none :=
  (show _ = ev xs d mm_212 0 [some (.inr (.inr v0)), none] [] h from rfl).trans (q_212_0 xs d v0 h)
def stp_213 : List Nat := [0, 40, 72, 104]
set_option maxRecDepth 100000 in
set_option maxHeartbeats 4000000 in
theorem q_213_0 (xs : List Int) (d : Nat) (v0 : Int) (h : aH) : ev xs d mm_213 0 [some (.inr (.inr v0)), none] [] h =
  bif aok h.1 v0 12 && true then
    bV (cl xs d 202 [.inr (.inr v0)] h) (fun h1 =>
    bif aok h1.1 v0 12 then
      bif aok h1.1 v0 12 then
        bif aok h1.1 v0 12 then
          bif decide (¬ ((aup h1.2 v0.toNat 57 0) v0.toNat 13) = 0) then
            ev xs d mm_213 40 [some (.inr (.inr v0)), some (.inl (h1.2 v0.toNat 11))] [] (h1.1, aup h1.2 v0.toNat 57 0)
          else
            bif aok h1.1 v0 12 && true then
              bI (cl xs d 199 [.inr (.inr v0), .inl 26] (h1.1, aup h1.2 v0.toNat 57 0)) (fun x3 h2 =>
              bif decide (x3 = 0) then
                ev xs d mm_213 40 [some (.inr (.inr v0)), some (.inl (h1.2 v0.toNat 11))] [] h2
              else
                bif aok h2.1 v0 12 then
                  bif aok h2.1 v0 12 && true then
                    bV (cl xs d 202 [.inr (.inr v0)] (h2.1, aup h2.2 v0.toNat 56 3)) (fun h4 =>
                    some (none, h4))
                  else none
                else none)
            else none
        else none
      else none
    else none)
  else none :=
  (aB gP gX xs stp_213 22 d mm_213 0 _ _ h).trans rfl

set_option maxRecDepth 100000 in
set_option maxHeartbeats 4000000 in
theorem q_213_40 (xs : List Int) (d : Nat) (v0 : Int) (v1 : Int) (h : aH) : ev xs d mm_213 40 [some (.inr (.inr v0)), some (.inl v1)] [] h =
  bif aok h.1 v0 12 && true then
    bV (cl xs d 203 [.inr (.inr v0), .inl 1] h) (fun h1 =>
    bif aok h1.1 v0 12 then
      bif decide ((h1.2 v0.toNat 13) ≤ 0) then
        bif aok h1.1 v0 12 then
          bif ain h1.1 (h1.2 v0.toNat 8) 101 v1 then
            bif decide (0 ≤ (olcmp (h1.2 (h1.2 v0.toNat 8).toNat v1.toNat) 27)) then
              ev xs d mm_213 72 [some (.inr (.inr v0)), some (.inl v1)] [.inl 2, .inr (.inr v0)] h1
            else
              ev xs d mm_213 72 [some (.inr (.inr v0)), some (.inl v1)] [.inl 1, .inr (.inr v0)] h1
          else none
        else none
      else
        some (none, h1)
    else none)
  else none :=
  (aB gP gX xs stp_213 17 d mm_213 40 _ _ h).trans rfl

set_option maxRecDepth 100000 in
set_option maxHeartbeats 4000000 in
theorem q_213_72 (xs : List Int) (d : Nat) (v0 : Int) (v1 : Int) (s0 : Int) (s1 : Int) (h : aH) : ev xs d mm_213 72 [some (.inr (.inr v0)), some (.inl v1)] [.inl s1, .inr (.inr s0)] h =
  bif aok h.1 s0 12 then
    bif aok h.1 v0 12 then
      bif decide (¬ ((aup h.2 s0.toNat 56 s1) v0.toNat 56) = 1) then
        bif aok h.1 v0 12 then
          bif ain h.1 ((aup h.2 s0.toNat 56 s1) v0.toNat 8) 101 v1 then
            bif aok h.1 v0 12 && true then
              bI (cl xs d 211 [.inr (.inr v0), .inr (.inl ((aup h.2 s0.toNat 56 s1) ((aup h.2 s0.toNat 56 s1) v0.toNat 8).toNat v1.toNat))] (h.1, aup h.2 s0.toNat 56 s1)) (fun x2 h1 =>
              ev xs d mm_213 104 [some (.inr (.inr v0)), some (.inl v1)] [.inl x2, .inr (.inr v0)] h1)
            else none
          else none
        else none
      else
        bif aok h.1 v0 12 then
          bif ain h.1 ((aup h.2 s0.toNat 56 s1) v0.toNat 8) 101 v1 then
            ev xs d mm_213 104 [some (.inr (.inr v0)), some (.inl v1)] [.inl (ol2i ((aup h.2 s0.toNat 56 s1) ((aup h.2 s0.toNat 56 s1) v0.toNat 8).toNat v1.toNat)), .inr (.inr v0)] (h.1, aup h.2 s0.toNat 56 s1)
          else none
        else none
    else none
  else none :=
  (aB gP gX xs stp_213 13 d mm_213 72 _ _ h).trans rfl

set_option maxRecDepth 100000 in
set_option maxHeartbeats 4000000 in
theorem q_213_104 (xs : List Int) (d : Nat) (v0 : Int) (v1 : Int) (s0 : Int) (s1 : Int) (h : aH) : ev xs d mm_213 104 [some (.inr (.inr v0)), some (.inl v1)] [.inl s1, .inr (.inr s0)] h =
  bif aok h.1 s0 12 then
    bif aok h.1 v0 12 then
      bif decide (0 ≤ ((aup h.2 s0.toNat 57 s1) v0.toNat 57)) then
        some (none, (h.1, aup h.2 s0.toNat 57 s1))
      else
        bif aok h.1 v0 12 && true then
          bV (cl xs d 201 [.inr (.inr v0), .inl 4, .inl v1] (h.1, aup h.2 s0.toNat 57 s1)) (fun h1 =>
          some (none, h1))
        else none
    else none
  else none :=
  (aB gP gX xs stp_213 10 d mm_213 104 _ _ h).trans rfl

theorem c_213 (xs : List Int) (d : Nat) (v0 : Int) (h : aH) : cl xs (d + 1) 213 [.inr (.inr v0)] h =
  bif aok h.1 v0 12 && true then
    bV (cl xs d 202 [.inr (.inr v0)] h) (fun h1 =>
    bif aok h1.1 v0 12 then
      bif aok h1.1 v0 12 then
        bif aok h1.1 v0 12 then
          bif decide (¬ ((aup h1.2 v0.toNat 57 0) v0.toNat 13) = 0) then
            ev xs d mm_213 40 [some (.inr (.inr v0)), some (.inl (h1.2 v0.toNat 11))] [] (h1.1, aup h1.2 v0.toNat 57 0)
          else
            bif aok h1.1 v0 12 && true then
              bI (cl xs d 199 [.inr (.inr v0), .inl 26] (h1.1, aup h1.2 v0.toNat 57 0)) (fun x3 h2 =>
              bif decide (x3 = 0) then
                ev xs d mm_213 40 [some (.inr (.inr v0)), some (.inl (h1.2 v0.toNat 11))] [] h2
              else
                bif aok h2.1 v0 12 then
                  bif aok h2.1 v0 12 && true then
                    bV (cl xs d 202 [.inr (.inr v0)] (h2.1, aup h2.2 v0.toNat 56 3)) (fun h4 =>
                    some (none, h4))
                  else none
                else none)
            else none
        else none
      else none
    else none)
  else none :=
  (show _ = ev xs d mm_213 0 [some (.inr (.inr v0)), none] [] h from rfl).trans (q_213_0 xs d v0 h)
def stp_214 : List Nat := [0, 55, 84, 128, 138, 178]
set_option maxRecDepth 100000 in
set_option maxHeartbeats 4000000 in
theorem q_214_0 (xs : List Int) (d : Nat) (v0 : Int) (h : aH) : ev xs d mm_214 0 [some (.inr (.inr v0)), none, none] [] h =
  bif aok h.1 v0 12 then
    bif aok h.1 v0 12 then
      bif aok h.1 v0 12 then
        bif ain h.1 (h.2 v0.toNat 23) 100 (h.2 v0.toNat 19) then
          bif aok h.1 v0 12 then
            bif aok h.1 v0 12 && true then
              bI (cl xs d 212 [.inr (.inr v0)] h) (fun x2 h1 =>
              bif ain h1.1 (h.2 v0.toNat 24) 100 (w32 ((w32 (7 * (h.2 v0.toNat 19))) + (h.2 (h.2 v0.toNat 23).toNat (h.2 v0.toNat 19).toNat))) then
                bif aok h1.1 v0 12 && true then
                  bV (cl xs d 203 [.inr (.inr v0), .inl 22] (h1.1, aup h1.2 (h.2 v0.toNat 24).toNat (w32 ((w32 (7 * (h.2 v0.toNat 19))) + (h.2 (h.2 v0.toNat 23).toNat (h.2 v0.toNat 19).toNat))).toNat x2)) (fun h3 =>
                  bif aok h3.1 v0 12 then
                    bif decide (¬ (h3.2 v0.toNat 13) = 0) then
                      ev xs d mm_214 55 [some (.inr (.inr v0)), some (.inl (w32 ((w32 (7 * (h.2 v0.toNat 19))) + (h.2 (h.2 v0.toNat 23).toNat (h.2 v0.toNat 19).toNat)))), none] [.inl 0] h3
                    else
                      bif aok h3.1 v0 12 && true then
                        bI (cl xs d 199 [.inr (.inr v0), .inl 23] h3) (fun x5 h4 =>
                        bif decide (x5 = 0) then
                          ev xs d mm_214 55 [some (.inr (.inr v0)), some (.inl (w32 ((w32 (7 * (h.2 v0.toNat 19))) + (h.2 (h.2 v0.toNat 23).toNat (h.2 v0.toNat 19).toNat)))), none] [.inl 0] h4
                        else
                          ev xs d mm_214 55 [some (.inr (.inr v0)), some (.inl (w32 ((w32 (7 * (h.2 v0.toNat 19))) + (h.2 (h.2 v0.toNat 23).toNat (h.2 v0.toNat 19).toNat)))), none] [.inl 1] h4)
                      else none
                  else none)
                else none
              else none)
            else none
          else none
        else none
      else none
    else none
  else none :=
  (aB gP gX xs stp_214 30 d mm_214 0 _ _ h).trans rfl

set_option maxRecDepth 100000 in
set_option maxHeartbeats 4000000 in
theorem q_214_55 (xs : List Int) (d : Nat) (v0 : Int) (v1 : Int) (u2 : Option aV) (s0 : Int) (h : aH) : ev xs d mm_214 55 [some (.inr (.inr v0)), some (.inl v1), u2] [.inl s0] h =
  bif aok h.1 v0 12 then
    bif ain h.1 (h.2 v0.toNat 25) 100 v1 then
      bif decide (s0 = 0) then
        bif aok h.1 v0 12 then
          bif aok h.1 v0 12 && true then
            bI (cl xs d 212 [.inr (.inr v0)] (h.1, aup h.2 (h.2 v0.toNat 25).toNat v1.toNat 0)) (fun x2 h1 =>
            bif ain h1.1 ((aup h.2 (h.2 v0.toNat 25).toNat v1.toNat 0) v0.toNat 25) 100 v1 then
              ev xs d mm_214 84 [some (.inr (.inr v0)), some (.inl v1), some (.inl s0)] [] (h1.1, aup h1.2 ((aup h.2 (h.2 v0.toNat 25).toNat v1.toNat 0) v0.toNat 25).toNat v1.toNat x2)
            else none)
          else none
        else none
      else
        bif aok h.1 v0 12 && true then
          bV (cl xs d 202 [.inr (.inr v0)] (h.1, aup h.2 (h.2 v0.toNat 25).toNat v1.toNat 0)) (fun h3 =>
          ev xs d mm_214 84 [some (.inr (.inr v0)), some (.inl v1), some (.inl s0)] [] h3)
        else none
    else none
  else none :=
  (aB gP gX xs stp_214 15 d mm_214 55 _ _ h).trans rfl

set_option maxRecDepth 100000 in
set_option maxHeartbeats 4000000 in
theorem q_214_84 (xs : List Int) (d : Nat) (v0 : Int) (v1 : Int) (v2 : Int) (h : aH) : ev xs d mm_214 84 [some (.inr (.inr v0)), some (.inl v1), some (.inl v2)] [] h =
  bif aok h.1 v0 12 then
    bif ain h.1 (h.2 v0.toNat 26) 100 v1 then
      bif aok h.1 v0 12 then
        bif ain h.1 ((aup h.2 (h.2 v0.toNat 26).toNat v1.toNat 0) v0.toNat 28) 100 v1 then
          bif aok h.1 v0 12 then
            bif decide (¬ ((aup (aup h.2 (h.2 v0.toNat 26).toNat v1.toNat 0) ((aup h.2 (h.2 v0.toNat 26).toNat v1.toNat 0) v0.toNat 28).toNat v1.toNat 0) v0.toNat 13) = 0) then
              ev xs d mm_214 138 [some (.inr (.inr v0)), some (.inl v1), some (.inl v2)] [] (h.1, aup (aup h.2 (h.2 v0.toNat 26).toNat v1.toNat 0) ((aup h.2 (h.2 v0.toNat 26).toNat v1.toNat 0) v0.toNat 28).toNat v1.toNat 0)
            else
              bif aok h.1 v0 12 && true then
                bI (cl xs d 199 [.inr (.inr v0), .inl 24] (h.1, aup (aup h.2 (h.2 v0.toNat 26).toNat v1.toNat 0) ((aup h.2 (h.2 v0.toNat 26).toNat v1.toNat 0) v0.toNat 28).toNat v1.toNat 0)) (fun x2 h1 =>
                bif decide (x2 = 0) then
                  ev xs d mm_214 138 [some (.inr (.inr v0)), some (.inl v1), some (.inl v2)] [] h1
                else
                  bif aok h1.1 v0 12 && true then
                    bV (cl xs d 213 [.inr (.inr v0)] h1) (fun h3 =>
                    bif aok h3.1 v0 12 then
                      bif aok h3.1 v0 12 then
                        bif ain h3.1 (h3.2 v0.toNat 26) 100 v1 then
                          ev xs d mm_214 128 [some (.inr (.inr v0)), some (.inl v1), some (.inl v2)] [] (h3.1, aup h3.2 (h3.2 v0.toNat 26).toNat v1.toNat (h3.2 v0.toNat 56))
                        else none
                      else none
                    else none)
                  else none)
              else none
          else none
        else none
      else none
    else none
  else none :=
  (aB gP gX xs stp_214 26 d mm_214 84 _ _ h).trans rfl

set_option maxRecDepth 100000 in
set_option maxHeartbeats 4000000 in
theorem q_214_128 (xs : List Int) (d : Nat) (v0 : Int) (v1 : Int) (v2 : Int) (h : aH) : ev xs d mm_214 128 [some (.inr (.inr v0)), some (.inl v1), some (.inl v2)] [] h =
  bif aok h.1 v0 12 then
    bif aok h.1 v0 12 then
      bif ain h.1 (h.2 v0.toNat 27) 100 v1 then
        ev xs d mm_214 138 [some (.inr (.inr v0)), some (.inl v1), some (.inl v2)] [] (h.1, aup h.2 (h.2 v0.toNat 27).toNat v1.toNat (h.2 v0.toNat 57))
      else none
    else none
  else none :=
  (aB gP gX xs stp_214 7 d mm_214 128 _ _ h).trans rfl

set_option maxRecDepth 100000 in
set_option maxHeartbeats 4000000 in
theorem q_214_138 (xs : List Int) (d : Nat) (v0 : Int) (v1 : Int) (v2 : Int) (h : aH) : ev xs d mm_214 138 [some (.inr (.inr v0)), some (.inl v1), some (.inl v2)] [] h =
  bif aok h.1 v0 12 then
    bif decide (¬ (h.2 v0.toNat 13) = 0) then
      ev xs d mm_214 178 [some (.inr (.inr v0)), some (.inl v1), some (.inl v2)] [] h
    else
      bif aok h.1 v0 12 && true then
        bI (cl xs d 199 [.inr (.inr v0), .inl 25] h) (fun x2 h1 =>
        bif decide (x2 = 0) then
          ev xs d mm_214 178 [some (.inr (.inr v0)), some (.inl v1), some (.inl v2)] [] h1
        else
          bif aok h1.1 v0 12 && true then
            bV (cl xs d 213 [.inr (.inr v0)] h1) (fun h3 =>
            bif aok h3.1 v0 12 then
              bif aok h3.1 v0 12 then
                bif ain h3.1 (h3.2 v0.toNat 28) 100 v1 then
                  bif aok h3.1 v0 12 then
                    bif aok h3.1 v0 12 then
                      bif ain h3.1 ((aup h3.2 (h3.2 v0.toNat 28).toNat v1.toNat (h3.2 v0.toNat 56)) v0.toNat 29) 100 v1 then
                        ev xs d mm_214 178 [some (.inr (.inr v0)), some (.inl v1), some (.inl v2)] [] (h3.1, aup (aup h3.2 (h3.2 v0.toNat 28).toNat v1.toNat (h3.2 v0.toNat 56)) ((aup h3.2 (h3.2 v0.toNat 28).toNat v1.toNat (h3.2 v0.toNat 56)) v0.toNat 29).toNat v1.toNat ((aup h3.2 (h3.2 v0.toNat 28).toNat v1.toNat (h3.2 v0.toNat 56)) v0.toNat 57))
                      else none
                    else none
                  else none
                else none
              else none
            else none)
          else none)
      else none
  else none :=
  (aB gP gX xs stp_214 22 d mm_214 138 _ _ h).trans rfl

set_option maxRecDepth 100000 in
set_option maxHeartbeats 4000000 in
theorem q_214_178 (xs : List Int) (d : Nat) (v0 : Int) (v1 : Int) (v2 : Int) (h : aH) : ev xs d mm_214 178 [some (.inr (.inr v0)), some (.inl v1), some (.inl v2)] [] h =
  bif aok h.1 v0 12 && true then
    bV (cl xs d 203 [.inr (.inr v0), .inl 4] h) (fun h1 =>
    bif aok h1.1 v0 12 then
      bif decide (¬ (h1.2 v0.toNat 13) = 0) then
        some (none, h1)
      else
        bif aok h1.1 v0 12 then
          bif aok h1.1 v0 12 then
            bif ain h1.1 (h1.2 v0.toNat 23) 100 (h1.2 v0.toNat 19) then
              bif ain h1.1 (h1.2 v0.toNat 23) 100 (h1.2 v0.toNat 19) then
                some (none, (h1.1, aup h1.2 (h1.2 v0.toNat 23).toNat (h1.2 v0.toNat 19).toNat (w32 ((h1.2 (h1.2 v0.toNat 23).toNat (h1.2 v0.toNat 19).toNat) + 1))))
              else none
            else none
          else none
        else none
    else none)
  else none :=
  (aB gP gX xs stp_214 17 d mm_214 178 _ _ h).trans rfl

theorem c_214 (xs : List Int) (d : Nat) (v0 : Int) (h : aH) : cl xs (d + 1) 214 [.inr (.inr v0)] h =
  bif aok h.1 v0 12 then
    bif aok h.1 v0 12 then
      bif aok h.1 v0 12 then
        bif ain h.1 (h.2 v0.toNat 23) 100 (h.2 v0.toNat 19) then
          bif aok h.1 v0 12 then
            bif aok h.1 v0 12 && true then
              bI (cl xs d 212 [.inr (.inr v0)] h) (fun x2 h1 =>
              bif ain h1.1 (h.2 v0.toNat 24) 100 (w32 ((w32 (7 * (h.2 v0.toNat 19))) + (h.2 (h.2 v0.toNat 23).toNat (h.2 v0.toNat 19).toNat))) then
                bif aok h1.1 v0 12 && true then
                  bV (cl xs d 203 [.inr (.inr v0), .inl 22] (h1.1, aup h1.2 (h.2 v0.toNat 24).toNat (w32 ((w32 (7 * (h.2 v0.toNat 19))) + (h.2 (h.2 v0.toNat 23).toNat (h.2 v0.toNat 19).toNat))).toNat x2)) (fun h3 =>
                  bif aok h3.1 v0 12 then
                    bif decide (¬ (h3.2 v0.toNat 13) = 0) then
                      ev xs d mm_214 55 [some (.inr (.inr v0)), some (.inl (w32 ((w32 (7 * (h.2 v0.toNat 19))) + (h.2 (h.2 v0.toNat 23).toNat (h.2 v0.toNat 19).toNat)))), none] [.inl 0] h3
                    else
                      bif aok h3.1 v0 12 && true then
                        bI (cl xs d 199 [.inr (.inr v0), .inl 23] h3) (fun x5 h4 =>
                        bif decide (x5 = 0) then
                          ev xs d mm_214 55 [some (.inr (.inr v0)), some (.inl (w32 ((w32 (7 * (h.2 v0.toNat 19))) + (h.2 (h.2 v0.toNat 23).toNat (h.2 v0.toNat 19).toNat)))), none] [.inl 0] h4
                        else
                          ev xs d mm_214 55 [some (.inr (.inr v0)), some (.inl (w32 ((w32 (7 * (h.2 v0.toNat 19))) + (h.2 (h.2 v0.toNat 23).toNat (h.2 v0.toNat 19).toNat)))), none] [.inl 1] h4)
                      else none
                  else none)
                else none
              else none)
            else none
          else none
        else none
      else none
    else none
  else none :=
  (show _ = ev xs d mm_214 0 [some (.inr (.inr v0)), none, none] [] h from rfl).trans (q_214_0 xs d v0 h)
