def stp_92 : List Nat := [0, 27]
set_option maxRecDepth 100000 in
set_option maxHeartbeats 4000000 in
theorem q_92_0 (xs : List Int) (d : Nat) (v0 : Int) (v1 : Int) (h : aH) : ev xs d mm_92 0 [some (.inr (.inr v0)), some (.inl v1)] [] h =
  bif aok h.1 v0 8 then
    bif decide (¬ (h.2 v0.toNat 0) = 0) then
      ev xs d mm_92 27 [some (.inr (.inr v0)), some (.inl v1)] [] h
    else
      bif aok h.1 v0 8 then
        bif aok h.1 v0 8 then
          bif aok h.1 v0 8 then
            bif aok h.1 ((aup h.2 v0.toNat 0 v1) v0.toNat 2) 4 && true then
              bI (cl xs d 39 [.inr (.inr ((aup h.2 v0.toNat 0 v1) v0.toNat 2)), .inl ((aup h.2 v0.toNat 0 v1) v0.toNat 3)] (h.1, aup h.2 v0.toNat 0 v1)) (fun x2 h1 =>
              bif aok h1.1 v0 8 then
                ev xs d mm_92 27 [some (.inr (.inr v0)), some (.inl v1)] [] (h1.1, aup h1.2 v0.toNat 1 x2)
              else none)
            else none
          else none
        else none
      else none
  else none :=
  (aB gP gX xs stp_92 14 d mm_92 0 _ _ h).trans rfl

set_option maxRecDepth 100000 in
set_option maxHeartbeats 4000000 in
theorem q_92_27 (xs : List Int) (d : Nat) (v0 : Int) (v1 : Int) (h : aH) : ev xs d mm_92 27 [some (.inr (.inr v0)), some (.inl v1)] [] h =
  some (none, h) :=
  (aB gP gX xs stp_92 2 d mm_92 27 _ _ h).trans rfl

def stp_93 : List Nat := [0]
set_option maxRecDepth 100000 in
set_option maxHeartbeats 4000000 in
theorem q_93_0 (xs : List Int) (d : Nat) (v0 : Int) (h : aH) : ev xs d mm_93 0 [some (.inr (.inr v0))] [] h =
  bif aok h.1 v0 8 then
    bif aok h.1 v0 8 then
      bif aok h.1 (h.2 v0.toNat 2) 4 && true then
        bJ (cl xs d 38 [.inr (.inr (h.2 v0.toNat 2)), .inl (h.2 v0.toNat 3)] h) (fun x2 h1 =>
        some (some (.inr (.inl x2)), h1))
      else none
    else none
  else none :=
  (aB gP gX xs stp_93 7 d mm_93 0 _ _ h).trans rfl

def stp_94 : List Nat := [0]
set_option maxRecDepth 100000 in
set_option maxHeartbeats 4000000 in
theorem q_94_0 (xs : List Int) (d : Nat) (v0 : Int) (h : aH) : ev xs d mm_94 0 [some (.inr (.inr v0))] [] h =
  bif aok h.1 v0 8 then
    bif aok h.1 v0 8 then
      bif aok h.1 v0 8 && true then
        bJ (cl xs d 93 [.inr (.inr v0)] (h.1, aup h.2 v0.toNat 3 (w32 ((h.2 v0.toNat 3) + 1)))) (fun x2 h1 =>
        some (some (.inr (.inl x2)), h1))
      else none
    else none
  else none :=
  (aB gP gX xs stp_94 10 d mm_94 0 _ _ h).trans rfl

def stp_95 : List Nat := [0, 26, 31]
set_option maxRecDepth 100000 in
set_option maxHeartbeats 4000000 in
theorem q_95_0 (xs : List Int) (d : Nat) (v0 : Int) (v1 : Int) (v2 : Int) (h : aH) : ev xs d mm_95 0 [some (.inr (.inr v0)), some (.inl v1), some (.inl v2), none] [] h =
  bif aok h.1 v0 8 then
    bif aok h.1 v0 8 then
      bif aok h.1 v0 8 && true then
        bJ (cl xs d 93 [.inr (.inr v0)] (h.1, aup h.2 v0.toNat 3 (w32 ((h.2 v0.toNat 3) + 1)))) (fun x2 h1 =>
        bif decide ((ol2i x2) < v1) then
          ev xs d mm_95 26 [some (.inr (.inr v0)), some (.inl v1), some (.inl v2), some (.inl (ol2i x2))] [] h1
        else
          bif decide ((ol2i x2) ≤ v2) then
            ev xs d mm_95 31 [some (.inr (.inr v0)), some (.inl v1), some (.inl v2), some (.inl (ol2i x2))] [] h1
          else
            ev xs d mm_95 26 [some (.inr (.inr v0)), some (.inl v1), some (.inl v2), some (.inl (ol2i x2))] [] h1)
      else none
    else none
  else none :=
  (aB gP gX xs stp_95 17 d mm_95 0 _ _ h).trans rfl

set_option maxRecDepth 100000 in
set_option maxHeartbeats 4000000 in
theorem q_95_26 (xs : List Int) (d : Nat) (v0 : Int) (v1 : Int) (v2 : Int) (v3 : Int) (h : aH) : ev xs d mm_95 26 [some (.inr (.inr v0)), some (.inl v1), some (.inl v2), some (.inl v3)] [] h =
  bif aok h.1 v0 8 && true then
    bV (cl xs d 92 [.inr (.inr v0), .inl 5] h) (fun h1 =>
    ev xs d mm_95 31 [some (.inr (.inr v0)), some (.inl v1), some (.inl v2), some (.inl v3)] [] h1)
  else none :=
  (aB gP gX xs stp_95 4 d mm_95 26 _ _ h).trans rfl

set_option maxRecDepth 100000 in
set_option maxHeartbeats 4000000 in
theorem q_95_31 (xs : List Int) (d : Nat) (v0 : Int) (v1 : Int) (v2 : Int) (v3 : Int) (h : aH) : ev xs d mm_95 31 [some (.inr (.inr v0)), some (.inl v1), some (.inl v2), some (.inl v3)] [] h =
  some (some (.inl v3), h) :=
  (aB gP gX xs stp_95 3 d mm_95 31 _ _ h).trans rfl

def stp_96 : List Nat := [0, 72, 80, 88, 97, 106, 115, 123, 131, 139, 147, 159]
set_option maxRecDepth 100000 in
set_option maxHeartbeats 4000000 in
theorem q_96_0 (xs : List Int) (d : Nat) (v0 : Int) (v1 : Int) (h : aH) : ev xs d mm_96 0 [some (.inr (.inr v0)), some (.inr (.inr v1))] [] h =
  bif aok h.1 v0 8 && true then
    bI (cl xs d 90 [.inr (.inr v0)] h) (fun x2 h1 =>
    ev xs d mm_96 (asw 4 143 128 140 #[68, 76, 143, 143, 143, 143, 84, 93, 102, 111, 119, 127, 135] x2) [some (.inr (.inr v0)), some (.inr (.inr v1))] [] h1)
  else none :=
  (aB gP gX xs stp_96 4 d mm_96 0 _ _ h).trans rfl

set_option maxRecDepth 100000 in
set_option maxHeartbeats 4000000 in
theorem q_96_72 (xs : List Int) (d : Nat) (v0 : Int) (v1 : Int) (h : aH) : ev xs d mm_96 72 [some (.inr (.inr v0)), some (.inr (.inr v1))] [] h =
  bif aok h.1 v0 8 && true then
    bV (cl xs d 97 [.inr (.inr v0), .inr (.inr v1)] h) (fun h1 =>
    ev xs d mm_96 159 [some (.inr (.inr v0)), some (.inr (.inr v1))] [] h1)
  else none :=
  (aB gP gX xs stp_96 5 d mm_96 72 _ _ h).trans rfl

set_option maxRecDepth 100000 in
set_option maxHeartbeats 4000000 in
theorem q_96_80 (xs : List Int) (d : Nat) (v0 : Int) (v1 : Int) (h : aH) : ev xs d mm_96 80 [some (.inr (.inr v0)), some (.inr (.inr v1))] [] h =
  bif aok h.1 v0 8 && true then
    bV (cl xs d 99 [.inr (.inr v0), .inr (.inr v1)] h) (fun h1 =>
    ev xs d mm_96 159 [some (.inr (.inr v0)), some (.inr (.inr v1))] [] h1)
  else none :=
  (aB gP gX xs stp_96 5 d mm_96 80 _ _ h).trans rfl

set_option maxRecDepth 100000 in
set_option maxHeartbeats 4000000 in
theorem q_96_88 (xs : List Int) (d : Nat) (v0 : Int) (v1 : Int) (h : aH) : ev xs d mm_96 88 [some (.inr (.inr v0)), some (.inr (.inr v1))] [] h =
  bif aok h.1 v0 8 && true then
    bV (cl xs d 102 [.inr (.inr v0), .inr (.inr v1), .inl 0] h) (fun h1 =>
    ev xs d mm_96 159 [some (.inr (.inr v0)), some (.inr (.inr v1))] [] h1)
  else none :=
  (aB gP gX xs stp_96 6 d mm_96 88 _ _ h).trans rfl

set_option maxRecDepth 100000 in
set_option maxHeartbeats 4000000 in
theorem q_96_97 (xs : List Int) (d : Nat) (v0 : Int) (v1 : Int) (h : aH) : ev xs d mm_96 97 [some (.inr (.inr v0)), some (.inr (.inr v1))] [] h =
  bif aok h.1 v0 8 && true then
    bV (cl xs d 102 [.inr (.inr v0), .inr (.inr v1), .inl 1] h) (fun h1 =>
    ev xs d mm_96 159 [some (.inr (.inr v0)), some (.inr (.inr v1))] [] h1)
  else none :=
  (aB gP gX xs stp_96 6 d mm_96 97 _ _ h).trans rfl

set_option maxRecDepth 100000 in
set_option maxHeartbeats 4000000 in
theorem q_96_106 (xs : List Int) (d : Nat) (v0 : Int) (v1 : Int) (h : aH) : ev xs d mm_96 106 [some (.inr (.inr v0)), some (.inr (.inr v1))] [] h =
  bif aok h.1 v0 8 && true then
    bV (cl xs d 102 [.inr (.inr v0), .inr (.inr v1), .inl 2] h) (fun h1 =>
    ev xs d mm_96 159 [some (.inr (.inr v0)), some (.inr (.inr v1))] [] h1)
  else none :=
  (aB gP gX xs stp_96 6 d mm_96 106 _ _ h).trans rfl

set_option maxRecDepth 100000 in
set_option maxHeartbeats 4000000 in
theorem q_96_115 (xs : List Int) (d : Nat) (v0 : Int) (v1 : Int) (h : aH) : ev xs d mm_96 115 [some (.inr (.inr v0)), some (.inr (.inr v1))] [] h =
  bif aok h.1 v0 8 && true then
    bV (cl xs d 103 [.inr (.inr v0), .inr (.inr v1)] h) (fun h1 =>
    ev xs d mm_96 159 [some (.inr (.inr v0)), some (.inr (.inr v1))] [] h1)
  else none :=
  (aB gP gX xs stp_96 5 d mm_96 115 _ _ h).trans rfl

set_option maxRecDepth 100000 in
set_option maxHeartbeats 4000000 in
theorem q_96_123 (xs : List Int) (d : Nat) (v0 : Int) (v1 : Int) (h : aH) : ev xs d mm_96 123 [some (.inr (.inr v0)), some (.inr (.inr v1))] [] h =
  bif aok h.1 v0 8 && true then
    bV (cl xs d 104 [.inr (.inr v0), .inr (.inr v1)] h) (fun h1 =>
    ev xs d mm_96 159 [some (.inr (.inr v0)), some (.inr (.inr v1))] [] h1)
  else none :=
  (aB gP gX xs stp_96 5 d mm_96 123 _ _ h).trans rfl

set_option maxRecDepth 100000 in
set_option maxHeartbeats 4000000 in
theorem q_96_131 (xs : List Int) (d : Nat) (v0 : Int) (v1 : Int) (h : aH) : ev xs d mm_96 131 [some (.inr (.inr v0)), some (.inr (.inr v1))] [] h =
  bif aok h.1 v0 8 && true then
    bV (cl xs d 105 [.inr (.inr v0), .inr (.inr v1)] h) (fun h1 =>
    ev xs d mm_96 159 [some (.inr (.inr v0)), some (.inr (.inr v1))] [] h1)
  else none :=
  (aB gP gX xs stp_96 5 d mm_96 131 _ _ h).trans rfl

set_option maxRecDepth 100000 in
set_option maxHeartbeats 4000000 in
theorem q_96_139 (xs : List Int) (d : Nat) (v0 : Int) (v1 : Int) (h : aH) : ev xs d mm_96 139 [some (.inr (.inr v0)), some (.inr (.inr v1))] [] h =
  bif aok h.1 v0 8 && true then
    bV (cl xs d 107 [.inr (.inr v0), .inr (.inr v1)] h) (fun h1 =>
    ev xs d mm_96 159 [some (.inr (.inr v0)), some (.inr (.inr v1))] [] h1)
  else none :=
  (aB gP gX xs stp_96 5 d mm_96 139 _ _ h).trans rfl

set_option maxRecDepth 100000 in
set_option maxHeartbeats 4000000 in
theorem q_96_147 (xs : List Int) (d : Nat) (v0 : Int) (v1 : Int) (h : aH) : ev xs d mm_96 147 [some (.inr (.inr v0)), some (.inr (.inr v1))] [] h =
  bif aok h.1 v0 8 && true then
    bI (cl xs d 95 [.inr (.inr v0), .inl 0, .inl 9999] h) (fun x2 h1 =>
    bif aok h1.1 v1 9 then
      ev xs d mm_96 159 [some (.inr (.inr v0)), some (.inr (.inr v1))] [] (h1.1, aup h1.2 v1.toNat 15 x2)
    else none)
  else none :=
  (aB gP gX xs stp_96 7 d mm_96 147 _ _ h).trans rfl

set_option maxRecDepth 100000 in
set_option maxHeartbeats 4000000 in
theorem q_96_159 (xs : List Int) (d : Nat) (v0 : Int) (v1 : Int) (h : aH) : ev xs d mm_96 159 [some (.inr (.inr v0)), some (.inr (.inr v1))] [] h =
  bif aok h.1 v0 8 then
    bif aok h.1 v0 8 then
      some (none, (h.1, aup h.2 v0.toNat 3 (w32 ((h.2 v0.toNat 3) + 1))))
    else none
  else none :=
  (aB gP gX xs stp_96 8 d mm_96 159 _ _ h).trans rfl

def stp_97 : List Nat := [0, 35, 47, 117]
set_option maxRecDepth 100000 in
set_option maxHeartbeats 4000000 in
theorem q_97_0 (xs : List Int) (d : Nat) (v0 : Int) (v1 : Int) (h : aH) : ev xs d mm_97 0 [some (.inr (.inr v0)), some (.inr (.inr v1)), none, none, none, none, none, none] [] h =
  bif aok h.1 v0 8 && true then
    bJ (cl xs d 94 [.inr (.inr v0)] h) (fun x2 h1 =>
    bI (cl xs d 121 [.inr (.inl x2)] h1) (fun x4 h3 =>
      bif decide (2 ≤ x4) then
        bif aok h3.1 v1 9 && true then
          bI (cl xs d 110 [.inr (.inr v1), .inr (.inl x2)] h3) (fun x6 h5 =>
          bif decide (x6 = (-1)) then
            ev xs d mm_97 35 [some (.inr (.inr v0)), some (.inr (.inr v1)), some (.inr (.inl x2)), none, none, none, none, none] [] h5
          else
            bif aok h5.1 v0 8 && true then
              bV (cl xs d 92 [.inr (.inr v0), .inl 3] h5) (fun h7 =>
              ev xs d mm_97 35 [some (.inr (.inr v0)), some (.inr (.inr v1)), some (.inr (.inl x2)), none, none, none, none, none] [] h7)
            else none)
        else none
      else
        bif aok h3.1 v0 8 && true then
          bV (cl xs d 92 [.inr (.inr v0), .inl 5] h3) (fun h8 =>
          ev xs d mm_97 35 [some (.inr (.inr v0)), some (.inr (.inr v1)), some (.inr (.inl x2)), none, none, none, none, none] [] h8)
        else none))
  else none :=
  (aB gP gX xs stp_97 16 d mm_97 0 _ _ h).trans rfl

set_option maxRecDepth 100000 in
set_option maxHeartbeats 4000000 in
theorem q_97_35 (xs : List Int) (d : Nat) (v0 : Int) (v1 : Int) (v2 : Int) (u3 : Option aV) (u4 : Option aV) (u5 : Option aV) (u6 : Option aV) (u7 : Option aV) (h : aH) : ev xs d mm_97 35 [some (.inr (.inr v0)), some (.inr (.inr v1)), some (.inr (.inl v2)), u3, u4, u5, u6, u7] [] h =
  bif aok h.1 v0 8 && true then
    bJ (cl xs d 94 [.inr (.inr v0)] h) (fun x2 h1 =>
    ev xs d mm_97 47 [some (.inr (.inr v0)), some (.inr (.inr v1)), some (.inr (.inl v2)), acl u3, some (.inr (.inl x2)), none, some (.inl 0), some (.inl 0)] [] h1)
  else none :=
  (aB gP gX xs stp_97 8 d mm_97 35 _ _ h).trans rfl

set_option maxRecDepth 100000 in
set_option maxHeartbeats 4000000 in
theorem q_97_47 (xs : List Int) (d : Nat) (v0 : Int) (v1 : Int) (v2 : Int) (u3 : Option aV) (v4 : Int) (u5 : Option aV) (v6 : Int) (v7 : Int) (h : aH) : ev xs d mm_97 47 [some (.inr (.inr v0)), some (.inr (.inr v1)), some (.inr (.inl v2)), u3, some (.inr (.inl v4)), u5, some (.inl v6), some (.inl v7)] [] h =
  bI (cl xs d 121 [.inr (.inl v4)] h) (fun x2 h1 =>
    bif decide (x2 ≤ v7) then
      bif aok h1.1 v1 9 then
        bif decide (6 ≤ (h1.2 v1.toNat 0)) then
          ev xs d mm_97 117 [some (.inr (.inr v0)), some (.inr (.inr v1)), some (.inr (.inl v2)), u3, some (.inr (.inl v4)), u5, some (.inl v6), some (.inl v7)] [] h1
        else
          bif aok h1.1 v1 9 then
            bif aok h1.1 v1 9 then
              bif ain h1.1 (h1.2 v1.toNat 1) 101 (h1.2 v1.toNat 0) then
                bif aok h1.1 v1 9 then
                  bif aok h1.1 v1 9 then
                    bif ain h1.1 ((aup h1.2 (h1.2 v1.toNat 1).toNat (h1.2 v1.toNat 0).toNat v2) v1.toNat 2) 100 ((aup h1.2 (h1.2 v1.toNat 1).toNat (h1.2 v1.toNat 0).toNat v2) v1.toNat 0) then
                      bif aok h1.1 v1 9 then
                        bif aok h1.1 v1 9 then
                          ev xs d mm_97 117 [some (.inr (.inr v0)), some (.inr (.inr v1)), some (.inr (.inl v2)), u3, some (.inr (.inl v4)), u5, some (.inl v6), some (.inl v7)] [] (h1.1, aup (aup (aup h1.2 (h1.2 v1.toNat 1).toNat (h1.2 v1.toNat 0).toNat v2) ((aup h1.2 (h1.2 v1.toNat 1).toNat (h1.2 v1.toNat 0).toNat v2) v1.toNat 2).toNat ((aup h1.2 (h1.2 v1.toNat 1).toNat (h1.2 v1.toNat 0).toNat v2) v1.toNat 0).toNat v6) v1.toNat 0 (w32 (((aup (aup h1.2 (h1.2 v1.toNat 1).toNat (h1.2 v1.toNat 0).toNat v2) ((aup h1.2 (h1.2 v1.toNat 1).toNat (h1.2 v1.toNat 0).toNat v2) v1.toNat 2).toNat ((aup h1.2 (h1.2 v1.toNat 1).toNat (h1.2 v1.toNat 0).toNat v2) v1.toNat 0).toNat v6) v1.toNat 0) + 1)))
                        else none
                      else none
                    else none
                  else none
                else none
              else none
            else none
          else none
      else none
    else
      bI (cl xs d 122 [.inr (.inl v4), .inl v7] h1) (fun x4 h3 =>
        ev xs d mm_97 47 [some (.inr (.inr v0)), some (.inr (.inr v1)), some (.inr (.inl v2)), u3, some (.inr (.inl v4)), acl u5, some (.inl (oor v6 (oshl 1 x4))), some (.inl (w32 (v7 + 1)))] [] h3)) :=
  (aB gP gX xs stp_97 27 d mm_97 47 _ _ h).trans rfl

set_option maxRecDepth 100000 in
set_option maxHeartbeats 4000000 in
theorem q_97_117 (xs : List Int) (d : Nat) (v0 : Int) (v1 : Int) (v2 : Int) (u3 : Option aV) (v4 : Int) (u5 : Option aV) (v6 : Int) (v7 : Int) (h : aH) : ev xs d mm_97 117 [some (.inr (.inr v0)), some (.inr (.inr v1)), some (.inr (.inl v2)), u3, some (.inr (.inl v4)), u5, some (.inl v6), some (.inl v7)] [] h =
  some (none, h) :=
  (aB gP gX xs stp_97 2 d mm_97 117 _ _ h).trans rfl

def stp_98 : List Nat := [0, 18]
set_option maxRecDepth 100000 in
set_option maxHeartbeats 4000000 in
theorem q_98_0 (xs : List Int) (d : Nat) (v0 : Int) (h : aH) : ev xs d mm_98 0 [some (.inr (.inr v0)), none, none] [] h =
  bif aok h.1 v0 8 && true then
    bJ (cl xs d 94 [.inr (.inr v0)] h) (fun x2 h1 =>
    bI (cl xs d 121 [.inr (.inl x2)] h1) (fun x4 h3 =>
      bif decide (x4 ≤ 1) then
        ev xs d mm_98 18 [some (.inr (.inr v0)), some (.inr (.inl x2)), none] [] h3
      else
        bif aok h3.1 v0 8 && true then
          bV (cl xs d 92 [.inr (.inr v0), .inl 5] h3) (fun h5 =>
          ev xs d mm_98 18 [some (.inr (.inr v0)), some (.inr (.inl x2)), none] [] h5)
        else none))
  else none :=
  (aB gP gX xs stp_98 11 d mm_98 0 _ _ h).trans rfl

set_option maxRecDepth 100000 in
set_option maxHeartbeats 4000000 in
theorem q_98_18 (xs : List Int) (d : Nat) (v0 : Int) (v1 : Int) (u2 : Option aV) (h : aH) : ev xs d mm_98 18 [some (.inr (.inr v0)), some (.inr (.inl v1)), u2] [] h =
  bI (cl xs d 122 [.inr (.inl v1), .inl 0] h) (fun x2 h1 =>
    some (some (.inl x2), h1)) :=
  (aB gP gX xs stp_98 5 d mm_98 18 _ _ h).trans rfl

def stp_99 : List Nat := [0]
set_option maxRecDepth 100000 in
set_option maxHeartbeats 4000000 in
theorem q_99_0 (xs : List Int) (d : Nat) (v0 : Int) (v1 : Int) (h : aH) : ev xs d mm_99 0 [some (.inr (.inr v0)), some (.inr (.inr v1)), none, none, none, none] [] h =
  bif aok h.1 v0 8 && true then
    bI (cl xs d 98 [.inr (.inr v0)] h) (fun x2 h1 =>
    bif aok h1.1 v0 8 then
      bif aok h1.1 v0 8 then
        bif aok h1.1 v0 8 && true then
          bI (cl xs d 100 [.inr (.inr v0)] (h1.1, aup h1.2 v0.toNat 3 (w32 ((h1.2 v0.toNat 3) + 1)))) (fun x4 h3 =>
          bif aok h3.1 v0 8 && true then
            bI (cl xs d 101 [.inr (.inr v0), .inr (.inr v1), .inl 132] h3) (fun x6 h5 =>
            bif aok h5.1 v0 8 && true then
              bI (cl xs d 101 [.inr (.inr v0), .inr (.inr v1), .inl 133] h5) (fun x8 h7 =>
              bif aok h7.1 v1 9 then
                bif aok h7.1 (h7.2 v1.toNat 3) 7 && true then
                  bV (cl xs d 85 [.inr (.inr (h7.2 v1.toNat 3)), .inl x2, .inl x4, .inl x6, .inl x8] h7) (fun h9 =>
                  some (none, h9))
                else none
              else none)
            else none)
          else none)
        else none
      else none
    else none)
  else none :=
  (aB gP gX xs stp_99 31 d mm_99 0 _ _ h).trans rfl

def stp_100 : List Nat := [0]
set_option maxRecDepth 100000 in
set_option maxHeartbeats 4000000 in
theorem q_100_0 (xs : List Int) (d : Nat) (v0 : Int) (h : aH) : ev xs d mm_100 0 [some (.inr (.inr v0))] [] h =
  bif aok h.1 v0 8 && true then
    bI (cl xs d 91 [.inr (.inr v0)] h) (fun x2 h1 =>
    bif decide (¬ x2 = 131) then
      bif aok h1.1 v0 8 && true then
        bI (cl xs d 98 [.inr (.inr v0)] h1) (fun x4 h3 =>
        some (some (.inl x4), h3))
      else none
    else
      bif aok h1.1 v0 8 then
        bif aok h1.1 v0 8 then
          some (some (.inl 0), (h1.1, aup h1.2 v0.toNat 3 (w32 ((h1.2 v0.toNat 3) + 1))))
        else none
      else none)
  else none :=
  (aB gP gX xs stp_100 13 d mm_100 0 _ _ h).trans rfl

def stp_101 : List Nat := [0, 72]
set_option maxRecDepth 100000 in
set_option maxHeartbeats 4000000 in
theorem q_101_0 (xs : List Int) (d : Nat) (v0 : Int) (v1 : Int) (v2 : Int) (h : aH) : ev xs d mm_101 0 [some (.inr (.inr v0)), some (.inr (.inr v1)), some (.inl v2), none, none, none] [] h =
  bif aok h.1 v0 8 && true then
    bI (cl xs d 91 [.inr (.inr v0)] h) (fun x2 h1 =>
    bif decide (x2 = v2) then
      bif aok h1.1 v0 8 then
        bif aok h1.1 v0 8 then
          bif aok h1.1 v0 8 && true then
            bJ (cl xs d 94 [.inr (.inr v0)] (h1.1, aup h1.2 v0.toNat 3 (w32 ((h1.2 v0.toNat 3) + 1)))) (fun x4 h3 =>
            bif aok h3.1 v0 8 && true then
              bI (cl xs d 90 [.inr (.inr v0)] h3) (fun x6 h5 =>
              bif decide (¬ x6 = 142) then
                bI (cl xs d 121 [.inr (.inl x4)] h5) (fun x8 h7 =>
                  bif decide (¬ x8 = 1) then
                    bif aok h7.1 v1 9 && true then
                      bI (cl xs d 110 [.inr (.inr v1), .inr (.inl x4)] h7) (fun x10 h9 =>
                      bif decide (x10 < 0) then
                        ev xs d mm_101 72 [some (.inr (.inr v0)), some (.inr (.inr v1)), some (.inl v2), some (.inr (.inl x4)), none, some (.inl x10)] [] h9
                      else
                        bif decide (x10 < 6) then
                          bif aok h9.1 v1 9 then
                            bif ain h9.1 (h9.2 v1.toNat 2) 100 x10 then
                              some (some (.inl (h9.2 (h9.2 v1.toNat 2).toNat x10.toNat)), h9)
                            else none
                          else none
                        else
                          ev xs d mm_101 72 [some (.inr (.inr v0)), some (.inr (.inr v1)), some (.inl v2), some (.inr (.inl x4)), none, some (.inl x10)] [] h9)
                    else none
                  else
                    bI (cl xs d 122 [.inr (.inl x4), .inl 0] h7) (fun x12 h11 =>
                      some (some (.inl (oshl 1 x12)), h11)))
              else
                some (some (.inl 1), h5))
            else none)
          else none
        else none
      else none
    else
      some (some (.inl (-1)), h1))
  else none :=
  (aB gP gX xs stp_101 36 d mm_101 0 _ _ h).trans rfl

set_option maxRecDepth 100000 in
set_option maxHeartbeats 4000000 in
theorem q_101_72 (xs : List Int) (d : Nat) (v0 : Int) (v1 : Int) (v2 : Int) (v3 : Int) (u4 : Option aV) (v5 : Int) (h : aH) : ev xs d mm_101 72 [some (.inr (.inr v0)), some (.inr (.inr v1)), some (.inl v2), some (.inr (.inl v3)), u4, some (.inl v5)] [] h =
  bif aok h.1 v0 8 && true then
    bV (cl xs d 92 [.inr (.inr v0), .inl 4] h) (fun h1 =>
    some (some (.inl 0), h1))
  else none :=
  (aB gP gX xs stp_101 6 d mm_101 72 _ _ h).trans rfl

def stp_102 : List Nat := [0, 23]
set_option maxRecDepth 100000 in
set_option maxHeartbeats 4000000 in
theorem q_102_0 (xs : List Int) (d : Nat) (v0 : Int) (v1 : Int) (v2 : Int) (h : aH) : ev xs d mm_102 0 [some (.inr (.inr v0)), some (.inr (.inr v1)), some (.inl v2), none, none, none] [] h =
  bif aok h.1 v0 8 && true then
    bJ (cl xs d 94 [.inr (.inr v0)] h) (fun x2 h1 =>
    bif aok h1.1 v1 9 then
      bif aok h1.1 (h1.2 v1.toNat 4) 3 && true then
        bI (cl xs d 33 [.inr (.inr (h1.2 v1.toNat 4)), .inl v2, .inr (.inl x2)] h1) (fun x4 h3 =>
        bif decide (x4 = (-1)) then
          ev xs d mm_102 23 [some (.inr (.inr v0)), some (.inr (.inr v1)), some (.inl v2), some (.inr (.inl x2)), none, none] [] h3
        else
          bif aok h3.1 v0 8 && true then
            bV (cl xs d 92 [.inr (.inr v0), .inl 3] h3) (fun h5 =>
            ev xs d mm_102 23 [some (.inr (.inr v0)), some (.inr (.inr v1)), some (.inl v2), some (.inr (.inl x2)), none, none] [] h5)
          else none)
      else none
    else none)
  else none :=
  (aB gP gX xs stp_102 14 d mm_102 0 _ _ h).trans rfl

set_option maxRecDepth 100000 in
set_option maxHeartbeats 4000000 in
theorem q_102_23 (xs : List Int) (d : Nat) (v0 : Int) (v1 : Int) (v2 : Int) (v3 : Int) (u4 : Option aV) (u5 : Option aV) (h : aH) : ev xs d mm_102 23 [some (.inr (.inr v0)), some (.inr (.inr v1)), some (.inl v2), some (.inr (.inl v3)), u4, u5] [] h =
  bif aok h.1 v0 8 && true then
    bI (cl xs d 95 [.inr (.inr v0), .inl 1, .inl 9] h) (fun x2 h1 =>
    bif aok h1.1 v1 9 then
      bif aok h1.1 (h1.2 v1.toNat 4) 3 && true then
        bV (cl xs d 32 [.inr (.inr (h1.2 v1.toNat 4)), .inl v2, .inr (.inl v3), .inl x2] h1) (fun h3 =>
        some (none, h3))
      else none
    else none)
  else none :=
  (aB gP gX xs stp_102 13 d mm_102 23 _ _ h).trans rfl

def stp_103 : List Nat := [0, 34]
set_option maxRecDepth 100000 in
set_option maxHeartbeats 4000000 in
theorem q_103_0 (xs : List Int) (d : Nat) (v0 : Int) (v1 : Int) (h : aH) : ev xs d mm_103 0 [some (.inr (.inr v0)), some (.inr (.inr v1)), none, none] [] h =
  bif aok h.1 v0 8 && true then
    bJ (cl xs d 94 [.inr (.inr v0)] h) (fun x2 h1 =>
    bif aok h1.1 v1 9 then
      bif decide (10 ≤ (h1.2 v1.toNat 5)) then
        ev xs d mm_103 34 [some (.inr (.inr v0)), some (.inr (.inr v1)), some (.inr (.inl x2)), none] [] h1
      else
        bif aok h1.1 v1 9 then
          bif aok h1.1 v1 9 then
            bif ain h1.1 (h1.2 v1.toNat 6) 101 (h1.2 v1.toNat 5) then
              bif aok h1.1 v1 9 then
                bif aok h1.1 v1 9 then
                  ev xs d mm_103 34 [some (.inr (.inr v0)), some (.inr (.inr v1)), some (.inr (.inl x2)), none] [] (h1.1, aup (aup h1.2 (h1.2 v1.toNat 6).toNat (h1.2 v1.toNat 5).toNat x2) v1.toNat 5 (w32 (((aup h1.2 (h1.2 v1.toNat 6).toNat (h1.2 v1.toNat 5).toNat x2) v1.toNat 5) + 1)))
                else none
              else none
            else none
          else none
        else none
    else none)
  else none :=
  (aB gP gX xs stp_103 20 d mm_103 0 _ _ h).trans rfl

set_option maxRecDepth 100000 in
set_option maxHeartbeats 4000000 in
theorem q_103_34 (xs : List Int) (d : Nat) (v0 : Int) (v1 : Int) (v2 : Int) (u3 : Option aV) (h : aH) : ev xs d mm_103 34 [some (.inr (.inr v0)), some (.inr (.inr v1)), some (.inr (.inl v2)), u3] [] h =
  some (none, h) :=
  (aB gP gX xs stp_103 2 d mm_103 34 _ _ h).trans rfl

def stp_104 : List Nat := [0, 27, 70, 80]
set_option maxRecDepth 100000 in
set_option maxHeartbeats 4000000 in
theorem q_104_0 (xs : List Int) (d : Nat) (v0 : Int) (v1 : Int) (h : aH) : ev xs d mm_104 0 [some (.inr (.inr v0)), some (.inr (.inr v1)), none, none, none, none, none, none] [] h =
  bif aok h.1 v0 8 && true then
    bJ (cl xs d 94 [.inr (.inr v0)] h) (fun x2 h1 =>
    bif aok h1.1 v0 8 && true then
      bJ (cl xs d 94 [.inr (.inr v0)] h1) (fun x4 h3 =>
      bif aok h3.1 v0 8 && true then
        bI (cl xs d 91 [.inr (.inr v0)] h3) (fun x6 h5 =>
        bif decide (¬ x6 = 2) then
          ev xs d mm_104 27 [some (.inr (.inr v0)), some (.inr (.inr v1)), some (.inr (.inl x2)), none, some (.inr (.inl x4)), none, none, none] [.inr (.inl ((((0 : Fin 2) : Nat) : Nat) : Int))] h5
        else
          bif aok h5.1 v0 8 && true then
            bJ (cl xs d 94 [.inr (.inr v0)] h5) (fun x8 h7 =>
            ev xs d mm_104 27 [some (.inr (.inr v0)), some (.inr (.inr v1)), some (.inr (.inl x2)), none, some (.inr (.inl x4)), none, none, none] [.inr (.inl x8)] h7)
          else none)
      else none)
    else none)
  else none :=
  (aB gP gX xs stp_104 14 d mm_104 0 _ _ h).trans rfl

set_option maxRecDepth 100000 in
set_option maxHeartbeats 4000000 in
theorem q_104_27 (xs : List Int) (d : Nat) (v0 : Int) (v1 : Int) (v2 : Int) (u3 : Option aV) (v4 : Int) (u5 : Option aV) (u6 : Option aV) (u7 : Option aV) (s0 : Int) (h : aH) : ev xs d mm_104 27 [some (.inr (.inr v0)), some (.inr (.inr v1)), some (.inr (.inl v2)), u3, some (.inr (.inl v4)), u5, u6, u7] [.inr (.inl s0)] h =
  bif aok h.1 v1 9 then
    bif decide (8 ≤ (h.2 v1.toNat 7)) then
      ev xs d mm_104 80 [some (.inr (.inr v0)), some (.inr (.inr v1)), some (.inr (.inl v2)), u3, some (.inr (.inl v4)), acl u5, some (.inr (.inl s0)), none] [] h
    else
      bif aok h.1 v1 9 then
        bif aok h.1 v1 9 then
          bif ain h.1 (h.2 v1.toNat 8) 101 (h.2 v1.toNat 7) then
            bif aok h.1 v1 9 then
              bif aok h.1 v1 9 then
                bif ain h.1 ((aup h.2 (h.2 v1.toNat 8).toNat (h.2 v1.toNat 7).toNat v2) v1.toNat 9) 101 ((aup h.2 (h.2 v1.toNat 8).toNat (h.2 v1.toNat 7).toNat v2) v1.toNat 7) then
                  bif aok h.1 v1 9 then
                    bif aok h.1 v1 9 then
                      bif ain h.1 ((aup (aup h.2 (h.2 v1.toNat 8).toNat (h.2 v1.toNat 7).toNat v2) ((aup h.2 (h.2 v1.toNat 8).toNat (h.2 v1.toNat 7).toNat v2) v1.toNat 9).toNat ((aup h.2 (h.2 v1.toNat 8).toNat (h.2 v1.toNat 7).toNat v2) v1.toNat 7).toNat v4) v1.toNat 10) 101 ((aup (aup h.2 (h.2 v1.toNat 8).toNat (h.2 v1.toNat 7).toNat v2) ((aup h.2 (h.2 v1.toNat 8).toNat (h.2 v1.toNat 7).toNat v2) v1.toNat 9).toNat ((aup h.2 (h.2 v1.toNat 8).toNat (h.2 v1.toNat 7).toNat v2) v1.toNat 7).toNat v4) v1.toNat 7) then
                        ev xs d mm_104 70 [some (.inr (.inr v0)), some (.inr (.inr v1)), some (.inr (.inl v2)), u3, some (.inr (.inl v4)), acl u5, some (.inr (.inl s0)), none] [] (h.1, aup (aup (aup h.2 (h.2 v1.toNat 8).toNat (h.2 v1.toNat 7).toNat v2) ((aup h.2 (h.2 v1.toNat 8).toNat (h.2 v1.toNat 7).toNat v2) v1.toNat 9).toNat ((aup h.2 (h.2 v1.toNat 8).toNat (h.2 v1.toNat 7).toNat v2) v1.toNat 7).toNat v4) ((aup (aup h.2 (h.2 v1.toNat 8).toNat (h.2 v1.toNat 7).toNat v2) ((aup h.2 (h.2 v1.toNat 8).toNat (h.2 v1.toNat 7).toNat v2) v1.toNat 9).toNat ((aup h.2 (h.2 v1.toNat 8).toNat (h.2 v1.toNat 7).toNat v2) v1.toNat 7).toNat v4) v1.toNat 10).toNat ((aup (aup h.2 (h.2 v1.toNat 8).toNat (h.2 v1.toNat 7).toNat v2) ((aup h.2 (h.2 v1.toNat 8).toNat (h.2 v1.toNat 7).toNat v2) v1.toNat 9).toNat ((aup h.2 (h.2 v1.toNat 8).toNat (h.2 v1.toNat 7).toNat v2) v1.toNat 7).toNat v4) v1.toNat 7).toNat s0)
                      else none
                    else none
                  else none
                else none
              else none
            else none
          else none
        else none
      else none
  else none :=
  (aB gP gX xs stp_104 24 d mm_104 27 _ _ h).trans rfl

set_option maxRecDepth 100000 in
set_option maxHeartbeats 4000000 in
theorem q_104_70 (xs : List Int) (d : Nat) (v0 : Int) (v1 : Int) (v2 : Int) (u3 : Option aV) (v4 : Int) (u5 : Option aV) (v6 : Int) (u7 : Option aV) (h : aH) : ev xs d mm_104 70 [some (.inr (.inr v0)), some (.inr (.inr v1)), some (.inr (.inl v2)), u3, some (.inr (.inl v4)), u5, some (.inr (.inl v6)), u7] [] h =
  bif aok h.1 v1 9 then
    bif aok h.1 v1 9 then
      ev xs d mm_104 80 [some (.inr (.inr v0)), some (.inr (.inr v1)), some (.inr (.inl v2)), u3, some (.inr (.inl v4)), u5, some (.inr (.inl v6)), u7] [] (h.1, aup h.2 v1.toNat 7 (w32 ((h.2 v1.toNat 7) + 1)))
    else none
  else none :=
  (aB gP gX xs stp_104 7 d mm_104 70 _ _ h).trans rfl

set_option maxRecDepth 100000 in
set_option maxHeartbeats 4000000 in
theorem q_104_80 (xs : List Int) (d : Nat) (v0 : Int) (v1 : Int) (v2 : Int) (u3 : Option aV) (v4 : Int) (u5 : Option aV) (v6 : Int) (u7 : Option aV) (h : aH) : ev xs d mm_104 80 [some (.inr (.inr v0)), some (.inr (.inr v1)), some (.inr (.inl v2)), u3, some (.inr (.inl v4)), u5, some (.inr (.inl v6)), u7] [] h =
  some (none, h) :=
  (aB gP gX xs stp_104 2 d mm_104 80 _ _ h).trans rfl

def stp_105 : List Nat := [0, 40, 97, 103]
set_option maxRecDepth 100000 in
set_option maxHeartbeats 4000000 in
theorem q_105_0 (xs : List Int) (d : Nat) (v0 : Int) (v1 : Int) (h : aH) : ev xs d mm_105 0 [some (.inr (.inr v0)), some (.inr (.inr v1)), none, none, none, none, none] [] h =
  bif aok h.1 v0 8 && true then
    bI (cl xs d 95 [.inr (.inr v0), .inl 0, .inl 999] h) (fun x2 h1 =>
    bif aok h1.1 v1 9 then
      bif decide ((h1.2 v1.toNat 11) < 5) then
        bif aok h1.1 v1 9 then
          bif ain h1.1 (h1.2 v1.toNat 12) 100 (h1.2 v1.toNat 11) then
            bif aok h1.1 v1 9 then
              bif aok h1.1 v1 9 then
                ev xs d mm_105 40 [some (.inr (.inr v0)), some (.inr (.inr v1)), some (.inl x2), some (.inl (h1.2 v1.toNat 11)), some (.inl 0), none, none] [] (h1.1, aup (aup h1.2 (h1.2 v1.toNat 12).toNat (h1.2 v1.toNat 11).toNat x2) v1.toNat 11 (w32 (((aup h1.2 (h1.2 v1.toNat 12).toNat (h1.2 v1.toNat 11).toNat x2) v1.toNat 11) + 1)))
              else none
            else none
          else none
        else none
      else
        some (none, h1)
    else none)
  else none :=
  (aB gP gX xs stp_105 25 d mm_105 0 _ _ h).trans rfl

set_option maxRecDepth 100000 in
set_option maxHeartbeats 4000000 in
theorem q_105_40 (xs : List Int) (d : Nat) (v0 : Int) (v1 : Int) (v2 : Int) (v3 : Int) (v4 : Int) (u5 : Option aV) (u6 : Option aV) (h : aH) : ev xs d mm_105 40 [some (.inr (.inr v0)), some (.inr (.inr v1)), some (.inl v2), some (.inl v3), some (.inl v4), u5, u6] [] h =
  bif decide (4 ≤ v4) then
    ev xs d mm_105 103 [some (.inr (.inr v0)), some (.inr (.inr v1)), some (.inl v2), some (.inl v3), some (.inl v4), u5, u6] [] h
  else
    bif aok h.1 v0 8 && true then
      bI (cl xs d 91 [.inr (.inr v0)] h) (fun x2 h1 =>
      bif decide (¬ x2 = 2) then
        ev xs d mm_105 103 [some (.inr (.inr v0)), some (.inr (.inr v1)), some (.inl v2), some (.inl v3), some (.inl v4), u5, u6] [] h1
      else
        bif aok h1.1 v0 8 && true then
          bI (cl xs d 106 [.inr (.inr v0), .inr (.inr v1), .inl v3] h1) (fun x4 h3 =>
          bif aok h3.1 v0 8 && true then
            bI (cl xs d 95 [.inr (.inr v0), .inl 1, .inl 99] h3) (fun x6 h5 =>
            bif decide (x4 < 0) then
              ev xs d mm_105 97 [some (.inr (.inr v0)), some (.inr (.inr v1)), some (.inl v2), some (.inl v3), some (.inl v4), some (.inl x4), some (.inl x6)] [] h5
            else
              bif decide (24 ≤ x4) then
                ev xs d mm_105 97 [some (.inr (.inr v0)), some (.inr (.inr v1)), some (.inl v2), some (.inl v3), some (.inl v4), some (.inl x4), some (.inl x6)] [] h5
              else
                bif aok h5.1 v1 9 then
                  bif ain h5.1 (h5.2 v1.toNat 13) 100 (w32 ((w32 (v3 * 24)) + x4)) then
                    ev xs d mm_105 97 [some (.inr (.inr v0)), some (.inr (.inr v1)), some (.inl v2), some (.inl v3), some (.inl v4), some (.inl x4), some (.inl x6)] [] (h5.1, aup h5.2 (h5.2 v1.toNat 13).toNat (w32 ((w32 (v3 * 24)) + x4)).toNat x6)
                  else none
                else none)
          else none)
        else none)
    else none :=
  (aB gP gX xs stp_105 32 d mm_105 40 _ _ h).trans rfl

set_option maxRecDepth 100000 in
set_option maxHeartbeats 4000000 in
theorem q_105_97 (xs : List Int) (d : Nat) (v0 : Int) (v1 : Int) (v2 : Int) (v3 : Int) (v4 : Int) (v5 : Int) (v6 : Int) (h : aH) : ev xs d mm_105 97 [some (.inr (.inr v0)), some (.inr (.inr v1)), some (.inl v2), some (.inl v3), some (.inl v4), some (.inl v5), some (.inl v6)] [] h =
  ev xs d mm_105 40 [some (.inr (.inr v0)), some (.inr (.inr v1)), some (.inl v2), some (.inl v3), some (.inl (w32 (v4 + 1))), some (.inl v5), some (.inl v6)] [] h :=
  (aB gP gX xs stp_105 3 d mm_105 97 _ _ h).trans rfl

set_option maxRecDepth 100000 in
set_option maxHeartbeats 4000000 in
theorem q_105_103 (xs : List Int) (d : Nat) (v0 : Int) (v1 : Int) (v2 : Int) (v3 : Int) (v4 : Int) (u5 : Option aV) (u6 : Option aV) (h : aH) : ev xs d mm_105 103 [some (.inr (.inr v0)), some (.inr (.inr v1)), some (.inl v2), some (.inl v3), some (.inl v4), u5, u6] [] h =
  some (none, h) :=
  (aB gP gX xs stp_105 2 d mm_105 103 _ _ h).trans rfl

def stp_106 : List Nat := [0, 22, 49]
set_option maxRecDepth 100000 in
set_option maxHeartbeats 4000000 in
theorem q_106_0 (xs : List Int) (d : Nat) (v0 : Int) (v1 : Int) (v2 : Int) (h : aH) : ev xs d mm_106 0 [some (.inr (.inr v0)), some (.inr (.inr v1)), some (.inl v2), none] [] h =
  bif aok h.1 v1 9 then
    bif aok h.1 v0 8 && true then
      bJ (cl xs d 94 [.inr (.inr v0)] h) (fun x2 h1 =>
      bif aok h1.1 (h.2 v1.toNat 4) 3 && true then
        bI (cl xs d 34 [.inr (.inr (h.2 v1.toNat 4)), .inr (.inl x2)] h1) (fun x4 h3 =>
        bif decide (x4 < 0) then
          ev xs d mm_106 22 [some (.inr (.inr v0)), some (.inr (.inr v1)), some (.inl v2), some (.inl x4)] [] h3
        else
          bif decide (x4 < 24) then
            bif aok h3.1 v1 9 then
              bif ain h3.1 (h3.2 v1.toNat 13) 100 (w32 ((w32 (v2 * 24)) + x4)) then
                bif decide ((h3.2 (h3.2 v1.toNat 13).toNat (w32 ((w32 (v2 * 24)) + x4)).toNat) = 0) then
                  ev xs d mm_106 49 [some (.inr (.inr v0)), some (.inr (.inr v1)), some (.inl v2), some (.inl x4)] [] h3
                else
                  bif aok h3.1 v0 8 && true then
                    bV (cl xs d 92 [.inr (.inr v0), .inl 3] h3) (fun h5 =>
                    ev xs d mm_106 49 [some (.inr (.inr v0)), some (.inr (.inr v1)), some (.inl v2), some (.inl x4)] [] h5)
                  else none
              else none
            else none
          else
            ev xs d mm_106 22 [some (.inr (.inr v0)), some (.inr (.inr v1)), some (.inl v2), some (.inl x4)] [] h3)
      else none)
    else none
  else none :=
  (aB gP gX xs stp_106 24 d mm_106 0 _ _ h).trans rfl

set_option maxRecDepth 100000 in
set_option maxHeartbeats 4000000 in
theorem q_106_22 (xs : List Int) (d : Nat) (v0 : Int) (v1 : Int) (v2 : Int) (v3 : Int) (h : aH) : ev xs d mm_106 22 [some (.inr (.inr v0)), some (.inr (.inr v1)), some (.inl v2), some (.inl v3)] [] h =
  bif aok h.1 v0 8 && true then
    bV (cl xs d 92 [.inr (.inr v0), .inl 4] h) (fun h1 =>
    ev xs d mm_106 49 [some (.inr (.inr v0)), some (.inr (.inr v1)), some (.inl v2), some (.inl v3)] [] h1)
  else none :=
  (aB gP gX xs stp_106 5 d mm_106 22 _ _ h).trans rfl

set_option maxRecDepth 100000 in
set_option maxHeartbeats 4000000 in
theorem q_106_49 (xs : List Int) (d : Nat) (v0 : Int) (v1 : Int) (v2 : Int) (v3 : Int) (h : aH) : ev xs d mm_106 49 [some (.inr (.inr v0)), some (.inr (.inr v1)), some (.inl v2), some (.inl v3)] [] h =
  some (some (.inl v3), h) :=
  (aB gP gX xs stp_106 3 d mm_106 49 _ _ h).trans rfl

def stp_107 : List Nat := [0, 19, 74]
set_option maxRecDepth 100000 in
set_option maxHeartbeats 4000000 in
theorem q_107_0 (xs : List Int) (d : Nat) (v0 : Int) (v1 : Int) (h : aH) : ev xs d mm_107 0 [some (.inr (.inr v0)), some (.inr (.inr v1)), none] [] h =
  bif aok h.1 v1 9 then
    bif aok h.1 (h.2 v1.toNat 14) 0 && true then
      bV (cl xs d 1 [.inr (.inr (h.2 v1.toNat 14))] h) (fun h1 =>
      bif aok h1.1 v0 8 then
        bif aok h1.1 v0 8 then
          ev xs d mm_107 19 [some (.inr (.inr v0)), some (.inr (.inr v1)), some (.inl 0)] [] (h1.1, aup h1.2 v0.toNat 3 (w32 ((h1.2 v0.toNat 3) + 1)))
        else none
      else none)
    else none
  else none :=
  (aB gP gX xs stp_107 12 d mm_107 0 _ _ h).trans rfl

set_option maxRecDepth 100000 in
set_option maxHeartbeats 4000000 in
theorem q_107_19 (xs : List Int) (d : Nat) (v0 : Int) (v1 : Int) (v2 : Int) (h : aH) : ev xs d mm_107 19 [some (.inr (.inr v0)), some (.inr (.inr v1)), some (.inl v2)] [] h =
  bif decide (400 ≤ v2) then
    ev xs d mm_107 74 [some (.inr (.inr v0)), some (.inr (.inr v1)), some (.inl v2)] [] h
  else
    bif aok h.1 v0 8 && true then
      bI (cl xs d 91 [.inr (.inr v0)] h) (fun x2 h1 =>
      bif decide (x2 = 59) then
        ev xs d mm_107 74 [some (.inr (.inr v0)), some (.inr (.inr v1)), some (.inl v2)] [] h1
      else
        bif aok h1.1 v0 8 && true then
          bI (cl xs d 91 [.inr (.inr v0)] h1) (fun x4 h3 =>
          bif decide (x4 = 0) then
            ev xs d mm_107 74 [some (.inr (.inr v0)), some (.inr (.inr v1)), some (.inl v2)] [] h3
          else
            bif aok h3.1 v0 8 then
              bif aok h3.1 v0 8 then
                bif aok h3.1 v1 9 then
                  bif aok h3.1 v0 8 && true then
                    bI (cl xs d 90 [.inr (.inr v0)] (h3.1, aup h3.2 v0.toNat 3 (w32 ((h3.2 v0.toNat 3) + 1)))) (fun x6 h5 =>
                    bif aok h5.1 v0 8 && true then
                      bJ (cl xs d 93 [.inr (.inr v0)] h5) (fun x8 h7 =>
                      bif aok h7.1 ((aup h3.2 v0.toNat 3 (w32 ((h3.2 v0.toNat 3) + 1))) v1.toNat 14) 0 && true then
                        bV (cl xs d 2 [.inr (.inr ((aup h3.2 v0.toNat 3 (w32 ((h3.2 v0.toNat 3) + 1))) v1.toNat 14)), .inl x6, .inl (ol2i x8)] h7) (fun h9 =>
                        ev xs d mm_107 19 [some (.inr (.inr v0)), some (.inr (.inr v1)), some (.inl (w32 (v2 + 1)))] [] h9)
                      else none)
                    else none)
                  else none
                else none
              else none
            else none)
        else none)
    else none :=
  (aB gP gX xs stp_107 27 d mm_107 19 _ _ h).trans rfl

set_option maxRecDepth 100000 in
set_option maxHeartbeats 4000000 in
theorem q_107_74 (xs : List Int) (d : Nat) (v0 : Int) (v1 : Int) (v2 : Int) (h : aH) : ev xs d mm_107 74 [some (.inr (.inr v0)), some (.inr (.inr v1)), some (.inl v2)] [] h =
  some (none, h) :=
  (aB gP gX xs stp_107 2 d mm_107 74 _ _ h).trans rfl

def stp_108 : List Nat := [0, 14, 22, 29, 40, 57, 70, 78, 86, 98, 106, 113]
set_option maxRecDepth 100000 in
set_option maxHeartbeats 4000000 in
theorem q_108_0 (xs : List Int) (d : Nat) (v0 : Int) (h : aH) : ev xs d mm_108 0 [some (.inr (.inr v0))] [] h =
  bif decide (0 ≤ v0) && true then
    bif aok h.1 v0 9 then
      ev xs d mm_108 14 [some (.inr (.inr v0))] [.inr (.inr (h.1.1 : Int)), .inr (.inr v0)] ((h.1.1 + 1, h.1.2.1 + (6 : Int).toNat, fun q => if q = h.1.1 then (101, (6 : Int).toNat) else h.1.2.2 q), fun q j => if q = h.1.1 then 0 else (aup h.2 v0.toNat 0 0) q j)
    else none
  else none :=
  (aB gP gX xs stp_108 9 d mm_108 0 _ _ h).trans rfl

set_option maxRecDepth 100000 in
set_option maxHeartbeats 4000000 in
theorem q_108_14 (xs : List Int) (d : Nat) (v0 : Int) (s0 : Int) (s1 : Int) (h : aH) : ev xs d mm_108 14 [some (.inr (.inr v0))] [.inr (.inr s1), .inr (.inr s0)] h =
  bif aok h.1 s0 9 then
    ev xs d mm_108 22 [some (.inr (.inr v0))] [.inr (.inr (h.1.1 : Int)), .inr (.inr v0)] ((h.1.1 + 1, h.1.2.1 + (6 : Int).toNat, fun q => if q = h.1.1 then (100, (6 : Int).toNat) else h.1.2.2 q), fun q j => if q = h.1.1 then 0 else (aup h.2 s0.toNat 1 s1) q j)
  else none :=
  (aB gP gX xs stp_108 5 d mm_108 14 _ _ h).trans rfl

set_option maxRecDepth 100000 in
set_option maxHeartbeats 4000000 in
theorem q_108_22 (xs : List Int) (d : Nat) (v0 : Int) (s0 : Int) (s1 : Int) (h : aH) : ev xs d mm_108 22 [some (.inr (.inr v0))] [.inr (.inr s1), .inr (.inr s0)] h =
  bif aok h.1 s0 9 then
    ev xs d mm_108 29 [some (.inr (.inr v0))] [.inr (.inr (h.1.1 : Int)), .inr (.inr v0)] ((h.1.1 + 1, h.1.2.1 + 5, fun q => if q = h.1.1 then (7, 5) else h.1.2.2 q), fun q j => if q = h.1.1 then adf 7 j else (aup h.2 s0.toNat 2 s1) q j)
  else none :=
  (aB gP gX xs stp_108 4 d mm_108 22 _ _ h).trans rfl

set_option maxRecDepth 100000 in
set_option maxHeartbeats 4000000 in
theorem q_108_29 (xs : List Int) (d : Nat) (v0 : Int) (s0 : Int) (s1 : Int) (h : aH) : ev xs d mm_108 29 [some (.inr (.inr v0))] [.inr (.inr s1), .inr (.inr s0)] h =
  bif decide (0 ≤ s1) && true then
    bV (cl xs d 84 [.inr (.inr s1)] h) (fun h1 =>
    bif aok h1.1 s0 9 then
      ev xs d mm_108 40 [some (.inr (.inr v0))] [.inr (.inr (h1.1.1 : Int)), .inr (.inr v0)] ((h1.1.1 + 1, h1.1.2.1 + 3, fun q => if q = h1.1.1 then (3, 3) else h1.1.2.2 q), fun q j => if q = h1.1.1 then adf 3 j else (aup h1.2 s0.toNat 3 s1) q j)
    else none)
  else none :=
  (aB gP gX xs stp_108 6 d mm_108 29 _ _ h).trans rfl

set_option maxRecDepth 100000 in
set_option maxHeartbeats 4000000 in
theorem q_108_40 (xs : List Int) (d : Nat) (v0 : Int) (s0 : Int) (s1 : Int) (h : aH) : ev xs d mm_108 40 [some (.inr (.inr v0))] [.inr (.inr s1), .inr (.inr s0)] h =
  bif decide (0 ≤ s1) && true then
    bV (cl xs d 29 [.inr (.inr s1)] h) (fun h1 =>
    bif aok h1.1 s0 9 then
      bif aok h1.1 v0 9 then
        ev xs d mm_108 57 [some (.inr (.inr v0))] [.inr (.inr (h1.1.1 : Int)), .inr (.inr v0)] ((h1.1.1 + 1, h1.1.2.1 + (10 : Int).toNat, fun q => if q = h1.1.1 then (101, (10 : Int).toNat) else h1.1.2.2 q), fun q j => if q = h1.1.1 then 0 else (aup (aup h1.2 s0.toNat 4 s1) v0.toNat 5 0) q j)
      else none
    else none)
  else none :=
  (aB gP gX xs stp_108 10 d mm_108 40 _ _ h).trans rfl

set_option maxRecDepth 100000 in
set_option maxHeartbeats 4000000 in
theorem q_108_57 (xs : List Int) (d : Nat) (v0 : Int) (s0 : Int) (s1 : Int) (h : aH) : ev xs d mm_108 57 [some (.inr (.inr v0))] [.inr (.inr s1), .inr (.inr s0)] h =
  bif aok h.1 s0 9 then
    bif aok h.1 v0 9 then
      ev xs d mm_108 70 [some (.inr (.inr v0))] [.inr (.inr (h.1.1 : Int)), .inr (.inr v0)] ((h.1.1 + 1, h.1.2.1 + (8 : Int).toNat, fun q => if q = h.1.1 then (101, (8 : Int).toNat) else h.1.2.2 q), fun q j => if q = h.1.1 then 0 else (aup (aup h.2 s0.toNat 6 s1) v0.toNat 7 0) q j)
    else none
  else none :=
  (aB gP gX xs stp_108 8 d mm_108 57 _ _ h).trans rfl

set_option maxRecDepth 100000 in
set_option maxHeartbeats 4000000 in
theorem q_108_70 (xs : List Int) (d : Nat) (v0 : Int) (s0 : Int) (s1 : Int) (h : aH) : ev xs d mm_108 70 [some (.inr (.inr v0))] [.inr (.inr s1), .inr (.inr s0)] h =
  bif aok h.1 s0 9 then
    ev xs d mm_108 78 [some (.inr (.inr v0))] [.inr (.inr (h.1.1 : Int)), .inr (.inr v0)] ((h.1.1 + 1, h.1.2.1 + (8 : Int).toNat, fun q => if q = h.1.1 then (101, (8 : Int).toNat) else h.1.2.2 q), fun q j => if q = h.1.1 then 0 else (aup h.2 s0.toNat 8 s1) q j)
  else none :=
  (aB gP gX xs stp_108 5 d mm_108 70 _ _ h).trans rfl

set_option maxRecDepth 100000 in
set_option maxHeartbeats 4000000 in
theorem q_108_78 (xs : List Int) (d : Nat) (v0 : Int) (s0 : Int) (s1 : Int) (h : aH) : ev xs d mm_108 78 [some (.inr (.inr v0))] [.inr (.inr s1), .inr (.inr s0)] h =
  bif aok h.1 s0 9 then
    ev xs d mm_108 86 [some (.inr (.inr v0))] [.inr (.inr (h.1.1 : Int)), .inr (.inr v0)] ((h.1.1 + 1, h.1.2.1 + (8 : Int).toNat, fun q => if q = h.1.1 then (101, (8 : Int).toNat) else h.1.2.2 q), fun q j => if q = h.1.1 then 0 else (aup h.2 s0.toNat 9 s1) q j)
  else none :=
  (aB gP gX xs stp_108 5 d mm_108 78 _ _ h).trans rfl

set_option maxRecDepth 100000 in
set_option maxHeartbeats 4000000 in
theorem q_108_86 (xs : List Int) (d : Nat) (v0 : Int) (s0 : Int) (s1 : Int) (h : aH) : ev xs d mm_108 86 [some (.inr (.inr v0))] [.inr (.inr s1), .inr (.inr s0)] h =
  bif aok h.1 s0 9 then
    bif aok h.1 v0 9 then
      ev xs d mm_108 98 [some (.inr (.inr v0))] [.inr (.inr (h.1.1 : Int)), .inr (.inr v0)] ((h.1.1 + 1, h.1.2.1 + (5 : Int).toNat, fun q => if q = h.1.1 then (100, (5 : Int).toNat) else h.1.2.2 q), fun q j => if q = h.1.1 then 0 else (aup (aup h.2 s0.toNat 10 s1) v0.toNat 11 0) q j)
    else none
  else none :=
  (aB gP gX xs stp_108 8 d mm_108 86 _ _ h).trans rfl

set_option maxRecDepth 100000 in
set_option maxHeartbeats 4000000 in
theorem q_108_98 (xs : List Int) (d : Nat) (v0 : Int) (s0 : Int) (s1 : Int) (h : aH) : ev xs d mm_108 98 [some (.inr (.inr v0))] [.inr (.inr s1), .inr (.inr s0)] h =
  bif aok h.1 s0 9 then
    ev xs d mm_108 106 [some (.inr (.inr v0))] [.inr (.inr (h.1.1 : Int)), .inr (.inr v0)] ((h.1.1 + 1, h.1.2.1 + (120 : Int).toNat, fun q => if q = h.1.1 then (100, (120 : Int).toNat) else h.1.2.2 q), fun q j => if q = h.1.1 then 0 else (aup h.2 s0.toNat 12 s1) q j)
  else none :=
  (aB gP gX xs stp_108 5 d mm_108 98 _ _ h).trans rfl

set_option maxRecDepth 100000 in
set_option maxHeartbeats 4000000 in
theorem q_108_106 (xs : List Int) (d : Nat) (v0 : Int) (s0 : Int) (s1 : Int) (h : aH) : ev xs d mm_108 106 [some (.inr (.inr v0))] [.inr (.inr s1), .inr (.inr s0)] h =
  bif aok h.1 s0 9 then
    ev xs d mm_108 113 [some (.inr (.inr v0))] [.inr (.inr (h.1.1 : Int)), .inr (.inr v0)] ((h.1.1 + 1, h.1.2.1 + 6, fun q => if q = h.1.1 then (0, 6) else h.1.2.2 q), fun q j => if q = h.1.1 then adf 0 j else (aup h.2 s0.toNat 13 s1) q j)
  else none :=
  (aB gP gX xs stp_108 4 d mm_108 106 _ _ h).trans rfl

set_option maxRecDepth 100000 in
set_option maxHeartbeats 4000000 in
theorem q_108_113 (xs : List Int) (d : Nat) (v0 : Int) (s0 : Int) (s1 : Int) (h : aH) : ev xs d mm_108 113 [some (.inr (.inr v0))] [.inr (.inr s1), .inr (.inr s0)] h =
  bif decide (0 ≤ s1) && true then
    bV (cl xs d 0 [.inr (.inr s1)] h) (fun h1 =>
    bif aok h1.1 s0 9 then
      bif aok h1.1 v0 9 then
        some (none, (h1.1, aup (aup h1.2 s0.toNat 14 s1) v0.toNat 15 0))
      else none
    else none)
  else none :=
  (aB gP gX xs stp_108 8 d mm_108 113 _ _ h).trans rfl

def stp_109 : List Nat := [0, 25, 55]
set_option maxRecDepth 100000 in
set_option maxHeartbeats 4000000 in
theorem q_109_0 (xs : List Int) (d : Nat) (v0 : Int) (h : aH) : ev xs d mm_109 0 [some (.inr (.inr v0))] [] h =
  bif aok h.1 v0 9 then
    bif aok h.1 v0 9 then
      bif aok h.1 ((aup h.2 v0.toNat 0 0) v0.toNat 3) 7 then
        bif aok h.1 v0 9 then
          bif aok h.1 ((aup (aup h.2 v0.toNat 0 0) ((aup h.2 v0.toNat 0 0) v0.toNat 3).toNat 0 0) v0.toNat 4) 3 && true then
            bV (cl xs d 35 [.inr (.inr ((aup (aup h.2 v0.toNat 0 0) ((aup h.2 v0.toNat 0 0) v0.toNat 3).toNat 0 0) v0.toNat 4))] (h.1, aup (aup h.2 v0.toNat 0 0) ((aup h.2 v0.toNat 0 0) v0.toNat 3).toNat 0 0)) (fun h1 =>
            bif aok h1.1 v0 9 then
              ev xs d mm_109 25 [some (.inr (.inr v0))] [] (h1.1, aup h1.2 v0.toNat 5 0)
            else none)
          else none
        else none
      else none
    else none
  else none :=
  (aB gP gX xs stp_109 14 d mm_109 0 _ _ h).trans rfl

set_option maxRecDepth 100000 in
set_option maxHeartbeats 4000000 in
theorem q_109_25 (xs : List Int) (d : Nat) (v0 : Int) (h : aH) : ev xs d mm_109 25 [some (.inr (.inr v0))] [] h =
  bif aok h.1 v0 9 then
    bif aok h.1 v0 9 then
      bif aok h.1 v0 9 then
        bV (cl xs d 320 [.inr (.inr ((aup (aup h.2 v0.toNat 7 0) v0.toNat 11 0) v0.toNat 13)), .inl 0] (h.1, aup (aup h.2 v0.toNat 7 0) v0.toNat 11 0)) (fun h1 =>
          bif aok h1.1 v0 9 then
            bif aok h1.1 (h1.2 v0.toNat 14) 0 && true then
              bV (cl xs d 1 [.inr (.inr (h1.2 v0.toNat 14))] h1) (fun h2 =>
              bif aok h2.1 v0 9 then
                ev xs d mm_109 55 [some (.inr (.inr v0))] [] (h2.1, aup h2.2 v0.toNat 15 0)
              else none)
            else none
          else none)
      else none
    else none
  else none :=
  (aB gP gX xs stp_109 17 d mm_109 25 _ _ h).trans rfl

set_option maxRecDepth 100000 in
set_option maxHeartbeats 4000000 in
theorem q_109_55 (xs : List Int) (d : Nat) (v0 : Int) (h : aH) : ev xs d mm_109 55 [some (.inr (.inr v0))] [] h =
  some (none, h) :=
  (aB gP gX xs stp_109 2 d mm_109 55 _ _ h).trans rfl

def stp_110 : List Nat := [0, 2]
set_option maxRecDepth 100000 in
set_option maxHeartbeats 4000000 in
theorem q_110_0 (xs : List Int) (d : Nat) (v0 : Int) (v1 : Int) (h : aH) : ev xs d mm_110 0 [some (.inr (.inr v0)), some (.inr (.inl v1)), none, none] [] h =
  ev xs d mm_110 2 [some (.inr (.inr v0)), some (.inr (.inl v1)), none, some (.inl 0)] [] h :=
  (aB gP gX xs stp_110 3 d mm_110 0 _ _ h).trans rfl

set_option maxRecDepth 100000 in
set_option maxHeartbeats 4000000 in
theorem q_110_2 (xs : List Int) (d : Nat) (v0 : Int) (v1 : Int) (u2 : Option aV) (v3 : Int) (h : aH) : ev xs d mm_110 2 [some (.inr (.inr v0)), some (.inr (.inl v1)), u2, some (.inl v3)] [] h =
  bif aok h.1 v0 9 then
    bif decide ((h.2 v0.toNat 0) ≤ v3) then
      some (some (.inl (-1)), h)
    else
      bif aok h.1 v0 9 then
        bif ain h.1 (h.2 v0.toNat 1) 101 v3 then
          bif decide (¬ (olcmp (h.2 (h.2 v0.toNat 1).toNat v3.toNat) v1) = 0) then
            ev xs d mm_110 2 [some (.inr (.inr v0)), some (.inr (.inl v1)), acl u2, some (.inl (w32 (v3 + 1)))] [] h
          else
            some (some (.inl v3), h)
        else none
      else none
  else none :=
  (aB gP gX xs stp_110 14 d mm_110 2 _ _ h).trans rfl

def stp_111 : List Nat := [0, 5, 38]
set_option maxRecDepth 100000 in
set_option maxHeartbeats 4000000 in
theorem q_111_0 (xs : List Int) (d : Nat) (v0 : Int) (v1 : Int) (v2 : Int) (h : aH) : ev xs d mm_111 0 [some (.inr (.inr v0)), some (.inl v1), some (.inl v2), none, none] [] h =
  ev xs d mm_111 5 [some (.inr (.inr v0)), some (.inl v1), some (.inl v2), some (.inl 0), some (.inl 0)] [] h :=
  (aB gP gX xs stp_111 5 d mm_111 0 _ _ h).trans rfl

set_option maxRecDepth 100000 in
set_option maxHeartbeats 4000000 in
theorem q_111_5 (xs : List Int) (d : Nat) (v0 : Int) (v1 : Int) (v2 : Int) (v3 : Int) (v4 : Int) (h : aH) : ev xs d mm_111 5 [some (.inr (.inr v0)), some (.inl v1), some (.inl v2), some (.inl v3), some (.inl v4)] [] h =
  bif aok h.1 v0 9 then
    bif decide ((h.2 v0.toNat 11) ≤ v4) then
      some (some (.inl v3), h)
    else
      bif decide ((oand (oushr v1 v4) 1) = 0) then
        ev xs d mm_111 38 [some (.inr (.inr v0)), some (.inl v1), some (.inl v2), some (.inl v3), some (.inl v4)] [] h
      else
        bif aok h.1 v0 9 then
          bif ain h.1 (h.2 v0.toNat 13) 100 (w32 ((w32 (v4 * 24)) + v2)) then
            ev xs d mm_111 38 [some (.inr (.inr v0)), some (.inl v1), some (.inl v2), some (.inl (w32 (v3 + (h.2 (h.2 v0.toNat 13).toNat (w32 ((w32 (v4 * 24)) + v2)).toNat)))), some (.inl v4)] [] h
          else none
        else none
  else none :=
  (aB gP gX xs stp_111 22 d mm_111 5 _ _ h).trans rfl

set_option maxRecDepth 100000 in
set_option maxHeartbeats 4000000 in
theorem q_111_38 (xs : List Int) (d : Nat) (v0 : Int) (v1 : Int) (v2 : Int) (v3 : Int) (v4 : Int) (h : aH) : ev xs d mm_111 38 [some (.inr (.inr v0)), some (.inl v1), some (.inl v2), some (.inl v3), some (.inl v4)] [] h =
  ev xs d mm_111 5 [some (.inr (.inr v0)), some (.inl v1), some (.inl v2), some (.inl v3), some (.inl (w32 (v4 + 1)))] [] h :=
  (aB gP gX xs stp_111 3 d mm_111 38 _ _ h).trans rfl

def stp_112 : List Nat := [0, 4, 29]
set_option maxRecDepth 100000 in
set_option maxHeartbeats 4000000 in
theorem q_112_0 (xs : List Int) (d : Nat) (v0 : Int) (v1 : Int) (h : aH) : ev xs d mm_112 0 [some (.inr (.inr v0)), some (.inl v1), none, none] [] h =
  ev xs d mm_112 4 [some (.inr (.inr v0)), some (.inl v1), some (.inl 0), some (.inl 0)] [] h :=
  (aB gP gX xs stp_112 5 d mm_112 0 _ _ h).trans rfl

set_option maxRecDepth 100000 in
set_option maxHeartbeats 4000000 in
theorem q_112_4 (xs : List Int) (d : Nat) (v0 : Int) (v1 : Int) (v2 : Int) (v3 : Int) (h : aH) : ev xs d mm_112 4 [some (.inr (.inr v0)), some (.inl v1), some (.inl v2), some (.inl v3)] [] h =
  bif aok h.1 v0 9 then
    bif decide ((h.2 v0.toNat 11) ≤ v3) then
      some (some (.inl v2), h)
    else
      bif decide ((oand (oushr v1 v3) 1) = 0) then
        ev xs d mm_112 29 [some (.inr (.inr v0)), some (.inl v1), some (.inl v2), some (.inl v3)] [] h
      else
        bif aok h.1 v0 9 then
          bif ain h.1 (h.2 v0.toNat 12) 100 v3 then
            ev xs d mm_112 29 [some (.inr (.inr v0)), some (.inl v1), some (.inl (w32 (v2 + (h.2 (h.2 v0.toNat 12).toNat v3.toNat)))), some (.inl v3)] [] h
          else none
        else none
  else none :=
  (aB gP gX xs stp_112 18 d mm_112 4 _ _ h).trans rfl

set_option maxRecDepth 100000 in
set_option maxHeartbeats 4000000 in
theorem q_112_29 (xs : List Int) (d : Nat) (v0 : Int) (v1 : Int) (v2 : Int) (v3 : Int) (h : aH) : ev xs d mm_112 29 [some (.inr (.inr v0)), some (.inl v1), some (.inl v2), some (.inl v3)] [] h =
  ev xs d mm_112 4 [some (.inr (.inr v0)), some (.inl v1), some (.inl v2), some (.inl (w32 (v3 + 1)))] [] h :=
  (aB gP gX xs stp_112 3 d mm_112 29 _ _ h).trans rfl

def stp_113 : List Nat := [0, 15, 23]
set_option maxRecDepth 100000 in
set_option maxHeartbeats 4000000 in
theorem q_113_0 (xs : List Int) (d : Nat) (v0 : Int) (h : aH) : ev xs d mm_113 0 [some (.inr (.inr v0))] [] h =
  bif decide (0 ≤ v0) && true then
    bif aok h.1 v0 10 then
      ev xs d mm_113 15 [some (.inr (.inr v0))] [.inr (.inr (h.1.1 : Int)), .inr (.inr v0)] ((h.1.1 + 1, h.1.2.1 + (280 : Int).toNat, fun q => if q = h.1.1 then (100, (280 : Int).toNat) else h.1.2.2 q), fun q j => if q = h.1.1 then 0 else (aup h.2 v0.toNat 0 0) q j)
    else none
  else none :=
  (aB gP gX xs stp_113 9 d mm_113 0 _ _ h).trans rfl

set_option maxRecDepth 100000 in
set_option maxHeartbeats 4000000 in
theorem q_113_15 (xs : List Int) (d : Nat) (v0 : Int) (s0 : Int) (s1 : Int) (h : aH) : ev xs d mm_113 15 [some (.inr (.inr v0))] [.inr (.inr s1), .inr (.inr s0)] h =
  bif aok h.1 s0 10 then
    ev xs d mm_113 23 [some (.inr (.inr v0))] [.inr (.inr (h.1.1 : Int)), .inr (.inr v0)] ((h.1.1 + 1, h.1.2.1 + (24 : Int).toNat, fun q => if q = h.1.1 then (100, (24 : Int).toNat) else h.1.2.2 q), fun q j => if q = h.1.1 then 0 else (aup h.2 s0.toNat 1 s1) q j)
  else none :=
  (aB gP gX xs stp_113 5 d mm_113 15 _ _ h).trans rfl

set_option maxRecDepth 100000 in
set_option maxHeartbeats 4000000 in
theorem q_113_23 (xs : List Int) (d : Nat) (v0 : Int) (s0 : Int) (s1 : Int) (h : aH) : ev xs d mm_113 23 [some (.inr (.inr v0))] [.inr (.inr s1), .inr (.inr s0)] h =
  bif aok h.1 s0 10 then
    some (none, (h.1, aup h.2 s0.toNat 2 s1))
  else none :=
  (aB gP gX xs stp_113 3 d mm_113 23 _ _ h).trans rfl

def stp_114 : List Nat := [0, 15, 66]
set_option maxRecDepth 100000 in
set_option maxHeartbeats 4000000 in
theorem q_114_0 (xs : List Int) (d : Nat) (v0 : Int) (v1 : Int) (v2 : Int) (h : aH) : ev xs d mm_114 0 [some (.inr (.inr v0)), some (.inr (.inr v1)), some (.inr (.inl v2)), none, none, none, none] [] h =
  bif aok h.1 v0 10 then
    bif aok h.1 v0 10 && true then
      bV (cl xs d 115 [.inr (.inr v0), .inr (.inr v1), .inr (.inl v2), .inl 0] (h.1, aup h.2 v0.toNat 0 0)) (fun h1 =>
      ev xs d mm_114 15 [some (.inr (.inr v0)), some (.inr (.inr v1)), some (.inr (.inl v2)), none, some (.inl 0), none, none] [] h1)
    else none
  else none :=
  (aB gP gX xs stp_114 11 d mm_114 0 _ _ h).trans rfl

set_option maxRecDepth 100000 in
set_option maxHeartbeats 4000000 in
theorem q_114_15 (xs : List Int) (d : Nat) (v0 : Int) (v1 : Int) (v2 : Int) (u3 : Option aV) (v4 : Int) (u5 : Option aV) (u6 : Option aV) (h : aH) : ev xs d mm_114 15 [some (.inr (.inr v0)), some (.inr (.inr v1)), some (.inr (.inl v2)), u3, some (.inl v4), u5, u6] [] h =
  bif aok h.1 v1 3 then
    bif ain h.1 (h.2 v1.toNat 0) 100 2 then
      bif decide ((h.2 (h.2 v1.toNat 0).toNat (2 : Int).toNat) ≤ v4) then
        some (none, h)
      else
        bif aok h.1 v1 3 then
          bif ain h.1 (h.2 v1.toNat 1) 101 (w32 (16 + v4)) then
            bI (cl xs d 123 [.inr (.inl v2), .inr (.inl (h.2 (h.2 v1.toNat 1).toNat (w32 (16 + v4)).toNat))] h) (fun x2 h1 =>
              bif decide (x2 = 0) then
                ev xs d mm_114 66 [some (.inr (.inr v0)), some (.inr (.inr v1)), some (.inr (.inl v2)), u3, some (.inl v4), some (.inr (.inl (h.2 (h.2 v1.toNat 1).toNat (w32 (16 + v4)).toNat))), none] [] h1
              else
                bJ (cl xs d 124 [.inr (.inl v2), .inr (.inl (h.2 (h.2 v1.toNat 1).toNat (w32 (16 + v4)).toNat))] h1) (fun x4 h3 =>
                  bif aok h3.1 v0 10 && true then
                    bV (cl xs d 115 [.inr (.inr v0), .inr (.inr v1), .inr (.inl x4), .inl (w32 (1000 * (w32 (v4 + 1))))] h3) (fun h5 =>
                    ev xs d mm_114 66 [some (.inr (.inr v0)), some (.inr (.inr v1)), some (.inr (.inl v2)), u3, some (.inl v4), some (.inr (.inl (h.2 (h.2 v1.toNat 1).toNat (w32 (16 + v4)).toNat))), none] [] h5)
                  else none))
          else none
        else none
    else none
  else none :=
  (aB gP gX xs stp_114 29 d mm_114 15 _ _ h).trans rfl

set_option maxRecDepth 100000 in
set_option maxHeartbeats 4000000 in
theorem q_114_66 (xs : List Int) (d : Nat) (v0 : Int) (v1 : Int) (v2 : Int) (u3 : Option aV) (v4 : Int) (v5 : Int) (u6 : Option aV) (h : aH) : ev xs d mm_114 66 [some (.inr (.inr v0)), some (.inr (.inr v1)), some (.inr (.inl v2)), u3, some (.inl v4), some (.inr (.inl v5)), u6] [] h =
  ev xs d mm_114 15 [some (.inr (.inr v0)), some (.inr (.inr v1)), some (.inr (.inl v2)), acl u3, some (.inl (w32 (v4 + 1))), some (.inr (.inl v5)), u6] [] h :=
  (aB gP gX xs stp_114 3 d mm_114 66 _ _ h).trans rfl

def stp_115 : List Nat := [0, 3, 55]
set_option maxRecDepth 100000 in
set_option maxHeartbeats 4000000 in
theorem q_115_0 (xs : List Int) (d : Nat) (v0 : Int) (v1 : Int) (v2 : Int) (v4 : Int) (h : aH) : ev xs d mm_115 0 [some (.inr (.inr v0)), some (.inr (.inr v1)), some (.inr (.inl v2)), none, some (.inl v4), none, none, none] [] h =
  ev xs d mm_115 3 [some (.inr (.inr v0)), some (.inr (.inr v1)), some (.inr (.inl v2)), none, some (.inl v4), some (.inl 0), none, none] [] h :=
  (aB gP gX xs stp_115 3 d mm_115 0 _ _ h).trans rfl

set_option maxRecDepth 100000 in
set_option maxHeartbeats 4000000 in
theorem q_115_3 (xs : List Int) (d : Nat) (v0 : Int) (v1 : Int) (v2 : Int) (u3 : Option aV) (v4 : Int) (v5 : Int) (u6 : Option aV) (u7 : Option aV) (h : aH) : ev xs d mm_115 3 [some (.inr (.inr v0)), some (.inr (.inr v1)), some (.inr (.inl v2)), u3, some (.inl v4), some (.inl v5), u6, u7] [] h =
  bif aok h.1 v1 3 then
    bif ain h.1 (h.2 v1.toNat 0) 100 0 then
      bif decide ((h.2 (h.2 v1.toNat 0).toNat (0 : Int).toNat) ≤ v5) then
        some (none, h)
      else
        bif aok h.1 v1 3 then
          bif ain h.1 (h.2 v1.toNat 1) 101 (w32 (0 + v5)) then
            bI (cl xs d 123 [.inr (.inl v2), .inr (.inl (h.2 (h.2 v1.toNat 1).toNat (w32 (0 + v5)).toNat))] h) (fun x2 h1 =>
              bif decide (x2 = 0) then
                ev xs d mm_115 55 [some (.inr (.inr v0)), some (.inr (.inr v1)), some (.inr (.inl v2)), u3, some (.inl v4), some (.inl v5), some (.inr (.inl (h.2 (h.2 v1.toNat 1).toNat (w32 (0 + v5)).toNat))), none] [] h1
              else
                bJ (cl xs d 124 [.inr (.inl v2), .inr (.inl (h.2 (h.2 v1.toNat 1).toNat (w32 (0 + v5)).toNat))] h1) (fun x4 h3 =>
                  bif aok h3.1 v0 10 && true then
                    bV (cl xs d 116 [.inr (.inr v0), .inr (.inr v1), .inr (.inl x4), .inl (w32 (v4 + (w32 (100 * (w32 (v5 + 1))))))] h3) (fun h5 =>
                    ev xs d mm_115 55 [some (.inr (.inr v0)), some (.inr (.inr v1)), some (.inr (.inl v2)), u3, some (.inl v4), some (.inl v5), some (.inr (.inl (h.2 (h.2 v1.toNat 1).toNat (w32 (0 + v5)).toNat))), none] [] h5)
                  else none))
          else none
        else none
    else none
  else none :=
  (aB gP gX xs stp_115 31 d mm_115 3 _ _ h).trans rfl

set_option maxRecDepth 100000 in
set_option maxHeartbeats 4000000 in
theorem q_115_55 (xs : List Int) (d : Nat) (v0 : Int) (v1 : Int) (v2 : Int) (u3 : Option aV) (v4 : Int) (v5 : Int) (v6 : Int) (u7 : Option aV) (h : aH) : ev xs d mm_115 55 [some (.inr (.inr v0)), some (.inr (.inr v1)), some (.inr (.inl v2)), u3, some (.inl v4), some (.inl v5), some (.inr (.inl v6)), u7] [] h =
  ev xs d mm_115 3 [some (.inr (.inr v0)), some (.inr (.inr v1)), some (.inr (.inl v2)), u3, some (.inl v4), some (.inl (w32 (v5 + 1))), some (.inr (.inl v6)), u7] [] h :=
  (aB gP gX xs stp_115 3 d mm_115 55 _ _ h).trans rfl

def stp_116 : List Nat := [0, 16, 77, 91, 110]
set_option maxRecDepth 100000 in
set_option maxHeartbeats 4000000 in
theorem q_116_0 (xs : List Int) (d : Nat) (v0 : Int) (v1 : Int) (v2 : Int) (v4 : Int) (h : aH) : ev xs d mm_116 0 [some (.inr (.inr v0)), some (.inr (.inr v1)), some (.inr (.inl v2)), none, some (.inl v4), none, none, none, none, none, none] [] h =
  bif decide (¬ (olcmp v2 ((((0 : Fin 2) : Nat) : Nat) : Int)) = 0) then
    ev xs d mm_116 16 [some (.inr (.inr v0)), some (.inr (.inr v1)), some (.inr (.inl v2)), none, some (.inl v4), some (.inl 0), none, none, none, none, none] [] h
  else
    bif aok h.1 v0 10 && true then
      bV (cl xs d 117 [.inr (.inr v0), .inl v4] h) (fun h1 =>
      some (none, h1))
    else none :=
  (aB gP gX xs stp_116 9 d mm_116 0 _ _ h).trans rfl

set_option maxRecDepth 100000 in
set_option maxHeartbeats 4000000 in
theorem q_116_16 (xs : List Int) (d : Nat) (v0 : Int) (v1 : Int) (v2 : Int) (u3 : Option aV) (v4 : Int) (v5 : Int) (u6 : Option aV) (u7 : Option aV) (u8 : Option aV) (u9 : Option aV) (u10 : Option aV) (h : aH) : ev xs d mm_116 16 [some (.inr (.inr v0)), some (.inr (.inr v1)), some (.inr (.inl v2)), u3, some (.inl v4), some (.inl v5), u6, u7, u8, u9, u10] [] h =
  bif aok h.1 v1 3 then
    bif ain h.1 (h.2 v1.toNat 0) 100 1 then
      bif decide ((h.2 (h.2 v1.toNat 0).toNat (1 : Int).toNat) ≤ v5) then
        some (none, h)
      else
        bif aok h.1 v1 3 then
          bif ain h.1 (h.2 v1.toNat 1) 101 (w32 (8 + v5)) then
            bI (cl xs d 123 [.inr (.inl v2), .inr (.inl (h.2 (h.2 v1.toNat 1).toNat (w32 (8 + v5)).toNat))] h) (fun x2 h1 =>
              bif decide (x2 = 0) then
                ev xs d mm_116 110 [some (.inr (.inr v0)), some (.inr (.inr v1)), some (.inr (.inl v2)), u3, some (.inl v4), some (.inl v5), some (.inr (.inl (h.2 (h.2 v1.toNat 1).toNat (w32 (8 + v5)).toNat))), none, u8, u9, u10] [] h1
              else
                bJ (cl xs d 124 [.inr (.inl v2), .inr (.inl (h.2 (h.2 v1.toNat 1).toNat (w32 (8 + v5)).toNat))] h1) (fun x4 h3 =>
                  bif decide (¬ (olcmp x4 ((((0 : Fin 2) : Nat) : Nat) : Int)) = 0) then
                    bif aok h3.1 v1 3 && true then
                      bI (cl xs d 33 [.inr (.inr v1), .inl 1, .inr (.inl x4)] h3) (fun x6 h5 =>
                      ev xs d mm_116 77 [some (.inr (.inr v0)), some (.inr (.inr v1)), some (.inr (.inl v2)), u3, some (.inl v4), some (.inl v5), some (.inr (.inl (h.2 (h.2 v1.toNat 1).toNat (w32 (8 + v5)).toNat))), none, some (.inr (.inl x4)), none, u10] [.inl (w32 (x6 - 8))] h5)
                    else none
                  else
                    ev xs d mm_116 77 [some (.inr (.inr v0)), some (.inr (.inr v1)), some (.inr (.inl v2)), u3, some (.inl v4), some (.inl v5), some (.inr (.inl (h.2 (h.2 v1.toNat 1).toNat (w32 (8 + v5)).toNat))), none, some (.inr (.inl x4)), none, u10] [.inl (-1)] h3))
          else none
        else none
    else none
  else none :=
  (aB gP gX xs stp_116 32 d mm_116 16 _ _ h).trans rfl

set_option maxRecDepth 100000 in
set_option maxHeartbeats 4000000 in
theorem q_116_77 (xs : List Int) (d : Nat) (v0 : Int) (v1 : Int) (v2 : Int) (u3 : Option aV) (v4 : Int) (v5 : Int) (v6 : Int) (u7 : Option aV) (v8 : Int) (u9 : Option aV) (u10 : Option aV) (s0 : Int) (h : aH) : ev xs d mm_116 77 [some (.inr (.inr v0)), some (.inr (.inr v1)), some (.inr (.inl v2)), u3, some (.inl v4), some (.inl v5), some (.inr (.inl v6)), u7, some (.inr (.inl v8)), u9, u10] [.inl s0] h =
  bif decide ((olcmp v8 ((((0 : Fin 2) : Nat) : Nat) : Int)) = 0) then
    ev xs d mm_116 91 [some (.inr (.inr v0)), some (.inr (.inr v1)), some (.inr (.inl v2)), u3, some (.inl v4), some (.inl v5), some (.inr (.inl v6)), u7, some (.inr (.inl v8)), acl u9, some (.inl s0)] [] h
  else
    bif decide (s0 < 0) then
      ev xs d mm_116 110 [some (.inr (.inr v0)), some (.inr (.inr v1)), some (.inr (.inl v2)), u3, some (.inl v4), some (.inl v5), some (.inr (.inl v6)), u7, some (.inr (.inl v8)), acl u9, some (.inl s0)] [] h
    else
      ev xs d mm_116 91 [some (.inr (.inr v0)), some (.inr (.inr v1)), some (.inr (.inl v2)), u3, some (.inl v4), some (.inl v5), some (.inr (.inl v6)), u7, some (.inr (.inl v8)), acl u9, some (.inl s0)] [] h :=
  (aB gP gX xs stp_116 8 d mm_116 77 _ _ h).trans rfl

set_option maxRecDepth 100000 in
set_option maxHeartbeats 4000000 in
theorem q_116_91 (xs : List Int) (d : Nat) (v0 : Int) (v1 : Int) (v2 : Int) (u3 : Option aV) (v4 : Int) (v5 : Int) (v6 : Int) (u7 : Option aV) (v8 : Int) (u9 : Option aV) (v10 : Int) (h : aH) : ev xs d mm_116 91 [some (.inr (.inr v0)), some (.inr (.inr v1)), some (.inr (.inl v2)), u3, some (.inl v4), some (.inl v5), some (.inr (.inl v6)), u7, some (.inr (.inl v8)), u9, some (.inl v10)] [] h =
  bif aok h.1 v0 10 && true then
    bV (cl xs d 117 [.inr (.inr v0), .inl (w32 ((w32 ((w32 (v4 + (w32 (10 * (w32 (v5 + 1)))))) + v10)) + 1))] h) (fun h1 =>
    ev xs d mm_116 110 [some (.inr (.inr v0)), some (.inr (.inr v1)), some (.inr (.inl v2)), u3, some (.inl v4), some (.inl v5), some (.inr (.inl v6)), u7, some (.inr (.inl v8)), u9, some (.inl v10)] [] h1)
  else none :=
  (aB gP gX xs stp_116 14 d mm_116 91 _ _ h).trans rfl

set_option maxRecDepth 100000 in
set_option maxHeartbeats 4000000 in
theorem q_116_110 (xs : List Int) (d : Nat) (v0 : Int) (v1 : Int) (v2 : Int) (u3 : Option aV) (v4 : Int) (v5 : Int) (v6 : Int) (u7 : Option aV) (u8 : Option aV) (u9 : Option aV) (u10 : Option aV) (h : aH) : ev xs d mm_116 110 [some (.inr (.inr v0)), some (.inr (.inr v1)), some (.inr (.inl v2)), u3, some (.inl v4), some (.inl v5), some (.inr (.inl v6)), u7, u8, u9, u10] [] h =
  ev xs d mm_116 16 [some (.inr (.inr v0)), some (.inr (.inr v1)), some (.inr (.inl v2)), u3, some (.inl v4), some (.inl (w32 (v5 + 1))), some (.inr (.inl v6)), u7, u8, u9, u10] [] h :=
  (aB gP gX xs stp_116 3 d mm_116 110 _ _ h).trans rfl

def stp_117 : List Nat := [0, 30]
set_option maxRecDepth 100000 in
set_option maxHeartbeats 4000000 in
theorem q_117_0 (xs : List Int) (d : Nat) (v0 : Int) (v1 : Int) (h : aH) : ev xs d mm_117 0 [some (.inr (.inr v0)), some (.inl v1)] [] h =
  bif aok h.1 v0 10 then
    bif decide (280 ≤ (h.2 v0.toNat 0)) then
      ev xs d mm_117 30 [some (.inr (.inr v0)), some (.inl v1)] [] h
    else
      bif aok h.1 v0 10 then
        bif aok h.1 v0 10 then
          bif ain h.1 (h.2 v0.toNat 1) 100 (h.2 v0.toNat 0) then
            bif aok h.1 v0 10 then
              bif aok h.1 v0 10 then
                ev xs d mm_117 30 [some (.inr (.inr v0)), some (.inl v1)] [] (h.1, aup (aup h.2 (h.2 v0.toNat 1).toNat (h.2 v0.toNat 0).toNat v1) v0.toNat 0 (w32 (((aup h.2 (h.2 v0.toNat 1).toNat (h.2 v0.toNat 0).toNat v1) v0.toNat 0) + 1)))
              else none
            else none
          else none
        else none
      else none
  else none :=
  (aB gP gX xs stp_117 17 d mm_117 0 _ _ h).trans rfl

set_option maxRecDepth 100000 in
set_option maxHeartbeats 4000000 in
theorem q_117_30 (xs : List Int) (d : Nat) (v0 : Int) (v1 : Int) (h : aH) : ev xs d mm_117 30 [some (.inr (.inr v0)), some (.inl v1)] [] h =
  some (none, h) :=
  (aB gP gX xs stp_117 2 d mm_117 30 _ _ h).trans rfl

def stp_118 : List Nat := [0, 2, 12, 48]
set_option maxRecDepth 100000 in
set_option maxHeartbeats 4000000 in
theorem q_118_0 (xs : List Int) (d : Nat) (v0 : Int) (h : aH) : ev xs d mm_118 0 [some (.inr (.inr v0)), none, none, none] [] h =
  ev xs d mm_118 2 [some (.inr (.inr v0)), some (.inl 0), none, none] [] h :=
  (aB gP gX xs stp_118 3 d mm_118 0 _ _ h).trans rfl

set_option maxRecDepth 100000 in
set_option maxHeartbeats 4000000 in
theorem q_118_2 (xs : List Int) (d : Nat) (v0 : Int) (v1 : Int) (u2 : Option aV) (u3 : Option aV) (h : aH) : ev xs d mm_118 2 [some (.inr (.inr v0)), some (.inl v1), u2, u3] [] h =
  bif aok h.1 v0 10 then
    bif decide ((h.2 v0.toNat 0) ≤ v1) then
      some (none, h)
    else
      ev xs d mm_118 12 [some (.inr (.inr v0)), some (.inl v1), some (.inl 0), u3] [] h
  else none :=
  (aB gP gX xs stp_118 7 d mm_118 2 _ _ h).trans rfl

set_option maxRecDepth 100000 in
set_option maxHeartbeats 4000000 in
theorem q_118_12 (xs : List Int) (d : Nat) (v0 : Int) (v1 : Int) (v2 : Int) (u3 : Option aV) (h : aH) : ev xs d mm_118 12 [some (.inr (.inr v0)), some (.inl v1), some (.inl v2), u3] [] h =
  bif decide (4 ≤ v2) then
    ev xs d mm_118 2 [some (.inr (.inr v0)), some (.inl (w32 (v1 + 1))), some (.inl v2), u3] [] h
  else
    bif aok h.1 v0 10 then
      bif ain h.1 (h.2 v0.toNat 1) 100 v1 then
        bI (cl xs d 119 [.inl (h.2 (h.2 v0.toNat 1).toNat v1.toNat), .inl v2] h) (fun x2 h1 =>
          bif decide (x2 < 0) then
            ev xs d mm_118 48 [some (.inr (.inr v0)), some (.inl v1), some (.inl v2), some (.inl x2)] [] h1
          else
            bif decide (24 ≤ x2) then
              ev xs d mm_118 48 [some (.inr (.inr v0)), some (.inl v1), some (.inl v2), some (.inl x2)] [] h1
            else
              bif aok h1.1 v0 10 then
                bif ain h1.1 (h1.2 v0.toNat 2) 100 x2 then
                  bif ain h1.1 (h1.2 v0.toNat 2) 100 x2 then
                    ev xs d mm_118 48 [some (.inr (.inr v0)), some (.inl v1), some (.inl v2), some (.inl x2)] [] (h1.1, aup h1.2 (h1.2 v0.toNat 2).toNat x2.toNat (w32 ((h1.2 (h1.2 v0.toNat 2).toNat x2.toNat) + 1)))
                  else none
                else none
              else none)
      else none
    else none :=
  (aB gP gX xs stp_118 24 d mm_118 12 _ _ h).trans rfl

set_option maxRecDepth 100000 in
set_option maxHeartbeats 4000000 in
theorem q_118_48 (xs : List Int) (d : Nat) (v0 : Int) (v1 : Int) (v2 : Int) (v3 : Int) (h : aH) : ev xs d mm_118 48 [some (.inr (.inr v0)), some (.inl v1), some (.inl v2), some (.inl v3)] [] h =
  ev xs d mm_118 12 [some (.inr (.inr v0)), some (.inl v1), some (.inl (w32 (v2 + 1))), some (.inl v3)] [] h :=
  (aB gP gX xs stp_118 3 d mm_118 48 _ _ h).trans rfl

def stp_119 : List Nat := [0, 28, 38, 51, 64, 72, 88]
set_option maxRecDepth 100000 in
set_option maxHeartbeats 4000000 in
theorem q_119_0 (xs : List Int) (d : Nat) (v0 : Int) (v1 : Int) (h : aH) : ev xs d mm_119 0 [some (.inl v0), some (.inl v1), none, none] [] h =
  ev xs d mm_119 (asw 1 63 0 2 #[27, 37, 50] v1) [some (.inl v0), some (.inl v1), none, none] [] h :=
  (aB gP gX xs stp_119 3 d mm_119 0 _ _ h).trans rfl

set_option maxRecDepth 100000 in
set_option maxHeartbeats 4000000 in
theorem q_119_28 (xs : List Int) (d : Nat) (v0 : Int) (v1 : Int) (u2 : Option aV) (u3 : Option aV) (h : aH) : ev xs d mm_119 28 [some (.inl v0), some (.inl v1), u2, u3] [] h =
  ev xs d mm_119 72 [some (.inl v0), some (.inl v1), some (.inl (orem v0 10)), some (.inl 1)] [] h :=
  (aB gP gX xs stp_119 8 d mm_119 28 _ _ h).trans rfl

set_option maxRecDepth 100000 in
set_option maxHeartbeats 4000000 in
theorem q_119_38 (xs : List Int) (d : Nat) (v0 : Int) (v1 : Int) (u2 : Option aV) (u3 : Option aV) (h : aH) : ev xs d mm_119 38 [some (.inl v0), some (.inl v1), u2, u3] [] h =
  ev xs d mm_119 72 [some (.inl v0), some (.inl v1), some (.inl (orem (odiv v0 10) 10)), some (.inl 1)] [] h :=
  (aB gP gX xs stp_119 10 d mm_119 38 _ _ h).trans rfl

set_option maxRecDepth 100000 in
set_option maxHeartbeats 4000000 in
theorem q_119_51 (xs : List Int) (d : Nat) (v0 : Int) (v1 : Int) (u2 : Option aV) (u3 : Option aV) (h : aH) : ev xs d mm_119 51 [some (.inl v0), some (.inl v1), u2, u3] [] h =
  ev xs d mm_119 72 [some (.inl v0), some (.inl v1), some (.inl (orem (odiv v0 100) 10)), some (.inl 0)] [] h :=
  (aB gP gX xs stp_119 10 d mm_119 51 _ _ h).trans rfl

set_option maxRecDepth 100000 in
set_option maxHeartbeats 4000000 in
theorem q_119_64 (xs : List Int) (d : Nat) (v0 : Int) (v1 : Int) (u2 : Option aV) (u3 : Option aV) (h : aH) : ev xs d mm_119 64 [some (.inl v0), some (.inl v1), u2, u3] [] h =
  ev xs d mm_119 72 [some (.inl v0), some (.inl v1), some (.inl (odiv v0 1000)), some (.inl 2)] [] h :=
  (aB gP gX xs stp_119 7 d mm_119 64 _ _ h).trans rfl

set_option maxRecDepth 100000 in
set_option maxHeartbeats 4000000 in
theorem q_119_72 (xs : List Int) (d : Nat) (v0 : Int) (v1 : Int) (v2 : Int) (v3 : Int) (h : aH) : ev xs d mm_119 72 [some (.inl v0), some (.inl v1), some (.inl v2), some (.inl v3)] [] h =
  bif decide (¬ v2 = 0) then
    ev xs d mm_119 88 [some (.inl v0), some (.inl v1), some (.inl v2), some (.inl v3)] [.inl (w32 ((w32 ((w32 (v3 * 8)) + v2)) - 1))] h
  else
    ev xs d mm_119 88 [some (.inl v0), some (.inl v1), some (.inl v2), some (.inl v3)] [.inl (-1)] h :=
  (aB gP gX xs stp_119 10 d mm_119 72 _ _ h).trans rfl

set_option maxRecDepth 100000 in
set_option maxHeartbeats 4000000 in
theorem q_119_88 (xs : List Int) (d : Nat) (v0 : Int) (v1 : Int) (v2 : Int) (v3 : Int) (s0 : Int) (h : aH) : ev xs d mm_119 88 [some (.inl v0), some (.inl v1), some (.inl v2), some (.inl v3)] [.inl s0] h =
  some (some (.inl s0), h) :=
  (aB gP gX xs stp_119 2 d mm_119 88 _ _ h).trans rfl

def stp_120 : List Nat := [0, 10, 23, 27, 38, 53, 64, 75, 86, 99, 112, 117, 129, 140, 151, 162, 173, 181, 186, 200, 213, 226]
set_option maxRecDepth 100000 in
set_option maxHeartbeats 4000000 in
theorem q_120_0 (xs : List Int) (d : Nat) (v0 : Int) (h : aH) : ev xs d mm_120 0 [some (.inr (.inr v0)), none] [] h =
  bif decide (0 ≤ v0) && true then
    ev xs d mm_120 10 [some (.inr (.inr v0)), none] [.inr (.inr (h.1.1 : Int)), .inr (.inr v0)] ((h.1.1 + 1, h.1.2.1 + (2000 : Int).toNat, fun q => if q = h.1.1 then (102, (2000 : Int).toNat) else h.1.2.2 q), fun q j => if q = h.1.1 then 0 else h.2 q j)
  else none :=
  (aB gP gX xs stp_120 6 d mm_120 0 _ _ h).trans rfl

set_option maxRecDepth 100000 in
set_option maxHeartbeats 4000000 in
theorem q_120_10 (xs : List Int) (d : Nat) (v0 : Int) (u1 : Option aV) (s0 : Int) (s1 : Int) (h : aH) : ev xs d mm_120 10 [some (.inr (.inr v0)), u1] [.inr (.inr s1), .inr (.inr s0)] h =
  bif aok h.1 s0 11 then
    bif aok h.1 v0 11 then
      bif aok h.1 v0 11 then
        ev xs d mm_120 23 [some (.inr (.inr v0)), u1] [] (h.1, aup (aup (aup h.2 s0.toNat 0 s1) v0.toNat 1 0) v0.toNat 2 (-1))
      else none
    else none
  else none :=
  (aB gP gX xs stp_120 8 d mm_120 10 _ _ h).trans rfl

set_option maxRecDepth 100000 in
set_option maxHeartbeats 4000000 in
theorem q_120_23 (xs : List Int) (d : Nat) (v0 : Int) (u1 : Option aV) (h : aH) : ev xs d mm_120 23 [some (.inr (.inr v0)), u1] [] h =
  ev xs d mm_120 27 [some (.inr (.inr v0)), u1] [.inr (.inr (h.1.1 : Int)), .inr (.inr v0)] ((h.1.1 + 1, h.1.2.1 + 9, fun q => if q = h.1.1 then (4, 9) else h.1.2.2 q), fun q j => if q = h.1.1 then adf 4 j else h.2 q j) :=
  (aB gP gX xs stp_120 3 d mm_120 23 _ _ h).trans rfl

set_option maxRecDepth 100000 in
set_option maxHeartbeats 4000000 in
theorem q_120_27 (xs : List Int) (d : Nat) (v0 : Int) (u1 : Option aV) (s0 : Int) (s1 : Int) (h : aH) : ev xs d mm_120 27 [some (.inr (.inr v0)), u1] [.inr (.inr s1), .inr (.inr s0)] h =
  bif decide (0 ≤ s1) && true then
    bV (cl xs d 36 [.inr (.inr s1)] h) (fun h1 =>
    bif aok h1.1 s0 11 then
      ev xs d mm_120 38 [some (.inr (.inr v0)), u1] [.inr (.inr (h1.1.1 : Int)), .inr (.inr v0)] ((h1.1.1 + 1, h1.1.2.1 + 4, fun q => if q = h1.1.1 then (8, 4) else h1.1.2.2 q), fun q j => if q = h1.1.1 then adf 8 j else (aup h1.2 s0.toNat 3 s1) q j)
    else none)
  else none :=
  (aB gP gX xs stp_120 6 d mm_120 27 _ _ h).trans rfl

set_option maxRecDepth 100000 in
set_option maxHeartbeats 4000000 in
theorem q_120_38 (xs : List Int) (d : Nat) (v0 : Int) (u1 : Option aV) (s0 : Int) (s1 : Int) (h : aH) : ev xs d mm_120 38 [some (.inr (.inr v0)), u1] [.inr (.inr s1), .inr (.inr s0)] h =
  bif aok h.1 v0 11 then
    bif decide (0 ≤ s1) && true then
      bV (cl xs d 88 [.inr (.inr s1), .inr (.inr (h.2 v0.toNat 3))] h) (fun h1 =>
      bif aok h1.1 s0 11 then
        ev xs d mm_120 53 [some (.inr (.inr v0)), u1] [.inr (.inr (h1.1.1 : Int)), .inr (.inr v0)] ((h1.1.1 + 1, h1.1.2.1 + 16, fun q => if q = h1.1.1 then (9, 16) else h1.1.2.2 q), fun q j => if q = h1.1.1 then adf 9 j else (aup h1.2 s0.toNat 4 s1) q j)
      else none)
    else none
  else none :=
  (aB gP gX xs stp_120 8 d mm_120 38 _ _ h).trans rfl

set_option maxRecDepth 100000 in
set_option maxHeartbeats 4000000 in
theorem q_120_53 (xs : List Int) (d : Nat) (v0 : Int) (u1 : Option aV) (s0 : Int) (s1 : Int) (h : aH) : ev xs d mm_120 53 [some (.inr (.inr v0)), u1] [.inr (.inr s1), .inr (.inr s0)] h =
  bif decide (0 ≤ s1) && true then
    bV (cl xs d 108 [.inr (.inr s1)] h) (fun h1 =>
    bif aok h1.1 s0 11 then
      ev xs d mm_120 64 [some (.inr (.inr v0)), u1] [.inr (.inr (h1.1.1 : Int)), .inr (.inr v0)] ((h1.1.1 + 1, h1.1.2.1 + 16, fun q => if q = h1.1.1 then (9, 16) else h1.1.2.2 q), fun q j => if q = h1.1.1 then adf 9 j else (aup h1.2 s0.toNat 5 s1) q j)
    else none)
  else none :=
  (aB gP gX xs stp_120 6 d mm_120 53 _ _ h).trans rfl

set_option maxRecDepth 100000 in
set_option maxHeartbeats 4000000 in
theorem q_120_64 (xs : List Int) (d : Nat) (v0 : Int) (u1 : Option aV) (s0 : Int) (s1 : Int) (h : aH) : ev xs d mm_120 64 [some (.inr (.inr v0)), u1] [.inr (.inr s1), .inr (.inr s0)] h =
  bif decide (0 ≤ s1) && true then
    bV (cl xs d 108 [.inr (.inr s1)] h) (fun h1 =>
    bif aok h1.1 s0 11 then
      ev xs d mm_120 75 [some (.inr (.inr v0)), u1] [.inr (.inr (h1.1.1 : Int)), .inr (.inr v0)] ((h1.1.1 + 1, h1.1.2.1 + 9, fun q => if q = h1.1.1 then (6, 9) else h1.1.2.2 q), fun q j => if q = h1.1.1 then adf 6 j else (aup h1.2 s0.toNat 6 s1) q j)
    else none)
  else none :=
  (aB gP gX xs stp_120 6 d mm_120 64 _ _ h).trans rfl

set_option maxRecDepth 100000 in
set_option maxHeartbeats 4000000 in
theorem q_120_75 (xs : List Int) (d : Nat) (v0 : Int) (u1 : Option aV) (s0 : Int) (s1 : Int) (h : aH) : ev xs d mm_120 75 [some (.inr (.inr v0)), u1] [.inr (.inr s1), .inr (.inr s0)] h =
  bif decide (0 ≤ s1) && true then
    bV (cl xs d 72 [.inr (.inr s1)] h) (fun h1 =>
    bif aok h1.1 s0 11 then
      ev xs d mm_120 86 [some (.inr (.inr v0)), u1] [.inr (.inr (h1.1.1 : Int)), .inr (.inr v0)] ((h1.1.1 + 1, h1.1.2.1 + 9, fun q => if q = h1.1.1 then (6, 9) else h1.1.2.2 q), fun q j => if q = h1.1.1 then adf 6 j else (aup h1.2 s0.toNat 7 s1) q j)
    else none)
  else none :=
  (aB gP gX xs stp_120 6 d mm_120 75 _ _ h).trans rfl

set_option maxRecDepth 100000 in
set_option maxHeartbeats 4000000 in
theorem q_120_86 (xs : List Int) (d : Nat) (v0 : Int) (u1 : Option aV) (s0 : Int) (s1 : Int) (h : aH) : ev xs d mm_120 86 [some (.inr (.inr v0)), u1] [.inr (.inr s1), .inr (.inr s0)] h =
  bif decide (0 ≤ s1) && true then
    bV (cl xs d 72 [.inr (.inr s1)] h) (fun h1 =>
    bif aok h1.1 s0 11 then
      ev xs d mm_120 99 [some (.inr (.inr v0)), u1] [.inr (.inr (h1.1.1 : Int)), .inr (.inr v0)] ((h1.1.1 + 1, h1.1.2.1 + (30 : Int).toNat, fun q => if q = h1.1.1 then (104, (30 : Int).toNat) else h1.1.2.2 q), fun q j => if q = h1.1.1 then -1 else (aup h1.2 s0.toNat 8 s1) q j)
    else none)
  else none :=
  (aB gP gX xs stp_120 7 d mm_120 86 _ _ h).trans rfl

set_option maxRecDepth 100000 in
set_option maxHeartbeats 4000000 in
theorem q_120_99 (xs : List Int) (d : Nat) (v0 : Int) (u1 : Option aV) (s0 : Int) (s1 : Int) (h : aH) : ev xs d mm_120 99 [some (.inr (.inr v0)), u1] [.inr (.inr s1), .inr (.inr s0)] h =
  bif aok h.1 s0 11 then
    bif aok h.1 v0 11 then
      bif aok h.1 v0 11 then
        ev xs d mm_120 112 [some (.inr (.inr v0)), u1] [] (h.1, aup (aup (aup h.2 s0.toNat 9 s1) v0.toNat 10 0) v0.toNat 11 0)
      else none
    else none
  else none :=
  (aB gP gX xs stp_120 8 d mm_120 99 _ _ h).trans rfl

set_option maxRecDepth 100000 in
set_option maxHeartbeats 4000000 in
theorem q_120_112 (xs : List Int) (d : Nat) (v0 : Int) (u1 : Option aV) (h : aH) : ev xs d mm_120 112 [some (.inr (.inr v0)), u1] [] h =
  ev xs d mm_120 117 [some (.inr (.inr v0)), u1] [.inr (.inr (h.1.1 : Int)), .inr (.inr v0)] ((h.1.1 + 1, h.1.2.1 + (3 : Int).toNat, fun q => if q = h.1.1 then (104, (3 : Int).toNat) else h.1.2.2 q), fun q j => if q = h.1.1 then -1 else h.2 q j) :=
  (aB gP gX xs stp_120 4 d mm_120 112 _ _ h).trans rfl

set_option maxRecDepth 100000 in
set_option maxHeartbeats 4000000 in
theorem q_120_117 (xs : List Int) (d : Nat) (v0 : Int) (u1 : Option aV) (s0 : Int) (s1 : Int) (h : aH) : ev xs d mm_120 117 [some (.inr (.inr v0)), u1] [.inr (.inr s1), .inr (.inr s0)] h =
  bif aok h.1 s0 11 then
    bif aok h.1 v0 11 then
      ev xs d mm_120 129 [some (.inr (.inr v0)), u1] [.inr (.inr (h.1.1 : Int)), .inr (.inr v0)] ((h.1.1 + 1, h.1.2.1 + 3, fun q => if q = h.1.1 then (10, 3) else h.1.2.2 q), fun q j => if q = h.1.1 then adf 10 j else (aup (aup h.2 s0.toNat 12 s1) v0.toNat 13 0) q j)
    else none
  else none :=
  (aB gP gX xs stp_120 7 d mm_120 117 _ _ h).trans rfl

set_option maxRecDepth 100000 in
set_option maxHeartbeats 4000000 in
theorem q_120_129 (xs : List Int) (d : Nat) (v0 : Int) (u1 : Option aV) (s0 : Int) (s1 : Int) (h : aH) : ev xs d mm_120 129 [some (.inr (.inr v0)), u1] [.inr (.inr s1), .inr (.inr s0)] h =
  bif decide (0 ≤ s1) && true then
    bV (cl xs d 113 [.inr (.inr s1)] h) (fun h1 =>
    bif aok h1.1 s0 11 then
      ev xs d mm_120 140 [some (.inr (.inr v0)), u1] [.inr (.inr (h1.1.1 : Int)), .inr (.inr v0)] ((h1.1.1 + 1, h1.1.2.1 + 7, fun q => if q = h1.1.1 then (1, 7) else h1.1.2.2 q), fun q j => if q = h1.1.1 then adf 1 j else (aup h1.2 s0.toNat 14 s1) q j)
    else none)
  else none :=
  (aB gP gX xs stp_120 6 d mm_120 129 _ _ h).trans rfl

set_option maxRecDepth 100000 in
set_option maxHeartbeats 4000000 in
theorem q_120_140 (xs : List Int) (d : Nat) (v0 : Int) (u1 : Option aV) (s0 : Int) (s1 : Int) (h : aH) : ev xs d mm_120 140 [some (.inr (.inr v0)), u1] [.inr (.inr s1), .inr (.inr s0)] h =
  bif decide (0 ≤ s1) && true then
    bV (cl xs d 11 [.inr (.inr s1)] h) (fun h1 =>
    bif aok h1.1 s0 11 then
      ev xs d mm_120 151 [some (.inr (.inr v0)), u1] [.inr (.inr (h1.1.1 : Int)), .inr (.inr v0)] ((h1.1.1 + 1, h1.1.2.1 + 7, fun q => if q = h1.1.1 then (5, 7) else h1.1.2.2 q), fun q j => if q = h1.1.1 then adf 5 j else (aup h1.2 s0.toNat 15 s1) q j)
    else none)
  else none :=
  (aB gP gX xs stp_120 6 d mm_120 140 _ _ h).trans rfl

set_option maxRecDepth 100000 in
set_option maxHeartbeats 4000000 in
theorem q_120_151 (xs : List Int) (d : Nat) (v0 : Int) (u1 : Option aV) (s0 : Int) (s1 : Int) (h : aH) : ev xs d mm_120 151 [some (.inr (.inr v0)), u1] [.inr (.inr s1), .inr (.inr s0)] h =
  bif decide (0 ≤ s1) && true then
    bV (cl xs d 60 [.inr (.inr s1)] h) (fun h1 =>
    bif aok h1.1 s0 11 then
      ev xs d mm_120 162 [some (.inr (.inr v0)), u1] [.inr (.inr (h1.1.1 : Int)), .inr (.inr v0)] ((h1.1.1 + 1, h1.1.2.1 + 13, fun q => if q = h1.1.1 then (2, 13) else h1.1.2.2 q), fun q j => if q = h1.1.1 then adf 2 j else (aup h1.2 s0.toNat 16 s1) q j)
    else none)
  else none :=
  (aB gP gX xs stp_120 6 d mm_120 151 _ _ h).trans rfl

set_option maxRecDepth 100000 in
set_option maxHeartbeats 4000000 in
theorem q_120_162 (xs : List Int) (d : Nat) (v0 : Int) (u1 : Option aV) (s0 : Int) (s1 : Int) (h : aH) : ev xs d mm_120 162 [some (.inr (.inr v0)), u1] [.inr (.inr s1), .inr (.inr s0)] h =
  bif decide (0 ≤ s1) && true then
    bV (cl xs d 19 [.inr (.inr s1)] h) (fun h1 =>
    bif aok h1.1 s0 11 then
      ev xs d mm_120 173 [some (.inr (.inr v0)), u1] [.inr (.inr (h1.1.1 : Int)), .inr (.inr v0)] ((h1.1.1 + 1, h1.1.2.1 + (4 : Int).toNat, fun q => if q = h1.1.1 then (100, (4 : Int).toNat) else h1.1.2.2 q), fun q j => if q = h1.1.1 then 0 else (aup h1.2 s0.toNat 17 s1) q j)
    else none)
  else none :=
  (aB gP gX xs stp_120 7 d mm_120 162 _ _ h).trans rfl

set_option maxRecDepth 100000 in
set_option maxHeartbeats 4000000 in
theorem q_120_173 (xs : List Int) (d : Nat) (v0 : Int) (u1 : Option aV) (s0 : Int) (s1 : Int) (h : aH) : ev xs d mm_120 173 [some (.inr (.inr v0)), u1] [.inr (.inr s1), .inr (.inr s0)] h =
  bif aok h.1 s0 11 then
    ev xs d mm_120 181 [some (.inr (.inr v0)), u1] [.inr (.inr (h.1.1 : Int)), .inr (.inr v0)] ((h.1.1 + 1, h.1.2.1 + (9 : Int).toNat, fun q => if q = h.1.1 then (100, (9 : Int).toNat) else h.1.2.2 q), fun q j => if q = h.1.1 then 0 else (aup h.2 s0.toNat 18 s1) q j)
  else none :=
  (aB gP gX xs stp_120 5 d mm_120 173 _ _ h).trans rfl

set_option maxRecDepth 100000 in
set_option maxHeartbeats 4000000 in
theorem q_120_181 (xs : List Int) (d : Nat) (v0 : Int) (u1 : Option aV) (s0 : Int) (s1 : Int) (h : aH) : ev xs d mm_120 181 [some (.inr (.inr v0)), u1] [.inr (.inr s1), .inr (.inr s0)] h =
  bif aok h.1 s0 11 then
    ev xs d mm_120 186 [some (.inr (.inr v0)), some (.inl 0)] [] (h.1, aup h.2 s0.toNat 19 s1)
  else none :=
  (aB gP gX xs stp_120 4 d mm_120 181 _ _ h).trans rfl

set_option maxRecDepth 100000 in
set_option maxHeartbeats 4000000 in
theorem q_120_186 (xs : List Int) (d : Nat) (v0 : Int) (v1 : Int) (h : aH) : ev xs d mm_120 186 [some (.inr (.inr v0)), some (.inl v1)] [] h =
  bif decide (30 ≤ v1) then
    ev xs d mm_120 213 [some (.inr (.inr v0)), some (.inl 0)] [] h
  else
    bif aok h.1 v0 11 then
      ev xs d mm_120 200 [some (.inr (.inr v0)), some (.inl v1)] [.inr (.inr (h.1.1 : Int)), .inl v1, .inr (.inr (h.2 v0.toNat 9))] ((h.1.1 + 1, h.1.2.1 + 9, fun q => if q = h.1.1 then (6, 9) else h.1.2.2 q), fun q j => if q = h.1.1 then adf 6 j else h.2 q j)
    else none :=
  (aB gP gX xs stp_120 8 d mm_120 186 _ _ h).trans rfl

set_option maxRecDepth 100000 in
set_option maxHeartbeats 4000000 in
theorem q_120_200 (xs : List Int) (d : Nat) (v0 : Int) (v1 : Int) (s0 : Int) (s1 : Int) (s2 : Int) (h : aH) : ev xs d mm_120 200 [some (.inr (.inr v0)), some (.inl v1)] [.inr (.inr s2), .inl s1, .inr (.inr s0)] h =
  bif decide (0 ≤ s2) && true then
    bV (cl xs d 72 [.inr (.inr s2)] h) (fun h1 =>
    bif ain h1.1 s0 104 s1 && aok h1.1 s2 6 then
      ev xs d mm_120 186 [some (.inr (.inr v0)), some (.inl (w32 (v1 + 1)))] [] (h1.1, aup h1.2 s0.toNat s1.toNat s2)
    else none)
  else none :=
  (aB gP gX xs stp_120 6 d mm_120 200 _ _ h).trans rfl

set_option maxRecDepth 100000 in
set_option maxHeartbeats 4000000 in
theorem q_120_213 (xs : List Int) (d : Nat) (v0 : Int) (v1 : Int) (h : aH) : ev xs d mm_120 213 [some (.inr (.inr v0)), some (.inl v1)] [] h =
  bif decide (3 ≤ v1) then
    bif aok h.1 v0 11 then
      bif aok h.1 v0 11 then
        bif aok h.1 (h.2 v0.toNat 7) 6 && true then
          bV (cl xs d 73 [.inr (.inr (h.2 v0.toNat 7)), .inr (.inr (h.2 v0.toNat 5))] h) (fun h1 =>
          some (none, h1))
        else none
      else none
    else none
  else
    bif aok h.1 v0 11 then
      ev xs d mm_120 226 [some (.inr (.inr v0)), some (.inl v1)] [.inr (.inr (h.1.1 : Int)), .inl v1, .inr (.inr (h.2 v0.toNat 12))] ((h.1.1 + 1, h.1.2.1 + 9, fun q => if q = h.1.1 then (6, 9) else h.1.2.2 q), fun q j => if q = h.1.1 then adf 6 j else h.2 q j)
    else none :=
  (aB gP gX xs stp_120 10 d mm_120 213 _ _ h).trans rfl

set_option maxRecDepth 100000 in
set_option maxHeartbeats 4000000 in
theorem q_120_226 (xs : List Int) (d : Nat) (v0 : Int) (v1 : Int) (s0 : Int) (s1 : Int) (s2 : Int) (h : aH) : ev xs d mm_120 226 [some (.inr (.inr v0)), some (.inl v1)] [.inr (.inr s2), .inl s1, .inr (.inr s0)] h =
  bif decide (0 ≤ s2) && true then
    bV (cl xs d 72 [.inr (.inr s2)] h) (fun h1 =>
    bif ain h1.1 s0 104 s1 && aok h1.1 s2 6 then
      ev xs d mm_120 213 [some (.inr (.inr v0)), some (.inl (w32 (v1 + 1)))] [] (h1.1, aup h1.2 s0.toNat s1.toNat s2)
    else none)
  else none :=
  (aB gP gX xs stp_120 6 d mm_120 226 _ _ h).trans rfl

def stp_121 : List Nat := [0, 4, 26]
set_option maxRecDepth 100000 in
set_option maxHeartbeats 4000000 in
theorem q_121_0 (xs : List Int) (d : Nat) (v0 : Int) (h : aH) : ev xs d mm_121 0 [some (.inr (.inl v0)), none, none, none, none] [] h =
  ev xs d mm_121 4 [some (.inr (.inl v0)), none, some (.inl 0), some (.inr (.inl v0)), none] [] h :=
  (aB gP gX xs stp_121 5 d mm_121 0 _ _ h).trans rfl

set_option maxRecDepth 100000 in
set_option maxHeartbeats 4000000 in
theorem q_121_4 (xs : List Int) (d : Nat) (v0 : Int) (u1 : Option aV) (v2 : Int) (v3 : Int) (u4 : Option aV) (h : aH) : ev xs d mm_121 4 [some (.inr (.inl v0)), u1, some (.inl v2), some (.inr (.inl v3)), u4] [] h =
  bif decide ((olcmp v3 ((((0 : Fin 2) : Nat) : Nat) : Int)) = 0) then
    ev xs d mm_121 26 [some (.inr (.inl v0)), u1, some (.inl v2), some (.inr (.inl v3)), u4] [] h
  else
    bif decide (12 ≤ v2) then
      ev xs d mm_121 26 [some (.inr (.inl v0)), u1, some (.inl v2), some (.inr (.inl v3)), u4] [] h
    else
      ev xs d mm_121 4 [some (.inr (.inl v0)), acl u1, some (.inl (w32 (v2 + 1))), some (.inr (.inl (olushr v3 5))), none] [] h :=
  (aB gP gX xs stp_121 14 d mm_121 4 _ _ h).trans rfl

set_option maxRecDepth 100000 in
set_option maxHeartbeats 4000000 in
theorem q_121_26 (xs : List Int) (d : Nat) (v0 : Int) (u1 : Option aV) (v2 : Int) (v3 : Int) (u4 : Option aV) (h : aH) : ev xs d mm_121 26 [some (.inr (.inl v0)), u1, some (.inl v2), some (.inr (.inl v3)), u4] [] h =
  some (some (.inl v2), h) :=
  (aB gP gX xs stp_121 3 d mm_121 26 _ _ h).trans rfl

def stp_122 : List Nat := [0]
set_option maxRecDepth 100000 in
set_option maxHeartbeats 4000000 in
theorem q_122_0 (xs : List Int) (d : Nat) (v0 : Int) (v2 : Int) (h : aH) : ev xs d mm_122 0 [some (.inr (.inl v0)), none, some (.inl v2)] [] h =
  some (some (.inl (oand (ol2i (olushr v0 (w32 (5 * v2)))) 31)), h) :=
  (aB gP gX xs stp_122 10 d mm_122 0 _ _ h).trans rfl

def stp_123 : List Nat := [0, 26]
set_option maxRecDepth 100000 in
set_option maxHeartbeats 4000000 in
theorem q_123_0 (xs : List Int) (d : Nat) (v0 : Int) (v2 : Int) (h : aH) : ev xs d mm_123 0 [some (.inr (.inl v0)), none, some (.inr (.inl v2)), none, none, none] [] h =
  bI (cl xs d 121 [.inr (.inl v2)] h) (fun x2 h1 =>
    bif decide (¬ (olcmp (oland v0 (w64 ((olshl ((((1 : Fin 2) : Nat) : Nat) : Int) (w32 (5 * x2))) - ((((1 : Fin 2) : Nat) : Nat) : Int)))) v2) = 0) then
      ev xs d mm_123 26 [some (.inr (.inl v0)), none, some (.inr (.inl v2)), none, some (.inr (.inl (w64 ((olshl ((((1 : Fin 2) : Nat) : Nat) : Int) (w32 (5 * x2))) - ((((1 : Fin 2) : Nat) : Nat) : Int))))), none] [.inl 0] h1
    else
      ev xs d mm_123 26 [some (.inr (.inl v0)), none, some (.inr (.inl v2)), none, some (.inr (.inl (w64 ((olshl ((((1 : Fin 2) : Nat) : Nat) : Int) (w32 (5 * x2))) - ((((1 : Fin 2) : Nat) : Nat) : Int))))), none] [.inl 1] h1) :=
  (aB gP gX xs stp_123 18 d mm_123 0 _ _ h).trans rfl

set_option maxRecDepth 100000 in
set_option maxHeartbeats 4000000 in
theorem q_123_26 (xs : List Int) (d : Nat) (v0 : Int) (u1 : Option aV) (v2 : Int) (u3 : Option aV) (v4 : Int) (u5 : Option aV) (s0 : Int) (h : aH) : ev xs d mm_123 26 [some (.inr (.inl v0)), u1, some (.inr (.inl v2)), u3, some (.inr (.inl v4)), u5] [.inl s0] h =
  bif decide (s0 = 0) || decide (s0 = 1) then some (some (.inl s0), h) else none :=
  (aB gP gX xs stp_123 2 d mm_123 26 _ _ h).trans rfl

def stp_124 : List Nat := [0]
set_option maxRecDepth 100000 in
set_option maxHeartbeats 4000000 in
theorem q_124_0 (xs : List Int) (d : Nat) (v0 : Int) (v2 : Int) (h : aH) : ev xs d mm_124 0 [some (.inr (.inl v0)), none, some (.inr (.inl v2)), none] [] h =
  bI (cl xs d 121 [.inr (.inl v2)] h) (fun x2 h1 =>
    some (some (.inr (.inl (olushr v0 (w32 (5 * x2))))), h1)) :=
  (aB gP gX xs stp_124 8 d mm_124 0 _ _ h).trans rfl

def stp_125 : List Nat := [0, 10, 30]
set_option maxRecDepth 100000 in
set_option maxHeartbeats 4000000 in
theorem q_125_0 (xs : List Int) (d : Nat) (v0 : Int) (v2 : Int) (h : aH) : ev xs d mm_125 0 [some (.inr (.inl v0)), none, some (.inl v2)] [] h =
  bif decide (v2 < 0) then
    ev xs d mm_125 10 [some (.inr (.inl v0)), none, some (.inl v2)] [] h
  else
    bif decide (v2 ≤ 8) then
      bif decide (¬ v2 = 8) then
        bI (cl xs d 122 [.inr (.inl v0), .inl v2] h) (fun x2 h1 =>
          ev xs d mm_125 30 [some (.inr (.inl v0)), none, some (.inl v2)] [.inl x2] h1)
      else
        bI (cl xs d 121 [.inr (.inl v0)] h) (fun x4 h3 =>
          ev xs d mm_125 30 [some (.inr (.inl v0)), none, some (.inl v2)] [.inl x4] h3)
    else
      ev xs d mm_125 10 [some (.inr (.inl v0)), none, some (.inl v2)] [] h :=
  (aB gP gX xs stp_125 12 d mm_125 0 _ _ h).trans rfl

set_option maxRecDepth 100000 in
set_option maxHeartbeats 4000000 in
theorem q_125_10 (xs : List Int) (d : Nat) (v0 : Int) (u1 : Option aV) (v2 : Int) (h : aH) : ev xs d mm_125 10 [some (.inr (.inl v0)), u1, some (.inl v2)] [] h =
  some (some (.inl (-1)), h) :=
  (aB gP gX xs stp_125 3 d mm_125 10 _ _ h).trans rfl

set_option maxRecDepth 100000 in
set_option maxHeartbeats 4000000 in
theorem q_125_30 (xs : List Int) (d : Nat) (v0 : Int) (u1 : Option aV) (v2 : Int) (s0 : Int) (h : aH) : ev xs d mm_125 30 [some (.inr (.inl v0)), u1, some (.inl v2)] [.inl s0] h =
  some (some (.inl s0), h) :=
  (aB gP gX xs stp_125 2 d mm_125 30 _ _ h).trans rfl

def stp_126 : List Nat := [0]
set_option maxRecDepth 100000 in
set_option maxHeartbeats 4000000 in
theorem q_126_0 (xs : List Int) (d : Nat) (v0 : Int) (h : aH) : ev xs d mm_126 0 [some (.inl v0)] [] h =
  some (some (.inl (w32 ((oshl 1 v0) - 1))), h) :=
  (aB gP gX xs stp_126 7 d mm_126 0 _ _ h).trans rfl

def stp_127 : List Nat := [0]
set_option maxRecDepth 100000 in
set_option maxHeartbeats 4000000 in
theorem q_127_0 (xs : List Int) (d : Nat) (v0 : Int) (v1 : Int) (v2 : Int) (v3 : Int) (v4 : Int) (v5 : Int) (h : aH) : ev xs d mm_127 0 [some (.inr (.inr v0)), some (.inl v1), some (.inl v2), some (.inl v3), some (.inl v4), some (.inl v5)] [] h =
  bif aok h.1 v0 11 then
    bif decide ((w32 ((h.2 v0.toNat 1) + 20)) ≤ 2000) then
      bif aok h.1 v0 11 && true then
        bV (cl xs d 128 [.inr (.inr v0), .inl v1] h) (fun h1 =>
        bif aok h1.1 v0 11 && true then
          bV (cl xs d 128 [.inr (.inr v0), .inl v2] h1) (fun h2 =>
          bif aok h2.1 v0 11 && true then
            bV (cl xs d 128 [.inr (.inr v0), .inl v3] h2) (fun h3 =>
            bif aok h3.1 v0 11 && true then
              bV (cl xs d 128 [.inr (.inr v0), .inl v4] h3) (fun h4 =>
              bif aok h4.1 v0 11 && true then
                bV (cl xs d 128 [.inr (.inr v0), .inl v5] h4) (fun h5 =>
                bif aok h5.1 v0 11 then
                  some (some (.inl (h5.2 v0.toNat 1)), h5)
                else none)
              else none)
            else none)
          else none)
        else none)
      else none
    else
      some (some (.inl (-1)), h)
  else none :=
  (aB gP gX xs stp_127 25 d mm_127 0 _ _ h).trans rfl

def stp_128 : List Nat := [0, 3, 40]
set_option maxRecDepth 100000 in
set_option maxHeartbeats 4000000 in
theorem q_128_0 (xs : List Int) (d : Nat) (v0 : Int) (v1 : Int) (h : aH) : ev xs d mm_128 0 [some (.inr (.inr v0)), some (.inl v1), none] [] h =
  ev xs d mm_128 3 [some (.inr (.inr v0)), some (.inl v1), some (.inl 24)] [] h :=
  (aB gP gX xs stp_128 3 d mm_128 0 _ _ h).trans rfl

set_option maxRecDepth 100000 in
set_option maxHeartbeats 4000000 in
theorem q_128_3 (xs : List Int) (d : Nat) (v0 : Int) (v1 : Int) (v2 : Int) (h : aH) : ev xs d mm_128 3 [some (.inr (.inr v0)), some (.inl v1), some (.inl v2)] [] h =
  bif decide (v2 < 0) then
    some (none, h)
  else
    bif aok h.1 v0 11 then
      bif decide (2000 ≤ (h.2 v0.toNat 1)) then
        ev xs d mm_128 40 [some (.inr (.inr v0)), some (.inl v1), some (.inl v2)] [] h
      else
        bif aok h.1 v0 11 then
          bif aok h.1 v0 11 then
            bif ain h.1 (h.2 v0.toNat 0) 102 (h.2 v0.toNat 1) then
              bif aok h.1 v0 11 then
                bif aok h.1 v0 11 then
                  ev xs d mm_128 40 [some (.inr (.inr v0)), some (.inl v1), some (.inl v2)] [] (h.1, aup (aup h.2 (h.2 v0.toNat 0).toNat (h.2 v0.toNat 1).toNat (oi2b (oi2b (oushr v1 v2)))) v0.toNat 1 (w32 (((aup h.2 (h.2 v0.toNat 0).toNat (h.2 v0.toNat 1).toNat (oi2b (oi2b (oushr v1 v2)))) v0.toNat 1) + 1)))
                else none
              else none
            else none
          else none
        else none
    else none :=
  (aB gP gX xs stp_128 22 d mm_128 3 _ _ h).trans rfl

set_option maxRecDepth 100000 in
set_option maxHeartbeats 4000000 in
theorem q_128_40 (xs : List Int) (d : Nat) (v0 : Int) (v1 : Int) (v2 : Int) (h : aH) : ev xs d mm_128 40 [some (.inr (.inr v0)), some (.inl v1), some (.inl v2)] [] h =
  ev xs d mm_128 3 [some (.inr (.inr v0)), some (.inl v1), some (.inl (w32 (v2 + (-8))))] [] h :=
  (aB gP gX xs stp_128 3 d mm_128 40 _ _ h).trans rfl

def stp_129 : List Nat := [0, 12]
set_option maxRecDepth 100000 in
set_option maxHeartbeats 4000000 in
theorem q_129_0 (xs : List Int) (d : Nat) (v0 : Int) (v1 : Int) (h : aH) : ev xs d mm_129 0 [some (.inr (.inr v0)), some (.inl v1)] [] h =
  bif decide (v1 < 0) then
    ev xs d mm_129 12 [some (.inr (.inr v0)), some (.inl v1)] [] h
  else
    bif aok h.1 v0 11 then
      bif decide (v1 ≤ (h.2 v0.toNat 1)) then
        bif aok h.1 v0 11 then
          bif aok h.1 v0 11 then
            bif aok h.1 v0 11 then
              some (some (.inl ((aup h.2 v0.toNat 1 (w32 ((h.2 v0.toNat 1) - v1))) v0.toNat 1)), (h.1, aup h.2 v0.toNat 1 (w32 ((h.2 v0.toNat 1) - v1))))
            else none
          else none
        else none
      else
        ev xs d mm_129 12 [some (.inr (.inr v0)), some (.inl v1)] [] h
    else none :=
  (aB gP gX xs stp_129 16 d mm_129 0 _ _ h).trans rfl

set_option maxRecDepth 100000 in
set_option maxHeartbeats 4000000 in
theorem q_129_12 (xs : List Int) (d : Nat) (v0 : Int) (v1 : Int) (h : aH) : ev xs d mm_129 12 [some (.inr (.inr v0)), some (.inl v1)] [] h =
  some (some (.inl (-1)), h) :=
  (aB gP gX xs stp_129 3 d mm_129 12 _ _ h).trans rfl

def stp_130 : List Nat := [0, 68, 94]
set_option maxRecDepth 100000 in
set_option maxHeartbeats 4000000 in
theorem q_130_0 (xs : List Int) (d : Nat) (v0 : Int) (h : aH) : ev xs d mm_130 0 [some (.inr (.inr v0)), none, none, none] [] h =
  bif aok h.1 v0 11 then
    bif aok h.1 v0 11 then
      bif aok h.1 v0 11 then
        bif aok h.1 v0 11 then
          bif aok h.1 ((aup h.2 v0.toNat 1 0) v0.toNat 3) 4 && true then
            bV (cl xs d 40 [.inr (.inr ((aup h.2 v0.toNat 1 0) v0.toNat 3)), .inr (.inr ((aup h.2 v0.toNat 1 0) v0.toNat 0)), .inl (h.2 v0.toNat 1)] (h.1, aup h.2 v0.toNat 1 0)) (fun h1 =>
            bif aok h1.1 v0 11 then
              bif aok h1.1 (h1.2 v0.toNat 3) 4 && true then
                bI (cl xs d 49 [.inr (.inr (h1.2 v0.toNat 3))] h1) (fun x3 h2 =>
                bif aok h2.1 v0 11 then
                  bif aok h2.1 (h2.2 v0.toNat 3) 4 then
                    bif aok h2.1 v0 11 then
                      bif decide (¬ x3 = 0) then
                        ev xs d mm_130 68 [some (.inr (.inr v0)), some (.inl (h.2 v0.toNat 1)), some (.inl x3), none] [] (h2.1, aup h2.2 v0.toNat 2 (h2.2 (h2.2 v0.toNat 3).toNat 5))
                      else
                        bif aok h2.1 v0 11 then
                          bif aok h2.1 v0 11 then
                            bif aok h2.1 ((aup h2.2 v0.toNat 2 (h2.2 (h2.2 v0.toNat 3).toNat 5)) v0.toNat 4) 8 && true then
                              bI (cl xs d 89 [.inr (.inr ((aup h2.2 v0.toNat 2 (h2.2 (h2.2 v0.toNat 3).toNat 5)) v0.toNat 4)), .inr (.inr ((aup h2.2 v0.toNat 2 (h2.2 (h2.2 v0.toNat 3).toNat 5)) v0.toNat 6))] (h2.1, aup h2.2 v0.toNat 2 (h2.2 (h2.2 v0.toNat 3).toNat 5))) (fun x5 h4 =>
                              bif aok h4.1 v0 11 then
                                bif aok h4.1 (h4.2 v0.toNat 4) 8 then
                                  bif aok h4.1 v0 11 then
                                    ev xs d mm_130 68 [some (.inr (.inr v0)), some (.inl (h.2 v0.toNat 1)), some (.inl x5), none] [] (h4.1, aup h4.2 v0.toNat 2 (h4.2 (h4.2 v0.toNat 4).toNat 1))
                                  else none
                                else none
                              else none)
                            else none
                          else none
                        else none
                    else none
                  else none
                else none)
              else none
            else none)
          else none
        else none
      else none
    else none
  else none :=
  (aB gP gX xs stp_130 35 d mm_130 0 _ _ h).trans rfl

set_option maxRecDepth 100000 in
set_option maxHeartbeats 4000000 in
theorem q_130_68 (xs : List Int) (d : Nat) (v0 : Int) (v1 : Int) (v2 : Int) (u3 : Option aV) (h : aH) : ev xs d mm_130 68 [some (.inr (.inr v0)), some (.inl v1), some (.inl v2), u3] [] h =
  bif decide (¬ v2 = 0) then
    ev xs d mm_130 94 [some (.inr (.inr v0)), some (.inl v1), some (.inl v2), u3] [] h
  else
    bif aok h.1 v0 11 then
      bif aok h.1 v0 11 then
        bif aok h.1 v0 11 then
          bif aok h.1 v0 11 then
            bif aok h.1 v0 11 && true then
              bV (cl xs d 131 [.inr (.inr v0)] (h.1, aup (aup h.2 v0.toNat 5 (h.2 v0.toNat 6)) v0.toNat 6 (h.2 v0.toNat 5))) (fun h1 =>
              ev xs d mm_130 94 [some (.inr (.inr v0)), some (.inl v1), some (.inl v2), some (.inr (.inr (h.2 v0.toNat 5)))] [] h1)
            else none
          else none
        else none
      else none
    else none :=
  (aB gP gX xs stp_130 15 d mm_130 68 _ _ h).trans rfl

set_option maxRecDepth 100000 in
set_option maxHeartbeats 4000000 in
theorem q_130_94 (xs : List Int) (d : Nat) (v0 : Int) (v1 : Int) (v2 : Int) (u3 : Option aV) (h : aH) : ev xs d mm_130 94 [some (.inr (.inr v0)), some (.inl v1), some (.inl v2), u3] [] h =
  some (some (.inl v2), h) :=
  (aB gP gX xs stp_130 3 d mm_130 94 _ _ h).trans rfl

def stp_131 : List Nat := [0]
set_option maxRecDepth 100000 in
set_option maxHeartbeats 4000000 in
theorem q_131_0 (xs : List Int) (d : Nat) (v0 : Int) (h : aH) : ev xs d mm_131 0 [some (.inr (.inr v0))] [] h =
  bif aok h.1 v0 11 then
    bif aok h.1 v0 11 then
      bif aok h.1 (h.2 v0.toNat 7) 6 && true then
        bV (cl xs d 73 [.inr (.inr (h.2 v0.toNat 7)), .inr (.inr (h.2 v0.toNat 5))] h) (fun h1 =>
        bif aok h1.1 v0 11 && true then
          bV (cl xs d 132 [.inr (.inr v0)] h1) (fun h2 =>
          bif aok h2.1 v0 11 then
            bif aok h2.1 v0 11 then
              bif aok h2.1 ((aup h2.2 v0.toNat 13 0) v0.toNat 15) 1 && true then
                bV (cl xs d 12 [.inr (.inr ((aup h2.2 v0.toNat 13 0) v0.toNat 15))] (h2.1, aup h2.2 v0.toNat 13 0)) (fun h3 =>
                bif aok h3.1 v0 11 && true then
                  bV (cl xs d 133 [.inr (.inr v0)] h3) (fun h4 =>
                  some (none, h4))
                else none)
              else none
            else none
          else none)
        else none)
      else none
    else none
  else none :=
  (aB gP gX xs stp_131 17 d mm_131 0 _ _ h).trans rfl

def stp_132 : List Nat := [0]
set_option maxRecDepth 100000 in
set_option maxHeartbeats 4000000 in
theorem q_132_0 (xs : List Int) (d : Nat) (v0 : Int) (h : aH) : ev xs d mm_132 0 [some (.inr (.inr v0))] [] h =
  bif aok h.1 v0 11 then
    bif aok h.1 v0 11 then
      some (none, (h.1, aup (aup h.2 v0.toNat 10 0) v0.toNat 11 0))
    else none
  else none :=
  (aB gP gX xs stp_132 8 d mm_132 0 _ _ h).trans rfl

def stp_133 : List Nat := [0]
set_option maxRecDepth 100000 in
set_option maxHeartbeats 4000000 in
theorem q_133_0 (xs : List Int) (d : Nat) (v0 : Int) (h : aH) : ev xs d mm_133 0 [some (.inr (.inr v0))] [] h =
  bif aok h.1 v0 11 then
    bif aok h.1 (h.2 v0.toNat 16) 5 && true then
      bif aok h.1 v0 11 then
        bif aok h.1 ((aup h.2 (h.2 v0.toNat 16).toNat 0 0) v0.toNat 17) 2 && true then
          some (none, (h.1, aup (aup h.2 (h.2 v0.toNat 16).toNat 0 0) ((aup h.2 (h.2 v0.toNat 16).toNat 0 0) v0.toNat 17).toNat 0 0))
        else none
      else none
    else none
  else none :=
  (aB gP gX xs stp_133 10 d mm_133 0 _ _ h).trans rfl

def stp_134 : List Nat := [0]
set_option maxRecDepth 100000 in
set_option maxHeartbeats 4000000 in
theorem q_134_0 (xs : List Int) (d : Nat) (v0 : Int) (h : aH) : ev xs d mm_134 0 [some (.inr (.inr v0))] [] h =
  bif aok h.1 v0 11 then
    some (some (.inl (h.2 v0.toNat 2)), h)
  else none :=
  (aB gP gX xs stp_134 4 d mm_134 0 _ _ h).trans rfl

def stp_135 : List Nat := [0, 19, 20]
set_option maxRecDepth 100000 in
set_option maxHeartbeats 4000000 in
theorem q_135_0 (xs : List Int) (d : Nat) (v0 : Int) (v1 : Int) (h : aH) : ev xs d mm_135 0 [some (.inr (.inr v0)), some (.inl v1)] [] h =
  bif decide (v1 < 0) then
    ev xs d mm_135 19 [some (.inr (.inr v0)), some (.inl v1)] [] h
  else
    bif aok h.1 v0 11 then
      bif aok h.1 (h.2 v0.toNat 5) 9 then
        bif decide ((h.2 (h.2 v0.toNat 5).toNat 5) ≤ v1) then
          ev xs d mm_135 19 [some (.inr (.inr v0)), some (.inl v1)] [] h
        else
          ev xs d mm_135 20 [some (.inr (.inr v0)), some (.inl v1)] [.inl 1] h
      else none
    else none :=
  (aB gP gX xs stp_135 10 d mm_135 0 _ _ h).trans rfl

set_option maxRecDepth 100000 in
set_option maxHeartbeats 4000000 in
theorem q_135_19 (xs : List Int) (d : Nat) (v0 : Int) (v1 : Int) (h : aH) : ev xs d mm_135 19 [some (.inr (.inr v0)), some (.inl v1)] [] h =
  ev xs d mm_135 20 [some (.inr (.inr v0)), some (.inl v1)] [.inl 0] h :=
  (aB gP gX xs stp_135 2 d mm_135 19 _ _ h).trans rfl

set_option maxRecDepth 100000 in
set_option maxHeartbeats 4000000 in
theorem q_135_20 (xs : List Int) (d : Nat) (v0 : Int) (v1 : Int) (s0 : Int) (h : aH) : ev xs d mm_135 20 [some (.inr (.inr v0)), some (.inl v1)] [.inl s0] h =
  bif decide (s0 = 0) || decide (s0 = 1) then some (some (.inl s0), h) else none :=
  (aB gP gX xs stp_135 2 d mm_135 20 _ _ h).trans rfl

def stp_136 : List Nat := [0, 22, 23]
set_option maxRecDepth 100000 in
set_option maxHeartbeats 4000000 in
theorem q_136_0 (xs : List Int) (d : Nat) (v0 : Int) (v1 : Int) (h : aH) : ev xs d mm_136 0 [some (.inr (.inr v0)), some (.inl v1)] [] h =
  bif decide (v1 < 0) then
    ev xs d mm_136 22 [some (.inr (.inr v0)), some (.inl v1)] [] h
  else
    bif aok h.1 v0 11 then
      bif aok h.1 (h.2 v0.toNat 5) 9 then
        bif aok h.1 (h.2 (h.2 v0.toNat 5).toNat 3) 7 then
          bif decide ((h.2 (h.2 (h.2 v0.toNat 5).toNat 3).toNat 0) ≤ v1) then
            ev xs d mm_136 22 [some (.inr (.inr v0)), some (.inl v1)] [] h
          else
            ev xs d mm_136 23 [some (.inr (.inr v0)), some (.inl v1)] [.inl 1] h
        else none
      else none
    else none :=
  (aB gP gX xs stp_136 11 d mm_136 0 _ _ h).trans rfl

set_option maxRecDepth 100000 in
set_option maxHeartbeats 4000000 in
theorem q_136_22 (xs : List Int) (d : Nat) (v0 : Int) (v1 : Int) (h : aH) : ev xs d mm_136 22 [some (.inr (.inr v0)), some (.inl v1)] [] h =
  ev xs d mm_136 23 [some (.inr (.inr v0)), some (.inl v1)] [.inl 0] h :=
  (aB gP gX xs stp_136 2 d mm_136 22 _ _ h).trans rfl

set_option maxRecDepth 100000 in
set_option maxHeartbeats 4000000 in
theorem q_136_23 (xs : List Int) (d : Nat) (v0 : Int) (v1 : Int) (s0 : Int) (h : aH) : ev xs d mm_136 23 [some (.inr (.inr v0)), some (.inl v1)] [.inl s0] h =
  bif decide (s0 = 0) || decide (s0 = 1) then some (some (.inl s0), h) else none :=
  (aB gP gX xs stp_136 2 d mm_136 23 _ _ h).trans rfl

def stp_137 : List Nat := [0, 19, 20]
set_option maxRecDepth 100000 in
set_option maxHeartbeats 4000000 in
theorem q_137_0 (xs : List Int) (d : Nat) (v0 : Int) (v1 : Int) (h : aH) : ev xs d mm_137 0 [some (.inr (.inr v0)), some (.inl v1)] [] h =
  bif decide (v1 < 0) then
    ev xs d mm_137 19 [some (.inr (.inr v0)), some (.inl v1)] [] h
  else
    bif aok h.1 v0 11 then
      bif aok h.1 (h.2 v0.toNat 5) 9 then
        bif decide ((h.2 (h.2 v0.toNat 5).toNat 7) < v1) then
          ev xs d mm_137 19 [some (.inr (.inr v0)), some (.inl v1)] [] h
        else
          ev xs d mm_137 20 [some (.inr (.inr v0)), some (.inl v1)] [.inl 1] h
      else none
    else none :=
  (aB gP gX xs stp_137 10 d mm_137 0 _ _ h).trans rfl

set_option maxRecDepth 100000 in
set_option maxHeartbeats 4000000 in
theorem q_137_19 (xs : List Int) (d : Nat) (v0 : Int) (v1 : Int) (h : aH) : ev xs d mm_137 19 [some (.inr (.inr v0)), some (.inl v1)] [] h =
  ev xs d mm_137 20 [some (.inr (.inr v0)), some (.inl v1)] [.inl 0] h :=
  (aB gP gX xs stp_137 2 d mm_137 19 _ _ h).trans rfl

set_option maxRecDepth 100000 in
set_option maxHeartbeats 4000000 in
theorem q_137_20 (xs : List Int) (d : Nat) (v0 : Int) (v1 : Int) (s0 : Int) (h : aH) : ev xs d mm_137 20 [some (.inr (.inr v0)), some (.inl v1)] [.inl s0] h =
  bif decide (s0 = 0) || decide (s0 = 1) then some (some (.inl s0), h) else none :=
  (aB gP gX xs stp_137 2 d mm_137 20 _ _ h).trans rfl

def stp_138 : List Nat := [0]
set_option maxRecDepth 100000 in
set_option maxHeartbeats 4000000 in
theorem q_138_0 (xs : List Int) (d : Nat) (v0 : Int) (v1 : Int) (h : aH) : ev xs d mm_138 0 [some (.inr (.inr v0)), some (.inr (.inl v1)), none] [] h =
  bif aok h.1 v0 11 && true then
    bJ (cl xs d 139 [.inr (.inr v0), .inr (.inl v1), .inl 7] h) (fun x2 h1 =>
    some (some (.inr (.inl x2)), h1))
  else none :=
  (aB gP gX xs stp_138 6 d mm_138 0 _ _ h).trans rfl

def stp_139 : List Nat := [0, 9, 73, 79]
set_option maxRecDepth 100000 in
set_option maxHeartbeats 4000000 in
theorem q_139_0 (xs : List Int) (d : Nat) (v0 : Int) (v1 : Int) (v3 : Int) (h : aH) : ev xs d mm_139 0 [some (.inr (.inr v0)), some (.inr (.inl v1)), none, some (.inl v3), none, none, none, none, none] [] h =
  ev xs d mm_139 9 [some (.inr (.inr v0)), some (.inr (.inl v1)), none, some (.inl v3), some (.inr (.inl v1)), none, some (.inl 0), some (.inl 0), none] [] h :=
  (aB gP gX xs stp_139 7 d mm_139 0 _ _ h).trans rfl

set_option maxRecDepth 100000 in
set_option maxHeartbeats 4000000 in
theorem q_139_9 (xs : List Int) (d : Nat) (v0 : Int) (v1 : Int) (u2 : Option aV) (v3 : Int) (v4 : Int) (u5 : Option aV) (v6 : Int) (v7 : Int) (u8 : Option aV) (h : aH) : ev xs d mm_139 9 [some (.inr (.inr v0)), some (.inr (.inl v1)), u2, some (.inl v3), some (.inr (.inl v4)), u5, some (.inl v6), some (.inl v7), u8] [] h =
  bif aok h.1 v0 11 then
    bif aok h.1 (h.2 v0.toNat 5) 9 then
      bif aok h.1 (h.2 (h.2 v0.toNat 5).toNat 3) 7 then
        bif decide ((h.2 (h.2 (h.2 v0.toNat 5).toNat 3).toNat 0) ≤ v7) then
          ev xs d mm_139 79 [some (.inr (.inr v0)), some (.inr (.inl v1)), u2, some (.inl v3), some (.inr (.inl v4)), u5, some (.inl v6), some (.inl v7), u8] [] h
        else
          bif decide (v3 ≤ v6) then
            ev xs d mm_139 79 [some (.inr (.inr v0)), some (.inr (.inl v1)), u2, some (.inl v3), some (.inr (.inl v4)), u5, some (.inl v6), some (.inl v7), u8] [] h
          else
            bif aok h.1 v0 11 then
              bif aok h.1 (h.2 v0.toNat 7) 6 then
                bif ain h.1 (h.2 (h.2 v0.toNat 7).toNat 1) 100 v7 then
                  bif aok h.1 v0 11 then
                    bif aok h.1 (h.2 v0.toNat 7) 6 && true then
                      bI (cl xs d 75 [.inr (.inr (h.2 v0.toNat 7)), .inl (h.2 (h.2 (h.2 v0.toNat 7).toNat 1).toNat v7.toNat)] h) (fun x2 h1 =>
                      bif decide (x2 = 0) then
                        ev xs d mm_139 73 [some (.inr (.inr v0)), some (.inr (.inl v1)), u2, some (.inl v3), some (.inr (.inl v4)), u5, some (.inl v6), some (.inl v7), some (.inl (h.2 (h.2 (h.2 v0.toNat 7).toNat 1).toNat v7.toNat))] [] h1
                      else
                        bif aok h1.1 v0 11 then
                          bif aok h1.1 (h1.2 v0.toNat 5) 9 then
                            bif aok h1.1 (h1.2 (h1.2 v0.toNat 5).toNat 3) 7 && true then
                              bJ (cl xs d 86 [.inr (.inr (h1.2 (h1.2 v0.toNat 5).toNat 3)), .inl (h.2 (h.2 (h.2 v0.toNat 7).toNat 1).toNat v7.toNat), .inr (.inl v4)] h1) (fun x4 h3 =>
                              ev xs d mm_139 73 [some (.inr (.inr v0)), some (.inr (.inl v1)), u2, some (.inl v3), some (.inr (.inl x4)), none, some (.inl (w32 (v6 + 1))), some (.inl v7), some (.inl (h.2 (h.2 (h.2 v0.toNat 7).toNat 1).toNat v7.toNat))] [] h3)
                            else none
                          else none
                        else none)
                    else none
                  else none
                else none
              else none
            else none
      else none
    else none
  else none :=
  (aB gP gX xs stp_139 29 d mm_139 9 _ _ h).trans rfl

set_option maxRecDepth 100000 in
set_option maxHeartbeats 4000000 in
theorem q_139_73 (xs : List Int) (d : Nat) (v0 : Int) (v1 : Int) (u2 : Option aV) (v3 : Int) (v4 : Int) (u5 : Option aV) (v6 : Int) (v7 : Int) (v8 : Int) (h : aH) : ev xs d mm_139 73 [some (.inr (.inr v0)), some (.inr (.inl v1)), u2, some (.inl v3), some (.inr (.inl v4)), u5, some (.inl v6), some (.inl v7), some (.inl v8)] [] h =
  ev xs d mm_139 9 [some (.inr (.inr v0)), some (.inr (.inl v1)), u2, some (.inl v3), some (.inr (.inl v4)), u5, some (.inl v6), some (.inl (w32 (v7 + 1))), some (.inl v8)] [] h :=
  (aB gP gX xs stp_139 3 d mm_139 73 _ _ h).trans rfl

set_option maxRecDepth 100000 in
set_option maxHeartbeats 4000000 in
theorem q_139_79 (xs : List Int) (d : Nat) (v0 : Int) (v1 : Int) (u2 : Option aV) (v3 : Int) (v4 : Int) (u5 : Option aV) (v6 : Int) (v7 : Int) (u8 : Option aV) (h : aH) : ev xs d mm_139 79 [some (.inr (.inr v0)), some (.inr (.inl v1)), u2, some (.inl v3), some (.inr (.inl v4)), u5, some (.inl v6), some (.inl v7), u8] [] h =
  some (some (.inr (.inl v4)), h) :=
  (aB gP gX xs stp_139 3 d mm_139 79 _ _ h).trans rfl

def stp_140 : List Nat := [0, 21]
set_option maxRecDepth 100000 in
set_option maxHeartbeats 4000000 in
theorem q_140_0 (xs : List Int) (d : Nat) (v0 : Int) (v1 : Int) (v2 : Int) (h : aH) : ev xs d mm_140 0 [some (.inr (.inr v0)), some (.inl v1), some (.inl v2)] [] h =
  bif aok h.1 v0 11 && true then
    bI (cl xs d 135 [.inr (.inr v0), .inl v1] h) (fun x2 h1 =>
    bif decide (x2 = 0) then
      ev xs d mm_140 21 [some (.inr (.inr v0)), some (.inl v1), some (.inl v2)] [.inl (-1)] h1
    else
      bif aok h1.1 v0 11 then
        bif aok h1.1 (h1.2 v0.toNat 7) 6 && true then
          bI (cl xs d 76 [.inr (.inr (h1.2 v0.toNat 7)), .inl v1, .inl v2] h1) (fun x4 h3 =>
          ev xs d mm_140 21 [some (.inr (.inr v0)), some (.inl v1), some (.inl v2)] [.inl x4] h3)
        else none
      else none)
  else none :=
  (aB gP gX xs stp_140 11 d mm_140 0 _ _ h).trans rfl

set_option maxRecDepth 100000 in
set_option maxHeartbeats 4000000 in
theorem q_140_21 (xs : List Int) (d : Nat) (v0 : Int) (v1 : Int) (v2 : Int) (s0 : Int) (h : aH) : ev xs d mm_140 21 [some (.inr (.inr v0)), some (.inl v1), some (.inl v2)] [.inl s0] h =
  some (some (.inl s0), h) :=
  (aB gP gX xs stp_140 2 d mm_140 21 _ _ h).trans rfl

def stp_141 : List Nat := [0, 29]
set_option maxRecDepth 100000 in
set_option maxHeartbeats 4000000 in
theorem q_141_0 (xs : List Int) (d : Nat) (v0 : Int) (v1 : Int) (v2 : Int) (h : aH) : ev xs d mm_141 0 [some (.inr (.inr v0)), some (.inl v1), some (.inl v2)] [] h =
  bif aok h.1 v0 11 && true then
    bI (cl xs d 135 [.inr (.inr v0), .inl v1] h) (fun x2 h1 =>
    bif decide (x2 = 0) then
      ev xs d mm_141 29 [some (.inr (.inr v0)), some (.inl v1), some (.inl v2)] [.inl (-1)] h1
    else
      bif aok h1.1 v0 11 then
        bif aok h1.1 (h1.2 v0.toNat 7) 6 then
          bif ain h1.1 (h1.2 (h1.2 v0.toNat 7).toNat 2) 101 v1 then
            bif aok h1.1 v0 11 && true then
              bJ (cl xs d 138 [.inr (.inr v0), .inr (.inl (h1.2 (h1.2 (h1.2 v0.toNat 7).toNat 2).toNat v1.toNat))] h1) (fun x4 h3 =>
              bI (cl xs d 125 [.inr (.inl x4), .inl v2] h3) (fun x6 h5 =>
                ev xs d mm_141 29 [some (.inr (.inr v0)), some (.inl v1), some (.inl v2)] [.inl x6] h5))
            else none
          else none
        else none
      else none)
  else none :=
  (aB gP gX xs stp_141 15 d mm_141 0 _ _ h).trans rfl

set_option maxRecDepth 100000 in
set_option maxHeartbeats 4000000 in
theorem q_141_29 (xs : List Int) (d : Nat) (v0 : Int) (v1 : Int) (v2 : Int) (s0 : Int) (h : aH) : ev xs d mm_141 29 [some (.inr (.inr v0)), some (.inl v1), some (.inl v2)] [.inl s0] h =
  some (some (.inl s0), h) :=
  (aB gP gX xs stp_141 2 d mm_141 29 _ _ h).trans rfl

def stp_142 : List Nat := [0, 26]
set_option maxRecDepth 100000 in
set_option maxHeartbeats 4000000 in
theorem q_142_0 (xs : List Int) (d : Nat) (v0 : Int) (v1 : Int) (v2 : Int) (v3 : Int) (h : aH) : ev xs d mm_142 0 [some (.inr (.inr v0)), some (.inl v1), some (.inl v2), some (.inl v3)] [] h =
  bif aok h.1 v0 11 && true then
    bI (cl xs d 135 [.inr (.inr v0), .inl v1] h) (fun x2 h1 =>
    bif decide (x2 = 0) then
      ev xs d mm_142 26 [some (.inr (.inr v0)), some (.inl v1), some (.inl v2), some (.inl v3)] [] h1
    else
      bif decide (v2 < 0) then
        ev xs d mm_142 26 [some (.inr (.inr v0)), some (.inl v1), some (.inl v2), some (.inl v3)] [] h1
      else
        bif aok h1.1 v0 11 then
          bif aok h1.1 (h1.2 v0.toNat 7) 6 then
            bI (cl xs d 316 [.inl (h1.2 (h1.2 v0.toNat 7).toNat 0)] h1) (fun x4 h3 =>
              bif decide (v2 ≤ x4) then
                bif aok h3.1 v0 11 then
                  bif aok h3.1 (h3.2 v0.toNat 7) 6 then
                    bif ain h3.1 (h3.2 (h3.2 v0.toNat 7).toNat 2) 101 v1 then
                      bif aok h3.1 v0 11 && true then
                        bJ (cl xs d 139 [.inr (.inr v0), .inr (.inl (h3.2 (h3.2 (h3.2 v0.toNat 7).toNat 2).toNat v1.toNat)), .inl v2] h3) (fun x6 h5 =>
                        bI (cl xs d 125 [.inr (.inl x6), .inl v3] h5) (fun x8 h7 =>
                          some (some (.inl x8), h7)))
                      else none
                    else none
                  else none
                else none
              else
                ev xs d mm_142 26 [some (.inr (.inr v0)), some (.inl v1), some (.inl v2), some (.inl v3)] [] h3)
          else none
        else none)
  else none :=
  (aB gP gX xs stp_142 24 d mm_142 0 _ _ h).trans rfl

set_option maxRecDepth 100000 in
set_option maxHeartbeats 4000000 in
theorem q_142_26 (xs : List Int) (d : Nat) (v0 : Int) (v1 : Int) (v2 : Int) (v3 : Int) (h : aH) : ev xs d mm_142 26 [some (.inr (.inr v0)), some (.inl v1), some (.inl v2), some (.inl v3)] [] h =
  some (some (.inl (-1)), h) :=
  (aB gP gX xs stp_142 3 d mm_142 26 _ _ h).trans rfl

def stp_143 : List Nat := [0, 23, 91, 97]
set_option maxRecDepth 100000 in
set_option maxHeartbeats 4000000 in
theorem q_143_0 (xs : List Int) (d : Nat) (v0 : Int) (v1 : Int) (h : aH) : ev xs d mm_143 0 [some (.inr (.inr v0)), some (.inl v1), none, none, none, none] [] h =
  bif aok h.1 v0 11 && true then
    bI (cl xs d 135 [.inr (.inr v0), .inl v1] h) (fun x2 h1 =>
    bif decide (¬ x2 = 0) then
      bif aok h1.1 v0 11 then
        bif aok h1.1 (h1.2 v0.toNat 7) 6 then
          bif ain h1.1 (h1.2 (h1.2 v0.toNat 7).toNat 2) 101 v1 then
            ev xs d mm_143 23 [some (.inr (.inr v0)), some (.inl v1), some (.inr (.inl (h1.2 (h1.2 (h1.2 v0.toNat 7).toNat 2).toNat v1.toNat))), none, some (.inl 0), none] [] h1
          else none
        else none
      else none
    else
      some (some (.inl (-1)), h1))
  else none :=
  (aB gP gX xs stp_143 13 d mm_143 0 _ _ h).trans rfl

set_option maxRecDepth 100000 in
set_option maxHeartbeats 4000000 in
theorem q_143_23 (xs : List Int) (d : Nat) (v0 : Int) (v1 : Int) (v2 : Int) (u3 : Option aV) (v4 : Int) (u5 : Option aV) (h : aH) : ev xs d mm_143 23 [some (.inr (.inr v0)), some (.inl v1), some (.inr (.inl v2)), u3, some (.inl v4), u5] [] h =
  bif aok h.1 v0 11 then
    bif aok h.1 (h.2 v0.toNat 5) 9 then
      bif aok h.1 (h.2 (h.2 v0.toNat 5).toNat 3) 7 then
        bif decide ((h.2 (h.2 (h.2 v0.toNat 5).toNat 3).toNat 0) ≤ v4) then
          ev xs d mm_143 97 [some (.inr (.inr v0)), some (.inl v1), some (.inr (.inl v2)), u3, some (.inl v4), u5] [] h
        else
          bif decide ((olcmp v2 ((((0 : Fin 2) : Nat) : Nat) : Int)) = 0) then
            ev xs d mm_143 97 [some (.inr (.inr v0)), some (.inl v1), some (.inr (.inl v2)), u3, some (.inl v4), u5] [] h
          else
            bif aok h.1 v0 11 then
              bif aok h.1 (h.2 v0.toNat 7) 6 then
                bif ain h.1 (h.2 (h.2 v0.toNat 7).toNat 1) 100 v4 then
                  bif aok h.1 v0 11 then
                    bif aok h.1 (h.2 v0.toNat 7) 6 && true then
                      bI (cl xs d 75 [.inr (.inr (h.2 v0.toNat 7)), .inl (h.2 (h.2 (h.2 v0.toNat 7).toNat 1).toNat v4.toNat)] h) (fun x2 h1 =>
                      bif decide (x2 = 0) then
                        ev xs d mm_143 91 [some (.inr (.inr v0)), some (.inl v1), some (.inr (.inl v2)), u3, some (.inl v4), some (.inl (h.2 (h.2 (h.2 v0.toNat 7).toNat 1).toNat v4.toNat))] [] h1
                      else
                        bif aok h1.1 v0 11 then
                          bif aok h1.1 (h1.2 v0.toNat 5) 9 then
                            bif aok h1.1 (h1.2 (h1.2 v0.toNat 5).toNat 3) 7 && true then
                              bJ (cl xs d 86 [.inr (.inr (h1.2 (h1.2 v0.toNat 5).toNat 3)), .inl (h.2 (h.2 (h.2 v0.toNat 7).toNat 1).toNat v4.toNat), .inr (.inl v2)] h1) (fun x4 h3 =>
                              bif decide (¬ (olcmp x4 ((((0 : Fin 2) : Nat) : Nat) : Int)) = 0) then
                                ev xs d mm_143 91 [some (.inr (.inr v0)), some (.inl v1), some (.inr (.inl x4)), none, some (.inl v4), some (.inl (h.2 (h.2 (h.2 v0.toNat 7).toNat 1).toNat v4.toNat))] [] h3
                              else
                                some (some (.inl (h.2 (h.2 (h.2 v0.toNat 7).toNat 1).toNat v4.toNat)), h3))
                            else none
                          else none
                        else none)
                    else none
                  else none
                else none
              else none
            else none
      else none
    else none
  else none :=
  (aB gP gX xs stp_143 35 d mm_143 23 _ _ h).trans rfl

set_option maxRecDepth 100000 in
set_option maxHeartbeats 4000000 in
theorem q_143_91 (xs : List Int) (d : Nat) (v0 : Int) (v1 : Int) (v2 : Int) (u3 : Option aV) (v4 : Int) (v5 : Int) (h : aH) : ev xs d mm_143 91 [some (.inr (.inr v0)), some (.inl v1), some (.inr (.inl v2)), u3, some (.inl v4), some (.inl v5)] [] h =
  ev xs d mm_143 23 [some (.inr (.inr v0)), some (.inl v1), some (.inr (.inl v2)), acl u3, some (.inl (w32 (v4 + 1))), some (.inl v5)] [] h :=
  (aB gP gX xs stp_143 3 d mm_143 91 _ _ h).trans rfl

set_option maxRecDepth 100000 in
set_option maxHeartbeats 4000000 in
theorem q_143_97 (xs : List Int) (d : Nat) (v0 : Int) (v1 : Int) (v2 : Int) (u3 : Option aV) (v4 : Int) (u5 : Option aV) (h : aH) : ev xs d mm_143 97 [some (.inr (.inr v0)), some (.inl v1), some (.inr (.inl v2)), u3, some (.inl v4), u5] [] h =
  some (some (.inl (-2)), h) :=
  (aB gP gX xs stp_143 3 d mm_143 97 _ _ h).trans rfl

def stp_144 : List Nat := [0, 13, 79]
set_option maxRecDepth 100000 in
set_option maxHeartbeats 4000000 in
theorem q_144_0 (xs : List Int) (d : Nat) (v0 : Int) (v1 : Int) (v2 : Int) (h : aH) : ev xs d mm_144 0 [some (.inr (.inr v0)), some (.inl v1), some (.inl v2)] [] h =
  bif aok h.1 v0 11 && true then
    bI (cl xs d 135 [.inr (.inr v0), .inl v1] h) (fun x2 h1 =>
    bif decide (x2 = 0) then
      ev xs d mm_144 13 [some (.inr (.inr v0)), some (.inl v1), some (.inl v2)] [] h1
    else
      bif decide ((-1) ≤ v2) then
        bif aok h1.1 v0 11 then
          bif aok h1.1 v0 11 then
            bif aok h1.1 (h1.2 v0.toNat 5) 9 then
              bif aok h1.1 v0 11 then
                bif aok h1.1 (h1.2 v0.toNat 7) 6 then
                  bif ain h1.1 (h1.2 (h1.2 v0.toNat 7).toNat 2) 101 v1 then
                    bif aok h1.1 v0 11 && true then
                      bJ (cl xs d 138 [.inr (.inr v0), .inr (.inl (h1.2 (h1.2 (h1.2 v0.toNat 7).toNat 2).toNat v1.toNat))] h1) (fun x4 h3 =>
                      bif aok h3.1 (h1.2 v0.toNat 14) 10 && true then
                        bV (cl xs d 114 [.inr (.inr (h1.2 v0.toNat 14)), .inr (.inr (h1.2 (h1.2 v0.toNat 5).toNat 4)), .inr (.inl x4)] h3) (fun h5 =>
                        bif decide (¬ v2 = (-1)) then
                          bif aok h5.1 v0 11 then
                            bif aok h5.1 (h5.2 v0.toNat 14) 10 then
                              bif decide ((h5.2 (h5.2 v0.toNat 14).toNat 0) ≤ v2) then
                                ev xs d mm_144 79 [some (.inr (.inr v0)), some (.inl v1), some (.inl v2)] [.inl (-1)] h5
                              else
                                bif aok h5.1 v0 11 then
                                  bif aok h5.1 (h5.2 v0.toNat 14) 10 then
                                    bif ain h5.1 (h5.2 (h5.2 v0.toNat 14).toNat 1) 100 v2 then
                                      ev xs d mm_144 79 [some (.inr (.inr v0)), some (.inl v1), some (.inl v2)] [.inl (h5.2 (h5.2 (h5.2 v0.toNat 14).toNat 1).toNat v2.toNat)] h5
                                    else none
                                  else none
                                else none
                            else none
                          else none
                        else
                          bif aok h5.1 v0 11 then
                            bif aok h5.1 (h5.2 v0.toNat 14) 10 then
                              some (some (.inl (h5.2 (h5.2 v0.toNat 14).toNat 0)), h5)
                            else none
                          else none)
                      else none)
                    else none
                  else none
                else none
              else none
            else none
          else none
        else none
      else
        ev xs d mm_144 13 [some (.inr (.inr v0)), some (.inl v1), some (.inl v2)] [] h1)
  else none :=
  (aB gP gX xs stp_144 35 d mm_144 0 _ _ h).trans rfl

set_option maxRecDepth 100000 in
set_option maxHeartbeats 4000000 in
theorem q_144_13 (xs : List Int) (d : Nat) (v0 : Int) (v1 : Int) (v2 : Int) (h : aH) : ev xs d mm_144 13 [some (.inr (.inr v0)), some (.inl v1), some (.inl v2)] [] h =
  some (some (.inl (-1)), h) :=
  (aB gP gX xs stp_144 3 d mm_144 13 _ _ h).trans rfl

set_option maxRecDepth 100000 in
set_option maxHeartbeats 4000000 in
theorem q_144_79 (xs : List Int) (d : Nat) (v0 : Int) (v1 : Int) (v2 : Int) (s0 : Int) (h : aH) : ev xs d mm_144 79 [some (.inr (.inr v0)), some (.inl v1), some (.inl v2)] [.inl s0] h =
  some (some (.inl s0), h) :=
  (aB gP gX xs stp_144 2 d mm_144 79 _ _ h).trans rfl

def stp_145 : List Nat := [0, 21]
set_option maxRecDepth 100000 in
set_option maxHeartbeats 4000000 in
theorem q_145_0 (xs : List Int) (d : Nat) (v0 : Int) (v1 : Int) (h : aH) : ev xs d mm_145 0 [some (.inr (.inr v0)), some (.inl v1)] [] h =
  bif aok h.1 v0 11 && true then
    bI (cl xs d 136 [.inr (.inr v0), .inl v1] h) (fun x2 h1 =>
    bif decide (x2 = 0) then
      ev xs d mm_145 21 [some (.inr (.inr v0)), some (.inl v1)] [.inl (-1)] h1
    else
      bif aok h1.1 v0 11 then
        bif aok h1.1 (h1.2 v0.toNat 7) 6 then
          bif ain h1.1 (h1.2 (h1.2 v0.toNat 7).toNat 1) 100 v1 then
            ev xs d mm_145 21 [some (.inr (.inr v0)), some (.inl v1)] [.inl (h1.2 (h1.2 (h1.2 v0.toNat 7).toNat 1).toNat v1.toNat)] h1
          else none
        else none
      else none)
  else none :=
  (aB gP gX xs stp_145 11 d mm_145 0 _ _ h).trans rfl

set_option maxRecDepth 100000 in
set_option maxHeartbeats 4000000 in
theorem q_145_21 (xs : List Int) (d : Nat) (v0 : Int) (v1 : Int) (s0 : Int) (h : aH) : ev xs d mm_145 21 [some (.inr (.inr v0)), some (.inl v1)] [.inl s0] h =
  some (some (.inl s0), h) :=
  (aB gP gX xs stp_145 2 d mm_145 21 _ _ h).trans rfl

def stp_146 : List Nat := [0, 26]
set_option maxRecDepth 100000 in
set_option maxHeartbeats 4000000 in
theorem q_146_0 (xs : List Int) (d : Nat) (v0 : Int) (v1 : Int) (h : aH) : ev xs d mm_146 0 [some (.inr (.inr v0)), some (.inl v1)] [] h =
  bif aok h.1 v0 11 && true then
    bI (cl xs d 136 [.inr (.inr v0), .inl v1] h) (fun x2 h1 =>
    bif decide (¬ x2 = 0) then
      bif aok h1.1 v0 11 then
        bif aok h1.1 (h1.2 v0.toNat 7) 6 && true then
          bI (cl xs d 75 [.inr (.inr (h1.2 v0.toNat 7)), .inl v1] h1) (fun x4 h3 =>
          bif decide (x4 = 0) then
            ev xs d mm_146 26 [some (.inr (.inr v0)), some (.inl v1)] [.inl 0] h3
          else
            ev xs d mm_146 26 [some (.inr (.inr v0)), some (.inl v1)] [.inl 1] h3)
        else none
      else none
    else
      some (some (.inl (-1)), h1))
  else none :=
  (aB gP gX xs stp_146 12 d mm_146 0 _ _ h).trans rfl

set_option maxRecDepth 100000 in
set_option maxHeartbeats 4000000 in
theorem q_146_26 (xs : List Int) (d : Nat) (v0 : Int) (v1 : Int) (s0 : Int) (h : aH) : ev xs d mm_146 26 [some (.inr (.inr v0)), some (.inl v1)] [.inl s0] h =
  some (some (.inl s0), h) :=
  (aB gP gX xs stp_146 2 d mm_146 26 _ _ h).trans rfl

def stp_147 : List Nat := [0, 61]
set_option maxRecDepth 100000 in
set_option maxHeartbeats 4000000 in
theorem q_147_0 (xs : List Int) (d : Nat) (v0 : Int) (h : aH) : ev xs d mm_147 0 [some (.inr (.inr v0)), none] [] h =
  bif aok h.1 v0 11 then
    bif aok h.1 v0 11 then
      bif aok h.1 v0 11 then
        bif ain h.1 (h.2 v0.toNat 9) 104 (orem (w32 ((h.2 v0.toNat 10) + (h.2 v0.toNat 11))) 30) then
          bif aok h.1 v0 11 then
            bif aok h.1 (h.2 (h.2 v0.toNat 9).toNat (orem (w32 ((h.2 v0.toNat 10) + (h.2 v0.toNat 11))) 30).toNat) 6 && true then
              bV (cl xs d 74 [.inr (.inr (h.2 (h.2 v0.toNat 9).toNat (orem (w32 ((h.2 v0.toNat 10) + (h.2 v0.toNat 11))) 30).toNat)), .inr (.inr (h.2 v0.toNat 7))] h) (fun h1 =>
              bif aok h1.1 v0 11 then
                bif decide (30 ≤ (h1.2 v0.toNat 11)) then
                  bif aok h1.1 v0 11 then
                    bif aok h1.1 v0 11 then
                      ev xs d mm_147 61 [some (.inr (.inr v0)), some (.inl (orem (w32 ((h.2 v0.toNat 10) + (h.2 v0.toNat 11))) 30))] [] (h1.1, aup h1.2 v0.toNat 10 (orem (w32 ((h1.2 v0.toNat 10) + 1)) 30))
                    else none
                  else none
                else
                  bif aok h1.1 v0 11 then
                    bif aok h1.1 v0 11 then
                      ev xs d mm_147 61 [some (.inr (.inr v0)), some (.inl (orem (w32 ((h.2 v0.toNat 10) + (h.2 v0.toNat 11))) 30))] [] (h1.1, aup h1.2 v0.toNat 11 (w32 ((h1.2 v0.toNat 11) + 1)))
                    else none
                  else none
              else none)
            else none
          else none
        else none
      else none
    else none
  else none :=
  (aB gP gX xs stp_147 28 d mm_147 0 _ _ h).trans rfl

set_option maxRecDepth 100000 in
set_option maxHeartbeats 4000000 in
theorem q_147_61 (xs : List Int) (d : Nat) (v0 : Int) (v1 : Int) (h : aH) : ev xs d mm_147 61 [some (.inr (.inr v0)), some (.inl v1)] [] h =
  some (none, h) :=
  (aB gP gX xs stp_147 2 d mm_147 61 _ _ h).trans rfl

def stp_148 : List Nat := [0]
set_option maxRecDepth 100000 in
set_option maxHeartbeats 4000000 in
theorem q_148_0 (xs : List Int) (d : Nat) (v0 : Int) (v1 : Int) (h : aH) : ev xs d mm_148 0 [some (.inr (.inr v0)), some (.inl v1)] [] h =
  bif aok h.1 v0 11 && true then
    bI (cl xs d 136 [.inr (.inr v0), .inl v1] h) (fun x2 h1 =>
    bif decide (¬ x2 = 0) then
      bif aok h1.1 v0 11 && true then
        bV (cl xs d 147 [.inr (.inr v0)] h1) (fun h3 =>
        bif aok h3.1 v0 11 then
          bif aok h3.1 (h3.2 v0.toNat 7) 6 then
            bif aok h3.1 (h3.2 v0.toNat 7) 6 then
              bif aok h3.1 v0 11 && true then
                bV (cl xs d 133 [.inr (.inr v0)] (h3.1, aup h3.2 (h3.2 v0.toNat 7).toNat 0 (oxor (h3.2 (h3.2 v0.toNat 7).toNat 0) (oshl 1 v1)))) (fun h4 =>
                some (some (.inl 1), h4))
              else none
            else none
          else none
        else none)
      else none
    else
      some (some (.inl 0), h1))
  else none :=
  (aB gP gX xs stp_148 20 d mm_148 0 _ _ h).trans rfl

def stp_149 : List Nat := [0, 21]
set_option maxRecDepth 100000 in
set_option maxHeartbeats 4000000 in
theorem q_149_0 (xs : List Int) (d : Nat) (v0 : Int) (v1 : Int) (v2 : Int) (h : aH) : ev xs d mm_149 0 [some (.inr (.inr v0)), some (.inl v1), some (.inl v2), none] [] h =
  bif aok h.1 v0 11 && true then
    bI (cl xs d 136 [.inr (.inr v0), .inl v1] h) (fun x2 h1 =>
    bif decide (x2 = 0) then
      ev xs d mm_149 21 [some (.inr (.inr v0)), some (.inl v1), some (.inl v2), none] [] h1
    else
      bif aok h1.1 v0 11 && true then
        bI (cl xs d 136 [.inr (.inr v0), .inl v2] h1) (fun x4 h3 =>
        bif decide (x4 = 0) then
          ev xs d mm_149 21 [some (.inr (.inr v0)), some (.inl v1), some (.inl v2), none] [] h3
        else
          bif decide (¬ v1 = v2) then
            bif aok h3.1 v0 11 && true then
              bV (cl xs d 147 [.inr (.inr v0)] h3) (fun h5 =>
              bif aok h5.1 v0 11 then
                bif aok h5.1 (h5.2 v0.toNat 7) 6 then
                  bif ain h5.1 (h5.2 (h5.2 v0.toNat 7).toNat 1) 100 v1 then
                    bif aok h5.1 v0 11 then
                      bif aok h5.1 (h5.2 v0.toNat 7) 6 then
                        bif aok h5.1 v0 11 then
                          bif aok h5.1 (h5.2 v0.toNat 7) 6 then
                            bif ain h5.1 (h5.2 (h5.2 v0.toNat 7).toNat 1) 100 v2 then
                              bif ain h5.1 (h5.2 (h5.2 v0.toNat 7).toNat 1) 100 v1 then
                                bif aok h5.1 v0 11 then
                                  bif aok h5.1 ((aup h5.2 (h5.2 (h5.2 v0.toNat 7).toNat 1).toNat v1.toNat (h5.2 (h5.2 (h5.2 v0.toNat 7).toNat 1).toNat v2.toNat)) v0.toNat 7) 6 then
                                    bif ain h5.1 ((aup h5.2 (h5.2 (h5.2 v0.toNat 7).toNat 1).toNat v1.toNat (h5.2 (h5.2 (h5.2 v0.toNat 7).toNat 1).toNat v2.toNat)) ((aup h5.2 (h5.2 (h5.2 v0.toNat 7).toNat 1).toNat v1.toNat (h5.2 (h5.2 (h5.2 v0.toNat 7).toNat 1).toNat v2.toNat)) v0.toNat 7).toNat 1) 100 v2 then
                                      bif aok h5.1 v0 11 && true then
                                        bV (cl xs d 133 [.inr (.inr v0)] (h5.1, aup (aup h5.2 (h5.2 (h5.2 v0.toNat 7).toNat 1).toNat v1.toNat (h5.2 (h5.2 (h5.2 v0.toNat 7).toNat 1).toNat v2.toNat)) ((aup h5.2 (h5.2 (h5.2 v0.toNat 7).toNat 1).toNat v1.toNat (h5.2 (h5.2 (h5.2 v0.toNat 7).toNat 1).toNat v2.toNat)) ((aup h5.2 (h5.2 (h5.2 v0.toNat 7).toNat 1).toNat v1.toNat (h5.2 (h5.2 (h5.2 v0.toNat 7).toNat 1).toNat v2.toNat)) v0.toNat 7).toNat 1).toNat v2.toNat (h5.2 (h5.2 (h5.2 v0.toNat 7).toNat 1).toNat v1.toNat))) (fun h6 =>
                                        some (some (.inl 1), h6))
                                      else none
                                    else none
                                  else none
                                else none
                              else none
                            else none
                          else none
                        else none
                      else none
                    else none
                  else none
                else none
              else none)
            else none
          else
            ev xs d mm_149 21 [some (.inr (.inr v0)), some (.inl v1), some (.inl v2), none] [] h3)
      else none)
  else none :=
  (aB gP gX xs stp_149 40 d mm_149 0 _ _ h).trans rfl

set_option maxRecDepth 100000 in
set_option maxHeartbeats 4000000 in
theorem q_149_21 (xs : List Int) (d : Nat) (v0 : Int) (v1 : Int) (v2 : Int) (u3 : Option aV) (h : aH) : ev xs d mm_149 21 [some (.inr (.inr v0)), some (.inl v1), some (.inl v2), u3] [] h =
  some (some (.inl 0), h) :=
  (aB gP gX xs stp_149 3 d mm_149 21 _ _ h).trans rfl

def stp_150 : List Nat := [0, 150, 166]
set_option maxRecDepth 100000 in
set_option maxHeartbeats 4000000 in
theorem q_150_0 (xs : List Int) (d : Nat) (v0 : Int) (v1 : Int) (h : aH) : ev xs d mm_150 0 [some (.inr (.inr v0)), some (.inl v1), none, none, none, none] [] h =
  bif aok h.1 v0 11 && true then
    bI (cl xs d 135 [.inr (.inr v0), .inl v1] h) (fun x2 h1 =>
    bif decide (¬ x2 = 0) then
      bif aok h1.1 v0 11 then
        bif aok h1.1 (h1.2 v0.toNat 7) 6 then
          bif ain h1.1 (h1.2 (h1.2 v0.toNat 7).toNat 3) 100 v1 then
            bif decide ((h1.2 (h1.2 (h1.2 v0.toNat 7).toNat 3).toNat v1.toNat) = 0) then
              bif aok h1.1 v0 11 && true then
                bV (cl xs d 147 [.inr (.inr v0)] h1) (fun h3 =>
                bif aok h3.1 v0 11 then
                  bif aok h3.1 (h3.2 v0.toNat 7) 6 then
                    bif ain h3.1 (h3.2 (h3.2 v0.toNat 7).toNat 2) 101 v1 then
                      bif aok h3.1 v0 11 && true then
                        bJ (cl xs d 138 [.inr (.inr v0), .inr (.inl (h3.2 (h3.2 (h3.2 v0.toNat 7).toNat 2).toNat v1.toNat))] h3) (fun x5 h4 =>
                        bif aok h4.1 v0 11 then
                          bif aok h4.1 v0 11 then
                            bif aok h4.1 (h4.2 v0.toNat 5) 9 then
                              bif aok h4.1 (h4.2 v0.toNat 14) 10 && true then
                                bV (cl xs d 114 [.inr (.inr (h4.2 v0.toNat 14)), .inr (.inr (h4.2 (h4.2 v0.toNat 5).toNat 4)), .inr (.inl x5)] h4) (fun h6 =>
                                bif aok h6.1 v0 11 then
                                  bif aok h6.1 (h6.2 v0.toNat 5) 9 then
                                    bif aok h6.1 (h6.2 (h6.2 v0.toNat 5).toNat 14) 0 then
                                      bV (cl xs d 320 [.inr (.inr (h6.2 (h6.2 (h6.2 v0.toNat 5).toNat 14).toNat 0)), .inl 0] h6) (fun h7 =>
                                        bif aok h7.1 v0 11 then
                                          bif aok h7.1 v0 11 then
                                            bif aok h7.1 (h7.2 v0.toNat 5) 9 then
                                              bif aok h7.1 (h7.2 v0.toNat 7) 6 && true then
                                                bI (cl xs d 77 [.inr (.inr (h7.2 v0.toNat 7)), .inl (h7.2 (h7.2 v0.toNat 5).toNat 5), .inl 1] h7) (fun x9 h8 =>
                                                bif ain h8.1 (h6.2 (h6.2 (h6.2 v0.toNat 5).toNat 14).toNat 0) 100 4 then
                                                  bif aok h8.1 v0 11 then
                                                    bif aok h8.1 v0 11 then
                                                      bif aok h8.1 ((aup h8.2 (h6.2 (h6.2 (h6.2 v0.toNat 5).toNat 14).toNat 0).toNat (4 : Int).toNat x9) v0.toNat 5) 9 then
                                                        bif aok h8.1 ((aup h8.2 (h6.2 (h6.2 (h6.2 v0.toNat 5).toNat 14).toNat 0).toNat (4 : Int).toNat x9) v0.toNat 7) 6 && true then
                                                          bI (cl xs d 77 [.inr (.inr ((aup h8.2 (h6.2 (h6.2 (h6.2 v0.toNat 5).toNat 14).toNat 0).toNat (4 : Int).toNat x9) v0.toNat 7)), .inl ((aup h8.2 (h6.2 (h6.2 (h6.2 v0.toNat 5).toNat 14).toNat 0).toNat (4 : Int).toNat x9) ((aup h8.2 (h6.2 (h6.2 (h6.2 v0.toNat 5).toNat 14).toNat 0).toNat (4 : Int).toNat x9) v0.toNat 5).toNat 5), .inl 0] (h8.1, aup h8.2 (h6.2 (h6.2 (h6.2 v0.toNat 5).toNat 14).toNat 0).toNat (4 : Int).toNat x9)) (fun x11 h10 =>
                                                          bif ain h10.1 (h6.2 (h6.2 (h6.2 v0.toNat 5).toNat 14).toNat 0) 100 5 then
                                                            bif aok h10.1 v0 11 then
                                                              bif aok h10.1 ((aup h10.2 (h6.2 (h6.2 (h6.2 v0.toNat 5).toNat 14).toNat 0).toNat (5 : Int).toNat x11) v0.toNat 14) 10 then
                                                                bif decide (((aup h10.2 (h6.2 (h6.2 (h6.2 v0.toNat 5).toNat 14).toNat 0).toNat (5 : Int).toNat x11) ((aup h10.2 (h6.2 (h6.2 (h6.2 v0.toNat 5).toNat 14).toNat 0).toNat (5 : Int).toNat x11) v0.toNat 14).toNat 0) ≤ 0) then
                                                                  bI (cl xs d 121 [.inr (.inl x5)] (h10.1, aup h10.2 (h6.2 (h6.2 (h6.2 v0.toNat 5).toNat 14).toNat 0).toNat (5 : Int).toNat x11)) (fun x13 h12 =>
                                                                    bif ain h12.1 (h6.2 (h6.2 (h6.2 v0.toNat 5).toNat 14).toNat 0) 100 3 then
                                                                      ev xs d mm_150 150 [some (.inr (.inr v0)), some (.inl v1), some (.inr (.inl x5)), none, some (.inr (.inr (h6.2 (h6.2 (h6.2 v0.toNat 5).toNat 14).toNat 0))), none] [] (h12.1, aup h12.2 (h6.2 (h6.2 (h6.2 v0.toNat 5).toNat 14).toNat 0).toNat (3 : Int).toNat x13)
                                                                    else none)
                                                                else
                                                                  bif aok h10.1 v0 11 then
                                                                    bif aok h10.1 ((aup h10.2 (h6.2 (h6.2 (h6.2 v0.toNat 5).toNat 14).toNat 0).toNat (5 : Int).toNat x11) v0.toNat 14) 10 then
                                                                      bif ain h10.1 ((aup h10.2 (h6.2 (h6.2 (h6.2 v0.toNat 5).toNat 14).toNat 0).toNat (5 : Int).toNat x11) ((aup h10.2 (h6.2 (h6.2 (h6.2 v0.toNat 5).toNat 14).toNat 0).toNat (5 : Int).toNat x11) v0.toNat 14).toNat 1) 100 0 then
                                                                        bif aok h10.1 v0 11 && true then
                                                                          bV (cl xs d 151 [.inr (.inr v0), .inl ((aup h10.2 (h6.2 (h6.2 (h6.2 v0.toNat 5).toNat 14).toNat 0).toNat (5 : Int).toNat x11) ((aup h10.2 (h6.2 (h6.2 (h6.2 v0.toNat 5).toNat 14).toNat 0).toNat (5 : Int).toNat x11) ((aup h10.2 (h6.2 (h6.2 (h6.2 v0.toNat 5).toNat 14).toNat 0).toNat (5 : Int).toNat x11) v0.toNat 14).toNat 1).toNat (0 : Int).toNat), .inr (.inr (h6.2 (h6.2 (h6.2 v0.toNat 5).toNat 14).toNat 0))] (h10.1, aup h10.2 (h6.2 (h6.2 (h6.2 v0.toNat 5).toNat 14).toNat 0).toNat (5 : Int).toNat x11)) (fun h14 =>
                                                                          ev xs d mm_150 166 [some (.inr (.inr v0)), some (.inl v1), some (.inr (.inl x5)), none, some (.inr (.inr (h6.2 (h6.2 (h6.2 v0.toNat 5).toNat 14).toNat 0))), none] [] h14)
                                                                        else none
                                                                      else none
                                                                    else none
                                                                  else none
                                                              else none
                                                            else none
                                                          else none)
                                                        else none
                                                      else none
                                                    else none
                                                  else none
                                                else none)
                                              else none
                                            else none
                                          else none
                                        else none)
                                    else none
                                  else none
                                else none)
                              else none
                            else none
                          else none
                        else none)
                      else none
                    else none
                  else none
                else none)
              else none
            else
              some (some (.inl (-2)), h1)
          else none
        else none
      else none
    else
      some (some (.inl (-1)), h1))
  else none :=
  (aB gP gX xs stp_150 69 d mm_150 0 _ _ h).trans rfl

set_option maxRecDepth 100000 in
set_option maxHeartbeats 4000000 in
theorem q_150_150 (xs : List Int) (d : Nat) (v0 : Int) (v1 : Int) (v2 : Int) (u3 : Option aV) (v4 : Int) (u5 : Option aV) (h : aH) : ev xs d mm_150 150 [some (.inr (.inr v0)), some (.inl v1), some (.inr (.inl v2)), u3, some (.inr (.inr v4)), u5] [] h =
  bif aok h.1 v0 11 then
    bif aok h.1 (h.2 v0.toNat 7) 6 then
      bif ain h.1 v4 100 3 then
        bif aok h.1 (h.2 v0.toNat 7) 6 then
          ev xs d mm_150 166 [some (.inr (.inr v0)), some (.inl v1), some (.inr (.inl v2)), u3, some (.inr (.inr v4)), u5] [] (h.1, aup h.2 (h.2 v0.toNat 7).toNat 6 (w32 ((h.2 (h.2 v0.toNat 7).toNat 6) + (h.2 v4.toNat (3 : Int).toNat))))
        else none
      else none
    else none
  else none :=
  (aB gP gX xs stp_150 10 d mm_150 150 _ _ h).trans rfl

set_option maxRecDepth 100000 in
set_option maxHeartbeats 4000000 in
theorem q_150_166 (xs : List Int) (d : Nat) (v0 : Int) (v1 : Int) (v2 : Int) (u3 : Option aV) (v4 : Int) (u5 : Option aV) (h : aH) : ev xs d mm_150 166 [some (.inr (.inr v0)), some (.inl v1), some (.inr (.inl v2)), u3, some (.inr (.inr v4)), u5] [] h =
  bif aok h.1 v0 11 then
    bif aok h.1 (h.2 v0.toNat 5) 9 then
      bif aok h.1 (h.2 (h.2 v0.toNat 5).toNat 14) 0 && true then
        bI (cl xs d 3 [.inr (.inr (h.2 (h.2 v0.toNat 5).toNat 14))] h) (fun x2 h1 =>
        bI (cl xs d 318 [.inl 999, .inl x2] h1) (fun x4 h3 =>
          bI (cl xs d 317 [.inl 0, .inl x4] h3) (fun x6 h5 =>
            bif aok h5.1 v0 11 then
              bif aok h5.1 (h5.2 v0.toNat 7) 6 then
                bif aok h5.1 (h5.2 v0.toNat 7) 6 then
                  bif aok h5.1 v0 11 then
                    bif aok h5.1 ((aup h5.2 (h5.2 v0.toNat 7).toNat 5 (w32 ((h5.2 (h5.2 v0.toNat 7).toNat 5) + x6))) v0.toNat 7) 6 then
                      bif ain h5.1 ((aup h5.2 (h5.2 v0.toNat 7).toNat 5 (w32 ((h5.2 (h5.2 v0.toNat 7).toNat 5) + x6))) ((aup h5.2 (h5.2 v0.toNat 7).toNat 5 (w32 ((h5.2 (h5.2 v0.toNat 7).toNat 5) + x6))) v0.toNat 7).toNat 3) 100 v1 then
                        some (some (.inl x6), (h5.1, aup (aup h5.2 (h5.2 v0.toNat 7).toNat 5 (w32 ((h5.2 (h5.2 v0.toNat 7).toNat 5) + x6))) ((aup h5.2 (h5.2 v0.toNat 7).toNat 5 (w32 ((h5.2 (h5.2 v0.toNat 7).toNat 5) + x6))) ((aup h5.2 (h5.2 v0.toNat 7).toNat 5 (w32 ((h5.2 (h5.2 v0.toNat 7).toNat 5) + x6))) v0.toNat 7).toNat 3).toNat v1.toNat 1))
                      else none
                    else none
                  else none
                else none
              else none
            else none)))
      else none
    else none
  else none :=
  (aB gP gX xs stp_150 25 d mm_150 166 _ _ h).trans rfl

def stp_151 : List Nat := [0, 2, 81, 98, 100]
set_option maxRecDepth 100000 in
set_option maxHeartbeats 4000000 in
theorem q_151_0 (xs : List Int) (d : Nat) (v0 : Int) (v1 : Int) (v2 : Int) (h : aH) : ev xs d mm_151 0 [some (.inr (.inr v0)), some (.inl v1), some (.inr (.inr v2)), none, none, none] [] h =
  ev xs d mm_151 2 [some (.inr (.inr v0)), some (.inl v1), some (.inr (.inr v2)), some (.inl 0), none, none] [] h :=
  (aB gP gX xs stp_151 3 d mm_151 0 _ _ h).trans rfl

set_option maxRecDepth 100000 in
set_option maxHeartbeats 4000000 in
theorem q_151_2 (xs : List Int) (d : Nat) (v0 : Int) (v1 : Int) (v2 : Int) (v3 : Int) (u4 : Option aV) (u5 : Option aV) (h : aH) : ev xs d mm_151 2 [some (.inr (.inr v0)), some (.inl v1), some (.inr (.inr v2)), some (.inl v3), u4, u5] [] h =
  bif decide (4 ≤ v3) then
    some (none, h)
  else
    bI (cl xs d 119 [.inl v1, .inl v3] h) (fun x2 h1 =>
      bif decide (x2 < 0) then
        ev xs d mm_151 100 [some (.inr (.inr v0)), some (.inl v1), some (.inr (.inr v2)), some (.inl v3), some (.inl x2), u5] [] h1
      else
        bif decide (24 ≤ x2) then
          ev xs d mm_151 100 [some (.inr (.inr v0)), some (.inl v1), some (.inr (.inr v2)), some (.inl v3), some (.inl x2), u5] [] h1
        else
          bif aok h1.1 v0 11 then
            bif aok h1.1 (h1.2 v0.toNat 7) 6 then
              bif ain h1.1 (h1.2 (h1.2 v0.toNat 7).toNat 4) 100 x2 then
                bif ain h1.1 (h1.2 (h1.2 v0.toNat 7).toNat 4) 100 x2 then
                  bif ain h1.1 v2 100 2 then
                    bif aok h1.1 v0 11 then
                      bif aok h1.1 ((aup h1.2 (h1.2 (h1.2 v0.toNat 7).toNat 4).toNat x2.toNat (w32 ((h1.2 (h1.2 (h1.2 v0.toNat 7).toNat 4).toNat x2.toNat) + 1))) v0.toNat 5) 9 then
                        bif aok h1.1 ((aup h1.2 (h1.2 (h1.2 v0.toNat 7).toNat 4).toNat x2.toNat (w32 ((h1.2 (h1.2 (h1.2 v0.toNat 7).toNat 4).toNat x2.toNat) + 1))) ((aup h1.2 (h1.2 (h1.2 v0.toNat 7).toNat 4).toNat x2.toNat (w32 ((h1.2 (h1.2 (h1.2 v0.toNat 7).toNat 4).toNat x2.toNat) + 1))) v0.toNat 5).toNat 4) 3 then
                          bif ain h1.1 ((aup h1.2 (h1.2 (h1.2 v0.toNat 7).toNat 4).toNat x2.toNat (w32 ((h1.2 (h1.2 (h1.2 v0.toNat 7).toNat 4).toNat x2.toNat) + 1))) ((aup h1.2 (h1.2 (h1.2 v0.toNat 7).toNat 4).toNat x2.toNat (w32 ((h1.2 (h1.2 (h1.2 v0.toNat 7).toNat 4).toNat x2.toNat) + 1))) ((aup h1.2 (h1.2 (h1.2 v0.toNat 7).toNat 4).toNat x2.toNat (w32 ((h1.2 (h1.2 (h1.2 v0.toNat 7).toNat 4).toNat x2.toNat) + 1))) v0.toNat 5).toNat 4).toNat 2) 100 x2 then
                            bif ain h1.1 v2 100 2 then
                              bif ain h1.1 v2 100 0 then
                                bif decide (¬ (odiv x2 8) = 1) then
                                  ev xs d mm_151 81 [some (.inr (.inr v0)), some (.inl v1), some (.inr (.inr v2)), some (.inl v3), some (.inl x2), some (.inl (odiv x2 8))] [.inl 0, .inl ((aup (aup h1.2 (h1.2 (h1.2 v0.toNat 7).toNat 4).toNat x2.toNat (w32 ((h1.2 (h1.2 (h1.2 v0.toNat 7).toNat 4).toNat x2.toNat) + 1))) v2.toNat (2 : Int).toNat (w32 (((aup h1.2 (h1.2 (h1.2 v0.toNat 7).toNat 4).toNat x2.toNat (w32 ((h1.2 (h1.2 (h1.2 v0.toNat 7).toNat 4).toNat x2.toNat) + 1))) v2.toNat (2 : Int).toNat) + ((aup h1.2 (h1.2 (h1.2 v0.toNat 7).toNat 4).toNat x2.toNat (w32 ((h1.2 (h1.2 (h1.2 v0.toNat 7).toNat 4).toNat x2.toNat) + 1))) ((aup h1.2 (h1.2 (h1.2 v0.toNat 7).toNat 4).toNat x2.toNat (w32 ((h1.2 (h1.2 (h1.2 v0.toNat 7).toNat 4).toNat x2.toNat) + 1))) ((aup h1.2 (h1.2 (h1.2 v0.toNat 7).toNat 4).toNat x2.toNat (w32 ((h1.2 (h1.2 (h1.2 v0.toNat 7).toNat 4).toNat x2.toNat) + 1))) ((aup h1.2 (h1.2 (h1.2 v0.toNat 7).toNat 4).toNat x2.toNat (w32 ((h1.2 (h1.2 (h1.2 v0.toNat 7).toNat 4).toNat x2.toNat) + 1))) v0.toNat 5).toNat 4).toNat 2).toNat x2.toNat)))) v2.toNat (0 : Int).toNat), .inl 0, .inr (.inr v2)] (h1.1, aup (aup h1.2 (h1.2 (h1.2 v0.toNat 7).toNat 4).toNat x2.toNat (w32 ((h1.2 (h1.2 (h1.2 v0.toNat 7).toNat 4).toNat x2.toNat) + 1))) v2.toNat (2 : Int).toNat (w32 (((aup h1.2 (h1.2 (h1.2 v0.toNat 7).toNat 4).toNat x2.toNat (w32 ((h1.2 (h1.2 (h1.2 v0.toNat 7).toNat 4).toNat x2.toNat) + 1))) v2.toNat (2 : Int).toNat) + ((aup h1.2 (h1.2 (h1.2 v0.toNat 7).toNat 4).toNat x2.toNat (w32 ((h1.2 (h1.2 (h1.2 v0.toNat 7).toNat 4).toNat x2.toNat) + 1))) ((aup h1.2 (h1.2 (h1.2 v0.toNat 7).toNat 4).toNat x2.toNat (w32 ((h1.2 (h1.2 (h1.2 v0.toNat 7).toNat 4).toNat x2.toNat) + 1))) ((aup h1.2 (h1.2 (h1.2 v0.toNat 7).toNat 4).toNat x2.toNat (w32 ((h1.2 (h1.2 (h1.2 v0.toNat 7).toNat 4).toNat x2.toNat) + 1))) ((aup h1.2 (h1.2 (h1.2 v0.toNat 7).toNat 4).toNat x2.toNat (w32 ((h1.2 (h1.2 (h1.2 v0.toNat 7).toNat 4).toNat x2.toNat) + 1))) v0.toNat 5).toNat 4).toNat 2).toNat x2.toNat))))
                                else
                                  ev xs d mm_151 81 [some (.inr (.inr v0)), some (.inl v1), some (.inr (.inr v2)), some (.inl v3), some (.inl x2), some (.inl (odiv x2 8))] [.inl 1, .inl ((aup (aup h1.2 (h1.2 (h1.2 v0.toNat 7).toNat 4).toNat x2.toNat (w32 ((h1.2 (h1.2 (h1.2 v0.toNat 7).toNat 4).toNat x2.toNat) + 1))) v2.toNat (2 : Int).toNat (w32 (((aup h1.2 (h1.2 (h1.2 v0.toNat 7).toNat 4).toNat x2.toNat (w32 ((h1.2 (h1.2 (h1.2 v0.toNat 7).toNat 4).toNat x2.toNat) + 1))) v2.toNat (2 : Int).toNat) + ((aup h1.2 (h1.2 (h1.2 v0.toNat 7).toNat 4).toNat x2.toNat (w32 ((h1.2 (h1.2 (h1.2 v0.toNat 7).toNat 4).toNat x2.toNat) + 1))) ((aup h1.2 (h1.2 (h1.2 v0.toNat 7).toNat 4).toNat x2.toNat (w32 ((h1.2 (h1.2 (h1.2 v0.toNat 7).toNat 4).toNat x2.toNat) + 1))) ((aup h1.2 (h1.2 (h1.2 v0.toNat 7).toNat 4).toNat x2.toNat (w32 ((h1.2 (h1.2 (h1.2 v0.toNat 7).toNat 4).toNat x2.toNat) + 1))) ((aup h1.2 (h1.2 (h1.2 v0.toNat 7).toNat 4).toNat x2.toNat (w32 ((h1.2 (h1.2 (h1.2 v0.toNat 7).toNat 4).toNat x2.toNat) + 1))) v0.toNat 5).toNat 4).toNat 2).toNat x2.toNat)))) v2.toNat (0 : Int).toNat), .inl 0, .inr (.inr v2)] (h1.1, aup (aup h1.2 (h1.2 (h1.2 v0.toNat 7).toNat 4).toNat x2.toNat (w32 ((h1.2 (h1.2 (h1.2 v0.toNat 7).toNat 4).toNat x2.toNat) + 1))) v2.toNat (2 : Int).toNat (w32 (((aup h1.2 (h1.2 (h1.2 v0.toNat 7).toNat 4).toNat x2.toNat (w32 ((h1.2 (h1.2 (h1.2 v0.toNat 7).toNat 4).toNat x2.toNat) + 1))) v2.toNat (2 : Int).toNat) + ((aup h1.2 (h1.2 (h1.2 v0.toNat 7).toNat 4).toNat x2.toNat (w32 ((h1.2 (h1.2 (h1.2 v0.toNat 7).toNat 4).toNat x2.toNat) + 1))) ((aup h1.2 (h1.2 (h1.2 v0.toNat 7).toNat 4).toNat x2.toNat (w32 ((h1.2 (h1.2 (h1.2 v0.toNat 7).toNat 4).toNat x2.toNat) + 1))) ((aup h1.2 (h1.2 (h1.2 v0.toNat 7).toNat 4).toNat x2.toNat (w32 ((h1.2 (h1.2 (h1.2 v0.toNat 7).toNat 4).toNat x2.toNat) + 1))) ((aup h1.2 (h1.2 (h1.2 v0.toNat 7).toNat 4).toNat x2.toNat (w32 ((h1.2 (h1.2 (h1.2 v0.toNat 7).toNat 4).toNat x2.toNat) + 1))) v0.toNat 5).toNat 4).toNat 2).toNat x2.toNat))))
                              else none
                            else none
                          else none
                        else none
                      else none
                    else none
                  else none
                else none
              else none
            else none
          else none) :=
  (aB gP gX xs stp_151 47 d mm_151 2 _ _ h).trans rfl

set_option maxRecDepth 100000 in
set_option maxHeartbeats 4000000 in
theorem q_151_81 (xs : List Int) (d : Nat) (v0 : Int) (v1 : Int) (v2 : Int) (v3 : Int) (v4 : Int) (v5 : Int) (s0 : Int) (s1 : Int) (s2 : Int) (s3 : Int) (h : aH) : ev xs d mm_151 81 [some (.inr (.inr v0)), some (.inl v1), some (.inr (.inr v2)), some (.inl v3), some (.inl v4), some (.inl v5)] [.inl s3, .inl s2, .inl s1, .inr (.inr s0)] h =
  bif ain h.1 s0 100 s1 then
    bif ain h.1 v2 100 1 then
      bif decide (¬ v5 = 2) then
        ev xs d mm_151 98 [some (.inr (.inr v0)), some (.inl v1), some (.inr (.inr v2)), some (.inl v3), some (.inl v4), some (.inl v5)] [.inl 0, .inl ((aup h.2 s0.toNat s1.toNat (w32 (s2 + s3))) v2.toNat (1 : Int).toNat), .inl 1, .inr (.inr v2)] (h.1, aup h.2 s0.toNat s1.toNat (w32 (s2 + s3)))
      else
        ev xs d mm_151 98 [some (.inr (.inr v0)), some (.inl v1), some (.inr (.inr v2)), some (.inl v3), some (.inl v4), some (.inl v5)] [.inl 1, .inl ((aup h.2 s0.toNat s1.toNat (w32 (s2 + s3))) v2.toNat (1 : Int).toNat), .inl 1, .inr (.inr v2)] (h.1, aup h.2 s0.toNat s1.toNat (w32 (s2 + s3)))
    else none
  else none :=
  (aB gP gX xs stp_151 12 d mm_151 81 _ _ h).trans rfl

set_option maxRecDepth 100000 in
set_option maxHeartbeats 4000000 in
theorem q_151_98 (xs : List Int) (d : Nat) (v0 : Int) (v1 : Int) (v2 : Int) (v3 : Int) (v4 : Int) (v5 : Int) (s0 : Int) (s1 : Int) (s2 : Int) (s3 : Int) (h : aH) : ev xs d mm_151 98 [some (.inr (.inr v0)), some (.inl v1), some (.inr (.inr v2)), some (.inl v3), some (.inl v4), some (.inl v5)] [.inl s3, .inl s2, .inl s1, .inr (.inr s0)] h =
  bif ain h.1 s0 100 s1 then
    ev xs d mm_151 100 [some (.inr (.inr v0)), some (.inl v1), some (.inr (.inr v2)), some (.inl v3), some (.inl v4), some (.inl v5)] [] (h.1, aup h.2 s0.toNat s1.toNat (w32 (s2 + s3)))
  else none :=
  (aB gP gX xs stp_151 3 d mm_151 98 _ _ h).trans rfl

set_option maxRecDepth 100000 in
set_option maxHeartbeats 4000000 in
theorem q_151_100 (xs : List Int) (d : Nat) (v0 : Int) (v1 : Int) (v2 : Int) (v3 : Int) (v4 : Int) (u5 : Option aV) (h : aH) : ev xs d mm_151 100 [some (.inr (.inr v0)), some (.inl v1), some (.inr (.inr v2)), some (.inl v3), some (.inl v4), u5] [] h =
  ev xs d mm_151 2 [some (.inr (.inr v0)), some (.inl v1), some (.inr (.inr v2)), some (.inl (w32 (v3 + 1))), some (.inl v4), u5] [] h :=
  (aB gP gX xs stp_151 3 d mm_151 100 _ _ h).trans rfl

def stp_152 : List Nat := [0, 39, 47, 121]
set_option maxRecDepth 100000 in
set_option maxHeartbeats 4000000 in
theorem q_152_0 (xs : List Int) (d : Nat) (v0 : Int) (v1 : Int) (h : aH) : ev xs d mm_152 0 [some (.inr (.inr v0)), some (.inl v1), none] [] h =
  bif decide (v1 < 0) then
    ev xs d mm_152 39 [some (.inr (.inr v0)), some (.inl v1), none] [] h
  else
    bif aok h.1 v0 11 then
      bif aok h.1 (h.2 v0.toNat 5) 9 then
        bif decide ((h.2 (h.2 v0.toNat 5).toNat 11) ≤ v1) then
          ev xs d mm_152 39 [some (.inr (.inr v0)), some (.inl v1), none] [] h
        else
          bif aok h.1 v0 11 then
            bif aok h.1 (h.2 v0.toNat 7) 6 then
              bif decide (¬ (oand (oushr (h.2 (h.2 v0.toNat 7).toNat 8) v1) 1) = 0) then
                ev xs d mm_152 39 [some (.inr (.inr v0)), some (.inl v1), none] [] h
              else
                bif aok h.1 v0 11 && true then
                  bI (cl xs d 153 [.inr (.inr v0), .inl (oshl 1 v1)] h) (fun x2 h1 =>
                  bif decide (¬ x2 = 0) then
                    bif aok h1.1 v0 11 && true then
                      bV (cl xs d 147 [.inr (.inr v0)] h1) (fun h3 =>
                      ev xs d mm_152 47 [some (.inr (.inr v0)), some (.inl v1), some (.inl 0)] [] h3)
                    else none
                  else
                    ev xs d mm_152 39 [some (.inr (.inr v0)), some (.inl v1), none] [] h1)
                else none
            else none
          else none
      else none
    else none :=
  (aB gP gX xs stp_152 26 d mm_152 0 _ _ h).trans rfl

set_option maxRecDepth 100000 in
set_option maxHeartbeats 4000000 in
theorem q_152_39 (xs : List Int) (d : Nat) (v0 : Int) (v1 : Int) (u2 : Option aV) (h : aH) : ev xs d mm_152 39 [some (.inr (.inr v0)), some (.inl v1), u2] [] h =
  some (some (.inl 0), h) :=
  (aB gP gX xs stp_152 3 d mm_152 39 _ _ h).trans rfl

set_option maxRecDepth 100000 in
set_option maxHeartbeats 4000000 in
theorem q_152_47 (xs : List Int) (d : Nat) (v0 : Int) (v1 : Int) (v2 : Int) (h : aH) : ev xs d mm_152 47 [some (.inr (.inr v0)), some (.inl v1), some (.inl v2)] [] h =
  bif decide (24 ≤ v2) then
    bif aok h.1 v0 11 then
      bif aok h.1 (h.2 v0.toNat 7) 6 then
        bif aok h.1 v0 11 then
          bif aok h.1 (h.2 v0.toNat 5) 9 then
            bif ain h.1 (h.2 (h.2 v0.toNat 5).toNat 12) 100 v1 then
              bif aok h.1 (h.2 v0.toNat 7) 6 then
                bif aok h.1 v0 11 then
                  bif aok h.1 ((aup h.2 (h.2 v0.toNat 7).toNat 5 (w32 ((h.2 (h.2 v0.toNat 7).toNat 5) + (h.2 (h.2 (h.2 v0.toNat 5).toNat 12).toNat v1.toNat)))) v0.toNat 7) 6 then
                    bif aok h.1 ((aup h.2 (h.2 v0.toNat 7).toNat 5 (w32 ((h.2 (h.2 v0.toNat 7).toNat 5) + (h.2 (h.2 (h.2 v0.toNat 5).toNat 12).toNat v1.toNat)))) v0.toNat 7) 6 then
                      ev xs d mm_152 121 [some (.inr (.inr v0)), some (.inl v1), some (.inl v2)] [] (h.1, aup (aup h.2 (h.2 v0.toNat 7).toNat 5 (w32 ((h.2 (h.2 v0.toNat 7).toNat 5) + (h.2 (h.2 (h.2 v0.toNat 5).toNat 12).toNat v1.toNat)))) ((aup h.2 (h.2 v0.toNat 7).toNat 5 (w32 ((h.2 (h.2 v0.toNat 7).toNat 5) + (h.2 (h.2 (h.2 v0.toNat 5).toNat 12).toNat v1.toNat)))) v0.toNat 7).toNat 8 (oor ((aup h.2 (h.2 v0.toNat 7).toNat 5 (w32 ((h.2 (h.2 v0.toNat 7).toNat 5) + (h.2 (h.2 (h.2 v0.toNat 5).toNat 12).toNat v1.toNat)))) ((aup h.2 (h.2 v0.toNat 7).toNat 5 (w32 ((h.2 (h.2 v0.toNat 7).toNat 5) + (h.2 (h.2 (h.2 v0.toNat 5).toNat 12).toNat v1.toNat)))) v0.toNat 7).toNat 8) (oshl 1 v1)))
                    else none
                  else none
                else none
              else none
            else none
          else none
        else none
      else none
    else none
  else
    bif aok h.1 v0 11 then
      bif aok h.1 (h.2 v0.toNat 7) 6 then
        bif ain h.1 (h.2 (h.2 v0.toNat 7).toNat 4) 100 v2 then
          bif aok h.1 v0 11 then
            bif aok h.1 (h.2 v0.toNat 5) 9 then
              bif ain h.1 (h.2 (h.2 v0.toNat 5).toNat 13) 100 (w32 ((w32 (v1 * 24)) + v2)) then
                bif ain h.1 (h.2 (h.2 v0.toNat 7).toNat 4) 100 v2 then
                  ev xs d mm_152 47 [some (.inr (.inr v0)), some (.inl v1), some (.inl (w32 (v2 + 1)))] [] (h.1, aup h.2 (h.2 (h.2 v0.toNat 7).toNat 4).toNat v2.toNat (w32 ((h.2 (h.2 (h.2 v0.toNat 7).toNat 4).toNat v2.toNat) - (h.2 (h.2 (h.2 v0.toNat 5).toNat 13).toNat (w32 ((w32 (v1 * 24)) + v2)).toNat))))
                else none
              else none
            else none
          else none
        else none
      else none
    else none :=
  (aB gP gX xs stp_152 24 d mm_152 47 _ _ h).trans rfl

set_option maxRecDepth 100000 in
set_option maxHeartbeats 4000000 in
theorem q_152_121 (xs : List Int) (d : Nat) (v0 : Int) (v1 : Int) (v2 : Int) (h : aH) : ev xs d mm_152 121 [some (.inr (.inr v0)), some (.inl v1), some (.inl v2)] [] h =
  some (some (.inl 1), h) :=
  (aB gP gX xs stp_152 3 d mm_152 121 _ _ h).trans rfl

def stp_153 : List Nat := [0, 2]
set_option maxRecDepth 100000 in
set_option maxHeartbeats 4000000 in
theorem q_153_0 (xs : List Int) (d : Nat) (v0 : Int) (v1 : Int) (h : aH) : ev xs d mm_153 0 [some (.inr (.inr v0)), some (.inl v1), none] [] h =
  ev xs d mm_153 2 [some (.inr (.inr v0)), some (.inl v1), some (.inl 0)] [] h :=
  (aB gP gX xs stp_153 3 d mm_153 0 _ _ h).trans rfl

set_option maxRecDepth 100000 in
set_option maxHeartbeats 4000000 in
theorem q_153_2 (xs : List Int) (d : Nat) (v0 : Int) (v1 : Int) (v2 : Int) (h : aH) : ev xs d mm_153 2 [some (.inr (.inr v0)), some (.inl v1), some (.inl v2)] [] h =
  bif decide (24 ≤ v2) then
    some (some (.inl 1), h)
  else
    bif aok h.1 v0 11 then
      bif aok h.1 (h.2 v0.toNat 5) 9 && true then
        bI (cl xs d 111 [.inr (.inr (h.2 v0.toNat 5)), .inl v1, .inl v2] h) (fun x2 h1 =>
        bif aok h1.1 v0 11 then
          bif aok h1.1 (h1.2 v0.toNat 7) 6 then
            bif ain h1.1 (h1.2 (h1.2 v0.toNat 7).toNat 4) 100 v2 then
              bif decide (x2 ≤ (h1.2 (h1.2 (h1.2 v0.toNat 7).toNat 4).toNat v2.toNat)) then
                ev xs d mm_153 2 [some (.inr (.inr v0)), some (.inl v1), some (.inl (w32 (v2 + 1)))] [] h1
              else
                some (some (.inl 0), h1)
            else none
          else none
        else none)
      else none
    else none :=
  (aB gP gX xs stp_153 17 d mm_153 2 _ _ h).trans rfl

def stp_154 : List Nat := [0, 10, 32]
set_option maxRecDepth 100000 in
set_option maxHeartbeats 4000000 in
theorem q_154_0 (xs : List Int) (d : Nat) (v0 : Int) (v1 : Int) (h : aH) : ev xs d mm_154 0 [some (.inr (.inr v0)), some (.inl v1)] [] h =
  bif decide (v1 < 0) then
    ev xs d mm_154 10 [some (.inr (.inr v0)), some (.inl v1)] [] h
  else
    bif decide (v1 ≤ 100) then
      bif decide (v1 ≤ 0) then
        ev xs d mm_154 32 [some (.inr (.inr v0)), some (.inl v1)] [] h
      else
        bif aok h.1 v0 11 && true then
          bV (cl xs d 147 [.inr (.inr v0)] h) (fun h1 =>
          bif aok h1.1 v0 11 then
            bif aok h1.1 v0 11 then
              bif aok h1.1 (h1.2 v0.toNat 7) 6 && true then
                bV (cl xs d 79 [.inr (.inr (h1.2 v0.toNat 7)), .inr (.inr (h1.2 v0.toNat 5)), .inl v1] h1) (fun h2 =>
                ev xs d mm_154 32 [some (.inr (.inr v0)), some (.inl v1)] [] h2)
              else none
            else none
          else none)
        else none
    else
      ev xs d mm_154 10 [some (.inr (.inr v0)), some (.inl v1)] [] h :=
  (aB gP gX xs stp_154 16 d mm_154 0 _ _ h).trans rfl

set_option maxRecDepth 100000 in
set_option maxHeartbeats 4000000 in
theorem q_154_10 (xs : List Int) (d : Nat) (v0 : Int) (v1 : Int) (h : aH) : ev xs d mm_154 10 [some (.inr (.inr v0)), some (.inl v1)] [] h =
  some (some (.inl (-1)), h) :=
  (aB gP gX xs stp_154 3 d mm_154 10 _ _ h).trans rfl

set_option maxRecDepth 100000 in
set_option maxHeartbeats 4000000 in
theorem q_154_32 (xs : List Int) (d : Nat) (v0 : Int) (v1 : Int) (h : aH) : ev xs d mm_154 32 [some (.inr (.inr v0)), some (.inl v1)] [] h =
  bif aok h.1 v0 11 then
    bif aok h.1 (h.2 v0.toNat 7) 6 then
      some (some (.inl (h.2 (h.2 v0.toNat 7).toNat 7)), h)
    else none
  else none :=
  (aB gP gX xs stp_154 5 d mm_154 32 _ _ h).trans rfl

def stp_155 : List Nat := [0]
set_option maxRecDepth 100000 in
set_option maxHeartbeats 4000000 in
theorem q_155_0 (xs : List Int) (d : Nat) (v0 : Int) (h : aH) : ev xs d mm_155 0 [some (.inr (.inr v0))] [] h =
  bif aok h.1 v0 11 then
    bif decide (0 < (h.2 v0.toNat 11)) then
      bif aok h.1 v0 11 then
        bif aok h.1 v0 11 then
          bif aok h.1 v0 11 then
            bif aok h.1 v0 11 then
              bif aok h.1 v0 11 then
                bif aok h.1 v0 11 then
                  bif ain h.1 ((aup h.2 v0.toNat 11 (w32 ((h.2 v0.toNat 11) - 1))) v0.toNat 9) 104 (orem (w32 (((aup h.2 v0.toNat 11 (w32 ((h.2 v0.toNat 11) - 1))) v0.toNat 10) + ((aup h.2 v0.toNat 11 (w32 ((h.2 v0.toNat 11) - 1))) v0.toNat 11))) 30) then
                    bif aok h.1 ((aup h.2 v0.toNat 11 (w32 ((h.2 v0.toNat 11) - 1))) v0.toNat 7) 6 && true then
                      bV (cl xs d 74 [.inr (.inr ((aup h.2 v0.toNat 11 (w32 ((h.2 v0.toNat 11) - 1))) v0.toNat 7)), .inr (.inr ((aup h.2 v0.toNat 11 (w32 ((h.2 v0.toNat 11) - 1))) ((aup h.2 v0.toNat 11 (w32 ((h.2 v0.toNat 11) - 1))) v0.toNat 9).toNat (orem (w32 (((aup h.2 v0.toNat 11 (w32 ((h.2 v0.toNat 11) - 1))) v0.toNat 10) + ((aup h.2 v0.toNat 11 (w32 ((h.2 v0.toNat 11) - 1))) v0.toNat 11))) 30).toNat))] (h.1, aup h.2 v0.toNat 11 (w32 ((h.2 v0.toNat 11) - 1)))) (fun h1 =>
                      bif aok h1.1 v0 11 && true then
                        bV (cl xs d 133 [.inr (.inr v0)] h1) (fun h2 =>
                        some (some (.inl 1), h2))
                      else none)
                    else none
                  else none
                else none
              else none
            else none
          else none
        else none
      else none
    else
      some (some (.inl 0), h)
  else none :=
  (aB gP gX xs stp_155 27 d mm_155 0 _ _ h).trans rfl

def stp_156 : List Nat := [0, 33]
set_option maxRecDepth 100000 in
set_option maxHeartbeats 4000000 in
theorem q_156_0 (xs : List Int) (d : Nat) (v0 : Int) (v1 : Int) (v2 : Int) (h : aH) : ev xs d mm_156 0 [some (.inr (.inr v0)), some (.inl v1), some (.inl v2)] [] h =
  bif aok h.1 v0 11 then
    bif aok h.1 (h.2 v0.toNat 5) 9 then
      bif aok h.1 (h.2 (h.2 v0.toNat 5).toNat 4) 3 && true then
        bI (cl xs d 31 [.inr (.inr (h.2 (h.2 v0.toNat 5).toNat 4)), .inl v1, .inl v2] h) (fun x2 h1 =>
        bif decide (x2 = 0) then
          ev xs d mm_156 33 [some (.inr (.inr v0)), some (.inl v1), some (.inl v2)] [.inl (-1)] h1
        else
          bif aok h1.1 v0 11 then
            bif aok h1.1 (h1.2 v0.toNat 7) 6 then
              bif ain h1.1 (h1.2 (h1.2 v0.toNat 7).toNat 4) 100 (w32 ((w32 (v1 * 8)) + v2)) then
                ev xs d mm_156 33 [some (.inr (.inr v0)), some (.inl v1), some (.inl v2)] [.inl (h1.2 (h1.2 (h1.2 v0.toNat 7).toNat 4).toNat (w32 ((w32 (v1 * 8)) + v2)).toNat)] h1
              else none
            else none
          else none)
      else none
    else none
  else none :=
  (aB gP gX xs stp_156 18 d mm_156 0 _ _ h).trans rfl

set_option maxRecDepth 100000 in
set_option maxHeartbeats 4000000 in
theorem q_156_33 (xs : List Int) (d : Nat) (v0 : Int) (v1 : Int) (v2 : Int) (s0 : Int) (h : aH) : ev xs d mm_156 33 [some (.inr (.inr v0)), some (.inl v1), some (.inl v2)] [.inl s0] h =
  some (some (.inl s0), h) :=
  (aB gP gX xs stp_156 2 d mm_156 33 _ _ h).trans rfl

def stp_157 : List Nat := [0, 20]
set_option maxRecDepth 100000 in
set_option maxHeartbeats 4000000 in
theorem q_157_0 (xs : List Int) (d : Nat) (v0 : Int) (v1 : Int) (v2 : Int) (h : aH) : ev xs d mm_157 0 [some (.inr (.inr v0)), some (.inl v1), some (.inl v2)] [] h =
  bif decide (v1 < 1) then
    ev xs d mm_157 20 [some (.inr (.inr v0)), some (.inl v1), some (.inl v2)] [] h
  else
    bif decide (12 < v1) then
      ev xs d mm_157 20 [some (.inr (.inr v0)), some (.inl v1), some (.inl v2)] [] h
    else
      bif decide (v2 < 0) then
        ev xs d mm_157 20 [some (.inr (.inr v0)), some (.inl v1), some (.inl v2)] [] h
      else
        bif decide (v2 < 3) then
          bif aok h.1 v0 11 then
            bif aok h.1 v0 11 then
              bif aok h.1 (h.2 v0.toNat 5) 9 then
                bif aok h.1 (h.2 v0.toNat 15) 1 && true then
                  bI (cl xs d 13 [.inr (.inr (h.2 v0.toNat 15)), .inr (.inr (h.2 (h.2 v0.toNat 5).toNat 4)), .inl v1, .inl v2] h) (fun x2 h1 =>
                  some (some (.inl x2), h1))
                else none
              else none
            else none
          else none
        else
          ev xs d mm_157 20 [some (.inr (.inr v0)), some (.inl v1), some (.inl v2)] [] h :=
  (aB gP gX xs stp_157 21 d mm_157 0 _ _ h).trans rfl

set_option maxRecDepth 100000 in
set_option maxHeartbeats 4000000 in
theorem q_157_20 (xs : List Int) (d : Nat) (v0 : Int) (v1 : Int) (v2 : Int) (h : aH) : ev xs d mm_157 20 [some (.inr (.inr v0)), some (.inl v1), some (.inl v2)] [] h =
  some (some (.inl (-1)), h) :=
  (aB gP gX xs stp_157 3 d mm_157 20 _ _ h).trans rfl

def stp_158 : List Nat := [0, 13, 70]
set_option maxRecDepth 100000 in
set_option maxHeartbeats 4000000 in
theorem q_158_0 (xs : List Int) (d : Nat) (v0 : Int) (h : aH) : ev xs d mm_158 0 [some (.inr (.inr v0)), none] [] h =
  bif aok h.1 v0 11 then
    bif aok h.1 (h.2 v0.toNat 14) 10 then
      bV (cl xs d 320 [.inr (.inr (h.2 (h.2 v0.toNat 14).toNat 2)), .inl 0] h) (fun h1 =>
        ev xs d mm_158 13 [some (.inr (.inr v0)), some (.inl 0)] [] h1)
    else none
  else none :=
  (aB gP gX xs stp_158 8 d mm_158 0 _ _ h).trans rfl

set_option maxRecDepth 100000 in
set_option maxHeartbeats 4000000 in
theorem q_158_13 (xs : List Int) (d : Nat) (v0 : Int) (v1 : Int) (h : aH) : ev xs d mm_158 13 [some (.inr (.inr v0)), some (.inl v1)] [] h =
  bif aok h.1 v0 11 then
    bif aok h.1 (h.2 v0.toNat 5) 9 then
      bif decide ((h.2 (h.2 v0.toNat 5).toNat 5) ≤ v1) then
        some (none, h)
      else
        bif aok h.1 v0 11 then
          bif aok h.1 (h.2 v0.toNat 7) 6 then
            bif ain h.1 (h.2 (h.2 v0.toNat 7).toNat 3) 100 v1 then
              bif decide (¬ (h.2 (h.2 (h.2 v0.toNat 7).toNat 3).toNat v1.toNat) = 0) then
                ev xs d mm_158 70 [some (.inr (.inr v0)), some (.inl v1)] [] h
              else
                bif aok h.1 v0 11 then
                  bif aok h.1 v0 11 then
                    bif aok h.1 (h.2 v0.toNat 5) 9 then
                      bif aok h.1 v0 11 then
                        bif aok h.1 (h.2 v0.toNat 7) 6 then
                          bif ain h.1 (h.2 (h.2 v0.toNat 7).toNat 2) 101 v1 then
                            bif aok h.1 v0 11 && true then
                              bJ (cl xs d 138 [.inr (.inr v0), .inr (.inl (h.2 (h.2 (h.2 v0.toNat 7).toNat 2).toNat v1.toNat))] h) (fun x2 h1 =>
                              bif aok h1.1 (h.2 v0.toNat 14) 10 && true then
                                bV (cl xs d 114 [.inr (.inr (h.2 v0.toNat 14)), .inr (.inr (h.2 (h.2 v0.toNat 5).toNat 4)), .inr (.inl x2)] h1) (fun h3 =>
                                bif aok h3.1 v0 11 then
                                  bif aok h3.1 (h3.2 v0.toNat 14) 10 && true then
                                    bV (cl xs d 118 [.inr (.inr (h3.2 v0.toNat 14))] h3) (fun h4 =>
                                    ev xs d mm_158 70 [some (.inr (.inr v0)), some (.inl v1)] [] h4)
                                  else none
                                else none)
                              else none)
                            else none
                          else none
                        else none
                      else none
                    else none
                  else none
                else none
            else none
          else none
        else none
    else none
  else none :=
  (aB gP gX xs stp_158 28 d mm_158 13 _ _ h).trans rfl

set_option maxRecDepth 100000 in
set_option maxHeartbeats 4000000 in
theorem q_158_70 (xs : List Int) (d : Nat) (v0 : Int) (v1 : Int) (h : aH) : ev xs d mm_158 70 [some (.inr (.inr v0)), some (.inl v1)] [] h =
  ev xs d mm_158 13 [some (.inr (.inr v0)), some (.inl (w32 (v1 + 1)))] [] h :=
  (aB gP gX xs stp_158 3 d mm_158 70 _ _ h).trans rfl

def stp_159 : List Nat := [0, 18, 53, 101, 127]
set_option maxRecDepth 100000 in
set_option maxHeartbeats 4000000 in
theorem q_159_0 (xs : List Int) (d : Nat) (v0 : Int) (v1 : Int) (v2 : Int) (h : aH) : ev xs d mm_159 0 [some (.inr (.inr v0)), some (.inl v1), some (.inl v2), none, none, none] [] h =
  bif decide (v1 < 0) then
    ev xs d mm_159 18 [some (.inr (.inr v0)), some (.inl v1), some (.inl v2), none, none, none] [] h
  else
    bif decide (3 ≤ v1) then
      ev xs d mm_159 18 [some (.inr (.inr v0)), some (.inl v1), some (.inl v2), none, none, none] [] h
    else
      bif decide (v2 < 0) then
        ev xs d mm_159 18 [some (.inr (.inr v0)), some (.inl v1), some (.inl v2), none, none, none] [] h
      else
        bif decide (v2 ≤ 1) then
          bif aok h.1 v0 11 then
            bif aok h.1 (h.2 v0.toNat 5) 9 then
              bif aok h.1 (h.2 (h.2 v0.toNat 5).toNat 4) 3 then
                bif ain h.1 (h.2 (h.2 (h.2 v0.toNat 5).toNat 4).toNat 0) 100 v1 then
                  bif decide (¬ (h.2 (h.2 (h.2 (h.2 v0.toNat 5).toNat 4).toNat 0).toNat v1.toNat) = 0) then
                    bif aok h.1 v0 11 && true then
                      bV (cl xs d 158 [.inr (.inr v0)] h) (fun h1 =>
                      ev xs d mm_159 53 [some (.inr (.inr v0)), some (.inl v1), some (.inl v2), some (.inl 0), some (.inl (w32 (v1 * 8))), some (.inl 1)] [] h1)
                    else none
                  else
                    some (some (.inl (-2)), h)
                else none
              else none
            else none
          else none
        else
          ev xs d mm_159 18 [some (.inr (.inr v0)), some (.inl v1), some (.inl v2), none, none, none] [] h :=
  (aB gP gX xs stp_159 28 d mm_159 0 _ _ h).trans rfl

set_option maxRecDepth 100000 in
set_option maxHeartbeats 4000000 in
theorem q_159_18 (xs : List Int) (d : Nat) (v0 : Int) (v1 : Int) (v2 : Int) (u3 : Option aV) (u4 : Option aV) (u5 : Option aV) (h : aH) : ev xs d mm_159 18 [some (.inr (.inr v0)), some (.inl v1), some (.inl v2), u3, u4, u5] [] h =
  some (some (.inl (-1)), h) :=
  (aB gP gX xs stp_159 3 d mm_159 18 _ _ h).trans rfl

set_option maxRecDepth 100000 in
set_option maxHeartbeats 4000000 in
theorem q_159_53 (xs : List Int) (d : Nat) (v0 : Int) (v1 : Int) (v2 : Int) (v3 : Int) (v4 : Int) (v5 : Int) (h : aH) : ev xs d mm_159 53 [some (.inr (.inr v0)), some (.inl v1), some (.inl v2), some (.inl v3), some (.inl v4), some (.inl v5)] [] h =
  bif aok h.1 v0 11 then
    bif aok h.1 (h.2 v0.toNat 5) 9 then
      bif aok h.1 (h.2 (h.2 v0.toNat 5).toNat 4) 3 then
        bif ain h.1 (h.2 (h.2 (h.2 v0.toNat 5).toNat 4).toNat 0) 100 v1 then
          bif decide ((h.2 (h.2 (h.2 (h.2 v0.toNat 5).toNat 4).toNat 0).toNat v1.toNat) ≤ v5) then
            bif decide (¬ v2 = 0) then
              bif aok h.1 v0 11 then
                bif aok h.1 (h.2 v0.toNat 14) 10 then
                  bif ain h.1 (h.2 (h.2 v0.toNat 14).toNat 2) 100 (w32 (v4 + v3)) then
                    ev xs d mm_159 127 [some (.inr (.inr v0)), some (.inl v1), some (.inl v2), some (.inl v3), some (.inl v4), some (.inl v5)] [.inl (h.2 (h.2 (h.2 v0.toNat 14).toNat 2).toNat (w32 (v4 + v3)).toNat)] h
                  else none
                else none
              else none
            else
              ev xs d mm_159 127 [some (.inr (.inr v0)), some (.inl v1), some (.inl v2), some (.inl v3), some (.inl v4), some (.inl v5)] [.inl v3] h
          else
            bif aok h.1 v0 11 then
              bif aok h.1 (h.2 v0.toNat 14) 10 then
                bif ain h.1 (h.2 (h.2 v0.toNat 14).toNat 2) 100 (w32 (v4 + v5)) then
                  bif aok h.1 v0 11 then
                    bif aok h.1 (h.2 v0.toNat 14) 10 then
                      bif ain h.1 (h.2 (h.2 v0.toNat 14).toNat 2) 100 (w32 (v4 + v3)) then
                        bif decide ((h.2 (h.2 (h.2 v0.toNat 14).toNat 2).toNat (w32 (v4 + v5)).toNat) ≤ (h.2 (h.2 (h.2 v0.toNat 14).toNat 2).toNat (w32 (v4 + v3)).toNat)) then
                          ev xs d mm_159 101 [some (.inr (.inr v0)), some (.inl v1), some (.inl v2), some (.inl v3), some (.inl v4), some (.inl v5)] [] h
                        else
                          ev xs d mm_159 101 [some (.inr (.inr v0)), some (.inl v1), some (.inl v2), some (.inl v5), some (.inl v4), some (.inl v5)] [] h
                      else none
                    else none
                  else none
                else none
              else none
            else none
        else none
      else none
    else none
  else none :=
  (aB gP gX xs stp_159 26 d mm_159 53 _ _ h).trans rfl

set_option maxRecDepth 100000 in
set_option maxHeartbeats 4000000 in
theorem q_159_101 (xs : List Int) (d : Nat) (v0 : Int) (v1 : Int) (v2 : Int) (v3 : Int) (v4 : Int) (v5 : Int) (h : aH) : ev xs d mm_159 101 [some (.inr (.inr v0)), some (.inl v1), some (.inl v2), some (.inl v3), some (.inl v4), some (.inl v5)] [] h =
  ev xs d mm_159 53 [some (.inr (.inr v0)), some (.inl v1), some (.inl v2), some (.inl v3), some (.inl v4), some (.inl (w32 (v5 + 1)))] [] h :=
  (aB gP gX xs stp_159 3 d mm_159 101 _ _ h).trans rfl

set_option maxRecDepth 100000 in
set_option maxHeartbeats 4000000 in
theorem q_159_127 (xs : List Int) (d : Nat) (v0 : Int) (v1 : Int) (v2 : Int) (v3 : Int) (v4 : Int) (v5 : Int) (s0 : Int) (h : aH) : ev xs d mm_159 127 [some (.inr (.inr v0)), some (.inl v1), some (.inl v2), some (.inl v3), some (.inl v4), some (.inl v5)] [.inl s0] h =
  some (some (.inl s0), h) :=
  (aB gP gX xs stp_159 2 d mm_159 127 _ _ h).trans rfl

def stp_160 : List Nat := [0]
set_option maxRecDepth 100000 in
set_option maxHeartbeats 4000000 in
theorem q_160_0 (xs : List Int) (d : Nat) (v0 : Int) (v1 : Int) (v2 : Int) (h : aH) : ev xs d mm_160 0 [some (.inr (.inr v0)), some (.inl v1), some (.inl v2), none, none] [] h =
  bif aok h.1 v0 11 then
    bif aok h.1 (h.2 v0.toNat 5) 9 then
      bif aok h.1 (h.2 (h.2 v0.toNat 5).toNat 4) 3 && true then
        bI (cl xs d 31 [.inr (.inr (h.2 (h.2 v0.toNat 5).toNat 4)), .inl v1, .inl v2] h) (fun x2 h1 =>
        bif decide (¬ x2 = 0) then
          bif aok h1.1 v0 11 then
            bif aok h1.1 (h1.2 v0.toNat 5) 9 then
              bI (cl xs d 126 [.inl (h1.2 (h1.2 v0.toNat 5).toNat 11)] h1) (fun x4 h3 =>
                bif aok h3.1 v0 11 then
                  bif aok h3.1 (h3.2 v0.toNat 7) 6 then
                    bif aok h3.1 v0 11 then
                      bif aok h3.1 (h3.2 v0.toNat 5) 9 && true then
                        bI (cl xs d 111 [.inr (.inr (h3.2 v0.toNat 5)), .inl (oand x4 (oxor (h3.2 (h3.2 v0.toNat 7).toNat 8) (-1))), .inl (w32 ((w32 (v1 * 8)) + v2))] h3) (fun x6 h5 =>
                        bif aok h5.1 v0 11 then
                          bif aok h5.1 (h5.2 v0.toNat 7) 6 then
                            bif ain h5.1 (h5.2 (h5.2 v0.toNat 7).toNat 4) 100 (w32 ((w32 (v1 * 8)) + v2)) then
                              bI (cl xs d 317 [.inl 0, .inl (w32 (x6 - (h5.2 (h5.2 (h5.2 v0.toNat 7).toNat 4).toNat (w32 ((w32 (v1 * 8)) + v2)).toNat)))] h5) (fun x8 h7 =>
                                some (some (.inl x8), h7))
                            else none
                          else none
                        else none)
                      else none
                    else none
                  else none
                else none)
            else none
          else none
        else
          some (some (.inl (-1)), h1))
      else none
    else none
  else none :=
  (aB gP gX xs stp_160 39 d mm_160 0 _ _ h).trans rfl

def stp_161 : List Nat := [0, 9, 18, 77, 92]
set_option maxRecDepth 100000 in
set_option maxHeartbeats 4000000 in
theorem q_161_0 (xs : List Int) (d : Nat) (v0 : Int) (v1 : Int) (h : aH) : ev xs d mm_161 0 [some (.inr (.inr v0)), some (.inl v1), none, none, none, none] [] h =
  bif decide (v1 < 0) then
    ev xs d mm_161 9 [some (.inr (.inr v0)), some (.inl v1), none, none, none, none] [] h
  else
    bif decide (v1 ≤ 1) then
      ev xs d mm_161 18 [some (.inr (.inr v0)), some (.inl v1), some (.inl 0), some (.inl 0), some (.inl 1), none] [] h
    else
      ev xs d mm_161 9 [some (.inr (.inr v0)), some (.inl v1), none, none, none, none] [] h :=
  (aB gP gX xs stp_161 12 d mm_161 0 _ _ h).trans rfl

set_option maxRecDepth 100000 in
set_option maxHeartbeats 4000000 in
theorem q_161_9 (xs : List Int) (d : Nat) (v0 : Int) (v1 : Int) (u2 : Option aV) (u3 : Option aV) (u4 : Option aV) (u5 : Option aV) (h : aH) : ev xs d mm_161 9 [some (.inr (.inr v0)), some (.inl v1), u2, u3, u4, u5] [] h =
  some (some (.inl (-1)), h) :=
  (aB gP gX xs stp_161 3 d mm_161 9 _ _ h).trans rfl

set_option maxRecDepth 100000 in
set_option maxHeartbeats 4000000 in
theorem q_161_18 (xs : List Int) (d : Nat) (v0 : Int) (v1 : Int) (v2 : Int) (v3 : Int) (v4 : Int) (u5 : Option aV) (h : aH) : ev xs d mm_161 18 [some (.inr (.inr v0)), some (.inl v1), some (.inl v2), some (.inl v3), some (.inl v4), u5] [] h =
  bif aok h.1 v0 11 then
    bif aok h.1 (h.2 v0.toNat 5) 9 then
      bif decide ((oshl 1 (h.2 (h.2 v0.toNat 5).toNat 11)) ≤ v4) then
        bif decide (¬ v1 = 0) then
          ev xs d mm_161 92 [some (.inr (.inr v0)), some (.inl v1), some (.inl v2), some (.inl v3), some (.inl v4), u5] [.inl v2] h
        else
          ev xs d mm_161 92 [some (.inr (.inr v0)), some (.inl v1), some (.inl v2), some (.inl v3), some (.inl v4), u5] [.inl v3] h
      else
        bif aok h.1 v0 11 then
          bif aok h.1 (h.2 v0.toNat 5) 9 && true then
            bI (cl xs d 112 [.inr (.inr (h.2 v0.toNat 5)), .inl v4] h) (fun x2 h1 =>
            bif decide (x2 ≤ v3) then
              ev xs d mm_161 77 [some (.inr (.inr v0)), some (.inl v1), some (.inl v2), some (.inl v3), some (.inl v4), some (.inl x2)] [] h1
            else
              bif aok h1.1 v0 11 then
                bif aok h1.1 (h1.2 v0.toNat 7) 6 then
                  bif decide (¬ (oand v4 (h1.2 (h1.2 v0.toNat 7).toNat 8)) = 0) then
                    ev xs d mm_161 77 [some (.inr (.inr v0)), some (.inl v1), some (.inl v2), some (.inl v3), some (.inl v4), some (.inl x2)] [] h1
                  else
                    bif aok h1.1 v0 11 && true then
                      bI (cl xs d 153 [.inr (.inr v0), .inl v4] h1) (fun x4 h3 =>
                      bif decide (x4 = 0) then
                        ev xs d mm_161 77 [some (.inr (.inr v0)), some (.inl v1), some (.inl v2), some (.inl v3), some (.inl v4), some (.inl x2)] [] h3
                      else
                        ev xs d mm_161 77 [some (.inr (.inr v0)), some (.inl v1), some (.inl v4), some (.inl x2), some (.inl v4), some (.inl x2)] [] h3)
                    else none
                else none
              else none)
          else none
        else none
    else none
  else none :=
  (aB gP gX xs stp_161 30 d mm_161 18 _ _ h).trans rfl

set_option maxRecDepth 100000 in
set_option maxHeartbeats 4000000 in
theorem q_161_77 (xs : List Int) (d : Nat) (v0 : Int) (v1 : Int) (v2 : Int) (v3 : Int) (v4 : Int) (v5 : Int) (h : aH) : ev xs d mm_161 77 [some (.inr (.inr v0)), some (.inl v1), some (.inl v2), some (.inl v3), some (.inl v4), some (.inl v5)] [] h =
  ev xs d mm_161 18 [some (.inr (.inr v0)), some (.inl v1), some (.inl v2), some (.inl v3), some (.inl (w32 (v4 + 1))), some (.inl v5)] [] h :=
  (aB gP gX xs stp_161 3 d mm_161 77 _ _ h).trans rfl

set_option maxRecDepth 100000 in
set_option maxHeartbeats 4000000 in
theorem q_161_92 (xs : List Int) (d : Nat) (v0 : Int) (v1 : Int) (v2 : Int) (v3 : Int) (v4 : Int) (u5 : Option aV) (s0 : Int) (h : aH) : ev xs d mm_161 92 [some (.inr (.inr v0)), some (.inl v1), some (.inl v2), some (.inl v3), some (.inl v4), u5] [.inl s0] h =
  some (some (.inl s0), h) :=
  (aB gP gX xs stp_161 2 d mm_161 92 _ _ h).trans rfl

def stp_162 : List Nat := [0, 8, 44]
set_option maxRecDepth 100000 in
set_option maxHeartbeats 4000000 in
theorem q_162_0 (xs : List Int) (d : Nat) (v0 : Int) (h : aH) : ev xs d mm_162 0 [some (.inr (.inr v0)), none, none] [] h =
  bif aok h.1 v0 11 && true then
    bV (cl xs d 158 [.inr (.inr v0)] h) (fun h1 =>
    ev xs d mm_162 8 [some (.inr (.inr v0)), some (.inl 0), some (.inl 0)] [] h1)
  else none :=
  (aB gP gX xs stp_162 7 d mm_162 0 _ _ h).trans rfl

set_option maxRecDepth 100000 in
set_option maxHeartbeats 4000000 in
theorem q_162_8 (xs : List Int) (d : Nat) (v0 : Int) (v1 : Int) (v2 : Int) (h : aH) : ev xs d mm_162 8 [some (.inr (.inr v0)), some (.inl v1), some (.inl v2)] [] h =
  bif aok h.1 v0 11 then
    bif aok h.1 (h.2 v0.toNat 5) 9 then
      bif aok h.1 (h.2 (h.2 v0.toNat 5).toNat 4) 3 then
        bif ain h.1 (h.2 (h.2 (h.2 v0.toNat 5).toNat 4).toNat 0) 100 0 then
          bif decide ((h.2 (h.2 (h.2 (h.2 v0.toNat 5).toNat 4).toNat 0).toNat (0 : Int).toNat) ≤ v2) then
            some (some (.inl v1), h)
          else
            bif aok h.1 v0 11 then
              bif aok h.1 (h.2 v0.toNat 14) 10 then
                bif ain h.1 (h.2 (h.2 v0.toNat 14).toNat 2) 100 (w32 (0 + v2)) then
                  bif decide (¬ (h.2 (h.2 (h.2 v0.toNat 14).toNat 2).toNat (w32 (0 + v2)).toNat) = 0) then
                    ev xs d mm_162 44 [some (.inr (.inr v0)), some (.inl v1), some (.inl v2)] [] h
                  else
                    ev xs d mm_162 44 [some (.inr (.inr v0)), some (.inl (oor v1 (oshl 1 v2))), some (.inl v2)] [] h
                else none
              else none
            else none
        else none
      else none
    else none
  else none :=
  (aB gP gX xs stp_162 23 d mm_162 8 _ _ h).trans rfl

set_option maxRecDepth 100000 in
set_option maxHeartbeats 4000000 in
theorem q_162_44 (xs : List Int) (d : Nat) (v0 : Int) (v1 : Int) (v2 : Int) (h : aH) : ev xs d mm_162 44 [some (.inr (.inr v0)), some (.inl v1), some (.inl v2)] [] h =
  ev xs d mm_162 8 [some (.inr (.inr v0)), some (.inl v1), some (.inl (w32 (v2 + 1)))] [] h :=
  (aB gP gX xs stp_162 3 d mm_162 44 _ _ h).trans rfl

def stp_163 : List Nat := [0, 28]
set_option maxRecDepth 100000 in
set_option maxHeartbeats 4000000 in
theorem q_163_0 (xs : List Int) (d : Nat) (v0 : Int) (h : aH) : ev xs d mm_163 0 [some (.inr (.inr v0))] [] h =
  bif aok h.1 v0 11 then
    bif aok h.1 (h.2 v0.toNat 16) 5 then
      bif decide (¬ (h.2 (h.2 v0.toNat 16).toNat 0) = 0) then
        ev xs d mm_163 28 [some (.inr (.inr v0))] [] h
      else
        bif aok h.1 v0 11 then
          bif aok h.1 v0 11 then
            bif aok h.1 v0 11 then
              bif aok h.1 (h.2 v0.toNat 7) 6 then
                bif aok h.1 (h.2 v0.toNat 16) 5 && true then
                  bV (cl xs d 61 [.inr (.inr (h.2 v0.toNat 16)), .inr (.inr (h.2 v0.toNat 5)), .inr (.inr (h.2 (h.2 v0.toNat 7).toNat 1))] h) (fun h1 =>
                  ev xs d mm_163 28 [some (.inr (.inr v0))] [] h1)
                else none
              else none
            else none
          else none
        else none
    else none
  else none :=
  (aB gP gX xs stp_163 13 d mm_163 0 _ _ h).trans rfl

set_option maxRecDepth 100000 in
set_option maxHeartbeats 4000000 in
theorem q_163_28 (xs : List Int) (d : Nat) (v0 : Int) (h : aH) : ev xs d mm_163 28 [some (.inr (.inr v0))] [] h =
  bif aok h.1 v0 11 then
    some (some (.inr (.inr (h.2 v0.toNat 16))), h)
  else none :=
  (aB gP gX xs stp_163 4 d mm_163 28 _ _ h).trans rfl

def stp_164 : List Nat := [0, 25]
set_option maxRecDepth 100000 in
set_option maxHeartbeats 4000000 in
theorem q_164_0 (xs : List Int) (d : Nat) (v0 : Int) (h : aH) : ev xs d mm_164 0 [some (.inr (.inr v0))] [] h =
  bif aok h.1 v0 11 then
    bif aok h.1 (h.2 v0.toNat 17) 2 then
      bif decide (¬ (h.2 (h.2 v0.toNat 17).toNat 0) = 0) then
        ev xs d mm_164 25 [some (.inr (.inr v0))] [] h
      else
        bif aok h.1 v0 11 then
          bif aok h.1 v0 11 then
            bif aok h.1 v0 11 then
              bif aok h.1 (h.2 v0.toNat 17) 2 && true then
                bV (cl xs d 21 [.inr (.inr (h.2 v0.toNat 17)), .inr (.inr (h.2 v0.toNat 5)), .inr (.inr (h.2 v0.toNat 7))] h) (fun h1 =>
                ev xs d mm_164 25 [some (.inr (.inr v0))] [] h1)
              else none
            else none
          else none
        else none
    else none
  else none :=
  (aB gP gX xs stp_164 12 d mm_164 0 _ _ h).trans rfl

set_option maxRecDepth 100000 in
set_option maxHeartbeats 4000000 in
theorem q_164_25 (xs : List Int) (d : Nat) (v0 : Int) (h : aH) : ev xs d mm_164 25 [some (.inr (.inr v0))] [] h =
  bif aok h.1 v0 11 then
    some (some (.inr (.inr (h.2 v0.toNat 17))), h)
  else none :=
  (aB gP gX xs stp_164 4 d mm_164 25 _ _ h).trans rfl

def stp_165 : List Nat := [0, 15, 38, 78, 87]
set_option maxRecDepth 100000 in
set_option maxHeartbeats 4000000 in
theorem q_165_0 (xs : List Int) (d : Nat) (v0 : Int) (v1 : Int) (v2 : Int) (h : aH) : ev xs d mm_165 0 [some (.inr (.inr v0)), some (.inl v1), some (.inl v2), none, none] [] h =
  bif decide (v1 < 0) then
    ev xs d mm_165 15 [some (.inr (.inr v0)), some (.inl v1), some (.inl v2), none, none] [] h
  else
    bif aok h.1 v0 11 then
      bif aok h.1 (h.2 v0.toNat 5) 9 then
        bif decide (v1 < (h.2 (h.2 v0.toNat 5).toNat 7)) then
          bif decide (v2 = 0) then
            ev xs d mm_165 38 [some (.inr (.inr v0)), some (.inl v1), some (.inl v2), none, none] [] h
          else
            bif aok h.1 v0 11 then
              bif aok h.1 (h.2 v0.toNat 5) 9 then
                bif ain h.1 (h.2 (h.2 v0.toNat 5).toNat 10) 101 v1 then
                  bif decide (¬ (olcmp (h.2 (h.2 (h.2 v0.toNat 5).toNat 10).toNat v1.toNat) ((((0 : Fin 2) : Nat) : Nat) : Int)) = 0) then
                    ev xs d mm_165 38 [some (.inr (.inr v0)), some (.inl v1), some (.inl v2), none, none] [] h
                  else
                    some (some (.inl (-2)), h)
                else none
              else none
            else none
        else
          ev xs d mm_165 15 [some (.inr (.inr v0)), some (.inl v1), some (.inl v2), none, none] [] h
      else none
    else none :=
  (aB gP gX xs stp_165 20 d mm_165 0 _ _ h).trans rfl

set_option maxRecDepth 100000 in
set_option maxHeartbeats 4000000 in
theorem q_165_15 (xs : List Int) (d : Nat) (v0 : Int) (v1 : Int) (v2 : Int) (u3 : Option aV) (u4 : Option aV) (h : aH) : ev xs d mm_165 15 [some (.inr (.inr v0)), some (.inl v1), some (.inl v2), u3, u4] [] h =
  some (some (.inl (-1)), h) :=
  (aB gP gX xs stp_165 3 d mm_165 15 _ _ h).trans rfl

set_option maxRecDepth 100000 in
set_option maxHeartbeats 4000000 in
theorem q_165_38 (xs : List Int) (d : Nat) (v0 : Int) (v1 : Int) (v2 : Int) (u3 : Option aV) (u4 : Option aV) (h : aH) : ev xs d mm_165 38 [some (.inr (.inr v0)), some (.inl v1), some (.inl v2), u3, u4] [] h =
  bif aok h.1 v0 11 then
    bif aok h.1 (h.2 v0.toNat 5) 9 then
      bif ain h.1 (h.2 (h.2 v0.toNat 5).toNat 8) 101 v1 then
        bif aok h.1 v0 11 && true then
          bJ (cl xs d 138 [.inr (.inr v0), .inr (.inl (h.2 (h.2 (h.2 v0.toNat 5).toNat 8).toNat v1.toNat))] h) (fun x2 h1 =>
          bif decide (v2 = 0) then
            bif aok h1.1 v0 11 then
              bif aok h1.1 (h1.2 v0.toNat 5) 9 then
                bif ain h1.1 (h1.2 (h1.2 v0.toNat 5).toNat 9) 101 v1 then
                  ev xs d mm_165 78 [some (.inr (.inr v0)), some (.inl v1), some (.inl v2), some (.inr (.inl x2)), none] [.inr (.inl (h1.2 (h1.2 (h1.2 v0.toNat 5).toNat 9).toNat v1.toNat)), .inr (.inl x2)] h1
                else none
              else none
            else none
          else
            bif aok h1.1 v0 11 then
              bif aok h1.1 (h1.2 v0.toNat 5) 9 then
                bif ain h1.1 (h1.2 (h1.2 v0.toNat 5).toNat 10) 101 v1 then
                  ev xs d mm_165 78 [some (.inr (.inr v0)), some (.inl v1), some (.inl v2), some (.inr (.inl x2)), none] [.inr (.inl (h1.2 (h1.2 (h1.2 v0.toNat 5).toNat 10).toNat v1.toNat)), .inr (.inl x2)] h1
                else none
              else none
            else none)
        else none
      else none
    else none
  else none :=
  (aB gP gX xs stp_165 18 d mm_165 38 _ _ h).trans rfl

set_option maxRecDepth 100000 in
set_option maxHeartbeats 4000000 in
theorem q_165_78 (xs : List Int) (d : Nat) (v0 : Int) (v1 : Int) (v2 : Int) (v3 : Int) (u4 : Option aV) (s0 : Int) (s1 : Int) (h : aH) : ev xs d mm_165 78 [some (.inr (.inr v0)), some (.inl v1), some (.inl v2), some (.inr (.inl v3)), u4] [.inr (.inl s1), .inr (.inl s0)] h =
  bif decide (¬ (olcmp s0 s1) = 0) then
    ev xs d mm_165 87 [some (.inr (.inr v0)), some (.inl v1), some (.inl v2), some (.inr (.inl v3)), u4] [.inl 0] h
  else
    ev xs d mm_165 87 [some (.inr (.inr v0)), some (.inl v1), some (.inl v2), some (.inr (.inl v3)), u4] [.inl 1] h :=
  (aB gP gX xs stp_165 5 d mm_165 78 _ _ h).trans rfl

set_option maxRecDepth 100000 in
set_option maxHeartbeats 4000000 in
theorem q_165_87 (xs : List Int) (d : Nat) (v0 : Int) (v1 : Int) (v2 : Int) (v3 : Int) (u4 : Option aV) (s0 : Int) (h : aH) : ev xs d mm_165 87 [some (.inr (.inr v0)), some (.inl v1), some (.inl v2), some (.inr (.inl v3)), u4] [.inl s0] h =
  some (some (.inl s0), h) :=
  (aB gP gX xs stp_165 2 d mm_165 87 _ _ h).trans rfl

def stp_166 : List Nat := [0, 21]
set_option maxRecDepth 100000 in
set_option maxHeartbeats 4000000 in
theorem q_166_0 (xs : List Int) (d : Nat) (v0 : Int) (v1 : Int) (h : aH) : ev xs d mm_166 0 [some (.inr (.inr v0)), some (.inl v1)] [] h =
  bif aok h.1 v0 11 && true then
    bI (cl xs d 137 [.inr (.inr v0), .inl v1] h) (fun x2 h1 =>
    bif decide (x2 = 0) then
      ev xs d mm_166 21 [some (.inr (.inr v0)), some (.inl v1)] [.inl (-1)] h1
    else
      bif aok h1.1 v0 11 && true then
        bR (cl xs d 164 [.inr (.inr v0)] h1) (fun x4 h3 =>
        bif aok h3.1 x4 2 then
          bif ain h3.1 (h3.2 x4.toNat 1) 100 v1 then
            ev xs d mm_166 21 [some (.inr (.inr v0)), some (.inl v1)] [.inl (h3.2 (h3.2 x4.toNat 1).toNat v1.toNat)] h3
          else none
        else none)
      else none)
  else none :=
  (aB gP gX xs stp_166 11 d mm_166 0 _ _ h).trans rfl

set_option maxRecDepth 100000 in
set_option maxHeartbeats 4000000 in
theorem q_166_21 (xs : List Int) (d : Nat) (v0 : Int) (v1 : Int) (s0 : Int) (h : aH) : ev xs d mm_166 21 [some (.inr (.inr v0)), some (.inl v1)] [.inl s0] h =
  some (some (.inl s0), h) :=
  (aB gP gX xs stp_166 2 d mm_166 21 _ _ h).trans rfl

def stp_167 : List Nat := [0, 12, 65]
set_option maxRecDepth 100000 in
set_option maxHeartbeats 4000000 in
theorem q_167_0 (xs : List Int) (d : Nat) (v0 : Int) (v1 : Int) (v2 : Int) (h : aH) : ev xs d mm_167 0 [some (.inr (.inr v0)), some (.inl v1), some (.inl v2), none, none] [] h =
  bif aok h.1 v0 11 && true then
    bI (cl xs d 137 [.inr (.inr v0), .inl v1] h) (fun x2 h1 =>
    bif decide (x2 = 0) then
      ev xs d mm_167 12 [some (.inr (.inr v0)), some (.inl v1), some (.inl v2), none, none] [] h1
    else
      bif decide (0 ≤ v2) then
        bif aok h1.1 v0 11 && true then
          bR (cl xs d 164 [.inr (.inr v0)] h1) (fun x4 h3 =>
          bif aok h3.1 x4 2 then
            bif ain h3.1 (h3.2 x4.toNat 1) 100 v1 then
              bif decide (¬ (h3.2 (h3.2 x4.toNat 1).toNat v1.toNat) = 0) then
                bif aok h3.1 v0 11 then
                  bif aok h3.1 (h3.2 v0.toNat 7) 6 then
                    bI (cl xs d 316 [.inl (h3.2 (h3.2 v0.toNat 7).toNat 0)] h3) (fun x6 h5 =>
                      bif decide (x6 ≤ v2) then
                        ev xs d mm_167 65 [some (.inr (.inr v0)), some (.inl v1), some (.inl v2), some (.inr (.inr x4)), some (.inl x6)] [.inl (-1)] h5
                      else
                        bif aok h5.1 x4 2 then
                          bif ain h5.1 (h5.2 x4.toNat 2) 100 v1 then
                            bI (cl xs d 20 [.inl (h5.2 (h5.2 x4.toNat 2).toNat v1.toNat), .inl x6, .inl v2] h5) (fun x8 h7 =>
                              ev xs d mm_167 65 [some (.inr (.inr v0)), some (.inl v1), some (.inl v2), some (.inr (.inr x4)), some (.inl x6)] [.inl x8] h7)
                          else none
                        else none)
                  else none
                else none
              else
                some (some (.inl (-2)), h3)
            else none
          else none)
        else none
      else
        ev xs d mm_167 12 [some (.inr (.inr v0)), some (.inl v1), some (.inl v2), none, none] [] h1)
  else none :=
  (aB gP gX xs stp_167 31 d mm_167 0 _ _ h).trans rfl

set_option maxRecDepth 100000 in
set_option maxHeartbeats 4000000 in
theorem q_167_12 (xs : List Int) (d : Nat) (v0 : Int) (v1 : Int) (v2 : Int) (u3 : Option aV) (u4 : Option aV) (h : aH) : ev xs d mm_167 12 [some (.inr (.inr v0)), some (.inl v1), some (.inl v2), u3, u4] [] h =
  some (some (.inl (-1)), h) :=
  (aB gP gX xs stp_167 3 d mm_167 12 _ _ h).trans rfl

set_option maxRecDepth 100000 in
set_option maxHeartbeats 4000000 in
theorem q_167_65 (xs : List Int) (d : Nat) (v0 : Int) (v1 : Int) (v2 : Int) (v3 : Int) (v4 : Int) (s0 : Int) (h : aH) : ev xs d mm_167 65 [some (.inr (.inr v0)), some (.inl v1), some (.inl v2), some (.inr (.inr v3)), some (.inl v4)] [.inl s0] h =
  some (some (.inl s0), h) :=
  (aB gP gX xs stp_167 2 d mm_167 65 _ _ h).trans rfl

def stp_168 : List Nat := [0, 35]
set_option maxRecDepth 100000 in
set_option maxHeartbeats 4000000 in
theorem q_168_0 (xs : List Int) (d : Nat) (v0 : Int) (v1 : Int) (h : aH) : ev xs d mm_168 0 [some (.inr (.inr v0)), some (.inl v1), none] [] h =
  bif aok h.1 v0 11 && true then
    bI (cl xs d 137 [.inr (.inr v0), .inl v1] h) (fun x2 h1 =>
    bif decide (¬ x2 = 0) then
      bif aok h1.1 v0 11 && true then
        bR (cl xs d 164 [.inr (.inr v0)] h1) (fun x4 h3 =>
        bif aok h3.1 x4 2 then
          bif ain h3.1 (h3.2 x4.toNat 1) 100 v1 then
            bif decide (¬ (h3.2 (h3.2 x4.toNat 1).toNat v1.toNat) = 0) then
              bif aok h3.1 x4 2 then
                bif ain h3.1 (h3.2 x4.toNat 3) 100 v1 then
                  ev xs d mm_168 35 [some (.inr (.inr v0)), some (.inl v1), some (.inr (.inr x4))] [.inl (h3.2 (h3.2 x4.toNat 3).toNat v1.toNat)] h3
                else none
              else none
            else
              ev xs d mm_168 35 [some (.inr (.inr v0)), some (.inl v1), some (.inr (.inr x4))] [.inl (-2)] h3
          else none
        else none)
      else none
    else
      some (some (.inl (-1)), h1))
  else none :=
  (aB gP gX xs stp_168 17 d mm_168 0 _ _ h).trans rfl

set_option maxRecDepth 100000 in
set_option maxHeartbeats 4000000 in
theorem q_168_35 (xs : List Int) (d : Nat) (v0 : Int) (v1 : Int) (v2 : Int) (s0 : Int) (h : aH) : ev xs d mm_168 35 [some (.inr (.inr v0)), some (.inl v1), some (.inr (.inr v2))] [.inl s0] h =
  some (some (.inl s0), h) :=
  (aB gP gX xs stp_168 2 d mm_168 35 _ _ h).trans rfl

def stp_169 : List Nat := [0, 17, 46]
set_option maxRecDepth 100000 in
set_option maxHeartbeats 4000000 in
theorem q_169_0 (xs : List Int) (d : Nat) (v0 : Int) (v1 : Int) (v2 : Int) (v3 : Int) (h : aH) : ev xs d mm_169 0 [some (.inr (.inr v0)), some (.inl v1), some (.inl v2), some (.inl v3), none] [] h =
  bif aok h.1 v0 11 && true then
    bI (cl xs d 137 [.inr (.inr v0), .inl v1] h) (fun x2 h1 =>
    bif decide (x2 = 0) then
      ev xs d mm_169 17 [some (.inr (.inr v0)), some (.inl v1), some (.inl v2), some (.inl v3), none] [] h1
    else
      bif decide (v3 < 0) then
        ev xs d mm_169 17 [some (.inr (.inr v0)), some (.inl v1), some (.inl v2), some (.inl v3), none] [] h1
      else
        bif decide (v3 ≤ 1) then
          bif aok h1.1 v0 11 && true then
            bR (cl xs d 163 [.inr (.inr v0)] h1) (fun x4 h3 =>
            bif decide (¬ v3 = 0) then
              bif aok h3.1 x4 5 && true then
                bI (cl xs d 67 [.inr (.inr x4), .inl v1, .inl v2] h3) (fun x6 h5 =>
                ev xs d mm_169 46 [some (.inr (.inr v0)), some (.inl v1), some (.inl v2), some (.inl v3), some (.inr (.inr x4))] [.inl x6] h5)
              else none
            else
              bif aok h3.1 x4 5 && true then
                bI (cl xs d 66 [.inr (.inr x4), .inl v1, .inl v2] h3) (fun x8 h7 =>
                ev xs d mm_169 46 [some (.inr (.inr v0)), some (.inl v1), some (.inl v2), some (.inl v3), some (.inr (.inr x4))] [.inl x8] h7)
              else none)
          else none
        else
          ev xs d mm_169 17 [some (.inr (.inr v0)), some (.inl v1), some (.inl v2), some (.inl v3), none] [] h1)
  else none :=
  (aB gP gX xs stp_169 20 d mm_169 0 _ _ h).trans rfl

set_option maxRecDepth 100000 in
set_option maxHeartbeats 4000000 in
theorem q_169_17 (xs : List Int) (d : Nat) (v0 : Int) (v1 : Int) (v2 : Int) (v3 : Int) (u4 : Option aV) (h : aH) : ev xs d mm_169 17 [some (.inr (.inr v0)), some (.inl v1), some (.inl v2), some (.inl v3), u4] [] h =
  some (some (.inl (-1)), h) :=
  (aB gP gX xs stp_169 3 d mm_169 17 _ _ h).trans rfl

set_option maxRecDepth 100000 in
set_option maxHeartbeats 4000000 in
theorem q_169_46 (xs : List Int) (d : Nat) (v0 : Int) (v1 : Int) (v2 : Int) (v3 : Int) (v4 : Int) (s0 : Int) (h : aH) : ev xs d mm_169 46 [some (.inr (.inr v0)), some (.inl v1), some (.inl v2), some (.inl v3), some (.inr (.inr v4))] [.inl s0] h =
  some (some (.inl s0), h) :=
  (aB gP gX xs stp_169 2 d mm_169 46 _ _ h).trans rfl

def stp_170 : List Nat := [0, 9, 67]
set_option maxRecDepth 100000 in
set_option maxHeartbeats 4000000 in
theorem q_170_0 (xs : List Int) (d : Nat) (v0 : Int) (v1 : Int) (h : aH) : ev xs d mm_170 0 [some (.inr (.inr v0)), some (.inl v1), none, none] [] h =
  bif decide (v1 < 0) then
    ev xs d mm_170 9 [some (.inr (.inr v0)), some (.inl v1), none, none] [] h
  else
    bif decide (v1 ≤ 2) then
      bif aok h.1 v0 11 && true then
        bR (cl xs d 163 [.inr (.inr v0)] h) (fun x2 h1 =>
        bif aok h1.1 v0 11 then
          bif aok h1.1 x2 5 && true then
            bI (cl xs d 69 [.inr (.inr x2), .inr (.inr (h1.2 v0.toNat 5))] h1) (fun x4 h3 =>
            bif decide (¬ v1 = 0) then
              bif decide (¬ v1 = 1) then
                bif aok h3.1 v0 11 then
                  bif aok h3.1 (h3.2 v0.toNat 5) 9 then
                    bI (cl xs d 126 [.inl (h3.2 (h3.2 v0.toNat 5).toNat 7)] h3) (fun x6 h5 =>
                      bif aok h5.1 x2 5 && true then
                        bI (cl xs d 64 [.inr (.inr x2), .inl x4, .inl 0] h5) (fun x8 h7 =>
                        ev xs d mm_170 67 [some (.inr (.inr v0)), some (.inl v1), some (.inr (.inr x2)), some (.inl x4)] [.inl (oand x6 (oxor x8 (-1)))] h7)
                      else none)
                  else none
                else none
              else
                ev xs d mm_170 67 [some (.inr (.inr v0)), some (.inl v1), some (.inr (.inr x2)), some (.inl x4)] [.inl x4] h3
            else
              bif aok h3.1 v0 11 then
                bif aok h3.1 x2 5 && true then
                  bI (cl xs d 68 [.inr (.inr x2), .inr (.inr (h3.2 v0.toNat 5)), .inl x4] h3) (fun x10 h9 =>
                  some (some (.inl x10), h9))
                else none
              else none)
          else none
        else none)
      else none
    else
      ev xs d mm_170 9 [some (.inr (.inr v0)), some (.inl v1), none, none] [] h :=
  (aB gP gX xs stp_170 30 d mm_170 0 _ _ h).trans rfl

set_option maxRecDepth 100000 in
set_option maxHeartbeats 4000000 in
theorem q_170_9 (xs : List Int) (d : Nat) (v0 : Int) (v1 : Int) (u2 : Option aV) (u3 : Option aV) (h : aH) : ev xs d mm_170 9 [some (.inr (.inr v0)), some (.inl v1), u2, u3] [] h =
  some (some (.inl (-1)), h) :=
  (aB gP gX xs stp_170 3 d mm_170 9 _ _ h).trans rfl

set_option maxRecDepth 100000 in
set_option maxHeartbeats 4000000 in
theorem q_170_67 (xs : List Int) (d : Nat) (v0 : Int) (v1 : Int) (v2 : Int) (v3 : Int) (s0 : Int) (h : aH) : ev xs d mm_170 67 [some (.inr (.inr v0)), some (.inl v1), some (.inr (.inr v2)), some (.inl v3)] [.inl s0] h =
  some (some (.inl s0), h) :=
  (aB gP gX xs stp_170 2 d mm_170 67 _ _ h).trans rfl

def stp_171 : List Nat := [0, 17, 34, 70, 87, 94]
set_option maxRecDepth 100000 in
set_option maxHeartbeats 4000000 in
theorem q_171_0 (xs : List Int) (d : Nat) (v0 : Int) (v1 : Int) (v2 : Int) (h : aH) : ev xs d mm_171 0 [some (.inr (.inr v0)), some (.inl v1), some (.inl v2), none, none, none, none, none] [] h =
  bif aok h.1 v0 11 && true then
    bI (cl xs d 137 [.inr (.inr v0), .inl v1] h) (fun x2 h1 =>
    bif decide (x2 = 0) then
      ev xs d mm_171 17 [some (.inr (.inr v0)), some (.inl v1), some (.inl v2), none, none, none, none, none] [] h1
    else
      bif decide (v2 < 0) then
        ev xs d mm_171 17 [some (.inr (.inr v0)), some (.inl v1), some (.inl v2), none, none, none, none, none] [] h1
      else
        bif decide (v2 ≤ 1) then
          bif aok h1.1 v0 11 && true then
            bR (cl xs d 163 [.inr (.inr v0)] h1) (fun x4 h3 =>
            ev xs d mm_171 34 [some (.inr (.inr v0)), some (.inl v1), some (.inl v2), some (.inr (.inr x4)), some (.inl (-2)), some (.inl 0), some (.inl v1), none] [] h3)
          else none
        else
          ev xs d mm_171 17 [some (.inr (.inr v0)), some (.inl v1), some (.inl v2), none, none, none, none, none] [] h1)
  else none :=
  (aB gP gX xs stp_171 19 d mm_171 0 _ _ h).trans rfl

set_option maxRecDepth 100000 in
set_option maxHeartbeats 4000000 in
theorem q_171_17 (xs : List Int) (d : Nat) (v0 : Int) (v1 : Int) (v2 : Int) (u3 : Option aV) (u4 : Option aV) (u5 : Option aV) (u6 : Option aV) (u7 : Option aV) (h : aH) : ev xs d mm_171 17 [some (.inr (.inr v0)), some (.inl v1), some (.inl v2), u3, u4, u5, u6, u7] [] h =
  some (some (.inl (-1)), h) :=
  (aB gP gX xs stp_171 3 d mm_171 17 _ _ h).trans rfl

set_option maxRecDepth 100000 in
set_option maxHeartbeats 4000000 in
theorem q_171_34 (xs : List Int) (d : Nat) (v0 : Int) (v1 : Int) (v2 : Int) (v3 : Int) (v4 : Int) (v5 : Int) (v6 : Int) (u7 : Option aV) (h : aH) : ev xs d mm_171 34 [some (.inr (.inr v0)), some (.inl v1), some (.inl v2), some (.inr (.inr v3)), some (.inl v4), some (.inl v5), some (.inl v6), u7] [] h =
  bif aok h.1 v0 11 then
    bif aok h.1 (h.2 v0.toNat 5) 9 then
      bif decide ((h.2 (h.2 v0.toNat 5).toNat 7) ≤ v6) then
        bif decide (v2 = 0) then
          ev xs d mm_171 87 [some (.inr (.inr v0)), some (.inl v1), some (.inl v2), some (.inr (.inr v3)), some (.inl v4), some (.inl v5), some (.inl v6), u7] [] h
        else
          bif decide (¬ v4 = (-2)) then
            ev xs d mm_171 94 [some (.inr (.inr v0)), some (.inl v1), some (.inl v2), some (.inr (.inr v3)), some (.inl v4), some (.inl v5), some (.inl v6), u7] [.inl v5] h
          else
            ev xs d mm_171 87 [some (.inr (.inr v0)), some (.inl v1), some (.inl v2), some (.inr (.inr v3)), some (.inl v4), some (.inl v5), some (.inl v6), u7] [] h
      else
        bif aok h.1 v3 5 && true then
          bI (cl xs d 70 [.inr (.inr v3), .inl v6, .inl v1] h) (fun x2 h1 =>
          bif decide (x2 ≤ v5) then
            ev xs d mm_171 70 [some (.inr (.inr v0)), some (.inl v1), some (.inl v2), some (.inr (.inr v3)), some (.inl v4), some (.inl v5), some (.inl v6), some (.inl x2)] [] h1
          else
            ev xs d mm_171 70 [some (.inr (.inr v0)), some (.inl v1), some (.inl v2), some (.inr (.inr v3)), some (.inl v6), some (.inl x2), some (.inl v6), some (.inl x2)] [] h1)
        else none
    else none
  else none :=
  (aB gP gX xs stp_171 18 d mm_171 34 _ _ h).trans rfl

set_option maxRecDepth 100000 in
set_option maxHeartbeats 4000000 in
theorem q_171_70 (xs : List Int) (d : Nat) (v0 : Int) (v1 : Int) (v2 : Int) (v3 : Int) (v4 : Int) (v5 : Int) (v6 : Int) (v7 : Int) (h : aH) : ev xs d mm_171 70 [some (.inr (.inr v0)), some (.inl v1), some (.inl v2), some (.inr (.inr v3)), some (.inl v4), some (.inl v5), some (.inl v6), some (.inl v7)] [] h =
  ev xs d mm_171 34 [some (.inr (.inr v0)), some (.inl v1), some (.inl v2), some (.inr (.inr v3)), some (.inl v4), some (.inl v5), some (.inl (w32 (v6 + 1))), some (.inl v7)] [] h :=
  (aB gP gX xs stp_171 3 d mm_171 70 _ _ h).trans rfl

set_option maxRecDepth 100000 in
set_option maxHeartbeats 4000000 in
theorem q_171_87 (xs : List Int) (d : Nat) (v0 : Int) (v1 : Int) (v2 : Int) (v3 : Int) (v4 : Int) (v5 : Int) (v6 : Int) (u7 : Option aV) (h : aH) : ev xs d mm_171 87 [some (.inr (.inr v0)), some (.inl v1), some (.inl v2), some (.inr (.inr v3)), some (.inl v4), some (.inl v5), some (.inl v6), u7] [] h =
  ev xs d mm_171 94 [some (.inr (.inr v0)), some (.inl v1), some (.inl v2), some (.inr (.inr v3)), some (.inl v4), some (.inl v5), some (.inl v6), u7] [.inl v4] h :=
  (aB gP gX xs stp_171 3 d mm_171 87 _ _ h).trans rfl

set_option maxRecDepth 100000 in
set_option maxHeartbeats 4000000 in
theorem q_171_94 (xs : List Int) (d : Nat) (v0 : Int) (v1 : Int) (v2 : Int) (v3 : Int) (v4 : Int) (v5 : Int) (v6 : Int) (u7 : Option aV) (s0 : Int) (h : aH) : ev xs d mm_171 94 [some (.inr (.inr v0)), some (.inl v1), some (.inl v2), some (.inr (.inr v3)), some (.inl v4), some (.inl v5), some (.inl v6), u7] [.inl s0] h =
  some (some (.inl s0), h) :=
  (aB gP gX xs stp_171 2 d mm_171 94 _ _ h).trans rfl

def stp_172 : List Nat := [0, 53, 64]
set_option maxRecDepth 100000 in
set_option maxHeartbeats 4000000 in
theorem q_172_0 (xs : List Int) (d : Nat) (v0 : Int) (v1 : Int) (h : aH) : ev xs d mm_172 0 [some (.inr (.inr v0)), some (.inl v1), none, none, none] [] h =
  bif aok h.1 v0 11 && true then
    bI (cl xs d 137 [.inr (.inr v0), .inl v1] h) (fun x2 h1 =>
    bif decide (¬ x2 = 0) then
      bif aok h1.1 v0 11 && true then
        bR (cl xs d 163 [.inr (.inr v0)] h1) (fun x4 h3 =>
        bif aok h3.1 v0 11 then
          bif aok h3.1 (h3.2 v0.toNat 7) 6 then
            bif aok h3.1 x4 5 && true then
              bI (cl xs d 71 [.inr (.inr x4), .inl v1, .inl 0, .inr (.inr (h3.2 (h3.2 v0.toNat 7).toNat 1))] h3) (fun x6 h5 =>
              bif aok h5.1 v0 11 then
                bif aok h5.1 (h5.2 v0.toNat 7) 6 then
                  bif aok h5.1 x4 5 && true then
                    bI (cl xs d 71 [.inr (.inr x4), .inl v1, .inl 1, .inr (.inr (h5.2 (h5.2 v0.toNat 7).toNat 1))] h5) (fun x8 h7 =>
                    bif decide (x6 < 0) then
                      ev xs d mm_172 53 [some (.inr (.inr v0)), some (.inl v1), some (.inr (.inr x4)), some (.inl x6), some (.inl x8)] [] h7
                    else
                      bif decide (0 ≤ x8) then
                        bI (cl xs d 318 [.inl x6, .inl x8] h7) (fun x10 h9 =>
                          ev xs d mm_172 64 [some (.inr (.inr v0)), some (.inl v1), some (.inr (.inr x4)), some (.inl x6), some (.inl x8)] [.inl x10] h9)
                      else
                        ev xs d mm_172 53 [some (.inr (.inr v0)), some (.inl v1), some (.inr (.inr x4)), some (.inl x6), some (.inl x8)] [] h7)
                  else none
                else none
              else none)
            else none
          else none
        else none)
      else none
    else
      some (some (.inl (-1)), h1))
  else none :=
  (aB gP gX xs stp_172 31 d mm_172 0 _ _ h).trans rfl

set_option maxRecDepth 100000 in
set_option maxHeartbeats 4000000 in
theorem q_172_53 (xs : List Int) (d : Nat) (v0 : Int) (v1 : Int) (v2 : Int) (v3 : Int) (v4 : Int) (h : aH) : ev xs d mm_172 53 [some (.inr (.inr v0)), some (.inl v1), some (.inr (.inr v2)), some (.inl v3), some (.inl v4)] [] h =
  ev xs d mm_172 64 [some (.inr (.inr v0)), some (.inl v1), some (.inr (.inr v2)), some (.inl v3), some (.inl v4)] [.inl (-2)] h :=
  (aB gP gX xs stp_172 3 d mm_172 53 _ _ h).trans rfl

set_option maxRecDepth 100000 in
set_option maxHeartbeats 4000000 in
theorem q_172_64 (xs : List Int) (d : Nat) (v0 : Int) (v1 : Int) (v2 : Int) (v3 : Int) (v4 : Int) (s0 : Int) (h : aH) : ev xs d mm_172 64 [some (.inr (.inr v0)), some (.inl v1), some (.inr (.inr v2)), some (.inl v3), some (.inl v4)] [.inl s0] h =
  some (some (.inl s0), h) :=
  (aB gP gX xs stp_172 2 d mm_172 64 _ _ h).trans rfl

def stp_173 : List Nat := [0, 9, 39, 90, 106]
set_option maxRecDepth 100000 in
set_option maxHeartbeats 4000000 in
theorem q_173_0 (xs : List Int) (d : Nat) (v0 : Int) (v1 : Int) (h : aH) : ev xs d mm_173 0 [some (.inr (.inr v0)), some (.inl v1), none, none, none, none, none] [] h =
  bif decide (v1 < 0) then
    ev xs d mm_173 9 [some (.inr (.inr v0)), some (.inl v1), none, none, none, none, none] [] h
  else
    bif decide (v1 ≤ 1) then
      bif aok h.1 v0 11 && true then
        bR (cl xs d 163 [.inr (.inr v0)] h) (fun x2 h1 =>
        bif aok h1.1 v0 11 then
          bif aok h1.1 (h1.2 v0.toNat 7) 6 then
            bif aok h1.1 x2 5 && true then
              bI (cl xs d 64 [.inr (.inr x2), .inl (h1.2 (h1.2 v0.toNat 7).toNat 0), .inl 0] h1) (fun x4 h3 =>
              bI (cl xs d 316 [.inl x4] h3) (fun x6 h5 =>
                ev xs d mm_173 39 [some (.inr (.inr v0)), some (.inl v1), some (.inr (.inr x2)), some (.inl (-2)), some (.inl x6), some (.inl 0), none] [] h5))
            else none
          else none
        else none)
      else none
    else
      ev xs d mm_173 9 [some (.inr (.inr v0)), some (.inl v1), none, none, none, none, none] [] h :=
  (aB gP gX xs stp_173 21 d mm_173 0 _ _ h).trans rfl

set_option maxRecDepth 100000 in
set_option maxHeartbeats 4000000 in
theorem q_173_9 (xs : List Int) (d : Nat) (v0 : Int) (v1 : Int) (u2 : Option aV) (u3 : Option aV) (u4 : Option aV) (u5 : Option aV) (u6 : Option aV) (h : aH) : ev xs d mm_173 9 [some (.inr (.inr v0)), some (.inl v1), u2, u3, u4, u5, u6] [] h =
  some (some (.inl (-1)), h) :=
  (aB gP gX xs stp_173 3 d mm_173 9 _ _ h).trans rfl

set_option maxRecDepth 100000 in
set_option maxHeartbeats 4000000 in
theorem q_173_39 (xs : List Int) (d : Nat) (v0 : Int) (v1 : Int) (v2 : Int) (v3 : Int) (v4 : Int) (v5 : Int) (u6 : Option aV) (h : aH) : ev xs d mm_173 39 [some (.inr (.inr v0)), some (.inl v1), some (.inr (.inr v2)), some (.inl v3), some (.inl v4), some (.inl v5), u6] [] h =
  bif aok h.1 v0 11 then
    bif aok h.1 (h.2 v0.toNat 5) 9 then
      bif aok h.1 (h.2 (h.2 v0.toNat 5).toNat 3) 7 then
        bif decide ((h.2 (h.2 (h.2 v0.toNat 5).toNat 3).toNat 0) ≤ v5) then
          bif decide (¬ v1 = 0) then
            ev xs d mm_173 106 [some (.inr (.inr v0)), some (.inl v1), some (.inr (.inr v2)), some (.inl v3), some (.inl v4), some (.inl v5), u6] [.inl v4] h
          else
            ev xs d mm_173 106 [some (.inr (.inr v0)), some (.inl v1), some (.inr (.inr v2)), some (.inl v3), some (.inl v4), some (.inl v5), u6] [.inl v3] h
        else
          bif aok h.1 v0 11 then
            bif aok h.1 (h.2 v0.toNat 7) 6 then
              bif aok h.1 v2 5 && true then
                bI (cl xs d 64 [.inr (.inr v2), .inl (oxor (h.2 (h.2 v0.toNat 7).toNat 0) (oshl 1 v5)), .inl 0] h) (fun x2 h1 =>
                bI (cl xs d 316 [.inl x2] h1) (fun x4 h3 =>
                  bif decide (x4 ≤ v4) then
                    ev xs d mm_173 90 [some (.inr (.inr v0)), some (.inl v1), some (.inr (.inr v2)), some (.inl v3), some (.inl v4), some (.inl v5), some (.inl x4)] [] h3
                  else
                    ev xs d mm_173 90 [some (.inr (.inr v0)), some (.inl v1), some (.inr (.inr v2)), some (.inl v5), some (.inl x4), some (.inl v5), some (.inl x4)] [] h3))
              else none
            else none
          else none
      else none
    else none
  else none :=
  (aB gP gX xs stp_173 26 d mm_173 39 _ _ h).trans rfl

set_option maxRecDepth 100000 in
set_option maxHeartbeats 4000000 in
theorem q_173_90 (xs : List Int) (d : Nat) (v0 : Int) (v1 : Int) (v2 : Int) (v3 : Int) (v4 : Int) (v5 : Int) (v6 : Int) (h : aH) : ev xs d mm_173 90 [some (.inr (.inr v0)), some (.inl v1), some (.inr (.inr v2)), some (.inl v3), some (.inl v4), some (.inl v5), some (.inl v6)] [] h =
  ev xs d mm_173 39 [some (.inr (.inr v0)), some (.inl v1), some (.inr (.inr v2)), some (.inl v3), some (.inl v4), some (.inl (w32 (v5 + 1))), some (.inl v6)] [] h :=
  (aB gP gX xs stp_173 3 d mm_173 90 _ _ h).trans rfl

set_option maxRecDepth 100000 in
set_option maxHeartbeats 4000000 in
theorem q_173_106 (xs : List Int) (d : Nat) (v0 : Int) (v1 : Int) (v2 : Int) (v3 : Int) (v4 : Int) (v5 : Int) (u6 : Option aV) (s0 : Int) (h : aH) : ev xs d mm_173 106 [some (.inr (.inr v0)), some (.inl v1), some (.inr (.inr v2)), some (.inl v3), some (.inl v4), some (.inl v5), u6] [.inl s0] h =
  some (some (.inl s0), h) :=
  (aB gP gX xs stp_173 2 d mm_173 106 _ _ h).trans rfl

def stp_174 : List Nat := [0, 21, 26, 84]
set_option maxRecDepth 100000 in
set_option maxHeartbeats 4000000 in
theorem q_174_0 (xs : List Int) (d : Nat) (v0 : Int) (v1 : Int) (v2 : Int) (v3 : Int) (h : aH) : ev xs d mm_174 0 [some (.inr (.inr v0)), some (.inl v1), some (.inl v2), some (.inl v3), none] [] h =
  bif aok h.1 v0 11 && true then
    bI (cl xs d 135 [.inr (.inr v0), .inl v1] h) (fun x2 h1 =>
    bif decide (x2 = 0) then
      ev xs d mm_174 21 [some (.inr (.inr v0)), some (.inl v1), some (.inl v2), some (.inl v3), none] [] h1
    else
      bif aok h1.1 v0 11 && true then
        bI (cl xs d 135 [.inr (.inr v0), .inl v2] h1) (fun x4 h3 =>
        bif decide (x4 = 0) then
          ev xs d mm_174 21 [some (.inr (.inr v0)), some (.inl v1), some (.inl v2), some (.inl v3), none] [] h3
        else
          bif decide ((-1) ≤ v3) then
            ev xs d mm_174 26 [some (.inr (.inr v0)), some (.inl v1), some (.inl v2), some (.inl v3), some (.inl 0)] [] h3
          else
            ev xs d mm_174 21 [some (.inr (.inr v0)), some (.inl v1), some (.inl v2), some (.inl v3), none] [] h3)
      else none)
  else none :=
  (aB gP gX xs stp_174 14 d mm_174 0 _ _ h).trans rfl

set_option maxRecDepth 100000 in
set_option maxHeartbeats 4000000 in
theorem q_174_21 (xs : List Int) (d : Nat) (v0 : Int) (v1 : Int) (v2 : Int) (v3 : Int) (u4 : Option aV) (h : aH) : ev xs d mm_174 21 [some (.inr (.inr v0)), some (.inl v1), some (.inl v2), some (.inl v3), u4] [] h =
  some (some (.inl (-1)), h) :=
  (aB gP gX xs stp_174 3 d mm_174 21 _ _ h).trans rfl

set_option maxRecDepth 100000 in
set_option maxHeartbeats 4000000 in
theorem q_174_26 (xs : List Int) (d : Nat) (v0 : Int) (v1 : Int) (v2 : Int) (v3 : Int) (v4 : Int) (h : aH) : ev xs d mm_174 26 [some (.inr (.inr v0)), some (.inl v1), some (.inl v2), some (.inl v3), some (.inl v4)] [] h =
  bif decide (4 < v4) then
    some (some (.inl (-2)), h)
  else
    bif aok h.1 v0 11 then
      bif aok h.1 (h.2 v0.toNat 7) 6 then
        bif ain h.1 (h.2 (h.2 v0.toNat 7).toNat 2) 101 v1 then
          bif aok h.1 v0 11 then
            bif aok h.1 (h.2 v0.toNat 7) 6 then
              bif ain h.1 (h.2 (h.2 v0.toNat 7).toNat 2) 101 v2 then
                bif aok h.1 v0 11 && true then
                  bI (cl xs d 175 [.inr (.inr v0), .inr (.inl (h.2 (h.2 (h.2 v0.toNat 7).toNat 2).toNat v1.toNat)), .inr (.inl (h.2 (h.2 (h.2 v0.toNat 7).toNat 2).toNat v2.toNat)), .inl 0, .inl v4] h) (fun x2 h1 =>
                  bif decide (x2 = 0) then
                    ev xs d mm_174 26 [some (.inr (.inr v0)), some (.inl v1), some (.inl v2), some (.inl v3), some (.inl (w32 (v4 + 1)))] [] h1
                  else
                    bif decide (¬ v3 = (-1)) then
                      bif decide (v4 ≤ v3) then
                        ev xs d mm_174 84 [some (.inr (.inr v0)), some (.inl v1), some (.inl v2), some (.inl v3), some (.inl v4)] [.inl (-1)] h1
                      else
                        bif aok h1.1 v0 11 then
                          bif ain h1.1 (h1.2 v0.toNat 18) 100 v3 then
                            ev xs d mm_174 84 [some (.inr (.inr v0)), some (.inl v1), some (.inl v2), some (.inl v3), some (.inl v4)] [.inl (h1.2 (h1.2 v0.toNat 18).toNat v3.toNat)] h1
                          else none
                        else none
                    else
                      some (some (.inl v4), h1))
                else none
              else none
            else none
          else none
        else none
      else none
    else none :=
  (aB gP gX xs stp_174 30 d mm_174 26 _ _ h).trans rfl

set_option maxRecDepth 100000 in
set_option maxHeartbeats 4000000 in
theorem q_174_84 (xs : List Int) (d : Nat) (v0 : Int) (v1 : Int) (v2 : Int) (v3 : Int) (v4 : Int) (s0 : Int) (h : aH) : ev xs d mm_174 84 [some (.inr (.inr v0)), some (.inl v1), some (.inl v2), some (.inl v3), some (.inl v4)] [.inl s0] h =
  some (some (.inl s0), h) :=
  (aB gP gX xs stp_174 2 d mm_174 84 _ _ h).trans rfl

def stp_175 : List Nat := [0, 13, 24, 28, 92]
set_option maxRecDepth 100000 in
set_option maxHeartbeats 4000000 in
theorem q_175_0 (xs : List Int) (d : Nat) (v0 : Int) (v1 : Int) (v3 : Int) (v5 : Int) (v6 : Int) (h : aH) : ev xs d mm_175 0 [some (.inr (.inr v0)), some (.inr (.inl v1)), none, some (.inr (.inl v3)), none, some (.inl v5), some (.inl v6), none, none, none] [] h =
  bif decide (v6 ≤ v5) then
    ev xs d mm_175 13 [some (.inr (.inr v0)), some (.inr (.inl v1)), none, some (.inr (.inl v3)), none, some (.inl v5), some (.inl v6), none, none, none] [] h
  else
    bif decide (v5 < 4) then
      ev xs d mm_175 28 [some (.inr (.inr v0)), some (.inr (.inl v1)), none, some (.inr (.inl v3)), none, some (.inl v5), some (.inl v6), some (.inl 0), none, none] [] h
    else
      ev xs d mm_175 13 [some (.inr (.inr v0)), some (.inr (.inl v1)), none, some (.inr (.inl v3)), none, some (.inl v5), some (.inl v6), none, none, none] [] h :=
  (aB gP gX xs stp_175 9 d mm_175 0 _ _ h).trans rfl

set_option maxRecDepth 100000 in
set_option maxHeartbeats 4000000 in
theorem q_175_13 (xs : List Int) (d : Nat) (v0 : Int) (v1 : Int) (u2 : Option aV) (v3 : Int) (u4 : Option aV) (v5 : Int) (v6 : Int) (u7 : Option aV) (u8 : Option aV) (u9 : Option aV) (h : aH) : ev xs d mm_175 13 [some (.inr (.inr v0)), some (.inr (.inl v1)), u2, some (.inr (.inl v3)), u4, some (.inl v5), some (.inl v6), u7, u8, u9] [] h =
  bif decide (¬ (olcmp v1 v3) = 0) then
    ev xs d mm_175 24 [some (.inr (.inr v0)), some (.inr (.inl v1)), u2, some (.inr (.inl v3)), u4, some (.inl v5), some (.inl v6), u7, u8, u9] [.inl 0] h
  else
    ev xs d mm_175 24 [some (.inr (.inr v0)), some (.inr (.inl v1)), u2, some (.inr (.inl v3)), u4, some (.inl v5), some (.inl v6), u7, u8, u9] [.inl 1] h :=
  (aB gP gX xs stp_175 7 d mm_175 13 _ _ h).trans rfl

set_option maxRecDepth 100000 in
set_option maxHeartbeats 4000000 in
theorem q_175_24 (xs : List Int) (d : Nat) (v0 : Int) (v1 : Int) (u2 : Option aV) (v3 : Int) (u4 : Option aV) (v5 : Int) (v6 : Int) (u7 : Option aV) (u8 : Option aV) (u9 : Option aV) (s0 : Int) (h : aH) : ev xs d mm_175 24 [some (.inr (.inr v0)), some (.inr (.inl v1)), u2, some (.inr (.inl v3)), u4, some (.inl v5), some (.inl v6), u7, u8, u9] [.inl s0] h =
  bif decide (s0 = 0) || decide (s0 = 1) then some (some (.inl s0), h) else none :=
  (aB gP gX xs stp_175 2 d mm_175 24 _ _ h).trans rfl

set_option maxRecDepth 100000 in
set_option maxHeartbeats 4000000 in
theorem q_175_28 (xs : List Int) (d : Nat) (v0 : Int) (v1 : Int) (u2 : Option aV) (v3 : Int) (u4 : Option aV) (v5 : Int) (v6 : Int) (v7 : Int) (u8 : Option aV) (u9 : Option aV) (h : aH) : ev xs d mm_175 28 [some (.inr (.inr v0)), some (.inr (.inl v1)), u2, some (.inr (.inl v3)), u4, some (.inl v5), some (.inl v6), some (.inl v7), u8, u9] [] h =
  bif aok h.1 v0 11 then
    bif aok h.1 (h.2 v0.toNat 5) 9 then
      bif aok h.1 (h.2 (h.2 v0.toNat 5).toNat 3) 7 then
        bif decide ((h.2 (h.2 (h.2 v0.toNat 5).toNat 3).toNat 0) ≤ v7) then
          some (some (.inl 0), h)
        else
          bif aok h.1 v0 11 then
            bif aok h.1 (h.2 v0.toNat 5) 9 then
              bif aok h.1 (h.2 (h.2 v0.toNat 5).toNat 3) 7 && true then
                bJ (cl xs d 86 [.inr (.inr (h.2 (h.2 v0.toNat 5).toNat 3)), .inl v7, .inr (.inl v1)] h) (fun x2 h1 =>
                bif decide ((olcmp x2 v1) = 0) then
                  ev xs d mm_175 92 [some (.inr (.inr v0)), some (.inr (.inl v1)), u2, some (.inr (.inl v3)), u4, some (.inl v5), some (.inl v6), some (.inl v7), some (.inr (.inl x2)), none] [] h1
                else
                  bif aok h1.1 v0 11 then
                    bif ain h1.1 (h1.2 v0.toNat 18) 100 v5 then
                      bif aok h1.1 v0 11 && true then
                        bI (cl xs d 175 [.inr (.inr v0), .inr (.inl x2), .inr (.inl v3), .inl (w32 (v5 + 1)), .inl v6] (h1.1, aup h1.2 (h1.2 v0.toNat 18).toNat v5.toNat v7)) (fun x4 h3 =>
                        bif decide (x4 = 0) then
                          ev xs d mm_175 92 [some (.inr (.inr v0)), some (.inr (.inl v1)), u2, some (.inr (.inl v3)), u4, some (.inl v5), some (.inl v6), some (.inl v7), some (.inr (.inl x2)), none] [] h3
                        else
                          some (some (.inl 1), h3))
                      else none
                    else none
                  else none)
              else none
            else none
          else none
      else none
    else none
  else none :=
  (aB gP gX xs stp_175 34 d mm_175 28 _ _ h).trans rfl

set_option maxRecDepth 100000 in
set_option maxHeartbeats 4000000 in
theorem q_175_92 (xs : List Int) (d : Nat) (v0 : Int) (v1 : Int) (u2 : Option aV) (v3 : Int) (u4 : Option aV) (v5 : Int) (v6 : Int) (v7 : Int) (v8 : Int) (u9 : Option aV) (h : aH) : ev xs d mm_175 92 [some (.inr (.inr v0)), some (.inr (.inl v1)), u2, some (.inr (.inl v3)), u4, some (.inl v5), some (.inl v6), some (.inl v7), some (.inr (.inl v8)), u9] [] h =
  ev xs d mm_175 28 [some (.inr (.inr v0)), some (.inr (.inl v1)), u2, some (.inr (.inl v3)), u4, some (.inl v5), some (.inl v6), some (.inl (w32 (v7 + 1))), some (.inr (.inl v8)), u9] [] h :=
  (aB gP gX xs stp_175 3 d mm_175 92 _ _ h).trans rfl

def stp_176 : List Nat := [0, 16, 42, 67, 97, 127]
set_option maxRecDepth 100000 in
set_option maxHeartbeats 4000000 in
theorem q_176_0 (xs : List Int) (d : Nat) (v0 : Int) (v1 : Int) (v2 : Int) (h : aH) : ev xs d mm_176 0 [some (.inr (.inr v0)), some (.inl v1), some (.inl v2), none, none, none, none, none, none, none, none] [] h =
  bif aok h.1 v0 11 && true then
    bI (cl xs d 135 [.inr (.inr v0), .inl v1] h) (fun x2 h1 =>
    bif decide (x2 = 0) then
      ev xs d mm_176 16 [some (.inr (.inr v0)), some (.inl v1), some (.inl v2), none, none, none, none, none, none, none, none] [] h1
    else
      bif aok h1.1 v0 11 && true then
        bI (cl xs d 135 [.inr (.inr v0), .inl v2] h1) (fun x4 h3 =>
        bif decide (¬ x4 = 0) then
          bif aok h3.1 v0 11 then
            bif aok h3.1 (h3.2 v0.toNat 7) 6 then
              bif ain h3.1 (h3.2 (h3.2 v0.toNat 7).toNat 2) 101 v1 then
                bif aok h3.1 v0 11 then
                  bif aok h3.1 (h3.2 v0.toNat 7) 6 then
                    bif ain h3.1 (h3.2 (h3.2 v0.toNat 7).toNat 2) 101 v2 then
                      ev xs d mm_176 42 [some (.inr (.inr v0)), some (.inl v1), some (.inl v2), some (.inr (.inl (h3.2 (h3.2 (h3.2 v0.toNat 7).toNat 2).toNat v1.toNat))), none, some (.inr (.inl (h3.2 (h3.2 (h3.2 v0.toNat 7).toNat 2).toNat v2.toNat))), none, some (.inl 0), none, none, none] [] h3
                    else none
                  else none
                else none
              else none
            else none
          else none
        else
          ev xs d mm_176 16 [some (.inr (.inr v0)), some (.inl v1), some (.inl v2), none, none, none, none, none, none, none, none] [] h3)
      else none)
  else none :=
  (aB gP gX xs stp_176 23 d mm_176 0 _ _ h).trans rfl

set_option maxRecDepth 100000 in
set_option maxHeartbeats 4000000 in
theorem q_176_16 (xs : List Int) (d : Nat) (v0 : Int) (v1 : Int) (v2 : Int) (u3 : Option aV) (u4 : Option aV) (u5 : Option aV) (u6 : Option aV) (u7 : Option aV) (u8 : Option aV) (u9 : Option aV) (u10 : Option aV) (h : aH) : ev xs d mm_176 16 [some (.inr (.inr v0)), some (.inl v1), some (.inl v2), u3, u4, u5, u6, u7, u8, u9, u10] [] h =
  some (some (.inl (-1)), h) :=
  (aB gP gX xs stp_176 3 d mm_176 16 _ _ h).trans rfl

set_option maxRecDepth 100000 in
set_option maxHeartbeats 4000000 in
theorem q_176_42 (xs : List Int) (d : Nat) (v0 : Int) (v1 : Int) (v2 : Int) (v3 : Int) (u4 : Option aV) (v5 : Int) (u6 : Option aV) (v7 : Int) (u8 : Option aV) (u9 : Option aV) (u10 : Option aV) (h : aH) : ev xs d mm_176 42 [some (.inr (.inr v0)), some (.inl v1), some (.inl v2), some (.inr (.inl v3)), u4, some (.inr (.inl v5)), u6, some (.inl v7), u8, u9, u10] [] h =
  bif decide (8 < v7) then
    ev xs d mm_176 67 [some (.inr (.inr v0)), some (.inl v1), some (.inl v2), some (.inr (.inl v3)), u4, some (.inr (.inl v5)), acl u6, some (.inl 0), u8, u9, u10] [] h
  else
    bif aok h.1 v0 11 then
      bif ain h.1 (h.2 v0.toNat 19) 100 v7 then
        ev xs d mm_176 42 [some (.inr (.inr v0)), some (.inl v1), some (.inl v2), some (.inr (.inl v3)), u4, some (.inr (.inl v5)), acl u6, some (.inl (w32 (v7 + 1))), u8, u9, u10] [] (h.1, aup h.2 (h.2 v0.toNat 19).toNat v7.toNat v7)
      else none
    else none :=
  (aB gP gX xs stp_176 11 d mm_176 42 _ _ h).trans rfl

set_option maxRecDepth 100000 in
set_option maxHeartbeats 4000000 in
theorem q_176_67 (xs : List Int) (d : Nat) (v0 : Int) (v1 : Int) (v2 : Int) (v3 : Int) (u4 : Option aV) (v5 : Int) (u6 : Option aV) (v7 : Int) (u8 : Option aV) (u9 : Option aV) (u10 : Option aV) (h : aH) : ev xs d mm_176 67 [some (.inr (.inr v0)), some (.inl v1), some (.inl v2), some (.inr (.inl v3)), u4, some (.inr (.inl v5)), u6, some (.inl v7), u8, u9, u10] [] h =
  bI (cl xs d 121 [.inr (.inl v3)] h) (fun x2 h1 =>
    bif decide (x2 ≤ v7) then
      bif aok h1.1 v0 11 then
        bI (cl xs d 121 [.inr (.inl v5)] h1) (fun x4 h3 =>
          bI (cl xs d 318 [.inl 8, .inl x4] h3) (fun x6 h5 =>
            bif ain h5.1 (h1.2 v0.toNat 19) 100 x6 then
              some (some (.inl (h5.2 (h1.2 v0.toNat 19).toNat x6.toNat)), h5)
            else none))
      else none
    else
      bif aok h1.1 v0 11 then
        bif ain h1.1 (h1.2 v0.toNat 19) 100 0 then
          bif aok h1.1 v0 11 then
            bif ain h1.1 (h1.2 v0.toNat 19) 100 0 then
              ev xs d mm_176 97 [some (.inr (.inr v0)), some (.inl v1), some (.inl v2), some (.inr (.inl v3)), u4, some (.inr (.inl v5)), u6, some (.inl v7), some (.inl (h1.2 (h1.2 v0.toNat 19).toNat (0 : Int).toNat)), some (.inl 0), u10] [] (h1.1, aup h1.2 (h1.2 v0.toNat 19).toNat (0 : Int).toNat (w32 (v7 + 1)))
            else none
          else none
        else none
      else none) :=
  (aB gP gX xs stp_176 19 d mm_176 67 _ _ h).trans rfl

set_option maxRecDepth 100000 in
set_option maxHeartbeats 4000000 in
theorem q_176_97 (xs : List Int) (d : Nat) (v0 : Int) (v1 : Int) (v2 : Int) (v3 : Int) (u4 : Option aV) (v5 : Int) (u6 : Option aV) (v7 : Int) (v8 : Int) (v9 : Int) (u10 : Option aV) (h : aH) : ev xs d mm_176 97 [some (.inr (.inr v0)), some (.inl v1), some (.inl v2), some (.inr (.inl v3)), u4, some (.inr (.inl v5)), u6, some (.inl v7), some (.inl v8), some (.inl v9), u10] [] h =
  bif decide (8 ≤ v9) then
    ev xs d mm_176 67 [some (.inr (.inr v0)), some (.inl v1), some (.inl v2), some (.inr (.inl v3)), u4, some (.inr (.inl v5)), acl u6, some (.inl (w32 (v7 + 1))), some (.inl v8), some (.inl v9), u10] [] h
  else
    bI (cl xs d 122 [.inr (.inl v3), .inl v7] h) (fun x2 h1 =>
      bI (cl xs d 122 [.inr (.inl v5), .inl v9] h1) (fun x4 h3 =>
        bif decide (¬ x2 = x4) then
          ev xs d mm_176 127 [some (.inr (.inr v0)), some (.inl v1), some (.inl v2), some (.inr (.inl v3)), u4, some (.inr (.inl v5)), u6, some (.inl v7), some (.inl v8), some (.inl v9), u10] [.inl 1, .inl v8] h3
        else
          ev xs d mm_176 127 [some (.inr (.inr v0)), some (.inl v1), some (.inl v2), some (.inr (.inl v3)), u4, some (.inr (.inl v5)), u6, some (.inl v7), some (.inl v8), some (.inl v9), u10] [.inl 0, .inl v8] h3)) :=
  (aB gP gX xs stp_176 14 d mm_176 97 _ _ h).trans rfl

set_option maxRecDepth 100000 in
set_option maxHeartbeats 4000000 in
theorem q_176_127 (xs : List Int) (d : Nat) (v0 : Int) (v1 : Int) (v2 : Int) (v3 : Int) (u4 : Option aV) (v5 : Int) (u6 : Option aV) (v7 : Int) (v8 : Int) (v9 : Int) (u10 : Option aV) (s0 : Int) (s1 : Int) (h : aH) : ev xs d mm_176 127 [some (.inr (.inr v0)), some (.inl v1), some (.inl v2), some (.inr (.inl v3)), u4, some (.inr (.inl v5)), u6, some (.inl v7), some (.inl v8), some (.inl v9), u10] [.inl s1, .inl s0] h =
  bif aok h.1 v0 11 then
    bif ain h.1 (h.2 v0.toNat 19) 100 (w32 (v9 + 1)) then
      bif aok h.1 v0 11 then
        bif aok h.1 v0 11 then
          bif ain h.1 (h.2 v0.toNat 19) 100 v9 then
            bI (cl xs d 318 [.inl (h.2 (h.2 v0.toNat 19).toNat v9.toNat), .inl (h.2 (h.2 v0.toNat 19).toNat (w32 (v9 + 1)).toNat)] h) (fun x2 h1 =>
              bI (cl xs d 318 [.inl (w32 (s0 + s1)), .inl (w32 (x2 + 1))] h1) (fun x4 h3 =>
                bif ain h3.1 (h.2 v0.toNat 19) 100 (w32 (v9 + 1)) then
                  ev xs d mm_176 97 [some (.inr (.inr v0)), some (.inl v1), some (.inl v2), some (.inr (.inl v3)), u4, some (.inr (.inl v5)), u6, some (.inl v7), some (.inl (h.2 (h.2 v0.toNat 19).toNat (w32 (v9 + 1)).toNat)), some (.inl (w32 (v9 + 1))), some (.inl (w32 (s0 + s1)))] [] (h3.1, aup h3.2 (h.2 v0.toNat 19).toNat (w32 (v9 + 1)).toNat x4)
                else none))
          else none
        else none
      else none
    else none
  else none :=
  (aB gP gX xs stp_176 28 d mm_176 127 _ _ h).trans rfl

def stp_177 : List Nat := [0, 16, 64]
set_option maxRecDepth 100000 in
set_option maxHeartbeats 4000000 in
theorem q_177_0 (xs : List Int) (d : Nat) (v0 : Int) (v1 : Int) (v2 : Int) (h : aH) : ev xs d mm_177 0 [some (.inr (.inr v0)), some (.inl v1), some (.inl v2), none, none, none, none, none, none, none, none] [] h =
  bif aok h.1 v0 11 && true then
    bI (cl xs d 135 [.inr (.inr v0), .inl v1] h) (fun x2 h1 =>
    bif decide (x2 = 0) then
      ev xs d mm_177 16 [some (.inr (.inr v0)), some (.inl v1), some (.inl v2), none, none, none, none, none, none, none, none] [] h1
    else
      bif aok h1.1 v0 11 && true then
        bI (cl xs d 135 [.inr (.inr v0), .inl v2] h1) (fun x4 h3 =>
        bif decide (¬ x4 = 0) then
          bif aok h3.1 v0 11 then
            bif aok h3.1 (h3.2 v0.toNat 7) 6 then
              bif ain h3.1 (h3.2 (h3.2 v0.toNat 7).toNat 2) 101 v1 then
                bif aok h3.1 v0 11 then
                  bif aok h3.1 (h3.2 v0.toNat 7) 6 then
                    bif ain h3.1 (h3.2 (h3.2 v0.toNat 7).toNat 2) 101 v2 then
                      bI (cl xs d 121 [.inr (.inl (h3.2 (h3.2 (h3.2 v0.toNat 7).toNat 2).toNat v1.toNat))] h3) (fun x6 h5 =>
                        bI (cl xs d 121 [.inr (.inl (h3.2 (h3.2 (h3.2 v0.toNat 7).toNat 2).toNat v2.toNat))] h5) (fun x8 h7 =>
                          bI (cl xs d 318 [.inl x6, .inl x8] h7) (fun x10 h9 =>
                            ev xs d mm_177 64 [some (.inr (.inr v0)), some (.inl v1), some (.inl v2), some (.inr (.inl (h3.2 (h3.2 (h3.2 v0.toNat 7).toNat 2).toNat v1.toNat))), none, some (.inr (.inl (h3.2 (h3.2 (h3.2 v0.toNat 7).toNat 2).toNat v2.toNat))), none, some (.inl x6), some (.inl x8), some (.inl x10), some (.inl 0)] [] h9)))
                    else none
                  else none
                else none
              else none
            else none
          else none
        else
          ev xs d mm_177 16 [some (.inr (.inr v0)), some (.inl v1), some (.inl v2), none, none, none, none, none, none, none, none] [] h3)
      else none)
  else none :=
  (aB gP gX xs stp_177 33 d mm_177 0 _ _ h).trans rfl

set_option maxRecDepth 100000 in
set_option maxHeartbeats 4000000 in
theorem q_177_16 (xs : List Int) (d : Nat) (v0 : Int) (v1 : Int) (v2 : Int) (u3 : Option aV) (u4 : Option aV) (u5 : Option aV) (u6 : Option aV) (u7 : Option aV) (u8 : Option aV) (u9 : Option aV) (u10 : Option aV) (h : aH) : ev xs d mm_177 16 [some (.inr (.inr v0)), some (.inl v1), some (.inl v2), u3, u4, u5, u6, u7, u8, u9, u10] [] h =
  some (some (.inl (-1)), h) :=
  (aB gP gX xs stp_177 3 d mm_177 16 _ _ h).trans rfl

set_option maxRecDepth 100000 in
set_option maxHeartbeats 4000000 in
theorem q_177_64 (xs : List Int) (d : Nat) (v0 : Int) (v1 : Int) (v2 : Int) (v3 : Int) (u4 : Option aV) (v5 : Int) (u6 : Option aV) (v7 : Int) (v8 : Int) (v9 : Int) (v10 : Int) (h : aH) : ev xs d mm_177 64 [some (.inr (.inr v0)), some (.inl v1), some (.inl v2), some (.inr (.inl v3)), u4, some (.inr (.inl v5)), u6, some (.inl v7), some (.inl v8), some (.inl v9), some (.inl v10)] [] h =
  bif decide (v9 ≤ v10) then
    some (some (.inl v9), h)
  else
    bI (cl xs d 122 [.inr (.inl v3), .inl (w32 ((w32 (v7 - 1)) - v10))] h) (fun x2 h1 =>
      bI (cl xs d 122 [.inr (.inl v5), .inl (w32 ((w32 (v8 - 1)) - v10))] h1) (fun x4 h3 =>
        bif decide (x2 = x4) then
          ev xs d mm_177 64 [some (.inr (.inr v0)), some (.inl v1), some (.inl v2), some (.inr (.inl v3)), u4, some (.inr (.inl v5)), u6, some (.inl v7), some (.inl v8), some (.inl v9), some (.inl (w32 (v10 + 1)))] [] h3
        else
          some (some (.inl v10), h3))) :=
  (aB gP gX xs stp_177 21 d mm_177 64 _ _ h).trans rfl

def stp_178 : List Nat := [0, 15, 16]
set_option maxRecDepth 100000 in
set_option maxHeartbeats 4000000 in
theorem q_178_0 (xs : List Int) (d : Nat) (v0 : Int) (h : aH) : ev xs d mm_178 0 [some (.inl v0)] [] h =
  bif decide (v0 < 0) then
    ev xs d mm_178 15 [some (.inl v0)] [] h
  else
    bif decide (300 < v0) then
      ev xs d mm_178 15 [some (.inl v0)] [] h
    else
      ev xs d mm_178 16 [some (.inl v0)] [.inl 1] h :=
  (aB gP gX xs stp_178 8 d mm_178 0 _ _ h).trans rfl

set_option maxRecDepth 100000 in
set_option maxHeartbeats 4000000 in
theorem q_178_15 (xs : List Int) (d : Nat) (v0 : Int) (h : aH) : ev xs d mm_178 15 [some (.inl v0)] [] h =
  ev xs d mm_178 16 [some (.inl v0)] [.inl 0] h :=
  (aB gP gX xs stp_178 2 d mm_178 15 _ _ h).trans rfl

set_option maxRecDepth 100000 in
set_option maxHeartbeats 4000000 in
theorem q_178_16 (xs : List Int) (d : Nat) (v0 : Int) (s0 : Int) (h : aH) : ev xs d mm_178 16 [some (.inl v0)] [.inl s0] h =
  bif decide (s0 = 0) || decide (s0 = 1) then some (some (.inl s0), h) else none :=
  (aB gP gX xs stp_178 2 d mm_178 16 _ _ h).trans rfl

def stp_179 : List Nat := [0]
set_option maxRecDepth 100000 in
set_option maxHeartbeats 4000000 in
theorem q_179_0 (xs : List Int) (d : Nat) (v0 : Int) (v1 : Int) (h : aH) : ev xs d mm_179 0 [some (.inr (.inr v0)), some (.inl v1)] [] h =
  bif aok h.1 v0 11 then
    bif aok h.1 v0 11 then
      bif aok h.1 (h.2 v0.toNat 8) 6 && true then
        bV (cl xs d 74 [.inr (.inr (h.2 v0.toNat 8)), .inr (.inr (h.2 v0.toNat 7))] h) (fun h1 =>
        bif aok h1.1 v0 11 then
          bif aok h1.1 v0 11 then
            bif aok h1.1 (h1.2 v0.toNat 8) 6 && true then
              bV (cl xs d 79 [.inr (.inr (h1.2 v0.toNat 8)), .inr (.inr (h1.2 v0.toNat 5)), .inl v1] h1) (fun h2 =>
              bif aok h2.1 v0 11 then
                some (some (.inr (.inr (h2.2 v0.toNat 8))), h2)
              else none)
            else none
          else none
        else none)
      else none
    else none
  else none :=
  (aB gP gX xs stp_179 15 d mm_179 0 _ _ h).trans rfl

def stp_180 : List Nat := [0, 28, 29]
set_option maxRecDepth 100000 in
set_option maxHeartbeats 4000000 in
theorem q_180_0 (xs : List Int) (d : Nat) (v0 : Int) (v1 : Int) (v2 : Int) (v3 : Int) (h : aH) : ev xs d mm_180 0 [some (.inr (.inr v0)), some (.inl v1), some (.inl v2), some (.inl v3)] [] h =
  bif aok h.1 v0 11 && true then
    bI (cl xs d 135 [.inr (.inr v0), .inl v1] h) (fun x2 h1 =>
    bif decide (x2 = 0) then
      ev xs d mm_180 28 [some (.inr (.inr v0)), some (.inl v1), some (.inl v2), some (.inl v3)] [] h1
    else
      bI (cl xs d 178 [.inl v2] h1) (fun x4 h3 =>
        bif decide (x4 = 0) then
          ev xs d mm_180 28 [some (.inr (.inr v0)), some (.inl v1), some (.inl v2), some (.inl v3)] [] h3
        else
          bif aok h3.1 v0 11 && true then
            bR (cl xs d 179 [.inr (.inr v0), .inl v2] h3) (fun x6 h5 =>
            bif aok h5.1 x6 6 && true then
              bI (cl xs d 76 [.inr (.inr x6), .inl v1, .inl v3] h5) (fun x8 h7 =>
              ev xs d mm_180 29 [some (.inr (.inr v0)), some (.inl v1), some (.inl v2), some (.inl v3)] [.inl x8] h7)
            else none)
          else none))
  else none :=
  (aB gP gX xs stp_180 15 d mm_180 0 _ _ h).trans rfl

set_option maxRecDepth 100000 in
set_option maxHeartbeats 4000000 in
theorem q_180_28 (xs : List Int) (d : Nat) (v0 : Int) (v1 : Int) (v2 : Int) (v3 : Int) (h : aH) : ev xs d mm_180 28 [some (.inr (.inr v0)), some (.inl v1), some (.inl v2), some (.inl v3)] [] h =
  ev xs d mm_180 29 [some (.inr (.inr v0)), some (.inl v1), some (.inl v2), some (.inl v3)] [.inl (-1)] h :=
  (aB gP gX xs stp_180 2 d mm_180 28 _ _ h).trans rfl

set_option maxRecDepth 100000 in
set_option maxHeartbeats 4000000 in
theorem q_180_29 (xs : List Int) (d : Nat) (v0 : Int) (v1 : Int) (v2 : Int) (v3 : Int) (s0 : Int) (h : aH) : ev xs d mm_180 29 [some (.inr (.inr v0)), some (.inl v1), some (.inl v2), some (.inl v3)] [.inl s0] h =
  some (some (.inl s0), h) :=
  (aB gP gX xs stp_180 2 d mm_180 29 _ _ h).trans rfl

def stp_181 : List Nat := [0, 38]
set_option maxRecDepth 100000 in
set_option maxHeartbeats 4000000 in
theorem q_181_0 (xs : List Int) (d : Nat) (v0 : Int) (v1 : Int) (h : aH) : ev xs d mm_181 0 [some (.inr (.inr v0)), some (.inl v1), none] [] h =
  bif aok h.1 v0 11 && true then
    bI (cl xs d 135 [.inr (.inr v0), .inl v1] h) (fun x2 h1 =>
    bif decide (¬ x2 = 0) then
      bif aok h1.1 v0 11 then
        bif aok h1.1 (h1.2 v0.toNat 7) 6 then
          bif ain h1.1 (h1.2 (h1.2 v0.toNat 7).toNat 3) 100 v1 then
            bif decide ((h1.2 (h1.2 (h1.2 v0.toNat 7).toNat 3).toNat v1.toNat) = 0) then
              bif aok h1.1 v0 11 then
                bif aok h1.1 v0 11 then
                  bif aok h1.1 (h1.2 v0.toNat 8) 6 && true then
                    bV (cl xs d 74 [.inr (.inr (h1.2 v0.toNat 8)), .inr (.inr (h1.2 v0.toNat 7))] h1) (fun h3 =>
                    ev xs d mm_181 38 [some (.inr (.inr v0)), some (.inl v1), some (.inl 1)] [] h3)
                  else none
                else none
              else none
            else
              some (some (.inl (-2)), h1)
          else none
        else none
      else none
    else
      some (some (.inl (-1)), h1))
  else none :=
  (aB gP gX xs stp_181 18 d mm_181 0 _ _ h).trans rfl

set_option maxRecDepth 100000 in
set_option maxHeartbeats 4000000 in
theorem q_181_38 (xs : List Int) (d : Nat) (v0 : Int) (v1 : Int) (v2 : Int) (h : aH) : ev xs d mm_181 38 [some (.inr (.inr v0)), some (.inl v1), some (.inl v2)] [] h =
  bif decide (300 < v2) then
    some (some (.inl (-2)), h)
  else
    bif aok h.1 v0 11 then
      bif aok h.1 v0 11 then
        bif aok h.1 (h.2 v0.toNat 8) 6 && true then
          bV (cl xs d 80 [.inr (.inr (h.2 v0.toNat 8)), .inr (.inr (h.2 v0.toNat 5))] h) (fun h1 =>
          bif aok h1.1 v0 11 then
            bif aok h1.1 (h1.2 v0.toNat 8) 6 then
              bif ain h1.1 (h1.2 (h1.2 v0.toNat 8).toNat 3) 100 v1 then
                bif decide (¬ (h1.2 (h1.2 (h1.2 v0.toNat 8).toNat 3).toNat v1.toNat) = 2) then
                  ev xs d mm_181 38 [some (.inr (.inr v0)), some (.inl v1), some (.inl (w32 (v2 + 1)))] [] h1
                else
                  some (some (.inl v2), h1)
              else none
            else none
          else none)
        else none
      else none
    else none :=
  (aB gP gX xs stp_181 18 d mm_181 38 _ _ h).trans rfl

def stp_182 : List Nat := [0, 26]
set_option maxRecDepth 100000 in
set_option maxHeartbeats 4000000 in
theorem q_182_0 (xs : List Int) (d : Nat) (v0 : Int) (v1 : Int) (h : aH) : ev xs d mm_182 0 [some (.inr (.inr v0)), some (.inl v1)] [] h =
  bI (cl xs d 178 [.inl v1] h) (fun x2 h1 =>
    bif decide (x2 = 0) then
      ev xs d mm_182 26 [some (.inr (.inr v0)), some (.inl v1)] [.inl (-1)] h1
    else
      bif aok h1.1 v0 11 && true then
        bR (cl xs d 179 [.inr (.inr v0), .inl v1] h1) (fun x4 h3 =>
        bif aok h3.1 v0 11 then
          bif aok h3.1 (h3.2 v0.toNat 5) 9 then
            bif aok h3.1 x4 6 && true then
              bI (cl xs d 78 [.inr (.inr x4), .inl (h3.2 (h3.2 v0.toNat 5).toNat 5)] h3) (fun x6 h5 =>
              ev xs d mm_182 26 [some (.inr (.inr v0)), some (.inl v1)] [.inl x6] h5)
            else none
          else none
        else none)
      else none) :=
  (aB gP gX xs stp_182 12 d mm_182 0 _ _ h).trans rfl

set_option maxRecDepth 100000 in
set_option maxHeartbeats 4000000 in
theorem q_182_26 (xs : List Int) (d : Nat) (v0 : Int) (v1 : Int) (s0 : Int) (h : aH) : ev xs d mm_182 26 [some (.inr (.inr v0)), some (.inl v1)] [.inl s0] h =
  some (some (.inl s0), h) :=
  (aB gP gX xs stp_182 2 d mm_182 26 _ _ h).trans rfl

def stp_183 : List Nat := [0, 9]
set_option maxRecDepth 100000 in
set_option maxHeartbeats 4000000 in
theorem q_183_0 (xs : List Int) (d : Nat) (v0 : Int) (v1 : Int) (h : aH) : ev xs d mm_183 0 [some (.inr (.inr v0)), some (.inl v1)] [] h =
  bif decide (v1 < 0) then
    ev xs d mm_183 9 [some (.inr (.inr v0)), some (.inl v1)] [] h
  else
    bif decide (v1 < 3) then
      bif aok h.1 v0 11 then
        bif ain h.1 (h.2 v0.toNat 12) 104 v1 then
          bif aok h.1 v0 11 then
            bif aok h.1 (h.2 (h.2 v0.toNat 12).toNat v1.toNat) 6 && true then
              bV (cl xs d 74 [.inr (.inr (h.2 (h.2 v0.toNat 12).toNat v1.toNat)), .inr (.inr (h.2 v0.toNat 7))] h) (fun h1 =>
              bif aok h1.1 v0 11 then
                bif aok h1.1 v0 11 then
                  some (some (.inl 1), (h1.1, aup h1.2 v0.toNat 13 (oor (h1.2 v0.toNat 13) (oshl 1 v1))))
                else none
              else none)
            else none
          else none
        else none
      else none
    else
      ev xs d mm_183 9 [some (.inr (.inr v0)), some (.inl v1)] [] h :=
  (aB gP gX xs stp_183 23 d mm_183 0 _ _ h).trans rfl

set_option maxRecDepth 100000 in
set_option maxHeartbeats 4000000 in
theorem q_183_9 (xs : List Int) (d : Nat) (v0 : Int) (v1 : Int) (h : aH) : ev xs d mm_183 9 [some (.inr (.inr v0)), some (.inl v1)] [] h =
  some (some (.inl 0), h) :=
  (aB gP gX xs stp_183 3 d mm_183 9 _ _ h).trans rfl

def stp_184 : List Nat := [0, 20]
set_option maxRecDepth 100000 in
set_option maxHeartbeats 4000000 in
theorem q_184_0 (xs : List Int) (d : Nat) (v0 : Int) (v1 : Int) (h : aH) : ev xs d mm_184 0 [some (.inr (.inr v0)), some (.inl v1)] [] h =
  bif decide (v1 < 0) then
    ev xs d mm_184 20 [some (.inr (.inr v0)), some (.inl v1)] [] h
  else
    bif decide (3 ≤ v1) then
      ev xs d mm_184 20 [some (.inr (.inr v0)), some (.inl v1)] [] h
    else
      bif aok h.1 v0 11 then
        bif decide (¬ (oand (oushr (h.2 v0.toNat 13) v1) 1) = 0) then
          bif aok h.1 v0 11 then
            bif aok h.1 v0 11 then
              bif ain h.1 (h.2 v0.toNat 12) 104 v1 then
                bif aok h.1 (h.2 v0.toNat 7) 6 && true then
                  bV (cl xs d 74 [.inr (.inr (h.2 v0.toNat 7)), .inr (.inr (h.2 (h.2 v0.toNat 12).toNat v1.toNat))] h) (fun h1 =>
                  bif aok h1.1 v0 11 && true then
                    bV (cl xs d 132 [.inr (.inr v0)] h1) (fun h2 =>
                    bif aok h2.1 v0 11 && true then
                      bV (cl xs d 133 [.inr (.inr v0)] h2) (fun h3 =>
                      some (some (.inl 1), h3))
                    else none)
                  else none)
                else none
              else none
            else none
          else none
        else
          ev xs d mm_184 20 [some (.inr (.inr v0)), some (.inl v1)] [] h
      else none :=
  (aB gP gX xs stp_184 26 d mm_184 0 _ _ h).trans rfl

set_option maxRecDepth 100000 in
set_option maxHeartbeats 4000000 in
theorem q_184_20 (xs : List Int) (d : Nat) (v0 : Int) (v1 : Int) (h : aH) : ev xs d mm_184 20 [some (.inr (.inr v0)), some (.inl v1)] [] h =
  some (some (.inl 0), h) :=
  (aB gP gX xs stp_184 3 d mm_184 20 _ _ h).trans rfl

def stp_185 : List Nat := [0, 84, 92, 103, 116, 129, 142, 150, 158, 166, 174, 182, 198, 206, 211, 216, 224, 229, 237]
set_option maxRecDepth 100000 in
set_option maxHeartbeats 4000000 in
theorem q_185_0 (xs : List Int) (d : Nat) (v0 : Int) (v1 : Int) (h : aH) : ev xs d mm_185 0 [some (.inr (.inr v0)), some (.inl v1)] [] h =
  ev xs d mm_185 (asw 1 236 0 16 #[83, 91, 102, 115, 128, 141, 149, 157, 165, 173, 181, 197, 205, 210, 215, 223, 228] v1) [some (.inr (.inr v0)), some (.inl v1)] [] h :=
  (aB gP gX xs stp_185 3 d mm_185 0 _ _ h).trans rfl

set_option maxRecDepth 100000 in
set_option maxHeartbeats 4000000 in
theorem q_185_84 (xs : List Int) (d : Nat) (v0 : Int) (v1 : Int) (h : aH) : ev xs d mm_185 84 [some (.inr (.inr v0)), some (.inl v1)] [] h =
  bif aok h.1 v0 11 then
    bif aok h.1 (h.2 v0.toNat 5) 9 then
      some (some (.inl (h.2 (h.2 v0.toNat 5).toNat 5)), h)
    else none
  else none :=
  (aB gP gX xs stp_185 5 d mm_185 84 _ _ h).trans rfl

set_option maxRecDepth 100000 in
set_option maxHeartbeats 4000000 in
theorem q_185_92 (xs : List Int) (d : Nat) (v0 : Int) (v1 : Int) (h : aH) : ev xs d mm_185 92 [some (.inr (.inr v0)), some (.inl v1)] [] h =
  bif aok h.1 v0 11 then
    bif aok h.1 (h.2 v0.toNat 5) 9 then
      bif aok h.1 (h.2 (h.2 v0.toNat 5).toNat 3) 7 then
        some (some (.inl (h.2 (h.2 (h.2 v0.toNat 5).toNat 3).toNat 0)), h)
      else none
    else none
  else none :=
  (aB gP gX xs stp_185 6 d mm_185 92 _ _ h).trans rfl

set_option maxRecDepth 100000 in
set_option maxHeartbeats 4000000 in
theorem q_185_103 (xs : List Int) (d : Nat) (v0 : Int) (v1 : Int) (h : aH) : ev xs d mm_185 103 [some (.inr (.inr v0)), some (.inl v1)] [] h =
  bif aok h.1 v0 11 then
    bif aok h.1 (h.2 v0.toNat 5) 9 then
      bif aok h.1 (h.2 (h.2 v0.toNat 5).toNat 4) 3 then
        bif ain h.1 (h.2 (h.2 (h.2 v0.toNat 5).toNat 4).toNat 0) 100 0 then
          some (some (.inl (h.2 (h.2 (h.2 (h.2 v0.toNat 5).toNat 4).toNat 0).toNat (0 : Int).toNat)), h)
        else none
      else none
    else none
  else none :=
  (aB gP gX xs stp_185 8 d mm_185 103 _ _ h).trans rfl

set_option maxRecDepth 100000 in
set_option maxHeartbeats 4000000 in
theorem q_185_116 (xs : List Int) (d : Nat) (v0 : Int) (v1 : Int) (h : aH) : ev xs d mm_185 116 [some (.inr (.inr v0)), some (.inl v1)] [] h =
  bif aok h.1 v0 11 then
    bif aok h.1 (h.2 v0.toNat 5) 9 then
      bif aok h.1 (h.2 (h.2 v0.toNat 5).toNat 4) 3 then
        bif ain h.1 (h.2 (h.2 (h.2 v0.toNat 5).toNat 4).toNat 0) 100 1 then
          some (some (.inl (h.2 (h.2 (h.2 (h.2 v0.toNat 5).toNat 4).toNat 0).toNat (1 : Int).toNat)), h)
        else none
      else none
    else none
  else none :=
  (aB gP gX xs stp_185 8 d mm_185 116 _ _ h).trans rfl

set_option maxRecDepth 100000 in
set_option maxHeartbeats 4000000 in
theorem q_185_129 (xs : List Int) (d : Nat) (v0 : Int) (v1 : Int) (h : aH) : ev xs d mm_185 129 [some (.inr (.inr v0)), some (.inl v1)] [] h =
  bif aok h.1 v0 11 then
    bif aok h.1 (h.2 v0.toNat 5) 9 then
      bif aok h.1 (h.2 (h.2 v0.toNat 5).toNat 4) 3 then
        bif ain h.1 (h.2 (h.2 (h.2 v0.toNat 5).toNat 4).toNat 0) 100 2 then
          some (some (.inl (h.2 (h.2 (h.2 (h.2 v0.toNat 5).toNat 4).toNat 0).toNat (2 : Int).toNat)), h)
        else none
      else none
    else none
  else none :=
  (aB gP gX xs stp_185 8 d mm_185 129 _ _ h).trans rfl

set_option maxRecDepth 100000 in
set_option maxHeartbeats 4000000 in
theorem q_185_142 (xs : List Int) (d : Nat) (v0 : Int) (v1 : Int) (h : aH) : ev xs d mm_185 142 [some (.inr (.inr v0)), some (.inl v1)] [] h =
  bif aok h.1 v0 11 then
    bif aok h.1 (h.2 v0.toNat 5) 9 then
      some (some (.inl (h.2 (h.2 v0.toNat 5).toNat 7)), h)
    else none
  else none :=
  (aB gP gX xs stp_185 5 d mm_185 142 _ _ h).trans rfl

set_option maxRecDepth 100000 in
set_option maxHeartbeats 4000000 in
theorem q_185_150 (xs : List Int) (d : Nat) (v0 : Int) (v1 : Int) (h : aH) : ev xs d mm_185 150 [some (.inr (.inr v0)), some (.inl v1)] [] h =
  bif aok h.1 v0 11 then
    bif aok h.1 (h.2 v0.toNat 5) 9 then
      some (some (.inl (h.2 (h.2 v0.toNat 5).toNat 11)), h)
    else none
  else none :=
  (aB gP gX xs stp_185 5 d mm_185 150 _ _ h).trans rfl

set_option maxRecDepth 100000 in
set_option maxHeartbeats 4000000 in
theorem q_185_158 (xs : List Int) (d : Nat) (v0 : Int) (v1 : Int) (h : aH) : ev xs d mm_185 158 [some (.inr (.inr v0)), some (.inl v1)] [] h =
  bif aok h.1 v0 11 then
    bif aok h.1 (h.2 v0.toNat 7) 6 then
      some (some (.inl (h.2 (h.2 v0.toNat 7).toNat 7)), h)
    else none
  else none :=
  (aB gP gX xs stp_185 5 d mm_185 158 _ _ h).trans rfl

set_option maxRecDepth 100000 in
set_option maxHeartbeats 4000000 in
theorem q_185_166 (xs : List Int) (d : Nat) (v0 : Int) (v1 : Int) (h : aH) : ev xs d mm_185 166 [some (.inr (.inr v0)), some (.inl v1)] [] h =
  bif aok h.1 v0 11 then
    bif aok h.1 (h.2 v0.toNat 7) 6 then
      some (some (.inl (h.2 (h.2 v0.toNat 7).toNat 5)), h)
    else none
  else none :=
  (aB gP gX xs stp_185 5 d mm_185 166 _ _ h).trans rfl

set_option maxRecDepth 100000 in
set_option maxHeartbeats 4000000 in
theorem q_185_174 (xs : List Int) (d : Nat) (v0 : Int) (v1 : Int) (h : aH) : ev xs d mm_185 174 [some (.inr (.inr v0)), some (.inl v1)] [] h =
  bif aok h.1 v0 11 then
    bif aok h.1 (h.2 v0.toNat 7) 6 then
      some (some (.inl (h.2 (h.2 v0.toNat 7).toNat 6)), h)
    else none
  else none :=
  (aB gP gX xs stp_185 5 d mm_185 174 _ _ h).trans rfl

set_option maxRecDepth 100000 in
set_option maxHeartbeats 4000000 in
theorem q_185_182 (xs : List Int) (d : Nat) (v0 : Int) (v1 : Int) (h : aH) : ev xs d mm_185 182 [some (.inr (.inr v0)), some (.inl v1)] [] h =
  bif aok h.1 v0 11 then
    bif aok h.1 v0 11 then
      bif aok h.1 (h.2 v0.toNat 5) 9 then
        bif aok h.1 (h.2 v0.toNat 7) 6 && true then
          bI (cl xs d 77 [.inr (.inr (h.2 v0.toNat 7)), .inl (h.2 (h.2 v0.toNat 5).toNat 5), .inl 0] h) (fun x2 h1 =>
          some (some (.inl x2), h1))
        else none
      else none
    else none
  else none :=
  (aB gP gX xs stp_185 9 d mm_185 182 _ _ h).trans rfl

set_option maxRecDepth 100000 in
set_option maxHeartbeats 4000000 in
theorem q_185_198 (xs : List Int) (d : Nat) (v0 : Int) (v1 : Int) (h : aH) : ev xs d mm_185 198 [some (.inr (.inr v0)), some (.inl v1)] [] h =
  bif aok h.1 v0 11 then
    bif aok h.1 (h.2 v0.toNat 7) 6 then
      some (some (.inl (h.2 (h.2 v0.toNat 7).toNat 8)), h)
    else none
  else none :=
  (aB gP gX xs stp_185 5 d mm_185 198 _ _ h).trans rfl

set_option maxRecDepth 100000 in
set_option maxHeartbeats 4000000 in
theorem q_185_206 (xs : List Int) (d : Nat) (v0 : Int) (v1 : Int) (h : aH) : ev xs d mm_185 206 [some (.inr (.inr v0)), some (.inl v1)] [] h =
  bif aok h.1 v0 11 then
    some (some (.inl (h.2 v0.toNat 1)), h)
  else none :=
  (aB gP gX xs stp_185 4 d mm_185 206 _ _ h).trans rfl

set_option maxRecDepth 100000 in
set_option maxHeartbeats 4000000 in
theorem q_185_211 (xs : List Int) (d : Nat) (v0 : Int) (v1 : Int) (h : aH) : ev xs d mm_185 211 [some (.inr (.inr v0)), some (.inl v1)] [] h =
  bif aok h.1 v0 11 then
    some (some (.inl (h.2 v0.toNat 11)), h)
  else none :=
  (aB gP gX xs stp_185 4 d mm_185 211 _ _ h).trans rfl

set_option maxRecDepth 100000 in
set_option maxHeartbeats 4000000 in
theorem q_185_216 (xs : List Int) (d : Nat) (v0 : Int) (v1 : Int) (h : aH) : ev xs d mm_185 216 [some (.inr (.inr v0)), some (.inl v1)] [] h =
  bif aok h.1 v0 11 then
    bI (cl xs d 316 [.inl (h.2 v0.toNat 13)] h) (fun x2 h1 =>
      some (some (.inl x2), h1))
  else none :=
  (aB gP gX xs stp_185 5 d mm_185 216 _ _ h).trans rfl

set_option maxRecDepth 100000 in
set_option maxHeartbeats 4000000 in
theorem q_185_224 (xs : List Int) (d : Nat) (v0 : Int) (v1 : Int) (h : aH) : ev xs d mm_185 224 [some (.inr (.inr v0)), some (.inl v1)] [] h =
  bif aok h.1 v0 11 && true then
    bI (cl xs d 186 [.inr (.inr v0)] h) (fun x2 h1 =>
    some (some (.inl x2), h1))
  else none :=
  (aB gP gX xs stp_185 4 d mm_185 224 _ _ h).trans rfl

set_option maxRecDepth 100000 in
set_option maxHeartbeats 4000000 in
theorem q_185_229 (xs : List Int) (d : Nat) (v0 : Int) (v1 : Int) (h : aH) : ev xs d mm_185 229 [some (.inr (.inr v0)), some (.inl v1)] [] h =
  bif aok h.1 v0 11 then
    bif aok h.1 (h.2 v0.toNat 5) 9 then
      some (some (.inl (h.2 (h.2 v0.toNat 5).toNat 0)), h)
    else none
  else none :=
  (aB gP gX xs stp_185 5 d mm_185 229 _ _ h).trans rfl

set_option maxRecDepth 100000 in
set_option maxHeartbeats 4000000 in
theorem q_185_237 (xs : List Int) (d : Nat) (v0 : Int) (v1 : Int) (h : aH) : ev xs d mm_185 237 [some (.inr (.inr v0)), some (.inl v1)] [] h =
  some (some (.inl (-1)), h) :=
  (aB gP gX xs stp_185 3 d mm_185 237 _ _ h).trans rfl

def stp_186 : List Nat := [0, 4]
set_option maxRecDepth 100000 in
set_option maxHeartbeats 4000000 in
theorem q_186_0 (xs : List Int) (d : Nat) (v0 : Int) (h : aH) : ev xs d mm_186 0 [some (.inr (.inr v0)), none, none] [] h =
  ev xs d mm_186 4 [some (.inr (.inr v0)), some (.inl 0), some (.inl 0)] [] h :=
  (aB gP gX xs stp_186 5 d mm_186 0 _ _ h).trans rfl

set_option maxRecDepth 100000 in
set_option maxHeartbeats 4000000 in
theorem q_186_4 (xs : List Int) (d : Nat) (v0 : Int) (v1 : Int) (v2 : Int) (h : aH) : ev xs d mm_186 4 [some (.inr (.inr v0)), some (.inl v1), some (.inl v2)] [] h =
  bif decide (24 ≤ v2) then
    some (some (.inl v1), h)
  else
    bif aok h.1 v0 11 then
      bif aok h.1 (h.2 v0.toNat 7) 6 then
        bif ain h.1 (h.2 (h.2 v0.toNat 7).toNat 4) 100 v2 then
          bif aok h.1 v0 11 then
            bif aok h.1 (h.2 v0.toNat 5) 9 then
              bif aok h.1 (h.2 (h.2 v0.toNat 5).toNat 4) 3 then
                bif ain h.1 (h.2 (h.2 (h.2 v0.toNat 5).toNat 4).toNat 2) 100 v2 then
                  ev xs d mm_186 4 [some (.inr (.inr v0)), some (.inl (w32 (v1 + (w32 ((h.2 (h.2 (h.2 v0.toNat 7).toNat 4).toNat v2.toNat) * (h.2 (h.2 (h.2 (h.2 v0.toNat 5).toNat 4).toNat 2).toNat v2.toNat)))))), some (.inl (w32 (v2 + 1)))] [] h
                else none
              else none
            else none
          else none
        else none
      else none
    else none :=
  (aB gP gX xs stp_186 21 d mm_186 4 _ _ h).trans rfl

def stp_187 : List Nat := [0, 10, 19, 28, 37, 46, 55, 63, 75, 83, 91, 98, 106, 114, 122, 130, 138, 146, 154, 162, 170, 177, 185, 192, 200, 208, 216, 223, 231, 239, 247, 255, 262, 269, 276, 285, 294, 303, 312, 321, 330, 339, 347, 355, 364, 372, 380, 388, 397, 406, 415, 423, 431, 439, 448, 456, 464, 471, 480, 525, 584, 648, 713, 778, 839, 903, 966]
set_option maxRecDepth 100000 in
set_option maxHeartbeats 4000000 in
theorem q_187_0 (xs : List Int) (d : Nat) (v0 : Int) (h : aH) : ev xs d mm_187 0 [some (.inr (.inr v0))] [] h =
  bif decide (0 ≤ v0) && true then
    ev xs d mm_187 10 [some (.inr (.inr v0))] [.inr (.inr (h.1.1 : Int)), .inr (.inr v0)] ((h.1.1 + 1, h.1.2.1 + (2000 : Int).toNat, fun q => if q = h.1.1 then (102, (2000 : Int).toNat) else h.1.2.2 q), fun q j => if q = h.1.1 then 0 else h.2 q j)
  else none :=
  (aB gP gX xs stp_187 6 d mm_187 0 _ _ h).trans rfl

set_option maxRecDepth 100000 in
set_option maxHeartbeats 4000000 in
theorem q_187_10 (xs : List Int) (d : Nat) (v0 : Int) (s0 : Int) (s1 : Int) (h : aH) : ev xs d mm_187 10 [some (.inr (.inr v0))] [.inr (.inr s1), .inr (.inr s0)] h =
  bif aok h.1 s0 12 then
    ev xs d mm_187 19 [some (.inr (.inr v0))] [.inr (.inr (h.1.1 : Int)), .inr (.inr v0)] ((h.1.1 + 1, h.1.2.1 + (2000 : Int).toNat, fun q => if q = h.1.1 then (102, (2000 : Int).toNat) else h.1.2.2 q), fun q j => if q = h.1.1 then 0 else (aup h.2 s0.toNat 1 s1) q j)
  else none :=
  (aB gP gX xs stp_187 5 d mm_187 10 _ _ h).trans rfl

set_option maxRecDepth 100000 in
set_option maxHeartbeats 4000000 in
theorem q_187_19 (xs : List Int) (d : Nat) (v0 : Int) (s0 : Int) (s1 : Int) (h : aH) : ev xs d mm_187 19 [some (.inr (.inr v0))] [.inr (.inr s1), .inr (.inr s0)] h =
  bif aok h.1 s0 12 then
    ev xs d mm_187 28 [some (.inr (.inr v0))] [.inr (.inr (h.1.1 : Int)), .inr (.inr v0)] ((h.1.1 + 1, h.1.2.1 + (403 : Int).toNat, fun q => if q = h.1.1 then (100, (403 : Int).toNat) else h.1.2.2 q), fun q j => if q = h.1.1 then 0 else (aup h.2 s0.toNat 3 s1) q j)
  else none :=
  (aB gP gX xs stp_187 5 d mm_187 19 _ _ h).trans rfl

set_option maxRecDepth 100000 in
set_option maxHeartbeats 4000000 in
theorem q_187_28 (xs : List Int) (d : Nat) (v0 : Int) (s0 : Int) (s1 : Int) (h : aH) : ev xs d mm_187 28 [some (.inr (.inr v0))] [.inr (.inr s1), .inr (.inr s0)] h =
  bif aok h.1 s0 12 then
    ev xs d mm_187 37 [some (.inr (.inr v0))] [.inr (.inr (h.1.1 : Int)), .inr (.inr v0)] ((h.1.1 + 1, h.1.2.1 + (403 : Int).toNat, fun q => if q = h.1.1 then (100, (403 : Int).toNat) else h.1.2.2 q), fun q j => if q = h.1.1 then 0 else (aup h.2 s0.toNat 5 s1) q j)
  else none :=
  (aB gP gX xs stp_187 5 d mm_187 28 _ _ h).trans rfl

set_option maxRecDepth 100000 in
set_option maxHeartbeats 4000000 in
theorem q_187_37 (xs : List Int) (d : Nat) (v0 : Int) (s0 : Int) (s1 : Int) (h : aH) : ev xs d mm_187 37 [some (.inr (.inr v0))] [.inr (.inr s1), .inr (.inr s0)] h =
  bif aok h.1 s0 12 then
    ev xs d mm_187 46 [some (.inr (.inr v0))] [.inr (.inr (h.1.1 : Int)), .inr (.inr v0)] ((h.1.1 + 1, h.1.2.1 + (403 : Int).toNat, fun q => if q = h.1.1 then (100, (403 : Int).toNat) else h.1.2.2 q), fun q j => if q = h.1.1 then 0 else (aup h.2 s0.toNat 6 s1) q j)
  else none :=
  (aB gP gX xs stp_187 5 d mm_187 37 _ _ h).trans rfl

set_option maxRecDepth 100000 in
set_option maxHeartbeats 4000000 in
theorem q_187_46 (xs : List Int) (d : Nat) (v0 : Int) (s0 : Int) (s1 : Int) (h : aH) : ev xs d mm_187 46 [some (.inr (.inr v0))] [.inr (.inr s1), .inr (.inr s0)] h =
  bif aok h.1 s0 12 then
    ev xs d mm_187 55 [some (.inr (.inr v0))] [.inr (.inr (h.1.1 : Int)), .inr (.inr v0)] ((h.1.1 + 1, h.1.2.1 + (403 : Int).toNat, fun q => if q = h.1.1 then (101, (403 : Int).toNat) else h.1.2.2 q), fun q j => if q = h.1.1 then 0 else (aup h.2 s0.toNat 7 s1) q j)
  else none :=
  (aB gP gX xs stp_187 5 d mm_187 46 _ _ h).trans rfl

set_option maxRecDepth 100000 in
set_option maxHeartbeats 4000000 in
theorem q_187_55 (xs : List Int) (d : Nat) (v0 : Int) (s0 : Int) (s1 : Int) (h : aH) : ev xs d mm_187 55 [some (.inr (.inr v0))] [.inr (.inr s1), .inr (.inr s0)] h =
  bif aok h.1 s0 12 then
    ev xs d mm_187 63 [some (.inr (.inr v0))] [.inr (.inr (h.1.1 : Int)), .inr (.inr v0)] ((h.1.1 + 1, h.1.2.1 + (24 : Int).toNat, fun q => if q = h.1.1 then (101, (24 : Int).toNat) else h.1.2.2 q), fun q j => if q = h.1.1 then 0 else (aup h.2 s0.toNat 8 s1) q j)
  else none :=
  (aB gP gX xs stp_187 5 d mm_187 55 _ _ h).trans rfl

set_option maxRecDepth 100000 in
set_option maxHeartbeats 4000000 in
theorem q_187_63 (xs : List Int) (d : Nat) (v0 : Int) (s0 : Int) (s1 : Int) (h : aH) : ev xs d mm_187 63 [some (.inr (.inr v0))] [.inr (.inr s1), .inr (.inr s0)] h =
  bif aok h.1 s0 12 then
    bif aok h.1 v0 12 then
      ev xs d mm_187 75 [some (.inr (.inr v0))] [.inr (.inr (h.1.1 : Int)), .inr (.inr v0)] ((h.1.1 + 1, h.1.2.1 + (2 : Int).toNat, fun q => if q = h.1.1 then (100, (2 : Int).toNat) else h.1.2.2 q), fun q j => if q = h.1.1 then 0 else (aup (aup h.2 s0.toNat 9 s1) v0.toNat 17 (-1)) q j)
    else none
  else none :=
  (aB gP gX xs stp_187 8 d mm_187 63 _ _ h).trans rfl

set_option maxRecDepth 100000 in
set_option maxHeartbeats 4000000 in
theorem q_187_75 (xs : List Int) (d : Nat) (v0 : Int) (s0 : Int) (s1 : Int) (h : aH) : ev xs d mm_187 75 [some (.inr (.inr v0))] [.inr (.inr s1), .inr (.inr s0)] h =
  bif aok h.1 s0 12 then
    ev xs d mm_187 83 [some (.inr (.inr v0))] [.inr (.inr (h.1.1 : Int)), .inr (.inr v0)] ((h.1.1 + 1, h.1.2.1 + (12 : Int).toNat, fun q => if q = h.1.1 then (101, (12 : Int).toNat) else h.1.2.2 q), fun q j => if q = h.1.1 then 0 else (aup h.2 s0.toNat 20 s1) q j)
  else none :=
  (aB gP gX xs stp_187 5 d mm_187 75 _ _ h).trans rfl

set_option maxRecDepth 100000 in
set_option maxHeartbeats 4000000 in
theorem q_187_83 (xs : List Int) (d : Nat) (v0 : Int) (s0 : Int) (s1 : Int) (h : aH) : ev xs d mm_187 83 [some (.inr (.inr v0))] [.inr (.inr s1), .inr (.inr s0)] h =
  bif aok h.1 s0 12 then
    ev xs d mm_187 91 [some (.inr (.inr v0))] [.inr (.inr (h.1.1 : Int)), .inr (.inr v0)] ((h.1.1 + 1, h.1.2.1 + (12 : Int).toNat, fun q => if q = h.1.1 then (100, (12 : Int).toNat) else h.1.2.2 q), fun q j => if q = h.1.1 then 0 else (aup h.2 s0.toNat 21 s1) q j)
  else none :=
  (aB gP gX xs stp_187 5 d mm_187 83 _ _ h).trans rfl

set_option maxRecDepth 100000 in
set_option maxHeartbeats 4000000 in
theorem q_187_91 (xs : List Int) (d : Nat) (v0 : Int) (s0 : Int) (s1 : Int) (h : aH) : ev xs d mm_187 91 [some (.inr (.inr v0))] [.inr (.inr s1), .inr (.inr s0)] h =
  bif aok h.1 s0 12 then
    ev xs d mm_187 98 [some (.inr (.inr v0))] [.inr (.inr (h.1.1 : Int)), .inr (.inr v0)] ((h.1.1 + 1, h.1.2.1 + (2 : Int).toNat, fun q => if q = h.1.1 then (100, (2 : Int).toNat) else h.1.2.2 q), fun q j => if q = h.1.1 then 0 else (aup h.2 s0.toNat 22 s1) q j)
  else none :=
  (aB gP gX xs stp_187 5 d mm_187 91 _ _ h).trans rfl

set_option maxRecDepth 100000 in
set_option maxHeartbeats 4000000 in
theorem q_187_98 (xs : List Int) (d : Nat) (v0 : Int) (s0 : Int) (s1 : Int) (h : aH) : ev xs d mm_187 98 [some (.inr (.inr v0))] [.inr (.inr s1), .inr (.inr s0)] h =
  bif aok h.1 s0 12 then
    ev xs d mm_187 106 [some (.inr (.inr v0))] [.inr (.inr (h.1.1 : Int)), .inr (.inr v0)] ((h.1.1 + 1, h.1.2.1 + (14 : Int).toNat, fun q => if q = h.1.1 then (100, (14 : Int).toNat) else h.1.2.2 q), fun q j => if q = h.1.1 then 0 else (aup h.2 s0.toNat 23 s1) q j)
  else none :=
  (aB gP gX xs stp_187 5 d mm_187 98 _ _ h).trans rfl

set_option maxRecDepth 100000 in
set_option maxHeartbeats 4000000 in
theorem q_187_106 (xs : List Int) (d : Nat) (v0 : Int) (s0 : Int) (s1 : Int) (h : aH) : ev xs d mm_187 106 [some (.inr (.inr v0))] [.inr (.inr s1), .inr (.inr s0)] h =
  bif aok h.1 s0 12 then
    ev xs d mm_187 114 [some (.inr (.inr v0))] [.inr (.inr (h.1.1 : Int)), .inr (.inr v0)] ((h.1.1 + 1, h.1.2.1 + (14 : Int).toNat, fun q => if q = h.1.1 then (100, (14 : Int).toNat) else h.1.2.2 q), fun q j => if q = h.1.1 then 0 else (aup h.2 s0.toNat 24 s1) q j)
  else none :=
  (aB gP gX xs stp_187 5 d mm_187 106 _ _ h).trans rfl

set_option maxRecDepth 100000 in
set_option maxHeartbeats 4000000 in
theorem q_187_114 (xs : List Int) (d : Nat) (v0 : Int) (s0 : Int) (s1 : Int) (h : aH) : ev xs d mm_187 114 [some (.inr (.inr v0))] [.inr (.inr s1), .inr (.inr s0)] h =
  bif aok h.1 s0 12 then
    ev xs d mm_187 122 [some (.inr (.inr v0))] [.inr (.inr (h.1.1 : Int)), .inr (.inr v0)] ((h.1.1 + 1, h.1.2.1 + (14 : Int).toNat, fun q => if q = h.1.1 then (100, (14 : Int).toNat) else h.1.2.2 q), fun q j => if q = h.1.1 then 0 else (aup h.2 s0.toNat 25 s1) q j)
  else none :=
  (aB gP gX xs stp_187 5 d mm_187 114 _ _ h).trans rfl

set_option maxRecDepth 100000 in
set_option maxHeartbeats 4000000 in
theorem q_187_122 (xs : List Int) (d : Nat) (v0 : Int) (s0 : Int) (s1 : Int) (h : aH) : ev xs d mm_187 122 [some (.inr (.inr v0))] [.inr (.inr s1), .inr (.inr s0)] h =
  bif aok h.1 s0 12 then
    ev xs d mm_187 130 [some (.inr (.inr v0))] [.inr (.inr (h.1.1 : Int)), .inr (.inr v0)] ((h.1.1 + 1, h.1.2.1 + (14 : Int).toNat, fun q => if q = h.1.1 then (100, (14 : Int).toNat) else h.1.2.2 q), fun q j => if q = h.1.1 then 0 else (aup h.2 s0.toNat 26 s1) q j)
  else none :=
  (aB gP gX xs stp_187 5 d mm_187 122 _ _ h).trans rfl

set_option maxRecDepth 100000 in
set_option maxHeartbeats 4000000 in
theorem q_187_130 (xs : List Int) (d : Nat) (v0 : Int) (s0 : Int) (s1 : Int) (h : aH) : ev xs d mm_187 130 [some (.inr (.inr v0))] [.inr (.inr s1), .inr (.inr s0)] h =
  bif aok h.1 s0 12 then
    ev xs d mm_187 138 [some (.inr (.inr v0))] [.inr (.inr (h.1.1 : Int)), .inr (.inr v0)] ((h.1.1 + 1, h.1.2.1 + (14 : Int).toNat, fun q => if q = h.1.1 then (100, (14 : Int).toNat) else h.1.2.2 q), fun q j => if q = h.1.1 then 0 else (aup h.2 s0.toNat 27 s1) q j)
  else none :=
  (aB gP gX xs stp_187 5 d mm_187 130 _ _ h).trans rfl

set_option maxRecDepth 100000 in
set_option maxHeartbeats 4000000 in
theorem q_187_138 (xs : List Int) (d : Nat) (v0 : Int) (s0 : Int) (s1 : Int) (h : aH) : ev xs d mm_187 138 [some (.inr (.inr v0))] [.inr (.inr s1), .inr (.inr s0)] h =
  bif aok h.1 s0 12 then
    ev xs d mm_187 146 [some (.inr (.inr v0))] [.inr (.inr (h.1.1 : Int)), .inr (.inr v0)] ((h.1.1 + 1, h.1.2.1 + (14 : Int).toNat, fun q => if q = h.1.1 then (100, (14 : Int).toNat) else h.1.2.2 q), fun q j => if q = h.1.1 then 0 else (aup h.2 s0.toNat 28 s1) q j)
  else none :=
  (aB gP gX xs stp_187 5 d mm_187 138 _ _ h).trans rfl

set_option maxRecDepth 100000 in
set_option maxHeartbeats 4000000 in
theorem q_187_146 (xs : List Int) (d : Nat) (v0 : Int) (s0 : Int) (s1 : Int) (h : aH) : ev xs d mm_187 146 [some (.inr (.inr v0))] [.inr (.inr s1), .inr (.inr s0)] h =
  bif aok h.1 s0 12 then
    ev xs d mm_187 154 [some (.inr (.inr v0))] [.inr (.inr (h.1.1 : Int)), .inr (.inr v0)] ((h.1.1 + 1, h.1.2.1 + (6 : Int).toNat, fun q => if q = h.1.1 then (100, (6 : Int).toNat) else h.1.2.2 q), fun q j => if q = h.1.1 then 0 else (aup h.2 s0.toNat 29 s1) q j)
  else none :=
  (aB gP gX xs stp_187 5 d mm_187 146 _ _ h).trans rfl

set_option maxRecDepth 100000 in
set_option maxHeartbeats 4000000 in
theorem q_187_154 (xs : List Int) (d : Nat) (v0 : Int) (s0 : Int) (s1 : Int) (h : aH) : ev xs d mm_187 154 [some (.inr (.inr v0))] [.inr (.inr s1), .inr (.inr s0)] h =
  bif aok h.1 s0 12 then
    ev xs d mm_187 162 [some (.inr (.inr v0))] [.inr (.inr (h.1.1 : Int)), .inr (.inr v0)] ((h.1.1 + 1, h.1.2.1 + (48 : Int).toNat, fun q => if q = h.1.1 then (101, (48 : Int).toNat) else h.1.2.2 q), fun q j => if q = h.1.1 then 0 else (aup h.2 s0.toNat 30 s1) q j)
  else none :=
  (aB gP gX xs stp_187 5 d mm_187 154 _ _ h).trans rfl

set_option maxRecDepth 100000 in
set_option maxHeartbeats 4000000 in
theorem q_187_162 (xs : List Int) (d : Nat) (v0 : Int) (s0 : Int) (s1 : Int) (h : aH) : ev xs d mm_187 162 [some (.inr (.inr v0))] [.inr (.inr s1), .inr (.inr s0)] h =
  bif aok h.1 s0 12 then
    ev xs d mm_187 170 [some (.inr (.inr v0))] [.inr (.inr (h.1.1 : Int)), .inr (.inr v0)] ((h.1.1 + 1, h.1.2.1 + (48 : Int).toNat, fun q => if q = h.1.1 then (100, (48 : Int).toNat) else h.1.2.2 q), fun q j => if q = h.1.1 then 0 else (aup h.2 s0.toNat 31 s1) q j)
  else none :=
  (aB gP gX xs stp_187 5 d mm_187 162 _ _ h).trans rfl

set_option maxRecDepth 100000 in
set_option maxHeartbeats 4000000 in
theorem q_187_170 (xs : List Int) (d : Nat) (v0 : Int) (s0 : Int) (s1 : Int) (h : aH) : ev xs d mm_187 170 [some (.inr (.inr v0))] [.inr (.inr s1), .inr (.inr s0)] h =
  bif aok h.1 s0 12 then
    ev xs d mm_187 177 [some (.inr (.inr v0))] [.inr (.inr (h.1.1 : Int)), .inr (.inr v0)] ((h.1.1 + 1, h.1.2.1 + (2 : Int).toNat, fun q => if q = h.1.1 then (100, (2 : Int).toNat) else h.1.2.2 q), fun q j => if q = h.1.1 then 0 else (aup h.2 s0.toNat 32 s1) q j)
  else none :=
  (aB gP gX xs stp_187 5 d mm_187 170 _ _ h).trans rfl

set_option maxRecDepth 100000 in
set_option maxHeartbeats 4000000 in
theorem q_187_177 (xs : List Int) (d : Nat) (v0 : Int) (s0 : Int) (s1 : Int) (h : aH) : ev xs d mm_187 177 [some (.inr (.inr v0))] [.inr (.inr s1), .inr (.inr s0)] h =
  bif aok h.1 s0 12 then
    ev xs d mm_187 185 [some (.inr (.inr v0))] [.inr (.inr (h.1.1 : Int)), .inr (.inr v0)] ((h.1.1 + 1, h.1.2.1 + (20 : Int).toNat, fun q => if q = h.1.1 then (101, (20 : Int).toNat) else h.1.2.2 q), fun q j => if q = h.1.1 then 0 else (aup h.2 s0.toNat 33 s1) q j)
  else none :=
  (aB gP gX xs stp_187 5 d mm_187 177 _ _ h).trans rfl

set_option maxRecDepth 100000 in
set_option maxHeartbeats 4000000 in
theorem q_187_185 (xs : List Int) (d : Nat) (v0 : Int) (s0 : Int) (s1 : Int) (h : aH) : ev xs d mm_187 185 [some (.inr (.inr v0))] [.inr (.inr s1), .inr (.inr s0)] h =
  bif aok h.1 s0 12 then
    ev xs d mm_187 192 [some (.inr (.inr v0))] [.inr (.inr (h.1.1 : Int)), .inr (.inr v0)] ((h.1.1 + 1, h.1.2.1 + (2 : Int).toNat, fun q => if q = h.1.1 then (100, (2 : Int).toNat) else h.1.2.2 q), fun q j => if q = h.1.1 then 0 else (aup h.2 s0.toNat 34 s1) q j)
  else none :=
  (aB gP gX xs stp_187 5 d mm_187 185 _ _ h).trans rfl

set_option maxRecDepth 100000 in
set_option maxHeartbeats 4000000 in
theorem q_187_192 (xs : List Int) (d : Nat) (v0 : Int) (s0 : Int) (s1 : Int) (h : aH) : ev xs d mm_187 192 [some (.inr (.inr v0))] [.inr (.inr s1), .inr (.inr s0)] h =
  bif aok h.1 s0 12 then
    ev xs d mm_187 200 [some (.inr (.inr v0))] [.inr (.inr (h.1.1 : Int)), .inr (.inr v0)] ((h.1.1 + 1, h.1.2.1 + (16 : Int).toNat, fun q => if q = h.1.1 then (101, (16 : Int).toNat) else h.1.2.2 q), fun q j => if q = h.1.1 then 0 else (aup h.2 s0.toNat 35 s1) q j)
  else none :=
  (aB gP gX xs stp_187 5 d mm_187 192 _ _ h).trans rfl

set_option maxRecDepth 100000 in
set_option maxHeartbeats 4000000 in
theorem q_187_200 (xs : List Int) (d : Nat) (v0 : Int) (s0 : Int) (s1 : Int) (h : aH) : ev xs d mm_187 200 [some (.inr (.inr v0))] [.inr (.inr s1), .inr (.inr s0)] h =
  bif aok h.1 s0 12 then
    ev xs d mm_187 208 [some (.inr (.inr v0))] [.inr (.inr (h.1.1 : Int)), .inr (.inr v0)] ((h.1.1 + 1, h.1.2.1 + (16 : Int).toNat, fun q => if q = h.1.1 then (101, (16 : Int).toNat) else h.1.2.2 q), fun q j => if q = h.1.1 then 0 else (aup h.2 s0.toNat 36 s1) q j)
  else none :=
  (aB gP gX xs stp_187 5 d mm_187 200 _ _ h).trans rfl

set_option maxRecDepth 100000 in
set_option maxHeartbeats 4000000 in
theorem q_187_208 (xs : List Int) (d : Nat) (v0 : Int) (s0 : Int) (s1 : Int) (h : aH) : ev xs d mm_187 208 [some (.inr (.inr v0))] [.inr (.inr s1), .inr (.inr s0)] h =
  bif aok h.1 s0 12 then
    ev xs d mm_187 216 [some (.inr (.inr v0))] [.inr (.inr (h.1.1 : Int)), .inr (.inr v0)] ((h.1.1 + 1, h.1.2.1 + (16 : Int).toNat, fun q => if q = h.1.1 then (101, (16 : Int).toNat) else h.1.2.2 q), fun q j => if q = h.1.1 then 0 else (aup h.2 s0.toNat 37 s1) q j)
  else none :=
  (aB gP gX xs stp_187 5 d mm_187 208 _ _ h).trans rfl

set_option maxRecDepth 100000 in
set_option maxHeartbeats 4000000 in
theorem q_187_216 (xs : List Int) (d : Nat) (v0 : Int) (s0 : Int) (s1 : Int) (h : aH) : ev xs d mm_187 216 [some (.inr (.inr v0))] [.inr (.inr s1), .inr (.inr s0)] h =
  bif aok h.1 s0 12 then
    ev xs d mm_187 223 [some (.inr (.inr v0))] [.inr (.inr (h.1.1 : Int)), .inr (.inr v0)] ((h.1.1 + 1, h.1.2.1 + (2 : Int).toNat, fun q => if q = h.1.1 then (100, (2 : Int).toNat) else h.1.2.2 q), fun q j => if q = h.1.1 then 0 else (aup h.2 s0.toNat 38 s1) q j)
  else none :=
  (aB gP gX xs stp_187 5 d mm_187 216 _ _ h).trans rfl

set_option maxRecDepth 100000 in
set_option maxHeartbeats 4000000 in
theorem q_187_223 (xs : List Int) (d : Nat) (v0 : Int) (s0 : Int) (s1 : Int) (h : aH) : ev xs d mm_187 223 [some (.inr (.inr v0))] [.inr (.inr s1), .inr (.inr s0)] h =
  bif aok h.1 s0 12 then
    ev xs d mm_187 231 [some (.inr (.inr v0))] [.inr (.inr (h.1.1 : Int)), .inr (.inr v0)] ((h.1.1 + 1, h.1.2.1 + (10 : Int).toNat, fun q => if q = h.1.1 then (100, (10 : Int).toNat) else h.1.2.2 q), fun q j => if q = h.1.1 then 0 else (aup h.2 s0.toNat 39 s1) q j)
  else none :=
  (aB gP gX xs stp_187 5 d mm_187 223 _ _ h).trans rfl

set_option maxRecDepth 100000 in
set_option maxHeartbeats 4000000 in
theorem q_187_231 (xs : List Int) (d : Nat) (v0 : Int) (s0 : Int) (s1 : Int) (h : aH) : ev xs d mm_187 231 [some (.inr (.inr v0))] [.inr (.inr s1), .inr (.inr s0)] h =
  bif aok h.1 s0 12 then
    ev xs d mm_187 239 [some (.inr (.inr v0))] [.inr (.inr (h.1.1 : Int)), .inr (.inr v0)] ((h.1.1 + 1, h.1.2.1 + (10 : Int).toNat, fun q => if q = h.1.1 then (100, (10 : Int).toNat) else h.1.2.2 q), fun q j => if q = h.1.1 then 0 else (aup h.2 s0.toNat 40 s1) q j)
  else none :=
  (aB gP gX xs stp_187 5 d mm_187 231 _ _ h).trans rfl

set_option maxRecDepth 100000 in
set_option maxHeartbeats 4000000 in
theorem q_187_239 (xs : List Int) (d : Nat) (v0 : Int) (s0 : Int) (s1 : Int) (h : aH) : ev xs d mm_187 239 [some (.inr (.inr v0))] [.inr (.inr s1), .inr (.inr s0)] h =
  bif aok h.1 s0 12 then
    ev xs d mm_187 247 [some (.inr (.inr v0))] [.inr (.inr (h.1.1 : Int)), .inr (.inr v0)] ((h.1.1 + 1, h.1.2.1 + (40 : Int).toNat, fun q => if q = h.1.1 then (100, (40 : Int).toNat) else h.1.2.2 q), fun q j => if q = h.1.1 then 0 else (aup h.2 s0.toNat 41 s1) q j)
  else none :=
  (aB gP gX xs stp_187 5 d mm_187 239 _ _ h).trans rfl

set_option maxRecDepth 100000 in
set_option maxHeartbeats 4000000 in
theorem q_187_247 (xs : List Int) (d : Nat) (v0 : Int) (s0 : Int) (s1 : Int) (h : aH) : ev xs d mm_187 247 [some (.inr (.inr v0))] [.inr (.inr s1), .inr (.inr s0)] h =
  bif aok h.1 s0 12 then
    ev xs d mm_187 255 [some (.inr (.inr v0))] [.inr (.inr (h.1.1 : Int)), .inr (.inr v0)] ((h.1.1 + 1, h.1.2.1 + (40 : Int).toNat, fun q => if q = h.1.1 then (100, (40 : Int).toNat) else h.1.2.2 q), fun q j => if q = h.1.1 then 0 else (aup h.2 s0.toNat 42 s1) q j)
  else none :=
  (aB gP gX xs stp_187 5 d mm_187 247 _ _ h).trans rfl

set_option maxRecDepth 100000 in
set_option maxHeartbeats 4000000 in
theorem q_187_255 (xs : List Int) (d : Nat) (v0 : Int) (s0 : Int) (s1 : Int) (h : aH) : ev xs d mm_187 255 [some (.inr (.inr v0))] [.inr (.inr s1), .inr (.inr s0)] h =
  bif aok h.1 s0 12 then
    ev xs d mm_187 262 [some (.inr (.inr v0))] [.inr (.inr (h.1.1 : Int)), .inr (.inr v0)] ((h.1.1 + 1, h.1.2.1 + (2 : Int).toNat, fun q => if q = h.1.1 then (100, (2 : Int).toNat) else h.1.2.2 q), fun q j => if q = h.1.1 then 0 else (aup h.2 s0.toNat 43 s1) q j)
  else none :=
  (aB gP gX xs stp_187 5 d mm_187 255 _ _ h).trans rfl

set_option maxRecDepth 100000 in
set_option maxHeartbeats 4000000 in
theorem q_187_262 (xs : List Int) (d : Nat) (v0 : Int) (s0 : Int) (s1 : Int) (h : aH) : ev xs d mm_187 262 [some (.inr (.inr v0))] [.inr (.inr s1), .inr (.inr s0)] h =
  bif aok h.1 s0 12 then
    ev xs d mm_187 269 [some (.inr (.inr v0))] [.inr (.inr (h.1.1 : Int)), .inr (.inr v0)] ((h.1.1 + 1, h.1.2.1 + (2 : Int).toNat, fun q => if q = h.1.1 then (100, (2 : Int).toNat) else h.1.2.2 q), fun q j => if q = h.1.1 then 0 else (aup h.2 s0.toNat 44 s1) q j)
  else none :=
  (aB gP gX xs stp_187 5 d mm_187 262 _ _ h).trans rfl

set_option maxRecDepth 100000 in
set_option maxHeartbeats 4000000 in
theorem q_187_269 (xs : List Int) (d : Nat) (v0 : Int) (s0 : Int) (s1 : Int) (h : aH) : ev xs d mm_187 269 [some (.inr (.inr v0))] [.inr (.inr s1), .inr (.inr s0)] h =
  bif aok h.1 s0 12 then
    ev xs d mm_187 276 [some (.inr (.inr v0))] [.inr (.inr (h.1.1 : Int)), .inr (.inr v0)] ((h.1.1 + 1, h.1.2.1 + (2 : Int).toNat, fun q => if q = h.1.1 then (100, (2 : Int).toNat) else h.1.2.2 q), fun q j => if q = h.1.1 then 0 else (aup h.2 s0.toNat 45 s1) q j)
  else none :=
  (aB gP gX xs stp_187 5 d mm_187 269 _ _ h).trans rfl

set_option maxRecDepth 100000 in
set_option maxHeartbeats 4000000 in
theorem q_187_276 (xs : List Int) (d : Nat) (v0 : Int) (s0 : Int) (s1 : Int) (h : aH) : ev xs d mm_187 276 [some (.inr (.inr v0))] [.inr (.inr s1), .inr (.inr s0)] h =
  bif aok h.1 s0 12 then
    ev xs d mm_187 285 [some (.inr (.inr v0))] [.inr (.inr (h.1.1 : Int)), .inr (.inr v0)] ((h.1.1 + 1, h.1.2.1 + (260 : Int).toNat, fun q => if q = h.1.1 then (103, (260 : Int).toNat) else h.1.2.2 q), fun q j => if q = h.1.1 then 0 else (aup h.2 s0.toNat 46 s1) q j)
  else none :=
  (aB gP gX xs stp_187 5 d mm_187 276 _ _ h).trans rfl

set_option maxRecDepth 100000 in
set_option maxHeartbeats 4000000 in
theorem q_187_285 (xs : List Int) (d : Nat) (v0 : Int) (s0 : Int) (s1 : Int) (h : aH) : ev xs d mm_187 285 [some (.inr (.inr v0))] [.inr (.inr s1), .inr (.inr s0)] h =
  bif aok h.1 s0 12 then
    ev xs d mm_187 294 [some (.inr (.inr v0))] [.inr (.inr (h.1.1 : Int)), .inr (.inr v0)] ((h.1.1 + 1, h.1.2.1 + (260 : Int).toNat, fun q => if q = h.1.1 then (100, (260 : Int).toNat) else h.1.2.2 q), fun q j => if q = h.1.1 then 0 else (aup h.2 s0.toNat 48 s1) q j)
  else none :=
  (aB gP gX xs stp_187 5 d mm_187 285 _ _ h).trans rfl

set_option maxRecDepth 100000 in
set_option maxHeartbeats 4000000 in
theorem q_187_294 (xs : List Int) (d : Nat) (v0 : Int) (s0 : Int) (s1 : Int) (h : aH) : ev xs d mm_187 294 [some (.inr (.inr v0))] [.inr (.inr s1), .inr (.inr s0)] h =
  bif aok h.1 s0 12 then
    ev xs d mm_187 303 [some (.inr (.inr v0))] [.inr (.inr (h.1.1 : Int)), .inr (.inr v0)] ((h.1.1 + 1, h.1.2.1 + (260 : Int).toNat, fun q => if q = h.1.1 then (100, (260 : Int).toNat) else h.1.2.2 q), fun q j => if q = h.1.1 then 0 else (aup h.2 s0.toNat 49 s1) q j)
  else none :=
  (aB gP gX xs stp_187 5 d mm_187 294 _ _ h).trans rfl

set_option maxRecDepth 100000 in
set_option maxHeartbeats 4000000 in
theorem q_187_303 (xs : List Int) (d : Nat) (v0 : Int) (s0 : Int) (s1 : Int) (h : aH) : ev xs d mm_187 303 [some (.inr (.inr v0))] [.inr (.inr s1), .inr (.inr s0)] h =
  bif aok h.1 s0 12 then
    ev xs d mm_187 312 [some (.inr (.inr v0))] [.inr (.inr (h.1.1 : Int)), .inr (.inr v0)] ((h.1.1 + 1, h.1.2.1 + (260 : Int).toNat, fun q => if q = h.1.1 then (100, (260 : Int).toNat) else h.1.2.2 q), fun q j => if q = h.1.1 then 0 else (aup h.2 s0.toNat 50 s1) q j)
  else none :=
  (aB gP gX xs stp_187 5 d mm_187 303 _ _ h).trans rfl

set_option maxRecDepth 100000 in
set_option maxHeartbeats 4000000 in
theorem q_187_312 (xs : List Int) (d : Nat) (v0 : Int) (s0 : Int) (s1 : Int) (h : aH) : ev xs d mm_187 312 [some (.inr (.inr v0))] [.inr (.inr s1), .inr (.inr s0)] h =
  bif aok h.1 s0 12 then
    ev xs d mm_187 321 [some (.inr (.inr v0))] [.inr (.inr (h.1.1 : Int)), .inr (.inr v0)] ((h.1.1 + 1, h.1.2.1 + (260 : Int).toNat, fun q => if q = h.1.1 then (100, (260 : Int).toNat) else h.1.2.2 q), fun q j => if q = h.1.1 then 0 else (aup h.2 s0.toNat 51 s1) q j)
  else none :=
  (aB gP gX xs stp_187 5 d mm_187 312 _ _ h).trans rfl

set_option maxRecDepth 100000 in
set_option maxHeartbeats 4000000 in
theorem q_187_321 (xs : List Int) (d : Nat) (v0 : Int) (s0 : Int) (s1 : Int) (h : aH) : ev xs d mm_187 321 [some (.inr (.inr v0))] [.inr (.inr s1), .inr (.inr s0)] h =
  bif aok h.1 s0 12 then
    ev xs d mm_187 330 [some (.inr (.inr v0))] [.inr (.inr (h.1.1 : Int)), .inr (.inr v0)] ((h.1.1 + 1, h.1.2.1 + (840 : Int).toNat, fun q => if q = h.1.1 then (100, (840 : Int).toNat) else h.1.2.2 q), fun q j => if q = h.1.1 then 0 else (aup h.2 s0.toNat 52 s1) q j)
  else none :=
  (aB gP gX xs stp_187 5 d mm_187 321 _ _ h).trans rfl

set_option maxRecDepth 100000 in
set_option maxHeartbeats 4000000 in
theorem q_187_330 (xs : List Int) (d : Nat) (v0 : Int) (s0 : Int) (s1 : Int) (h : aH) : ev xs d mm_187 330 [some (.inr (.inr v0))] [.inr (.inr s1), .inr (.inr s0)] h =
  bif aok h.1 s0 12 then
    ev xs d mm_187 339 [some (.inr (.inr v0))] [.inr (.inr (h.1.1 : Int)), .inr (.inr v0)] ((h.1.1 + 1, h.1.2.1 + (840 : Int).toNat, fun q => if q = h.1.1 then (100, (840 : Int).toNat) else h.1.2.2 q), fun q j => if q = h.1.1 then 0 else (aup h.2 s0.toNat 54 s1) q j)
  else none :=
  (aB gP gX xs stp_187 5 d mm_187 330 _ _ h).trans rfl

set_option maxRecDepth 100000 in
set_option maxHeartbeats 4000000 in
theorem q_187_339 (xs : List Int) (d : Nat) (v0 : Int) (s0 : Int) (s1 : Int) (h : aH) : ev xs d mm_187 339 [some (.inr (.inr v0))] [.inr (.inr s1), .inr (.inr s0)] h =
  bif aok h.1 s0 12 then
    ev xs d mm_187 347 [some (.inr (.inr v0))] [.inr (.inr (h.1.1 : Int)), .inr (.inr v0)] ((h.1.1 + 1, h.1.2.1 + (64 : Int).toNat, fun q => if q = h.1.1 then (100, (64 : Int).toNat) else h.1.2.2 q), fun q j => if q = h.1.1 then 0 else (aup h.2 s0.toNat 55 s1) q j)
  else none :=
  (aB gP gX xs stp_187 5 d mm_187 339 _ _ h).trans rfl

set_option maxRecDepth 100000 in
set_option maxHeartbeats 4000000 in
theorem q_187_347 (xs : List Int) (d : Nat) (v0 : Int) (s0 : Int) (s1 : Int) (h : aH) : ev xs d mm_187 347 [some (.inr (.inr v0))] [.inr (.inr s1), .inr (.inr s0)] h =
  bif aok h.1 s0 12 then
    ev xs d mm_187 355 [some (.inr (.inr v0))] [.inr (.inr (h.1.1 : Int)), .inr (.inr v0)] ((h.1.1 + 1, h.1.2.1 + (6 : Int).toNat, fun q => if q = h.1.1 then (100, (6 : Int).toNat) else h.1.2.2 q), fun q j => if q = h.1.1 then 0 else (aup h.2 s0.toNat 58 s1) q j)
  else none :=
  (aB gP gX xs stp_187 5 d mm_187 347 _ _ h).trans rfl

set_option maxRecDepth 100000 in
set_option maxHeartbeats 4000000 in
theorem q_187_355 (xs : List Int) (d : Nat) (v0 : Int) (s0 : Int) (s1 : Int) (h : aH) : ev xs d mm_187 355 [some (.inr (.inr v0))] [.inr (.inr s1), .inr (.inr s0)] h =
  bif aok h.1 s0 12 then
    ev xs d mm_187 364 [some (.inr (.inr v0))] [.inr (.inr (h.1.1 : Int)), .inr (.inr v0)] ((h.1.1 + 1, h.1.2.1 + (400 : Int).toNat, fun q => if q = h.1.1 then (100, (400 : Int).toNat) else h.1.2.2 q), fun q j => if q = h.1.1 then 0 else (aup h.2 s0.toNat 60 s1) q j)
  else none :=
  (aB gP gX xs stp_187 5 d mm_187 355 _ _ h).trans rfl

set_option maxRecDepth 100000 in
set_option maxHeartbeats 4000000 in
theorem q_187_364 (xs : List Int) (d : Nat) (v0 : Int) (s0 : Int) (s1 : Int) (h : aH) : ev xs d mm_187 364 [some (.inr (.inr v0))] [.inr (.inr s1), .inr (.inr s0)] h =
  bif aok h.1 s0 12 then
    ev xs d mm_187 372 [some (.inr (.inr v0))] [.inr (.inr (h.1.1 : Int)), .inr (.inr v0)] ((h.1.1 + 1, h.1.2.1 + (60 : Int).toNat, fun q => if q = h.1.1 then (101, (60 : Int).toNat) else h.1.2.2 q), fun q j => if q = h.1.1 then 0 else (aup h.2 s0.toNat 61 s1) q j)
  else none :=
  (aB gP gX xs stp_187 5 d mm_187 364 _ _ h).trans rfl

set_option maxRecDepth 100000 in
set_option maxHeartbeats 4000000 in
theorem q_187_372 (xs : List Int) (d : Nat) (v0 : Int) (s0 : Int) (s1 : Int) (h : aH) : ev xs d mm_187 372 [some (.inr (.inr v0))] [.inr (.inr s1), .inr (.inr s0)] h =
  bif aok h.1 s0 12 then
    ev xs d mm_187 380 [some (.inr (.inr v0))] [.inr (.inr (h.1.1 : Int)), .inr (.inr v0)] ((h.1.1 + 1, h.1.2.1 + (60 : Int).toNat, fun q => if q = h.1.1 then (101, (60 : Int).toNat) else h.1.2.2 q), fun q j => if q = h.1.1 then 0 else (aup h.2 s0.toNat 63 s1) q j)
  else none :=
  (aB gP gX xs stp_187 5 d mm_187 372 _ _ h).trans rfl

set_option maxRecDepth 100000 in
set_option maxHeartbeats 4000000 in
theorem q_187_380 (xs : List Int) (d : Nat) (v0 : Int) (s0 : Int) (s1 : Int) (h : aH) : ev xs d mm_187 380 [some (.inr (.inr v0))] [.inr (.inr s1), .inr (.inr s0)] h =
  bif aok h.1 s0 12 then
    ev xs d mm_187 388 [some (.inr (.inr v0))] [.inr (.inr (h.1.1 : Int)), .inr (.inr v0)] ((h.1.1 + 1, h.1.2.1 + (10 : Int).toNat, fun q => if q = h.1.1 then (100, (10 : Int).toNat) else h.1.2.2 q), fun q j => if q = h.1.1 then 0 else (aup h.2 s0.toNat 64 s1) q j)
  else none :=
  (aB gP gX xs stp_187 5 d mm_187 380 _ _ h).trans rfl

set_option maxRecDepth 100000 in
set_option maxHeartbeats 4000000 in
theorem q_187_388 (xs : List Int) (d : Nat) (v0 : Int) (s0 : Int) (s1 : Int) (h : aH) : ev xs d mm_187 388 [some (.inr (.inr v0))] [.inr (.inr s1), .inr (.inr s0)] h =
  bif aok h.1 s0 12 then
    ev xs d mm_187 397 [some (.inr (.inr v0))] [.inr (.inr (h.1.1 : Int)), .inr (.inr v0)] ((h.1.1 + 1, h.1.2.1 + (1800 : Int).toNat, fun q => if q = h.1.1 then (101, (1800 : Int).toNat) else h.1.2.2 q), fun q j => if q = h.1.1 then 0 else (aup h.2 s0.toNat 65 s1) q j)
  else none :=
  (aB gP gX xs stp_187 5 d mm_187 388 _ _ h).trans rfl

set_option maxRecDepth 100000 in
set_option maxHeartbeats 4000000 in
theorem q_187_397 (xs : List Int) (d : Nat) (v0 : Int) (s0 : Int) (s1 : Int) (h : aH) : ev xs d mm_187 397 [some (.inr (.inr v0))] [.inr (.inr s1), .inr (.inr s0)] h =
  bif aok h.1 s0 12 then
    ev xs d mm_187 406 [some (.inr (.inr v0))] [.inr (.inr (h.1.1 : Int)), .inr (.inr v0)] ((h.1.1 + 1, h.1.2.1 + (1800 : Int).toNat, fun q => if q = h.1.1 then (101, (1800 : Int).toNat) else h.1.2.2 q), fun q j => if q = h.1.1 then 0 else (aup h.2 s0.toNat 71 s1) q j)
  else none :=
  (aB gP gX xs stp_187 5 d mm_187 397 _ _ h).trans rfl

set_option maxRecDepth 100000 in
set_option maxHeartbeats 4000000 in
theorem q_187_406 (xs : List Int) (d : Nat) (v0 : Int) (s0 : Int) (s1 : Int) (h : aH) : ev xs d mm_187 406 [some (.inr (.inr v0))] [.inr (.inr s1), .inr (.inr s0)] h =
  bif aok h.1 s0 12 then
    ev xs d mm_187 415 [some (.inr (.inr v0))] [.inr (.inr (h.1.1 : Int)), .inr (.inr v0)] ((h.1.1 + 1, h.1.2.1 + (1800 : Int).toNat, fun q => if q = h.1.1 then (100, (1800 : Int).toNat) else h.1.2.2 q), fun q j => if q = h.1.1 then 0 else (aup h.2 s0.toNat 72 s1) q j)
  else none :=
  (aB gP gX xs stp_187 5 d mm_187 406 _ _ h).trans rfl

set_option maxRecDepth 100000 in
set_option maxHeartbeats 4000000 in
theorem q_187_415 (xs : List Int) (d : Nat) (v0 : Int) (s0 : Int) (s1 : Int) (h : aH) : ev xs d mm_187 415 [some (.inr (.inr v0))] [.inr (.inr s1), .inr (.inr s0)] h =
  bif aok h.1 s0 12 then
    ev xs d mm_187 423 [some (.inr (.inr v0))] [.inr (.inr (h.1.1 : Int)), .inr (.inr v0)] ((h.1.1 + 1, h.1.2.1 + (7 : Int).toNat, fun q => if q = h.1.1 then (100, (7 : Int).toNat) else h.1.2.2 q), fun q j => if q = h.1.1 then 0 else (aup h.2 s0.toNat 73 s1) q j)
  else none :=
  (aB gP gX xs stp_187 5 d mm_187 415 _ _ h).trans rfl

set_option maxRecDepth 100000 in
set_option maxHeartbeats 4000000 in
theorem q_187_423 (xs : List Int) (d : Nat) (v0 : Int) (s0 : Int) (s1 : Int) (h : aH) : ev xs d mm_187 423 [some (.inr (.inr v0))] [.inr (.inr s1), .inr (.inr s0)] h =
  bif aok h.1 s0 12 then
    ev xs d mm_187 431 [some (.inr (.inr v0))] [.inr (.inr (h.1.1 : Int)), .inr (.inr v0)] ((h.1.1 + 1, h.1.2.1 + (7 : Int).toNat, fun q => if q = h.1.1 then (100, (7 : Int).toNat) else h.1.2.2 q), fun q j => if q = h.1.1 then 0 else (aup h.2 s0.toNat 75 s1) q j)
  else none :=
  (aB gP gX xs stp_187 5 d mm_187 423 _ _ h).trans rfl

set_option maxRecDepth 100000 in
set_option maxHeartbeats 4000000 in
theorem q_187_431 (xs : List Int) (d : Nat) (v0 : Int) (s0 : Int) (s1 : Int) (h : aH) : ev xs d mm_187 431 [some (.inr (.inr v0))] [.inr (.inr s1), .inr (.inr s0)] h =
  bif aok h.1 s0 12 then
    ev xs d mm_187 439 [some (.inr (.inr v0))] [.inr (.inr (h.1.1 : Int)), .inr (.inr v0)] ((h.1.1 + 1, h.1.2.1 + (7 : Int).toNat, fun q => if q = h.1.1 then (100, (7 : Int).toNat) else h.1.2.2 q), fun q j => if q = h.1.1 then 0 else (aup h.2 s0.toNat 76 s1) q j)
  else none :=
  (aB gP gX xs stp_187 5 d mm_187 431 _ _ h).trans rfl

set_option maxRecDepth 100000 in
set_option maxHeartbeats 4000000 in
theorem q_187_439 (xs : List Int) (d : Nat) (v0 : Int) (s0 : Int) (s1 : Int) (h : aH) : ev xs d mm_187 439 [some (.inr (.inr v0))] [.inr (.inr s1), .inr (.inr s0)] h =
  bif aok h.1 s0 12 then
    ev xs d mm_187 448 [some (.inr (.inr v0))] [.inr (.inr (h.1.1 : Int)), .inr (.inr v0)] ((h.1.1 + 1, h.1.2.1 + (128 : Int).toNat, fun q => if q = h.1.1 then (101, (128 : Int).toNat) else h.1.2.2 q), fun q j => if q = h.1.1 then 0 else (aup h.2 s0.toNat 78 s1) q j)
  else none :=
  (aB gP gX xs stp_187 5 d mm_187 439 _ _ h).trans rfl

set_option maxRecDepth 100000 in
set_option maxHeartbeats 4000000 in
theorem q_187_448 (xs : List Int) (d : Nat) (v0 : Int) (s0 : Int) (s1 : Int) (h : aH) : ev xs d mm_187 448 [some (.inr (.inr v0))] [.inr (.inr s1), .inr (.inr s0)] h =
  bif aok h.1 s0 12 then
    ev xs d mm_187 456 [some (.inr (.inr v0))] [.inr (.inr (h.1.1 : Int)), .inr (.inr v0)] ((h.1.1 + 1, h.1.2.1 + (81 : Int).toNat, fun q => if q = h.1.1 then (100, (81 : Int).toNat) else h.1.2.2 q), fun q j => if q = h.1.1 then 0 else (aup h.2 s0.toNat 80 s1) q j)
  else none :=
  (aB gP gX xs stp_187 5 d mm_187 448 _ _ h).trans rfl

set_option maxRecDepth 100000 in
set_option maxHeartbeats 4000000 in
theorem q_187_456 (xs : List Int) (d : Nat) (v0 : Int) (s0 : Int) (s1 : Int) (h : aH) : ev xs d mm_187 456 [some (.inr (.inr v0))] [.inr (.inr s1), .inr (.inr s0)] h =
  bif aok h.1 s0 12 then
    ev xs d mm_187 464 [some (.inr (.inr v0))] [.inr (.inr (h.1.1 : Int)), .inr (.inr v0)] ((h.1.1 + 1, h.1.2.1 + (24 : Int).toNat, fun q => if q = h.1.1 then (100, (24 : Int).toNat) else h.1.2.2 q), fun q j => if q = h.1.1 then 0 else (aup h.2 s0.toNat 81 s1) q j)
  else none :=
  (aB gP gX xs stp_187 5 d mm_187 456 _ _ h).trans rfl

set_option maxRecDepth 100000 in
set_option maxHeartbeats 4000000 in
theorem q_187_464 (xs : List Int) (d : Nat) (v0 : Int) (s0 : Int) (s1 : Int) (h : aH) : ev xs d mm_187 464 [some (.inr (.inr v0))] [.inr (.inr s1), .inr (.inr s0)] h =
  bif aok h.1 s0 12 then
    ev xs d mm_187 471 [some (.inr (.inr v0))] [.inr (.inr (h.1.1 : Int)), .inr (.inr v0)] ((h.1.1 + 1, h.1.2.1 + (3 : Int).toNat, fun q => if q = h.1.1 then (103, (3 : Int).toNat) else h.1.2.2 q), fun q j => if q = h.1.1 then 0 else (aup h.2 s0.toNat 82 s1) q j)
  else none :=
  (aB gP gX xs stp_187 5 d mm_187 464 _ _ h).trans rfl

set_option maxRecDepth 100000 in
set_option maxHeartbeats 4000000 in
theorem q_187_471 (xs : List Int) (d : Nat) (v0 : Int) (s0 : Int) (s1 : Int) (h : aH) : ev xs d mm_187 471 [some (.inr (.inr v0))] [.inr (.inr s1), .inr (.inr s0)] h =
  bif aok h.1 s0 12 then
    ev xs d mm_187 480 [some (.inr (.inr v0))] [.inr (.inr (h.1.1 : Int)), .inr (.inr v0)] ((h.1.1 + 1, h.1.2.1 + (180 : Int).toNat, fun q => if q = h.1.1 then (101, (180 : Int).toNat) else h.1.2.2 q), fun q j => if q = h.1.1 then 0 else (aup h.2 s0.toNat 83 s1) q j)
  else none :=
  (aB gP gX xs stp_187 5 d mm_187 471 _ _ h).trans rfl

set_option maxRecDepth 100000 in
set_option maxHeartbeats 4000000 in
theorem q_187_480 (xs : List Int) (d : Nat) (v0 : Int) (s0 : Int) (s1 : Int) (h : aH) : ev xs d mm_187 480 [some (.inr (.inr v0))] [.inr (.inr s1), .inr (.inr s0)] h =
  bif aok h.1 s0 12 then
    bif aok h.1 v0 12 then
      bJ (cl xs d 195 [.inl 99, .inl 108, .inl 97, .inl 115, .inl 115, .inl 0, .inl 0] (h.1, aup h.2 s0.toNat 84 s1)) (fun x2 h1 =>
        bif ain h1.1 ((aup h.2 s0.toNat 84 s1) v0.toNat 9) 101 0 then
          bif aok h1.1 v0 12 then
            bJ (cl xs d 195 [.inl 115, .inl 116, .inl 111, .inl 110, .inl 101, .inl 0, .inl 0] (h1.1, aup h1.2 ((aup h.2 s0.toNat 84 s1) v0.toNat 9).toNat (0 : Int).toNat x2)) (fun x4 h3 =>
              bif ain h3.1 ((aup h1.2 ((aup h.2 s0.toNat 84 s1) v0.toNat 9).toNat (0 : Int).toNat x2) v0.toNat 9) 101 1 then
                ev xs d mm_187 525 [some (.inr (.inr v0))] [] (h3.1, aup h3.2 ((aup h1.2 ((aup h.2 s0.toNat 84 s1) v0.toNat 9).toNat (0 : Int).toNat x2) v0.toNat 9).toNat (1 : Int).toNat x4)
              else none)
          else none
        else none)
    else none
  else none :=
  (aB gP gX xs stp_187 26 d mm_187 480 _ _ h).trans rfl

set_option maxRecDepth 100000 in
set_option maxHeartbeats 4000000 in
theorem q_187_525 (xs : List Int) (d : Nat) (v0 : Int) (h : aH) : ev xs d mm_187 525 [some (.inr (.inr v0))] [] h =
  bif aok h.1 v0 12 then
    bJ (cl xs d 195 [.inl 116, .inl 111, .inl 0, .inl 0, .inl 0, .inl 0, .inl 0] h) (fun x2 h1 =>
      bif ain h1.1 (h.2 v0.toNat 9) 101 2 then
        bif aok h1.1 v0 12 then
          bJ (cl xs d 195 [.inl 110, .inl 111, .inl 110, .inl 101, .inl 0, .inl 0, .inl 0] (h1.1, aup h1.2 (h.2 v0.toNat 9).toNat (2 : Int).toNat x2)) (fun x4 h3 =>
            bif ain h3.1 ((aup h1.2 (h.2 v0.toNat 9).toNat (2 : Int).toNat x2) v0.toNat 9) 101 3 then
              bif aok h3.1 v0 12 then
                bJ (cl xs d 195 [.inl 97, .inl 102, .inl 116, .inl 101, .inl 114, .inl 0, .inl 0] (h3.1, aup h3.2 ((aup h1.2 (h.2 v0.toNat 9).toNat (2 : Int).toNat x2) v0.toNat 9).toNat (3 : Int).toNat x4)) (fun x6 h5 =>
                  bif ain h5.1 ((aup h3.2 ((aup h1.2 (h.2 v0.toNat 9).toNat (2 : Int).toNat x2) v0.toNat 9).toNat (3 : Int).toNat x4) v0.toNat 9) 101 4 then
                    ev xs d mm_187 584 [some (.inr (.inr v0))] [] (h5.1, aup h5.2 ((aup h3.2 ((aup h1.2 (h.2 v0.toNat 9).toNat (2 : Int).toNat x2) v0.toNat 9).toNat (3 : Int).toNat x4) v0.toNat 9).toNat (4 : Int).toNat x6)
                  else none)
              else none
            else none)
        else none
      else none)
  else none :=
  (aB gP gX xs stp_187 37 d mm_187 525 _ _ h).trans rfl

set_option maxRecDepth 100000 in
set_option maxHeartbeats 4000000 in
theorem q_187_584 (xs : List Int) (d : Nat) (v0 : Int) (h : aH) : ev xs d mm_187 584 [some (.inr (.inr v0))] [] h =
  bif aok h.1 v0 12 then
    bJ (cl xs d 195 [.inl 98, .inl 101, .inl 102, .inl 111, .inl 114, .inl 101, .inl 0] h) (fun x2 h1 =>
      bif ain h1.1 (h.2 v0.toNat 9) 101 5 then
        bif aok h1.1 v0 12 then
          bJ (cl xs d 195 [.inl 101, .inl 100, .inl 103, .inl 101, .inl 0, .inl 0, .inl 0] (h1.1, aup h1.2 (h.2 v0.toNat 9).toNat (5 : Int).toNat x2)) (fun x4 h3 =>
            bif ain h3.1 ((aup h1.2 (h.2 v0.toNat 9).toNat (5 : Int).toNat x2) v0.toNat 9) 101 6 then
              bif aok h3.1 v0 12 then
                bJ (cl xs d 195 [.inl 114, .inl 111, .inl 111, .inl 116, .inl 0, .inl 0, .inl 0] (h3.1, aup h3.2 ((aup h1.2 (h.2 v0.toNat 9).toNat (5 : Int).toNat x2) v0.toNat 9).toNat (6 : Int).toNat x4)) (fun x6 h5 =>
                  bif ain h5.1 ((aup h3.2 ((aup h1.2 (h.2 v0.toNat 9).toNat (5 : Int).toNat x2) v0.toNat 9).toNat (6 : Int).toNat x4) v0.toNat 9) 101 7 then
                    ev xs d mm_187 648 [some (.inr (.inr v0))] [] (h5.1, aup h5.2 ((aup h3.2 ((aup h1.2 (h.2 v0.toNat 9).toNat (5 : Int).toNat x2) v0.toNat 9).toNat (6 : Int).toNat x4) v0.toNat 9).toNat (7 : Int).toNat x6)
                  else none)
              else none
            else none)
        else none
      else none)
  else none :=
  (aB gP gX xs stp_187 37 d mm_187 584 _ _ h).trans rfl

set_option maxRecDepth 100000 in
set_option maxHeartbeats 4000000 in
theorem q_187_648 (xs : List Int) (d : Nat) (v0 : Int) (h : aH) : ev xs d mm_187 648 [some (.inr (.inr v0))] [] h =
  bif aok h.1 v0 12 then
    bJ (cl xs d 195 [.inl 101, .inl 110, .inl 100, .inl 105, .inl 110, .inl 103, .inl 0] h) (fun x2 h1 =>
      bif ain h1.1 (h.2 v0.toNat 9) 101 8 then
        bif aok h1.1 v0 12 then
          bJ (cl xs d 195 [.inl 104, .inl 101, .inl 97, .inl 100, .inl 0, .inl 0, .inl 0] (h1.1, aup h1.2 (h.2 v0.toNat 9).toNat (8 : Int).toNat x2)) (fun x4 h3 =>
            bif ain h3.1 ((aup h1.2 (h.2 v0.toNat 9).toNat (8 : Int).toNat x2) v0.toNat 9) 101 9 then
              bif aok h3.1 v0 12 then
                bJ (cl xs d 195 [.inl 119, .inl 111, .inl 114, .inl 100, .inl 0, .inl 0, .inl 0] (h3.1, aup h3.2 ((aup h1.2 (h.2 v0.toNat 9).toNat (8 : Int).toNat x2) v0.toNat 9).toNat (9 : Int).toNat x4)) (fun x6 h5 =>
                  bif ain h5.1 ((aup h3.2 ((aup h1.2 (h.2 v0.toNat 9).toNat (8 : Int).toNat x2) v0.toNat 9).toNat (9 : Int).toNat x4) v0.toNat 9) 101 10 then
                    ev xs d mm_187 713 [some (.inr (.inr v0))] [] (h5.1, aup h5.2 ((aup h3.2 ((aup h1.2 (h.2 v0.toNat 9).toNat (8 : Int).toNat x2) v0.toNat 9).toNat (9 : Int).toNat x4) v0.toNat 9).toNat (10 : Int).toNat x6)
                  else none)
              else none
            else none)
        else none
      else none)
  else none :=
  (aB gP gX xs stp_187 37 d mm_187 648 _ _ h).trans rfl

set_option maxRecDepth 100000 in
set_option maxHeartbeats 4000000 in
theorem q_187_713 (xs : List Int) (d : Nat) (v0 : Int) (h : aH) : ev xs d mm_187 713 [some (.inr (.inr v0))] [] h =
  bif aok h.1 v0 12 then
    bJ (cl xs d 195 [.inl 112, .inl 97, .inl 105, .inl 114, .inl 0, .inl 0, .inl 0] h) (fun x2 h1 =>
      bif ain h1.1 (h.2 v0.toNat 9) 101 11 then
        bif aok h1.1 v0 12 then
          bJ (cl xs d 195 [.inl 108, .inl 97, .inl 110, .inl 100, .inl 0, .inl 0, .inl 0] (h1.1, aup h1.2 (h.2 v0.toNat 9).toNat (11 : Int).toNat x2)) (fun x4 h3 =>
            bif ain h3.1 ((aup h1.2 (h.2 v0.toNat 9).toNat (11 : Int).toNat x2) v0.toNat 9) 101 12 then
              bif aok h3.1 v0 12 then
                bJ (cl xs d 195 [.inl 98, .inl 114, .inl 105, .inl 110, .inl 103, .inl 115, .inl 0] (h3.1, aup h3.2 ((aup h1.2 (h.2 v0.toNat 9).toNat (11 : Int).toNat x2) v0.toNat 9).toNat (12 : Int).toNat x4)) (fun x6 h5 =>
                  bif ain h5.1 ((aup h3.2 ((aup h1.2 (h.2 v0.toNat 9).toNat (11 : Int).toNat x2) v0.toNat 9).toNat (12 : Int).toNat x4) v0.toNat 9) 101 13 then
                    ev xs d mm_187 778 [some (.inr (.inr v0))] [] (h5.1, aup h5.2 ((aup h3.2 ((aup h1.2 (h.2 v0.toNat 9).toNat (11 : Int).toNat x2) v0.toNat 9).toNat (12 : Int).toNat x4) v0.toNat 9).toNat (13 : Int).toNat x6)
                  else none)
              else none
            else none)
        else none
      else none)
  else none :=
  (aB gP gX xs stp_187 37 d mm_187 713 _ _ h).trans rfl

set_option maxRecDepth 100000 in
set_option maxHeartbeats 4000000 in
theorem q_187_778 (xs : List Int) (d : Nat) (v0 : Int) (h : aH) : ev xs d mm_187 778 [some (.inr (.inr v0))] [] h =
  bif aok h.1 v0 12 then
    bJ (cl xs d 195 [.inl 115, .inl 101, .inl 101, .inl 100, .inl 0, .inl 0, .inl 0] h) (fun x2 h1 =>
      bif ain h1.1 (h.2 v0.toNat 9) 101 14 then
        bif aok h1.1 v0 12 then
          bJ (cl xs d 195 [.inl 105, .inl 102, .inl 0, .inl 0, .inl 0, .inl 0, .inl 0] (h1.1, aup h1.2 (h.2 v0.toNat 9).toNat (14 : Int).toNat x2)) (fun x4 h3 =>
            bif ain h3.1 ((aup h1.2 (h.2 v0.toNat 9).toNat (14 : Int).toNat x2) v0.toNat 9) 101 15 then
              bif aok h3.1 v0 12 then
                bJ (cl xs d 195 [.inl 116, .inl 104, .inl 101, .inl 110, .inl 0, .inl 0, .inl 0] (h3.1, aup h3.2 ((aup h1.2 (h.2 v0.toNat 9).toNat (14 : Int).toNat x2) v0.toNat 9).toNat (15 : Int).toNat x4)) (fun x6 h5 =>
                  bif ain h5.1 ((aup h3.2 ((aup h1.2 (h.2 v0.toNat 9).toNat (14 : Int).toNat x2) v0.toNat 9).toNat (15 : Int).toNat x4) v0.toNat 9) 101 16 then
                    ev xs d mm_187 839 [some (.inr (.inr v0))] [] (h5.1, aup h5.2 ((aup h3.2 ((aup h1.2 (h.2 v0.toNat 9).toNat (14 : Int).toNat x2) v0.toNat 9).toNat (15 : Int).toNat x4) v0.toNat 9).toNat (16 : Int).toNat x6)
                  else none)
              else none
            else none)
        else none
      else none)
  else none :=
  (aB gP gX xs stp_187 37 d mm_187 778 _ _ h).trans rfl

set_option maxRecDepth 100000 in
set_option maxHeartbeats 4000000 in
theorem q_187_839 (xs : List Int) (d : Nat) (v0 : Int) (h : aH) : ev xs d mm_187 839 [some (.inr (.inr v0))] [] h =
  bif aok h.1 v0 12 then
    bJ (cl xs d 195 [.inl 101, .inl 108, .inl 115, .inl 101, .inl 0, .inl 0, .inl 0] h) (fun x2 h1 =>
      bif ain h1.1 (h.2 v0.toNat 9) 101 17 then
        bif aok h1.1 v0 12 then
          bJ (cl xs d 195 [.inl 101, .inl 110, .inl 100, .inl 115, .inl 0, .inl 0, .inl 0] (h1.1, aup h1.2 (h.2 v0.toNat 9).toNat (17 : Int).toNat x2)) (fun x4 h3 =>
            bif ain h3.1 ((aup h1.2 (h.2 v0.toNat 9).toNat (17 : Int).toNat x2) v0.toNat 9) 101 18 then
              bif aok h3.1 v0 12 then
                bJ (cl xs d 195 [.inl 104, .inl 101, .inl 97, .inl 100, .inl 115, .inl 0, .inl 0] (h3.1, aup h3.2 ((aup h1.2 (h.2 v0.toNat 9).toNat (17 : Int).toNat x2) v0.toNat 9).toNat (18 : Int).toNat x4)) (fun x6 h5 =>
                  bif ain h5.1 ((aup h3.2 ((aup h1.2 (h.2 v0.toNat 9).toNat (17 : Int).toNat x2) v0.toNat 9).toNat (18 : Int).toNat x4) v0.toNat 9) 101 19 then
                    ev xs d mm_187 903 [some (.inr (.inr v0))] [] (h5.1, aup h5.2 ((aup h3.2 ((aup h1.2 (h.2 v0.toNat 9).toNat (17 : Int).toNat x2) v0.toNat 9).toNat (18 : Int).toNat x4) v0.toNat 9).toNat (19 : Int).toNat x6)
                  else none)
              else none
            else none)
        else none
      else none)
  else none :=
  (aB gP gX xs stp_187 37 d mm_187 839 _ _ h).trans rfl

set_option maxRecDepth 100000 in
set_option maxHeartbeats 4000000 in
theorem q_187_903 (xs : List Int) (d : Nat) (v0 : Int) (h : aH) : ev xs d mm_187 903 [some (.inr (.inr v0))] [] h =
  bif aok h.1 v0 12 then
    bJ (cl xs d 195 [.inl 116, .inl 111, .inl 110, .inl 115, .inl 0, .inl 0, .inl 0] h) (fun x2 h1 =>
      bif ain h1.1 (h.2 v0.toNat 9) 101 20 then
        bif aok h1.1 v0 12 then
          bJ (cl xs d 195 [.inl 100, .inl 117, .inl 115, .inl 116, .inl 0, .inl 0, .inl 0] (h1.1, aup h1.2 (h.2 v0.toNat 9).toNat (20 : Int).toNat x2)) (fun x4 h3 =>
            bif ain h3.1 ((aup h1.2 (h.2 v0.toNat 9).toNat (20 : Int).toNat x2) v0.toNat 9) 101 21 then
              bif aok h3.1 v0 12 then
                bJ (cl xs d 195 [.inl 116, .inl 117, .inl 114, .inl 110, .inl 0, .inl 0, .inl 0] (h3.1, aup h3.2 ((aup h1.2 (h.2 v0.toNat 9).toNat (20 : Int).toNat x2) v0.toNat 9).toNat (21 : Int).toNat x4)) (fun x6 h5 =>
                  bif ain h5.1 ((aup h3.2 ((aup h1.2 (h.2 v0.toNat 9).toNat (20 : Int).toNat x2) v0.toNat 9).toNat (21 : Int).toNat x4) v0.toNat 9) 101 22 then
                    ev xs d mm_187 966 [some (.inr (.inr v0))] [] (h5.1, aup h5.2 ((aup h3.2 ((aup h1.2 (h.2 v0.toNat 9).toNat (20 : Int).toNat x2) v0.toNat 9).toNat (21 : Int).toNat x4) v0.toNat 9).toNat (22 : Int).toNat x6)
                  else none)
              else none
            else none)
        else none
      else none)
  else none :=
  (aB gP gX xs stp_187 37 d mm_187 903 _ _ h).trans rfl

set_option maxRecDepth 100000 in
set_option maxHeartbeats 4000000 in
theorem q_187_966 (xs : List Int) (d : Nat) (v0 : Int) (h : aH) : ev xs d mm_187 966 [some (.inr (.inr v0))] [] h =
  bif aok h.1 v0 12 then
    bJ (cl xs d 195 [.inl 108, .inl 101, .inl 102, .inl 116, .inl 0, .inl 0, .inl 0] h) (fun x2 h1 =>
      bif ain h1.1 (h.2 v0.toNat 9) 101 23 then
        bif aok h1.1 v0 12 && true then
          bV (cl xs d 227 [.inr (.inr v0)] (h1.1, aup h1.2 (h.2 v0.toNat 9).toNat (23 : Int).toNat x2)) (fun h3 =>
          bif aok h3.1 v0 12 && true then
            bV (cl xs d 228 [.inr (.inr v0)] h3) (fun h4 =>
            some (none, h4))
          else none)
        else none
      else none)
  else none :=
  (aB gP gX xs stp_187 18 d mm_187 966 _ _ h).trans rfl

