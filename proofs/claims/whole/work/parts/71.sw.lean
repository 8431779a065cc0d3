/-! Blocks where switches lead. -/
set_option maxRecDepth 100000 in
set_option maxHeartbeats 4000000 in
theorem q_119_28 (xs : List Int) (d : Nat) (v0 : Int) (v1 : Int) (u2 : Option aV) (u3 : Option aV) (h : aH) : ev xs d mm_119 28 [some (.inl v0), some (.inl v1), u2, u3] [] h =
  ev xs d mm_119 72 [some (.inl v0), some (.inl v1), some (.inl (orem v0 10)), some (.inl 1)] [] h :=
  (aB gP gX xs stp_119 8 d mm_119 28 _ _ h).trans rfl
set_option maxRecDepth 100000 in
set_option maxHeartbeats 4000000 in
theorem q_119_38 (xs : List Int) (d : Nat) (v0 : Int) (v1 : Int) (u2 : Option aV) (u3 : Option aV) (h : aH) : ev xs d mm_119 38 [some (.inl v0), some (.inl v1), u2, u3] [] h =
  ev xs d mm_119 72 [some (.inl v0), some (.inl v1), some (.inl (orem (odiv v0 10) 10)), some (.inl 1)] [] h :=
  (aB gP gX xs stp_119 10 d mm_119 38 _ _ h).trans rfl
set_option maxRecDepth 100000 in
set_option maxHeartbeats 4000000 in
theorem q_119_51 (xs : List Int) (d : Nat) (v0 : Int) (v1 : Int) (u2 : Option aV) (u3 : Option aV) (h : aH) : ev xs d mm_119 51 [some (.inl v0), some (.inl v1), u2, u3] [] h =
  ev xs d mm_119 72 [some (.inl v0), some (.inl v1), some (.inl (orem (odiv v0 100) 10)), some (.inl 0)] [] h :=
  (aB gP gX xs stp_119 10 d mm_119 51 _ _ h).trans rfl
set_option maxRecDepth 100000 in
set_option maxHeartbeats 4000000 in
theorem q_119_64 (xs : List Int) (d : Nat) (v0 : Int) (v1 : Int) (u2 : Option aV) (u3 : Option aV) (h : aH) : ev xs d mm_119 64 [some (.inl v0), some (.inl v1), u2, u3] [] h =
  ev xs d mm_119 72 [some (.inl v0), some (.inl v1), some (.inl (odiv v0 1000)), some (.inl 2)] [] h :=
  (aB gP gX xs stp_119 7 d mm_119 64 _ _ h).trans rfl
set_option maxRecDepth 100000 in
set_option maxHeartbeats 4000000 in
theorem q_185_84 (xs : List Int) (d : Nat) (v0 : Int) (v1 : Int) (h : aH) : ev xs d mm_185 84 [some (.inr (.inr v0)), some (.inl v1)] [] h =
  bif aok h.1 v0 11 then
    bif aok h.1 (h.2 v0.toNat 5) 9 then
      some (some (.inl (h.2 (h.2 v0.toNat 5).toNat 5)), h)
    else none
  else none :=
  (aB gP gX xs stp_185 5 d mm_185 84 _ _ h).trans rfl
set_option maxRecDepth 100000 in
set_option maxHeartbeats 4000000 in
theorem q_185_92 (xs : List Int) (d : Nat) (v0 : Int) (v1 : Int) (h : aH) : ev xs d mm_185 92 [some (.inr (.inr v0)), some (.inl v1)] [] h =
  bif aok h.1 v0 11 then
    bif aok h.1 (h.2 v0.toNat 5) 9 then
      bif aok h.1 (h.2 (h.2 v0.toNat 5).toNat 3) 7 then
        some (some (.inl (h.2 (h.2 (h.2 v0.toNat 5).toNat 3).toNat 0)), h)
      else none
    else none
  else none :=
  (aB gP gX xs stp_185 6 d mm_185 92 _ _ h).trans rfl
set_option maxRecDepth 100000 in
set_option maxHeartbeats 4000000 in
theorem q_185_103 (xs : List Int) (d : Nat) (v0 : Int) (v1 : Int) (h : aH) : ev xs d mm_185 103 [some (.inr (.inr v0)), some (.inl v1)] [] h =
  bif aok h.1 v0 11 then
    bif aok h.1 (h.2 v0.toNat 5) 9 then
      bif aok h.1 (h.2 (h.2 v0.toNat 5).toNat 4) 3 then
        bif ain h.1 (h.2 (h.2 (h.2 v0.toNat 5).toNat 4).toNat 0) 100 0 then
          some (some (.inl (h.2 (h.2 (h.2 (h.2 v0.toNat 5).toNat 4).toNat 0).toNat (0 : Int).toNat)), h)
        else none
      else none
    else none
  else none :=
  (aB gP gX xs stp_185 8 d mm_185 103 _ _ h).trans rfl
set_option maxRecDepth 100000 in
set_option maxHeartbeats 4000000 in
theorem q_185_116 (xs : List Int) (d : Nat) (v0 : Int) (v1 : Int) (h : aH) : ev xs d mm_185 116 [some (.inr (.inr v0)), some (.inl v1)] [] h =
  bif aok h.1 v0 11 then
    bif aok h.1 (h.2 v0.toNat 5) 9 then
      bif aok h.1 (h.2 (h.2 v0.toNat 5).toNat 4) 3 then
        bif ain h.1 (h.2 (h.2 (h.2 v0.toNat 5).toNat 4).toNat 0) 100 1 then
          some (some (.inl (h.2 (h.2 (h.2 (h.2 v0.toNat 5).toNat 4).toNat 0).toNat (1 : Int).toNat)), h)
        else none
      else none
    else none
  else none :=
  (aB gP gX xs stp_185 8 d mm_185 116 _ _ h).trans rfl
set_option maxRecDepth 100000 in
set_option maxHeartbeats 4000000 in
theorem q_185_129 (xs : List Int) (d : Nat) (v0 : Int) (v1 : Int) (h : aH) : ev xs d mm_185 129 [some (.inr (.inr v0)), some (.inl v1)] [] h =
  bif aok h.1 v0 11 then
    bif aok h.1 (h.2 v0.toNat 5) 9 then
      bif aok h.1 (h.2 (h.2 v0.toNat 5).toNat 4) 3 then
        bif ain h.1 (h.2 (h.2 (h.2 v0.toNat 5).toNat 4).toNat 0) 100 2 then
          some (some (.inl (h.2 (h.2 (h.2 (h.2 v0.toNat 5).toNat 4).toNat 0).toNat (2 : Int).toNat)), h)
        else none
      else none
    else none
  else none :=
  (aB gP gX xs stp_185 8 d mm_185 129 _ _ h).trans rfl
set_option maxRecDepth 100000 in
set_option maxHeartbeats 4000000 in
theorem q_185_142 (xs : List Int) (d : Nat) (v0 : Int) (v1 : Int) (h : aH) : ev xs d mm_185 142 [some (.inr (.inr v0)), some (.inl v1)] [] h =
  bif aok h.1 v0 11 then
    bif aok h.1 (h.2 v0.toNat 5) 9 then
      some (some (.inl (h.2 (h.2 v0.toNat 5).toNat 7)), h)
    else none
  else none :=
  (aB gP gX xs stp_185 5 d mm_185 142 _ _ h).trans rfl
set_option maxRecDepth 100000 in
set_option maxHeartbeats 4000000 in
theorem q_185_150 (xs : List Int) (d : Nat) (v0 : Int) (v1 : Int) (h : aH) : ev xs d mm_185 150 [some (.inr (.inr v0)), some (.inl v1)] [] h =
  bif aok h.1 v0 11 then
    bif aok h.1 (h.2 v0.toNat 5) 9 then
      some (some (.inl (h.2 (h.2 v0.toNat 5).toNat 11)), h)
    else none
  else none :=
  (aB gP gX xs stp_185 5 d mm_185 150 _ _ h).trans rfl
set_option maxRecDepth 100000 in
set_option maxHeartbeats 4000000 in
theorem q_185_158 (xs : List Int) (d : Nat) (v0 : Int) (v1 : Int) (h : aH) : ev xs d mm_185 158 [some (.inr (.inr v0)), some (.inl v1)] [] h =
  bif aok h.1 v0 11 then
    bif aok h.1 (h.2 v0.toNat 7) 6 then
      some (some (.inl (h.2 (h.2 v0.toNat 7).toNat 7)), h)
    else none
  else none :=
  (aB gP gX xs stp_185 5 d mm_185 158 _ _ h).trans rfl
set_option maxRecDepth 100000 in
set_option maxHeartbeats 4000000 in
theorem q_185_166 (xs : List Int) (d : Nat) (v0 : Int) (v1 : Int) (h : aH) : ev xs d mm_185 166 [some (.inr (.inr v0)), some (.inl v1)] [] h =
  bif aok h.1 v0 11 then
    bif aok h.1 (h.2 v0.toNat 7) 6 then
      some (some (.inl (h.2 (h.2 v0.toNat 7).toNat 5)), h)
    else none
  else none :=
  (aB gP gX xs stp_185 5 d mm_185 166 _ _ h).trans rfl
set_option maxRecDepth 100000 in
set_option maxHeartbeats 4000000 in
theorem q_185_174 (xs : List Int) (d : Nat) (v0 : Int) (v1 : Int) (h : aH) : ev xs d mm_185 174 [some (.inr (.inr v0)), some (.inl v1)] [] h =
  bif aok h.1 v0 11 then
    bif aok h.1 (h.2 v0.toNat 7) 6 then
      some (some (.inl (h.2 (h.2 v0.toNat 7).toNat 6)), h)
    else none
  else none :=
  (aB gP gX xs stp_185 5 d mm_185 174 _ _ h).trans rfl
set_option maxRecDepth 100000 in
set_option maxHeartbeats 4000000 in
theorem q_185_198 (xs : List Int) (d : Nat) (v0 : Int) (v1 : Int) (h : aH) : ev xs d mm_185 198 [some (.inr (.inr v0)), some (.inl v1)] [] h =
  bif aok h.1 v0 11 then
    bif aok h.1 (h.2 v0.toNat 7) 6 then
      some (some (.inl (h.2 (h.2 v0.toNat 7).toNat 8)), h)
    else none
  else none :=
  (aB gP gX xs stp_185 5 d mm_185 198 _ _ h).trans rfl
set_option maxRecDepth 100000 in
set_option maxHeartbeats 4000000 in
theorem q_185_206 (xs : List Int) (d : Nat) (v0 : Int) (v1 : Int) (h : aH) : ev xs d mm_185 206 [some (.inr (.inr v0)), some (.inl v1)] [] h =
  bif aok h.1 v0 11 then
    some (some (.inl (h.2 v0.toNat 1)), h)
  else none :=
  (aB gP gX xs stp_185 4 d mm_185 206 _ _ h).trans rfl
set_option maxRecDepth 100000 in
set_option maxHeartbeats 4000000 in
theorem q_185_211 (xs : List Int) (d : Nat) (v0 : Int) (v1 : Int) (h : aH) : ev xs d mm_185 211 [some (.inr (.inr v0)), some (.inl v1)] [] h =
  bif aok h.1 v0 11 then
    some (some (.inl (h.2 v0.toNat 11)), h)
  else none :=
  (aB gP gX xs stp_185 4 d mm_185 211 _ _ h).trans rfl
set_option maxRecDepth 100000 in
set_option maxHeartbeats 4000000 in
theorem q_185_229 (xs : List Int) (d : Nat) (v0 : Int) (v1 : Int) (h : aH) : ev xs d mm_185 229 [some (.inr (.inr v0)), some (.inl v1)] [] h =
  bif aok h.1 v0 11 then
    bif aok h.1 (h.2 v0.toNat 5) 9 then
      some (some (.inl (h.2 (h.2 v0.toNat 5).toNat 0)), h)
    else none
  else none :=
  (aB gP gX xs stp_185 5 d mm_185 229 _ _ h).trans rfl
set_option maxRecDepth 100000 in
set_option maxHeartbeats 4000000 in
theorem q_185_237 (xs : List Int) (d : Nat) (v0 : Int) (v1 : Int) (h : aH) : ev xs d mm_185 237 [some (.inr (.inr v0)), some (.inl v1)] [] h =
  some (some (.inl (-1)), h) :=
  (aB gP gX xs stp_185 3 d mm_185 237 _ _ h).trans rfl
set_option maxRecDepth 100000 in
set_option maxHeartbeats 4000000 in
theorem q_315_88 (xs : List Int) (d : Nat) (v0 : Int) (v1 : Int) (u2 : Option aV) (u3 : Option aV) (u4 : Option aV) (h : aH) : ev xs d mm_315 88 [some (.inr (.inr v0)), some (.inl v1), u2, u3, u4] [] h =
  bif aok h.1 v0 12 then
    bif aok h.1 v0 12 then
      bif ain h.1 (h.2 v0.toNat 33) 100 (h.2 v0.toNat 18) then
        some (some (.inl (h.2 (h.2 v0.toNat 33).toNat (h.2 v0.toNat 18).toNat)), h)
      else none
    else none
  else none :=
  (aB gP gX xs stp_315 7 d mm_315 88 _ _ h).trans rfl
set_option maxRecDepth 100000 in
set_option maxHeartbeats 4000000 in
theorem q_315_98 (xs : List Int) (d : Nat) (v0 : Int) (v1 : Int) (u2 : Option aV) (u3 : Option aV) (u4 : Option aV) (h : aH) : ev xs d mm_315 98 [some (.inr (.inr v0)), some (.inl v1), u2, u3, u4] [] h =
  bif aok h.1 v0 12 then
    bif aok h.1 v0 12 then
      bif ain h.1 (h.2 v0.toNat 23) 100 (h.2 v0.toNat 18) then
        some (some (.inl (h.2 (h.2 v0.toNat 23).toNat (h.2 v0.toNat 18).toNat)), h)
      else none
    else none
  else none :=
  (aB gP gX xs stp_315 7 d mm_315 98 _ _ h).trans rfl
set_option maxRecDepth 100000 in
set_option maxHeartbeats 4000000 in
theorem q_315_124 (xs : List Int) (d : Nat) (v0 : Int) (v1 : Int) (u2 : Option aV) (u3 : Option aV) (u4 : Option aV) (h : aH) : ev xs d mm_315 124 [some (.inr (.inr v0)), some (.inl v1), u2, u3, u4] [] h =
  bif aok h.1 v0 12 then
    bif aok h.1 v0 12 then
      bif ain h.1 (h.2 v0.toNat 35) 100 (h.2 v0.toNat 18) then
        some (some (.inl (h.2 (h.2 v0.toNat 35).toNat (h.2 v0.toNat 18).toNat)), h)
      else none
    else none
  else none :=
  (aB gP gX xs stp_315 7 d mm_315 124 _ _ h).trans rfl
set_option maxRecDepth 100000 in
set_option maxHeartbeats 4000000 in
theorem q_315_134 (xs : List Int) (d : Nat) (v0 : Int) (v1 : Int) (u2 : Option aV) (u3 : Option aV) (u4 : Option aV) (h : aH) : ev xs d mm_315 134 [some (.inr (.inr v0)), some (.inl v1), u2, u3, u4] [] h =
  bif aok h.1 v0 12 then
    bif aok h.1 v0 12 then
      bif ain h.1 (h.2 v0.toNat 39) 100 (h.2 v0.toNat 18) then
        some (some (.inl (h.2 (h.2 v0.toNat 39).toNat (h.2 v0.toNat 18).toNat)), h)
      else none
    else none
  else none :=
  (aB gP gX xs stp_315 7 d mm_315 134 _ _ h).trans rfl
set_option maxRecDepth 100000 in
set_option maxHeartbeats 4000000 in
theorem q_315_144 (xs : List Int) (d : Nat) (v0 : Int) (v1 : Int) (u2 : Option aV) (u3 : Option aV) (u4 : Option aV) (h : aH) : ev xs d mm_315 144 [some (.inr (.inr v0)), some (.inl v1), u2, u3, u4] [] h =
  bif aok h.1 v0 12 then
    bif ain h.1 (h.2 v0.toNat 64) 101 53 then
      some (some (.inl (ol2i (h.2 (h.2 v0.toNat 64).toNat (53 : Int).toNat))), h)
    else none
  else none :=
  (aB gP gX xs stp_315 7 d mm_315 144 _ _ h).trans rfl
set_option maxRecDepth 100000 in
set_option maxHeartbeats 4000000 in
theorem q_315_153 (xs : List Int) (d : Nat) (v0 : Int) (v1 : Int) (u2 : Option aV) (u3 : Option aV) (u4 : Option aV) (h : aH) : ev xs d mm_315 153 [some (.inr (.inr v0)), some (.inl v1), u2, u3, u4] [] h =
  bif aok h.1 v0 12 then
    bif ain h.1 (h.2 v0.toNat 64) 101 54 then
      some (some (.inl (ol2i (h.2 (h.2 v0.toNat 64).toNat (54 : Int).toNat))), h)
    else none
  else none :=
  (aB gP gX xs stp_315 7 d mm_315 153 _ _ h).trans rfl
set_option maxRecDepth 100000 in
set_option maxHeartbeats 4000000 in
theorem q_315_162 (xs : List Int) (d : Nat) (v0 : Int) (v1 : Int) (u2 : Option aV) (u3 : Option aV) (u4 : Option aV) (h : aH) : ev xs d mm_315 162 [some (.inr (.inr v0)), some (.inl v1), u2, u3, u4] [] h =
  bif aok h.1 v0 12 then
    bif ain h.1 (h.2 v0.toNat 64) 101 55 then
      some (some (.inl (ol2i (h.2 (h.2 v0.toNat 64).toNat (55 : Int).toNat))), h)
    else none
  else none :=
  (aB gP gX xs stp_315 7 d mm_315 162 _ _ h).trans rfl
set_option maxRecDepth 100000 in
set_option maxHeartbeats 4000000 in
theorem q_315_179 (xs : List Int) (d : Nat) (v0 : Int) (v1 : Int) (u2 : Option aV) (u3 : Option aV) (u4 : Option aV) (h : aH) : ev xs d mm_315 179 [some (.inr (.inr v0)), some (.inl v1), u2, u3, u4] [] h =
  bif aok h.1 v0 12 then
    bif ain h.1 (h.2 v0.toNat 64) 101 44 then
      some (some (.inl (ol2i (h.2 (h.2 v0.toNat 64).toNat (44 : Int).toNat))), h)
    else none
  else none :=
  (aB gP gX xs stp_315 7 d mm_315 179 _ _ h).trans rfl
set_option maxRecDepth 100000 in
set_option maxHeartbeats 4000000 in
theorem q_315_188 (xs : List Int) (d : Nat) (v0 : Int) (v1 : Int) (u2 : Option aV) (u3 : Option aV) (u4 : Option aV) (h : aH) : ev xs d mm_315 188 [some (.inr (.inr v0)), some (.inl v1), u2, u3, u4] [] h =
  bif aok h.1 v0 12 then
    some (some (.inl (h.2 v0.toNat 2)), h)
  else none :=
  (aB gP gX xs stp_315 4 d mm_315 188 _ _ h).trans rfl
set_option maxRecDepth 100000 in
set_option maxHeartbeats 4000000 in
theorem q_315_193 (xs : List Int) (d : Nat) (v0 : Int) (v1 : Int) (u2 : Option aV) (u3 : Option aV) (u4 : Option aV) (h : aH) : ev xs d mm_315 193 [some (.inr (.inr v0)), some (.inl v1), u2, u3, u4] [] h =
  bif aok h.1 v0 12 then
    some (some (.inl (h.2 v0.toNat 70)), h)
  else none :=
  (aB gP gX xs stp_315 4 d mm_315 193 _ _ h).trans rfl
set_option maxRecDepth 100000 in
set_option maxHeartbeats 4000000 in
theorem q_315_243 (xs : List Int) (d : Nat) (v0 : Int) (v1 : Int) (u2 : Option aV) (u3 : Option aV) (u4 : Option aV) (h : aH) : ev xs d mm_315 243 [some (.inr (.inr v0)), some (.inl v1), u2, u3, u4] [] h =
  ev xs d mm_315 247 [some (.inr (.inr v0)), some (.inl v1), some (.inl 0), some (.inl 0), u4] [] h :=
  (aB gP gX xs stp_315 5 d mm_315 243 _ _ h).trans rfl
set_option maxRecDepth 100000 in
set_option maxHeartbeats 4000000 in
theorem q_315_314 (xs : List Int) (d : Nat) (v0 : Int) (v1 : Int) (u2 : Option aV) (u3 : Option aV) (u4 : Option aV) (h : aH) : ev xs d mm_315 314 [some (.inr (.inr v0)), some (.inl v1), u2, u3, u4] [] h =
  bif aok h.1 v0 12 then
    bif aok h.1 v0 12 then
      bif ain h.1 (h.2 v0.toNat 20) 100 (h.2 v0.toNat 18) then
        some (some (.inl (h.2 (h.2 v0.toNat 20).toNat (h.2 v0.toNat 18).toNat)), h)
      else none
    else none
  else none :=
  (aB gP gX xs stp_315 7 d mm_315 314 _ _ h).trans rfl
set_option maxRecDepth 100000 in
set_option maxHeartbeats 4000000 in
theorem q_315_324 (xs : List Int) (d : Nat) (v0 : Int) (v1 : Int) (u2 : Option aV) (u3 : Option aV) (u4 : Option aV) (h : aH) : ev xs d mm_315 324 [some (.inr (.inr v0)), some (.inl v1), u2, u3, u4] [] h =
  some (some (.inl (-1)), h) :=
  (aB gP gX xs stp_315 3 d mm_315 324 _ _ h).trans rfl
