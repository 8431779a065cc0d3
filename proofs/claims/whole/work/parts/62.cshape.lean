/-! The class: its cells and pointers. -/
def ppl : List (Nat × Nat × Nat) := [(0, 0, 1), (0, 3, 2), (0, 4, 8), (0, 7, 53), (0, 8, 58), (0, 9, 63), (0, 12, 64), (0, 14, 65), (0, 15, 68), (0, 16, 72), (0, 17, 77), (0, 18, 89), (0, 19, 90), (2, 1, 3), (2, 2, 4), (2, 3, 5), (2, 6, 6), (2, 8, 7), (8, 2, 2), (9, 1, 10), (9, 2, 11), (9, 3, 12), (9, 4, 17), (9, 6, 21), (9, 8, 22), (9, 9, 23), (9, 10, 24), (9, 12, 25), (9, 13, 26), (9, 14, 27), (12, 1, 13), (12, 2, 14), (12, 3, 15), (12, 4, 16), (17, 0, 18), (17, 1, 19), (17, 2, 20), (27, 0, 28), (27, 2, 29), (27, 3, 30), (31, 1, 32), (31, 2, 33), (31, 3, 34), (31, 4, 39), (31, 6, 43), (31, 8, 44), (31, 9, 45), (31, 10, 46), (31, 12, 47), (31, 13, 48), (31, 14, 49), (34, 1, 35), (34, 2, 36), (34, 3, 37), (34, 4, 38), (39, 0, 40), (39, 1, 41), (39, 2, 42), (49, 0, 50), (49, 2, 51), (49, 3, 52), (53, 1, 54), (53, 2, 55), (53, 3, 56), (53, 4, 57), (58, 1, 59), (58, 2, 60), (58, 3, 61), (58, 4, 62), (63, 0, 91), (63, 1, 96), (63, 2, 101), (63, 3, 106), (63, 4, 111), (63, 5, 116), (63, 6, 121), (63, 7, 126), (63, 8, 131), (63, 9, 136), (63, 10, 141), (63, 11, 146), (63, 12, 151), (63, 13, 156), (63, 14, 161), (63, 15, 166), (63, 16, 171), (63, 17, 176), (63, 18, 181), (63, 19, 186), (63, 20, 191), (63, 21, 196), (63, 22, 201), (63, 23, 206), (63, 24, 211), (63, 25, 216), (63, 26, 221), (63, 27, 226), (63, 28, 231), (63, 29, 236), (64, 0, 241), (64, 1, 246), (64, 2, 251), (65, 1, 66), (65, 2, 67), (68, 1, 69), (72, 3, 73), (72, 4, 74), (72, 5, 75), (72, 6, 76), (77, 1, 78), (77, 2, 79), (77, 3, 80), (77, 4, 81), (77, 5, 82), (77, 6, 83), (91, 1, 92), (91, 2, 93), (91, 3, 94), (91, 4, 95), (96, 1, 97), (96, 2, 98), (96, 3, 99), (96, 4, 100), (101, 1, 102), (101, 2, 103), (101, 3, 104), (101, 4, 105), (106, 1, 107), (106, 2, 108), (106, 3, 109), (106, 4, 110), (111, 1, 112), (111, 2, 113), (111, 3, 114), (111, 4, 115), (116, 1, 117), (116, 2, 118), (116, 3, 119), (116, 4, 120), (121, 1, 122), (121, 2, 123), (121, 3, 124), (121, 4, 125), (126, 1, 127), (126, 2, 128), (126, 3, 129), (126, 4, 130), (131, 1, 132), (131, 2, 133), (131, 3, 134), (131, 4, 135), (136, 1, 137), (136, 2, 138), (136, 3, 139), (136, 4, 140), (141, 1, 142), (141, 2, 143), (141, 3, 144), (141, 4, 145), (146, 1, 147), (146, 2, 148), (146, 3, 149), (146, 4, 150), (151, 1, 152), (151, 2, 153), (151, 3, 154), (151, 4, 155), (156, 1, 157), (156, 2, 158), (156, 3, 159), (156, 4, 160), (161, 1, 162), (161, 2, 163), (161, 3, 164), (161, 4, 165), (166, 1, 167), (166, 2, 168), (166, 3, 169), (166, 4, 170), (171, 1, 172), (171, 2, 173), (171, 3, 174), (171, 4, 175), (176, 1, 177), (176, 2, 178), (176, 3, 179), (176, 4, 180), (181, 1, 182), (181, 2, 183), (181, 3, 184), (181, 4, 185), (186, 1, 187), (186, 2, 188), (186, 3, 189), (186, 4, 190), (191, 1, 192), (191, 2, 193), (191, 3, 194), (191, 4, 195), (196, 1, 197), (196, 2, 198), (196, 3, 199), (196, 4, 200), (201, 1, 202), (201, 2, 203), (201, 3, 204), (201, 4, 205), (206, 1, 207), (206, 2, 208), (206, 3, 209), (206, 4, 210), (211, 1, 212), (211, 2, 213), (211, 3, 214), (211, 4, 215), (216, 1, 217), (216, 2, 218), (216, 3, 219), (216, 4, 220), (221, 1, 222), (221, 2, 223), (221, 3, 224), (221, 4, 225), (226, 1, 227), (226, 2, 228), (226, 3, 229), (226, 4, 230), (231, 1, 232), (231, 2, 233), (231, 3, 234), (231, 4, 235), (236, 1, 237), (236, 2, 238), (236, 3, 239), (236, 4, 240), (241, 1, 242), (241, 2, 243), (241, 3, 244), (241, 4, 245), (246, 1, 247), (246, 2, 248), (246, 3, 249), (246, 4, 250), (251, 1, 252), (251, 2, 253), (251, 3, 254), (251, 4, 255)]
def CPtr (D : Nat → Nat → Int) : Prop := ∀ r k v, (r, k, v) ∈ ppl → D r k = ((v : Nat) : Int)
theorem CPtr.at {D : Nat → Nat → Int} (h : CPtr D) (r k v : Nat) (hm : (r, k, v) ∈ ppl) : D r k = ((v : Nat) : Int) := h r k v hm
def ptrd (r k : Nat) : Bool := ppl.any (fun p => Nat.beq p.1 r && Nat.beq p.2.1 k)
def ptrc (r : Nat) : Bool := ppl.any (fun p => Nat.beq p.1 r)
theorem ptrd_t {r k v : Nat} (h : (r, k, v) ∈ ppl) : ptrd r k = true := List.any_eq_true.mpr ⟨_, h, by simp⟩
theorem ptrc_t {r k v : Nat} (h : (r, k, v) ∈ ppl) : ptrc r = true := List.any_eq_true.mpr ⟨_, h, by simp⟩
theorem CPtr.up {D : Nat → Nat → Int} (h : CPtr D) {r k : Nat} (hr : ptrd r k = false) (x : Int) : CPtr (aup D r k x) := by
  intro r' k' v hm
  have := ptrd_t hm
  by_cases e : r' = r
  · subst e
    rw [aup_self]
    by_cases e2 : k' = k
    · subst e2; rw [hr] at this; cases this
    · rw [if_neg e2]; exact h r' k' v hm
  · rw [aup_ne e]; exact h r' k' v hm
theorem CPtr.congr {D D' : Nat → Nat → Int} (h : CPtr D) (hd : ∀ r k, ptrd r k = true → D' r k = D r k) : CPtr D' := fun r k v hm => (hd r k (ptrd_t hm)).trans (h r k v hm)
theorem CPtr.setc {D : Nat → Nat → Int} (h : CPtr D) {r : Nat} (hr : ptrc r = false) (f : Nat → Int) : CPtr (setc D r f) := by
  intro r' k' v hm
  have := ptrc_t hm
  rw [setc_ne (fun e => by rw [e, hr] at this; cases this)]
  exact h r' k' v hm
def isT (t : Nat) : Prop := t = 9 ∨ t = 31
def scl : List Nat := [53, 58] ++ (List.range 33).map (fun i => 91 + 5 * i)
def isS (c : Nat) : Prop := c ∈ scl
theorem isS_lt {c : Nat} (h : isS c) : 53 ≤ c ∧ c ≤ 251 := by
  have : ∀ c ∈ scl, 53 ≤ c ∧ c ≤ 251 := by decide
  exact this c h
theorem isS_p {c : Nat} (h : isS c) : (c, 1, c + 1) ∈ ppl ∧ (c, 2, c + 2) ∈ ppl ∧ (c, 3, c + 3) ∈ ppl ∧ (c, 4, c + 4) ∈ ppl := by
  have : ∀ c ∈ scl, (c, 1, c + 1) ∈ ppl ∧ (c, 2, c + 2) ∈ ppl ∧ (c, 3, c + 3) ∈ ppl ∧ (c, 4, c + 4) ∈ ppl := by decide
  exact this c h
theorem isS_t {c : Nat} (h : isS c) : KT c = (6, 9) ∧ KT (c + 1) = (100, 7) ∧ KT (c + 2) = (101, 10) ∧ KT (c + 3) = (100, 10) ∧ KT (c + 4) = (100, 24) := by
  have : ∀ c ∈ scl, KT c = (6, 9) ∧ KT (c + 1) = (100, 7) ∧ KT (c + 2) = (101, 10) ∧ KT (c + 3) = (100, 10) ∧ KT (c + 4) = (100, 24) := by decide
  exact this c h
set_option maxRecDepth 100000 in
theorem isS_c {c : Nat} (h : isS c) : ptrc (c + 1) = false ∧ ptrc (c + 2) = false ∧ ptrc (c + 3) = false ∧ ptrc (c + 4) = false ∧ ptrd c 0 = false ∧ ptrd c 5 = false ∧ ptrd c 6 = false ∧ ptrd c 7 = false ∧ ptrd c 8 = false := by
  have : ∀ c ∈ scl, ptrc (c + 1) = false ∧ ptrc (c + 2) = false ∧ ptrc (c + 3) = false ∧ ptrc (c + 4) = false ∧ ptrd c 0 = false ∧ ptrd c 5 = false ∧ ptrd c 6 = false ∧ ptrd c 7 = false ∧ ptrd c 8 = false := by decide
  exact this c h
theorem is53 : isS 53 := by show 53 ∈ scl; decide
theorem is58 : isS 58 := by show 58 ∈ scl; decide
theorem isP {i : Nat} (h : i < 30) : isS (91 + 5 * i) := by
  have : ∀ i, i < 30 → 91 + 5 * i ∈ scl := by decide
  exact this i h
theorem isH {i : Nat} (h : i < 3) : isS (241 + 5 * i) := by
  have : ∀ i, i < 3 → 241 + 5 * i ∈ scl := by decide
  exact this i h
theorem pc_past {D : Nat → Nat → Int} (hc : CPtr D) {i : Nat} (h : i < 30) : D 63 i = ((91 + 5 * i : Nat) : Int) := by
  have : ∀ i, i < 30 → (63, i, 91 + 5 * i) ∈ ppl := by decide
  exact hc _ _ _ (this i h)
theorem pc_slot {D : Nat → Nat → Int} (hc : CPtr D) {i : Nat} (h : i < 3) : D 64 i = ((241 + 5 * i : Nat) : Int) := by
  have : ∀ i, i < 3 → (64, i, 241 + 5 * i) ∈ ppl := by decide
  exact hc _ _ _ (this i h)
theorem pc_0_0 {D : Nat → Nat → Int} (hc : CPtr D) : D 0 0 = ((1 : Nat) : Int) := hc.at 0 0 1 (by decide)
theorem pc_0_3 {D : Nat → Nat → Int} (hc : CPtr D) : D 0 3 = ((2 : Nat) : Int) := hc.at 0 3 2 (by decide)
theorem pc_0_4 {D : Nat → Nat → Int} (hc : CPtr D) : D 0 4 = ((8 : Nat) : Int) := hc.at 0 4 8 (by decide)
theorem pc_0_7 {D : Nat → Nat → Int} (hc : CPtr D) : D 0 7 = ((53 : Nat) : Int) := hc.at 0 7 53 (by decide)
theorem pc_0_8 {D : Nat → Nat → Int} (hc : CPtr D) : D 0 8 = ((58 : Nat) : Int) := hc.at 0 8 58 (by decide)
theorem pc_0_9 {D : Nat → Nat → Int} (hc : CPtr D) : D 0 9 = ((63 : Nat) : Int) := hc.at 0 9 63 (by decide)
theorem pc_0_12 {D : Nat → Nat → Int} (hc : CPtr D) : D 0 12 = ((64 : Nat) : Int) := hc.at 0 12 64 (by decide)
theorem pc_0_14 {D : Nat → Nat → Int} (hc : CPtr D) : D 0 14 = ((65 : Nat) : Int) := hc.at 0 14 65 (by decide)
theorem pc_0_15 {D : Nat → Nat → Int} (hc : CPtr D) : D 0 15 = ((68 : Nat) : Int) := hc.at 0 15 68 (by decide)
theorem pc_0_16 {D : Nat → Nat → Int} (hc : CPtr D) : D 0 16 = ((72 : Nat) : Int) := hc.at 0 16 72 (by decide)
theorem pc_0_17 {D : Nat → Nat → Int} (hc : CPtr D) : D 0 17 = ((77 : Nat) : Int) := hc.at 0 17 77 (by decide)
theorem pc_0_18 {D : Nat → Nat → Int} (hc : CPtr D) : D 0 18 = ((89 : Nat) : Int) := hc.at 0 18 89 (by decide)
theorem pc_0_19 {D : Nat → Nat → Int} (hc : CPtr D) : D 0 19 = ((90 : Nat) : Int) := hc.at 0 19 90 (by decide)
theorem pc_2_1 {D : Nat → Nat → Int} (hc : CPtr D) : D 2 1 = ((3 : Nat) : Int) := hc.at 2 1 3 (by decide)
theorem pc_2_2 {D : Nat → Nat → Int} (hc : CPtr D) : D 2 2 = ((4 : Nat) : Int) := hc.at 2 2 4 (by decide)
theorem pc_2_3 {D : Nat → Nat → Int} (hc : CPtr D) : D 2 3 = ((5 : Nat) : Int) := hc.at 2 3 5 (by decide)
theorem pc_2_6 {D : Nat → Nat → Int} (hc : CPtr D) : D 2 6 = ((6 : Nat) : Int) := hc.at 2 6 6 (by decide)
theorem pc_2_8 {D : Nat → Nat → Int} (hc : CPtr D) : D 2 8 = ((7 : Nat) : Int) := hc.at 2 8 7 (by decide)
theorem pc_8_2 {D : Nat → Nat → Int} (hc : CPtr D) : D 8 2 = ((2 : Nat) : Int) := hc.at 8 2 2 (by decide)
theorem pc_65_1 {D : Nat → Nat → Int} (hc : CPtr D) : D 65 1 = ((66 : Nat) : Int) := hc.at 65 1 66 (by decide)
theorem pc_65_2 {D : Nat → Nat → Int} (hc : CPtr D) : D 65 2 = ((67 : Nat) : Int) := hc.at 65 2 67 (by decide)
theorem pc_68_1 {D : Nat → Nat → Int} (hc : CPtr D) : D 68 1 = ((69 : Nat) : Int) := hc.at 68 1 69 (by decide)
theorem pc_72_3 {D : Nat → Nat → Int} (hc : CPtr D) : D 72 3 = ((73 : Nat) : Int) := hc.at 72 3 73 (by decide)
theorem pc_72_4 {D : Nat → Nat → Int} (hc : CPtr D) : D 72 4 = ((74 : Nat) : Int) := hc.at 72 4 74 (by decide)
theorem pc_72_5 {D : Nat → Nat → Int} (hc : CPtr D) : D 72 5 = ((75 : Nat) : Int) := hc.at 72 5 75 (by decide)
theorem pc_72_6 {D : Nat → Nat → Int} (hc : CPtr D) : D 72 6 = ((76 : Nat) : Int) := hc.at 72 6 76 (by decide)
theorem pc_77_1 {D : Nat → Nat → Int} (hc : CPtr D) : D 77 1 = ((78 : Nat) : Int) := hc.at 77 1 78 (by decide)
theorem pc_77_2 {D : Nat → Nat → Int} (hc : CPtr D) : D 77 2 = ((79 : Nat) : Int) := hc.at 77 2 79 (by decide)
theorem pc_77_3 {D : Nat → Nat → Int} (hc : CPtr D) : D 77 3 = ((80 : Nat) : Int) := hc.at 77 3 80 (by decide)
theorem pc_77_4 {D : Nat → Nat → Int} (hc : CPtr D) : D 77 4 = ((81 : Nat) : Int) := hc.at 77 4 81 (by decide)
theorem pc_77_5 {D : Nat → Nat → Int} (hc : CPtr D) : D 77 5 = ((82 : Nat) : Int) := hc.at 77 5 82 (by decide)
theorem pc_77_6 {D : Nat → Nat → Int} (hc : CPtr D) : D 77 6 = ((83 : Nat) : Int) := hc.at 77 6 83 (by decide)
theorem kc_0 {κ : aK} (hκ : Shp κ) : aok κ ((0 : Nat) : Int) 11 = true := shp_k hκ 0 (n := 20) (by decide) rfl
theorem kc_1 {κ : aK} (hκ : Shp κ) : aok κ ((1 : Nat) : Int) 102 = true := shp_k hκ 1 (n := 2000) (by decide) rfl
theorem nc_1 {κ : aK} (hκ : Shp κ) {i : Int} (h0 : 0 ≤ i) (h1 : i.toNat < 2000) : ain κ ((1 : Nat) : Int) 102 i = true := shp_n hκ 1 (n := 2000) (by decide) rfl h0 h1
theorem kc_2 {κ : aK} (hκ : Shp κ) : aok κ ((2 : Nat) : Int) 4 = true := shp_k hκ 2 (n := 9) (by decide) rfl
theorem kc_3 {κ : aK} (hκ : Shp κ) : aok κ ((3 : Nat) : Int) 100 = true := shp_k hκ 3 (n := 402) (by decide) rfl
theorem nc_3 {κ : aK} (hκ : Shp κ) {i : Int} (h0 : 0 ≤ i) (h1 : i.toNat < 402) : ain κ ((3 : Nat) : Int) 100 i = true := shp_n hκ 3 (n := 402) (by decide) rfl h0 h1
theorem kc_4 {κ : aK} (hκ : Shp κ) : aok κ ((4 : Nat) : Int) 100 = true := shp_k hκ 4 (n := 402) (by decide) rfl
theorem nc_4 {κ : aK} (hκ : Shp κ) {i : Int} (h0 : 0 ≤ i) (h1 : i.toNat < 402) : ain κ ((4 : Nat) : Int) 100 i = true := shp_n hκ 4 (n := 402) (by decide) rfl h0 h1
theorem kc_5 {κ : aK} (hκ : Shp κ) : aok κ ((5 : Nat) : Int) 101 = true := shp_k hκ 5 (n := 402) (by decide) rfl
theorem nc_5 {κ : aK} (hκ : Shp κ) {i : Int} (h0 : 0 ≤ i) (h1 : i.toNat < 402) : ain κ ((5 : Nat) : Int) 101 i = true := shp_n hκ 5 (n := 402) (by decide) rfl h0 h1
theorem kc_6 {κ : aK} (hκ : Shp κ) : aok κ ((6 : Nat) : Int) 101 = true := shp_k hκ 6 (n := 24) (by decide) rfl
theorem nc_6 {κ : aK} (hκ : Shp κ) {i : Int} (h0 : 0 ≤ i) (h1 : i.toNat < 24) : ain κ ((6 : Nat) : Int) 101 i = true := shp_n hκ 6 (n := 24) (by decide) rfl h0 h1
theorem kc_7 {κ : aK} (hκ : Shp κ) : aok κ ((7 : Nat) : Int) 100 = true := shp_k hκ 7 (n := 24) (by decide) rfl
theorem nc_7 {κ : aK} (hκ : Shp κ) {i : Int} (h0 : 0 ≤ i) (h1 : i.toNat < 24) : ain κ ((7 : Nat) : Int) 100 i = true := shp_n hκ 7 (n := 24) (by decide) rfl h0 h1
theorem kc_8 {κ : aK} (hκ : Shp κ) : aok κ ((8 : Nat) : Int) 8 = true := shp_k hκ 8 (n := 4) (by decide) rfl
theorem kc_63 {κ : aK} (hκ : Shp κ) : aok κ ((63 : Nat) : Int) 104 = true := shp_k hκ 63 (n := 30) (by decide) rfl
theorem nc_63 {κ : aK} (hκ : Shp κ) {i : Int} (h0 : 0 ≤ i) (h1 : i.toNat < 30) : ain κ ((63 : Nat) : Int) 104 i = true := shp_n hκ 63 (n := 30) (by decide) rfl h0 h1
theorem kc_64 {κ : aK} (hκ : Shp κ) : aok κ ((64 : Nat) : Int) 104 = true := shp_k hκ 64 (n := 3) (by decide) rfl
theorem nc_64 {κ : aK} (hκ : Shp κ) {i : Int} (h0 : 0 ≤ i) (h1 : i.toNat < 3) : ain κ ((64 : Nat) : Int) 104 i = true := shp_n hκ 64 (n := 3) (by decide) rfl h0 h1
theorem kc_65 {κ : aK} (hκ : Shp κ) : aok κ ((65 : Nat) : Int) 10 = true := shp_k hκ 65 (n := 3) (by decide) rfl
theorem kc_66 {κ : aK} (hκ : Shp κ) : aok κ ((66 : Nat) : Int) 100 = true := shp_k hκ 66 (n := 280) (by decide) rfl
theorem nc_66 {κ : aK} (hκ : Shp κ) {i : Int} (h0 : 0 ≤ i) (h1 : i.toNat < 280) : ain κ ((66 : Nat) : Int) 100 i = true := shp_n hκ 66 (n := 280) (by decide) rfl h0 h1
theorem kc_67 {κ : aK} (hκ : Shp κ) : aok κ ((67 : Nat) : Int) 100 = true := shp_k hκ 67 (n := 24) (by decide) rfl
theorem nc_67 {κ : aK} (hκ : Shp κ) {i : Int} (h0 : 0 ≤ i) (h1 : i.toNat < 24) : ain κ ((67 : Nat) : Int) 100 i = true := shp_n hκ 67 (n := 24) (by decide) rfl h0 h1
theorem kc_68 {κ : aK} (hκ : Shp κ) : aok κ ((68 : Nat) : Int) 1 = true := shp_k hκ 68 (n := 7) (by decide) rfl
theorem kc_69 {κ : aK} (hκ : Shp κ) : aok κ ((69 : Nat) : Int) 100 = true := shp_k hκ 69 (n := 39) (by decide) rfl
theorem nc_69 {κ : aK} (hκ : Shp κ) {i : Int} (h0 : 0 ≤ i) (h1 : i.toNat < 39) : ain κ ((69 : Nat) : Int) 100 i = true := shp_n hκ 69 (n := 39) (by decide) rfl h0 h1
theorem kc_70 {κ : aK} (hκ : Shp κ) : aok κ ((70 : Nat) : Int) 101 = true := shp_k hκ 70 (n := 0) (by decide) rfl
theorem nc_70 {κ : aK} (hκ : Shp κ) {i : Int} (h0 : 0 ≤ i) (h1 : i.toNat < 0) : ain κ ((70 : Nat) : Int) 101 i = true := shp_n hκ 70 (n := 0) (by decide) rfl h0 h1
theorem kc_71 {κ : aK} (hκ : Shp κ) : aok κ ((71 : Nat) : Int) 100 = true := shp_k hκ 71 (n := 0) (by decide) rfl
theorem nc_71 {κ : aK} (hκ : Shp κ) {i : Int} (h0 : 0 ≤ i) (h1 : i.toNat < 0) : ain κ ((71 : Nat) : Int) 100 i = true := shp_n hκ 71 (n := 0) (by decide) rfl h0 h1
theorem kc_72 {κ : aK} (hκ : Shp κ) : aok κ ((72 : Nat) : Int) 5 = true := shp_k hκ 72 (n := 7) (by decide) rfl
theorem kc_73 {κ : aK} (hκ : Shp κ) : aok κ ((73 : Nat) : Int) 101 = true := shp_k hκ 73 (n := 1024) (by decide) rfl
theorem nc_73 {κ : aK} (hκ : Shp κ) {i : Int} (h0 : 0 ≤ i) (h1 : i.toNat < 1024) : ain κ ((73 : Nat) : Int) 101 i = true := shp_n hκ 73 (n := 1024) (by decide) rfl h0 h1
theorem kc_74 {κ : aK} (hκ : Shp κ) : aok κ ((74 : Nat) : Int) 100 = true := shp_k hκ 74 (n := 128) (by decide) rfl
theorem nc_74 {κ : aK} (hκ : Shp κ) {i : Int} (h0 : 0 ≤ i) (h1 : i.toNat < 128) : ain κ ((74 : Nat) : Int) 100 i = true := shp_n hκ 74 (n := 128) (by decide) rfl h0 h1
theorem kc_75 {κ : aK} (hκ : Shp κ) : aok κ ((75 : Nat) : Int) 100 = true := shp_k hκ 75 (n := 128) (by decide) rfl
theorem nc_75 {κ : aK} (hκ : Shp κ) {i : Int} (h0 : 0 ≤ i) (h1 : i.toNat < 128) : ain κ ((75 : Nat) : Int) 100 i = true := shp_n hκ 75 (n := 128) (by decide) rfl h0 h1
theorem kc_76 {κ : aK} (hκ : Shp κ) : aok κ ((76 : Nat) : Int) 101 = true := shp_k hκ 76 (n := 128) (by decide) rfl
theorem nc_76 {κ : aK} (hκ : Shp κ) {i : Int} (h0 : 0 ≤ i) (h1 : i.toNat < 128) : ain κ ((76 : Nat) : Int) 101 i = true := shp_n hκ 76 (n := 128) (by decide) rfl h0 h1
theorem kc_77 {κ : aK} (hκ : Shp κ) : aok κ ((77 : Nat) : Int) 2 = true := shp_k hκ 77 (n := 13) (by decide) rfl
theorem kc_78 {κ : aK} (hκ : Shp κ) : aok κ ((78 : Nat) : Int) 100 = true := shp_k hκ 78 (n := 9) (by decide) rfl
theorem nc_78 {κ : aK} (hκ : Shp κ) {i : Int} (h0 : 0 ≤ i) (h1 : i.toNat < 9) : ain κ ((78 : Nat) : Int) 100 i = true := shp_n hκ 78 (n := 9) (by decide) rfl h0 h1
theorem kc_79 {κ : aK} (hκ : Shp κ) : aok κ ((79 : Nat) : Int) 100 = true := shp_k hκ 79 (n := 9) (by decide) rfl
theorem nc_79 {κ : aK} (hκ : Shp κ) {i : Int} (h0 : 0 ≤ i) (h1 : i.toNat < 9) : ain κ ((79 : Nat) : Int) 100 i = true := shp_n hκ 79 (n := 9) (by decide) rfl h0 h1
theorem kc_80 {κ : aK} (hκ : Shp κ) : aok κ ((80 : Nat) : Int) 100 = true := shp_k hκ 80 (n := 9) (by decide) rfl
theorem nc_80 {κ : aK} (hκ : Shp κ) {i : Int} (h0 : 0 ≤ i) (h1 : i.toNat < 9) : ain κ ((80 : Nat) : Int) 100 i = true := shp_n hκ 80 (n := 9) (by decide) rfl h0 h1
theorem kc_81 {κ : aK} (hκ : Shp κ) : aok κ ((81 : Nat) : Int) 100 = true := shp_k hκ 81 (n := 128) (by decide) rfl
theorem nc_81 {κ : aK} (hκ : Shp κ) {i : Int} (h0 : 0 ≤ i) (h1 : i.toNat < 128) : ain κ ((81 : Nat) : Int) 100 i = true := shp_n hκ 81 (n := 128) (by decide) rfl h0 h1
theorem kc_82 {κ : aK} (hκ : Shp κ) : aok κ ((82 : Nat) : Int) 100 = true := shp_k hκ 82 (n := 7) (by decide) rfl
theorem nc_82 {κ : aK} (hκ : Shp κ) {i : Int} (h0 : 0 ≤ i) (h1 : i.toNat < 7) : ain κ ((82 : Nat) : Int) 100 i = true := shp_n hκ 82 (n := 7) (by decide) rfl h0 h1
theorem kc_83 {κ : aK} (hκ : Shp κ) : aok κ ((83 : Nat) : Int) 101 = true := shp_k hκ 83 (n := 8) (by decide) rfl
theorem nc_83 {κ : aK} (hκ : Shp κ) {i : Int} (h0 : 0 ≤ i) (h1 : i.toNat < 8) : ain κ ((83 : Nat) : Int) 101 i = true := shp_n hκ 83 (n := 8) (by decide) rfl h0 h1
theorem kc_84 {κ : aK} (hκ : Shp κ) : aok κ ((84 : Nat) : Int) 100 = true := shp_k hκ 84 (n := 64) (by decide) rfl
theorem nc_84 {κ : aK} (hκ : Shp κ) {i : Int} (h0 : 0 ≤ i) (h1 : i.toNat < 64) : ain κ ((84 : Nat) : Int) 100 i = true := shp_n hκ 84 (n := 64) (by decide) rfl h0 h1
theorem kc_85 {κ : aK} (hκ : Shp κ) : aok κ ((85 : Nat) : Int) 100 = true := shp_k hκ 85 (n := 64) (by decide) rfl
theorem nc_85 {κ : aK} (hκ : Shp κ) {i : Int} (h0 : 0 ≤ i) (h1 : i.toNat < 64) : ain κ ((85 : Nat) : Int) 100 i = true := shp_n hκ 85 (n := 64) (by decide) rfl h0 h1
theorem kc_86 {κ : aK} (hκ : Shp κ) : aok κ ((86 : Nat) : Int) 100 = true := shp_k hκ 86 (n := 64) (by decide) rfl
theorem nc_86 {κ : aK} (hκ : Shp κ) {i : Int} (h0 : 0 ≤ i) (h1 : i.toNat < 64) : ain κ ((86 : Nat) : Int) 100 i = true := shp_n hκ 86 (n := 64) (by decide) rfl h0 h1
theorem kc_87 {κ : aK} (hκ : Shp κ) : aok κ ((87 : Nat) : Int) 100 = true := shp_k hκ 87 (n := 64) (by decide) rfl
theorem nc_87 {κ : aK} (hκ : Shp κ) {i : Int} (h0 : 0 ≤ i) (h1 : i.toNat < 64) : ain κ ((87 : Nat) : Int) 100 i = true := shp_n hκ 87 (n := 64) (by decide) rfl h0 h1
theorem kc_88 {κ : aK} (hκ : Shp κ) : aok κ ((88 : Nat) : Int) 101 = true := shp_k hκ 88 (n := 512) (by decide) rfl
theorem nc_88 {κ : aK} (hκ : Shp κ) {i : Int} (h0 : 0 ≤ i) (h1 : i.toNat < 512) : ain κ ((88 : Nat) : Int) 101 i = true := shp_n hκ 88 (n := 512) (by decide) rfl h0 h1
theorem kc_89 {κ : aK} (hκ : Shp κ) : aok κ ((89 : Nat) : Int) 100 = true := shp_k hκ 89 (n := 4) (by decide) rfl
theorem nc_89 {κ : aK} (hκ : Shp κ) {i : Int} (h0 : 0 ≤ i) (h1 : i.toNat < 4) : ain κ ((89 : Nat) : Int) 100 i = true := shp_n hκ 89 (n := 4) (by decide) rfl h0 h1
theorem kc_90 {κ : aK} (hκ : Shp κ) : aok κ ((90 : Nat) : Int) 100 = true := shp_k hκ 90 (n := 9) (by decide) rfl
theorem nc_90 {κ : aK} (hκ : Shp κ) {i : Int} (h0 : 0 ≤ i) (h1 : i.toNat < 9) : ain κ ((90 : Nat) : Int) 100 i = true := shp_n hκ 90 (n := 9) (by decide) rfl h0 h1
theorem tp_0_1 {D : Nat → Nat → Int} (hc : CPtr D) {t : Nat} (ht : isT t) : D t 1 = ((t + 1 : Nat) : Int) := by
  rcases ht with rfl | rfl
  · exact hc.at 9 1 10 (by decide)
  · exact hc.at 31 1 32 (by decide)
theorem tp_0_2 {D : Nat → Nat → Int} (hc : CPtr D) {t : Nat} (ht : isT t) : D t 2 = ((t + 2 : Nat) : Int) := by
  rcases ht with rfl | rfl
  · exact hc.at 9 2 11 (by decide)
  · exact hc.at 31 2 33 (by decide)
theorem tp_0_3 {D : Nat → Nat → Int} (hc : CPtr D) {t : Nat} (ht : isT t) : D t 3 = ((t + 3 : Nat) : Int) := by
  rcases ht with rfl | rfl
  · exact hc.at 9 3 12 (by decide)
  · exact hc.at 31 3 34 (by decide)
theorem tp_0_4 {D : Nat → Nat → Int} (hc : CPtr D) {t : Nat} (ht : isT t) : D t 4 = ((t + 8 : Nat) : Int) := by
  rcases ht with rfl | rfl
  · exact hc.at 9 4 17 (by decide)
  · exact hc.at 31 4 39 (by decide)
theorem tp_0_6 {D : Nat → Nat → Int} (hc : CPtr D) {t : Nat} (ht : isT t) : D t 6 = ((t + 12 : Nat) : Int) := by
  rcases ht with rfl | rfl
  · exact hc.at 9 6 21 (by decide)
  · exact hc.at 31 6 43 (by decide)
theorem tp_0_8 {D : Nat → Nat → Int} (hc : CPtr D) {t : Nat} (ht : isT t) : D t 8 = ((t + 13 : Nat) : Int) := by
  rcases ht with rfl | rfl
  · exact hc.at 9 8 22 (by decide)
  · exact hc.at 31 8 44 (by decide)
theorem tp_0_9 {D : Nat → Nat → Int} (hc : CPtr D) {t : Nat} (ht : isT t) : D t 9 = ((t + 14 : Nat) : Int) := by
  rcases ht with rfl | rfl
  · exact hc.at 9 9 23 (by decide)
  · exact hc.at 31 9 45 (by decide)
theorem tp_0_10 {D : Nat → Nat → Int} (hc : CPtr D) {t : Nat} (ht : isT t) : D t 10 = ((t + 15 : Nat) : Int) := by
  rcases ht with rfl | rfl
  · exact hc.at 9 10 24 (by decide)
  · exact hc.at 31 10 46 (by decide)
theorem tp_0_12 {D : Nat → Nat → Int} (hc : CPtr D) {t : Nat} (ht : isT t) : D t 12 = ((t + 16 : Nat) : Int) := by
  rcases ht with rfl | rfl
  · exact hc.at 9 12 25 (by decide)
  · exact hc.at 31 12 47 (by decide)
theorem tp_0_13 {D : Nat → Nat → Int} (hc : CPtr D) {t : Nat} (ht : isT t) : D t 13 = ((t + 17 : Nat) : Int) := by
  rcases ht with rfl | rfl
  · exact hc.at 9 13 26 (by decide)
  · exact hc.at 31 13 48 (by decide)
theorem tp_0_14 {D : Nat → Nat → Int} (hc : CPtr D) {t : Nat} (ht : isT t) : D t 14 = ((t + 18 : Nat) : Int) := by
  rcases ht with rfl | rfl
  · exact hc.at 9 14 27 (by decide)
  · exact hc.at 31 14 49 (by decide)
theorem tp_3_1 {D : Nat → Nat → Int} (hc : CPtr D) {t : Nat} (ht : isT t) : D (t + 3) 1 = ((t + 4 : Nat) : Int) := by
  rcases ht with rfl | rfl
  · exact hc.at 12 1 13 (by decide)
  · exact hc.at 34 1 35 (by decide)
theorem tp_3_2 {D : Nat → Nat → Int} (hc : CPtr D) {t : Nat} (ht : isT t) : D (t + 3) 2 = ((t + 5 : Nat) : Int) := by
  rcases ht with rfl | rfl
  · exact hc.at 12 2 14 (by decide)
  · exact hc.at 34 2 36 (by decide)
theorem tp_3_3 {D : Nat → Nat → Int} (hc : CPtr D) {t : Nat} (ht : isT t) : D (t + 3) 3 = ((t + 6 : Nat) : Int) := by
  rcases ht with rfl | rfl
  · exact hc.at 12 3 15 (by decide)
  · exact hc.at 34 3 37 (by decide)
theorem tp_3_4 {D : Nat → Nat → Int} (hc : CPtr D) {t : Nat} (ht : isT t) : D (t + 3) 4 = ((t + 7 : Nat) : Int) := by
  rcases ht with rfl | rfl
  · exact hc.at 12 4 16 (by decide)
  · exact hc.at 34 4 38 (by decide)
theorem tp_8_0 {D : Nat → Nat → Int} (hc : CPtr D) {t : Nat} (ht : isT t) : D (t + 8) 0 = ((t + 9 : Nat) : Int) := by
  rcases ht with rfl | rfl
  · exact hc.at 17 0 18 (by decide)
  · exact hc.at 39 0 40 (by decide)
theorem tp_8_1 {D : Nat → Nat → Int} (hc : CPtr D) {t : Nat} (ht : isT t) : D (t + 8) 1 = ((t + 10 : Nat) : Int) := by
  rcases ht with rfl | rfl
  · exact hc.at 17 1 19 (by decide)
  · exact hc.at 39 1 41 (by decide)
theorem tp_8_2 {D : Nat → Nat → Int} (hc : CPtr D) {t : Nat} (ht : isT t) : D (t + 8) 2 = ((t + 11 : Nat) : Int) := by
  rcases ht with rfl | rfl
  · exact hc.at 17 2 20 (by decide)
  · exact hc.at 39 2 42 (by decide)
theorem tp_18_0 {D : Nat → Nat → Int} (hc : CPtr D) {t : Nat} (ht : isT t) : D (t + 18) 0 = ((t + 19 : Nat) : Int) := by
  rcases ht with rfl | rfl
  · exact hc.at 27 0 28 (by decide)
  · exact hc.at 49 0 50 (by decide)
theorem tp_18_2 {D : Nat → Nat → Int} (hc : CPtr D) {t : Nat} (ht : isT t) : D (t + 18) 2 = ((t + 20 : Nat) : Int) := by
  rcases ht with rfl | rfl
  · exact hc.at 27 2 29 (by decide)
  · exact hc.at 49 2 51 (by decide)
theorem tp_18_3 {D : Nat → Nat → Int} (hc : CPtr D) {t : Nat} (ht : isT t) : D (t + 18) 3 = ((t + 21 : Nat) : Int) := by
  rcases ht with rfl | rfl
  · exact hc.at 27 3 30 (by decide)
  · exact hc.at 49 3 52 (by decide)
theorem tk_0 {κ : aK} (hκ : Shp κ) {t : Nat} (ht : isT t) : aok κ ((t : Nat) : Int) 9 = true := by
  rcases ht with rfl | rfl
  · exact shp_k hκ 9 (n := 16) (by decide) rfl
  · exact shp_k hκ 31 (n := 16) (by decide) rfl
theorem tk_1 {κ : aK} (hκ : Shp κ) {t : Nat} (ht : isT t) : aok κ ((t + 1 : Nat) : Int) 101 = true := by
  rcases ht with rfl | rfl
  · exact shp_k hκ 10 (n := 6) (by decide) rfl
  · exact shp_k hκ 32 (n := 6) (by decide) rfl
theorem tn_1 {κ : aK} (hκ : Shp κ) {t : Nat} (ht : isT t) {i : Int} (h0 : 0 ≤ i) (h1 : i.toNat < 6) : ain κ ((t + 1 : Nat) : Int) 101 i = true := by
  rcases ht with rfl | rfl
  · exact shp_n hκ 10 (n := 6) (by decide) rfl h0 h1
  · exact shp_n hκ 32 (n := 6) (by decide) rfl h0 h1
theorem tk_2 {κ : aK} (hκ : Shp κ) {t : Nat} (ht : isT t) : aok κ ((t + 2 : Nat) : Int) 100 = true := by
  rcases ht with rfl | rfl
  · exact shp_k hκ 11 (n := 6) (by decide) rfl
  · exact shp_k hκ 33 (n := 6) (by decide) rfl
theorem tn_2 {κ : aK} (hκ : Shp κ) {t : Nat} (ht : isT t) {i : Int} (h0 : 0 ≤ i) (h1 : i.toNat < 6) : ain κ ((t + 2 : Nat) : Int) 100 i = true := by
  rcases ht with rfl | rfl
  · exact shp_n hκ 11 (n := 6) (by decide) rfl h0 h1
  · exact shp_n hκ 33 (n := 6) (by decide) rfl h0 h1
theorem tk_3 {κ : aK} (hκ : Shp κ) {t : Nat} (ht : isT t) : aok κ ((t + 3 : Nat) : Int) 7 = true := by
  rcases ht with rfl | rfl
  · exact shp_k hκ 12 (n := 5) (by decide) rfl
  · exact shp_k hκ 34 (n := 5) (by decide) rfl
theorem tk_4 {κ : aK} (hκ : Shp κ) {t : Nat} (ht : isT t) : aok κ ((t + 4 : Nat) : Int) 100 = true := by
  rcases ht with rfl | rfl
  · exact shp_k hκ 13 (n := 7) (by decide) rfl
  · exact shp_k hκ 35 (n := 7) (by decide) rfl
theorem tn_4 {κ : aK} (hκ : Shp κ) {t : Nat} (ht : isT t) {i : Int} (h0 : 0 ≤ i) (h1 : i.toNat < 7) : ain κ ((t + 4 : Nat) : Int) 100 i = true := by
  rcases ht with rfl | rfl
  · exact shp_n hκ 13 (n := 7) (by decide) rfl h0 h1
  · exact shp_n hκ 35 (n := 7) (by decide) rfl h0 h1
theorem tk_5 {κ : aK} (hκ : Shp κ) {t : Nat} (ht : isT t) : aok κ ((t + 5 : Nat) : Int) 100 = true := by
  rcases ht with rfl | rfl
  · exact shp_k hκ 14 (n := 7) (by decide) rfl
  · exact shp_k hκ 36 (n := 7) (by decide) rfl
theorem tn_5 {κ : aK} (hκ : Shp κ) {t : Nat} (ht : isT t) {i : Int} (h0 : 0 ≤ i) (h1 : i.toNat < 7) : ain κ ((t + 5 : Nat) : Int) 100 i = true := by
  rcases ht with rfl | rfl
  · exact shp_n hκ 14 (n := 7) (by decide) rfl h0 h1
  · exact shp_n hκ 36 (n := 7) (by decide) rfl h0 h1
theorem tk_6 {κ : aK} (hκ : Shp κ) {t : Nat} (ht : isT t) : aok κ ((t + 6 : Nat) : Int) 100 = true := by
  rcases ht with rfl | rfl
  · exact shp_k hκ 15 (n := 7) (by decide) rfl
  · exact shp_k hκ 37 (n := 7) (by decide) rfl
theorem tn_6 {κ : aK} (hκ : Shp κ) {t : Nat} (ht : isT t) {i : Int} (h0 : 0 ≤ i) (h1 : i.toNat < 7) : ain κ ((t + 6 : Nat) : Int) 100 i = true := by
  rcases ht with rfl | rfl
  · exact shp_n hκ 15 (n := 7) (by decide) rfl h0 h1
  · exact shp_n hκ 37 (n := 7) (by decide) rfl h0 h1
theorem tk_7 {κ : aK} (hκ : Shp κ) {t : Nat} (ht : isT t) : aok κ ((t + 7 : Nat) : Int) 100 = true := by
  rcases ht with rfl | rfl
  · exact shp_k hκ 16 (n := 7) (by decide) rfl
  · exact shp_k hκ 38 (n := 7) (by decide) rfl
theorem tn_7 {κ : aK} (hκ : Shp κ) {t : Nat} (ht : isT t) {i : Int} (h0 : 0 ≤ i) (h1 : i.toNat < 7) : ain κ ((t + 7 : Nat) : Int) 100 i = true := by
  rcases ht with rfl | rfl
  · exact shp_n hκ 16 (n := 7) (by decide) rfl h0 h1
  · exact shp_n hκ 38 (n := 7) (by decide) rfl h0 h1
theorem tk_8 {κ : aK} (hκ : Shp κ) {t : Nat} (ht : isT t) : aok κ ((t + 8 : Nat) : Int) 3 = true := by
  rcases ht with rfl | rfl
  · exact shp_k hκ 17 (n := 3) (by decide) rfl
  · exact shp_k hκ 39 (n := 3) (by decide) rfl
theorem tk_9 {κ : aK} (hκ : Shp κ) {t : Nat} (ht : isT t) : aok κ ((t + 9 : Nat) : Int) 100 = true := by
  rcases ht with rfl | rfl
  · exact shp_k hκ 18 (n := 3) (by decide) rfl
  · exact shp_k hκ 40 (n := 3) (by decide) rfl
theorem tn_9 {κ : aK} (hκ : Shp κ) {t : Nat} (ht : isT t) {i : Int} (h0 : 0 ≤ i) (h1 : i.toNat < 3) : ain κ ((t + 9 : Nat) : Int) 100 i = true := by
  rcases ht with rfl | rfl
  · exact shp_n hκ 18 (n := 3) (by decide) rfl h0 h1
  · exact shp_n hκ 40 (n := 3) (by decide) rfl h0 h1
theorem tk_10 {κ : aK} (hκ : Shp κ) {t : Nat} (ht : isT t) : aok κ ((t + 10 : Nat) : Int) 101 = true := by
  rcases ht with rfl | rfl
  · exact shp_k hκ 19 (n := 24) (by decide) rfl
  · exact shp_k hκ 41 (n := 24) (by decide) rfl
theorem tn_10 {κ : aK} (hκ : Shp κ) {t : Nat} (ht : isT t) {i : Int} (h0 : 0 ≤ i) (h1 : i.toNat < 24) : ain κ ((t + 10 : Nat) : Int) 101 i = true := by
  rcases ht with rfl | rfl
  · exact shp_n hκ 19 (n := 24) (by decide) rfl h0 h1
  · exact shp_n hκ 41 (n := 24) (by decide) rfl h0 h1
theorem tk_11 {κ : aK} (hκ : Shp κ) {t : Nat} (ht : isT t) : aok κ ((t + 11 : Nat) : Int) 100 = true := by
  rcases ht with rfl | rfl
  · exact shp_k hκ 20 (n := 24) (by decide) rfl
  · exact shp_k hκ 42 (n := 24) (by decide) rfl
theorem tn_11 {κ : aK} (hκ : Shp κ) {t : Nat} (ht : isT t) {i : Int} (h0 : 0 ≤ i) (h1 : i.toNat < 24) : ain κ ((t + 11 : Nat) : Int) 100 i = true := by
  rcases ht with rfl | rfl
  · exact shp_n hκ 20 (n := 24) (by decide) rfl h0 h1
  · exact shp_n hκ 42 (n := 24) (by decide) rfl h0 h1
theorem tk_12 {κ : aK} (hκ : Shp κ) {t : Nat} (ht : isT t) : aok κ ((t + 12 : Nat) : Int) 101 = true := by
  rcases ht with rfl | rfl
  · exact shp_k hκ 21 (n := 10) (by decide) rfl
  · exact shp_k hκ 43 (n := 10) (by decide) rfl
theorem tn_12 {κ : aK} (hκ : Shp κ) {t : Nat} (ht : isT t) {i : Int} (h0 : 0 ≤ i) (h1 : i.toNat < 10) : ain κ ((t + 12 : Nat) : Int) 101 i = true := by
  rcases ht with rfl | rfl
  · exact shp_n hκ 21 (n := 10) (by decide) rfl h0 h1
  · exact shp_n hκ 43 (n := 10) (by decide) rfl h0 h1
theorem tk_13 {κ : aK} (hκ : Shp κ) {t : Nat} (ht : isT t) : aok κ ((t + 13 : Nat) : Int) 101 = true := by
  rcases ht with rfl | rfl
  · exact shp_k hκ 22 (n := 8) (by decide) rfl
  · exact shp_k hκ 44 (n := 8) (by decide) rfl
theorem tn_13 {κ : aK} (hκ : Shp κ) {t : Nat} (ht : isT t) {i : Int} (h0 : 0 ≤ i) (h1 : i.toNat < 8) : ain κ ((t + 13 : Nat) : Int) 101 i = true := by
  rcases ht with rfl | rfl
  · exact shp_n hκ 22 (n := 8) (by decide) rfl h0 h1
  · exact shp_n hκ 44 (n := 8) (by decide) rfl h0 h1
theorem tk_14 {κ : aK} (hκ : Shp κ) {t : Nat} (ht : isT t) : aok κ ((t + 14 : Nat) : Int) 101 = true := by
  rcases ht with rfl | rfl
  · exact shp_k hκ 23 (n := 8) (by decide) rfl
  · exact shp_k hκ 45 (n := 8) (by decide) rfl
theorem tn_14 {κ : aK} (hκ : Shp κ) {t : Nat} (ht : isT t) {i : Int} (h0 : 0 ≤ i) (h1 : i.toNat < 8) : ain κ ((t + 14 : Nat) : Int) 101 i = true := by
  rcases ht with rfl | rfl
  · exact shp_n hκ 23 (n := 8) (by decide) rfl h0 h1
  · exact shp_n hκ 45 (n := 8) (by decide) rfl h0 h1
theorem tk_15 {κ : aK} (hκ : Shp κ) {t : Nat} (ht : isT t) : aok κ ((t + 15 : Nat) : Int) 101 = true := by
  rcases ht with rfl | rfl
  · exact shp_k hκ 24 (n := 8) (by decide) rfl
  · exact shp_k hκ 46 (n := 8) (by decide) rfl
theorem tn_15 {κ : aK} (hκ : Shp κ) {t : Nat} (ht : isT t) {i : Int} (h0 : 0 ≤ i) (h1 : i.toNat < 8) : ain κ ((t + 15 : Nat) : Int) 101 i = true := by
  rcases ht with rfl | rfl
  · exact shp_n hκ 24 (n := 8) (by decide) rfl h0 h1
  · exact shp_n hκ 46 (n := 8) (by decide) rfl h0 h1
theorem tk_16 {κ : aK} (hκ : Shp κ) {t : Nat} (ht : isT t) : aok κ ((t + 16 : Nat) : Int) 100 = true := by
  rcases ht with rfl | rfl
  · exact shp_k hκ 25 (n := 5) (by decide) rfl
  · exact shp_k hκ 47 (n := 5) (by decide) rfl
theorem tn_16 {κ : aK} (hκ : Shp κ) {t : Nat} (ht : isT t) {i : Int} (h0 : 0 ≤ i) (h1 : i.toNat < 5) : ain κ ((t + 16 : Nat) : Int) 100 i = true := by
  rcases ht with rfl | rfl
  · exact shp_n hκ 25 (n := 5) (by decide) rfl h0 h1
  · exact shp_n hκ 47 (n := 5) (by decide) rfl h0 h1
theorem tk_17 {κ : aK} (hκ : Shp κ) {t : Nat} (ht : isT t) : aok κ ((t + 17 : Nat) : Int) 100 = true := by
  rcases ht with rfl | rfl
  · exact shp_k hκ 26 (n := 120) (by decide) rfl
  · exact shp_k hκ 48 (n := 120) (by decide) rfl
theorem tn_17 {κ : aK} (hκ : Shp κ) {t : Nat} (ht : isT t) {i : Int} (h0 : 0 ≤ i) (h1 : i.toNat < 120) : ain κ ((t + 17 : Nat) : Int) 100 i = true := by
  rcases ht with rfl | rfl
  · exact shp_n hκ 26 (n := 120) (by decide) rfl h0 h1
  · exact shp_n hκ 48 (n := 120) (by decide) rfl h0 h1
theorem tk_18 {κ : aK} (hκ : Shp κ) {t : Nat} (ht : isT t) : aok κ ((t + 18 : Nat) : Int) 0 = true := by
  rcases ht with rfl | rfl
  · exact shp_k hκ 27 (n := 6) (by decide) rfl
  · exact shp_k hκ 49 (n := 6) (by decide) rfl
theorem tk_19 {κ : aK} (hκ : Shp κ) {t : Nat} (ht : isT t) : aok κ ((t + 19 : Nat) : Int) 100 = true := by
  rcases ht with rfl | rfl
  · exact shp_k hκ 28 (n := 6) (by decide) rfl
  · exact shp_k hκ 50 (n := 6) (by decide) rfl
theorem tn_19 {κ : aK} (hκ : Shp κ) {t : Nat} (ht : isT t) {i : Int} (h0 : 0 ≤ i) (h1 : i.toNat < 6) : ain κ ((t + 19 : Nat) : Int) 100 i = true := by
  rcases ht with rfl | rfl
  · exact shp_n hκ 28 (n := 6) (by decide) rfl h0 h1
  · exact shp_n hκ 50 (n := 6) (by decide) rfl h0 h1
theorem tk_20 {κ : aK} (hκ : Shp κ) {t : Nat} (ht : isT t) : aok κ ((t + 20 : Nat) : Int) 100 = true := by
  rcases ht with rfl | rfl
  · exact shp_k hκ 29 (n := 400) (by decide) rfl
  · exact shp_k hκ 51 (n := 400) (by decide) rfl
theorem tn_20 {κ : aK} (hκ : Shp κ) {t : Nat} (ht : isT t) {i : Int} (h0 : 0 ≤ i) (h1 : i.toNat < 400) : ain κ ((t + 20 : Nat) : Int) 100 i = true := by
  rcases ht with rfl | rfl
  · exact shp_n hκ 29 (n := 400) (by decide) rfl h0 h1
  · exact shp_n hκ 51 (n := 400) (by decide) rfl h0 h1
theorem tk_21 {κ : aK} (hκ : Shp κ) {t : Nat} (ht : isT t) : aok κ ((t + 21 : Nat) : Int) 100 = true := by
  rcases ht with rfl | rfl
  · exact shp_k hκ 30 (n := 400) (by decide) rfl
  · exact shp_k hκ 52 (n := 400) (by decide) rfl
theorem tn_21 {κ : aK} (hκ : Shp κ) {t : Nat} (ht : isT t) {i : Int} (h0 : 0 ≤ i) (h1 : i.toNat < 400) : ain κ ((t + 21 : Nat) : Int) 100 i = true := by
  rcases ht with rfl | rfl
  · exact shp_n hκ 30 (n := 400) (by decide) rfl h0 h1
  · exact shp_n hκ 52 (n := 400) (by decide) rfl h0 h1
theorem sk_0 {κ : aK} (hκ : Shp κ) {c : Nat} (hs : isS c) : aok κ ((c : Nat) : Int) 6 = true := shp_k hκ (c) (n := 9) (by have := isS_lt hs; omega) (isS_t hs).1
theorem sp_1 {D : Nat → Nat → Int} (hc : CPtr D) {c : Nat} (hs : isS c) : D c 1 = ((c + 1 : Nat) : Int) := hc.at c 1 (c + 1) (isS_p hs).1
theorem sk_1 {κ : aK} (hκ : Shp κ) {c : Nat} (hs : isS c) : aok κ ((c + 1 : Nat) : Int) 100 = true := shp_k hκ (c + 1) (n := 7) (by have := isS_lt hs; omega) (isS_t hs).2.1
theorem sn_1 {κ : aK} (hκ : Shp κ) {c : Nat} (hs : isS c) {i : Int} (h0 : 0 ≤ i) (h1 : i.toNat < 7) : ain κ ((c + 1 : Nat) : Int) 100 i = true := shp_n hκ (c + 1) (n := 7) (by have := isS_lt hs; omega) (isS_t hs).2.1 h0 h1
theorem sp_2 {D : Nat → Nat → Int} (hc : CPtr D) {c : Nat} (hs : isS c) : D c 2 = ((c + 2 : Nat) : Int) := hc.at c 2 (c + 2) (isS_p hs).2.1
theorem sk_2 {κ : aK} (hκ : Shp κ) {c : Nat} (hs : isS c) : aok κ ((c + 2 : Nat) : Int) 101 = true := shp_k hκ (c + 2) (n := 10) (by have := isS_lt hs; omega) (isS_t hs).2.2.1
theorem sn_2 {κ : aK} (hκ : Shp κ) {c : Nat} (hs : isS c) {i : Int} (h0 : 0 ≤ i) (h1 : i.toNat < 10) : ain κ ((c + 2 : Nat) : Int) 101 i = true := shp_n hκ (c + 2) (n := 10) (by have := isS_lt hs; omega) (isS_t hs).2.2.1 h0 h1
theorem sp_3 {D : Nat → Nat → Int} (hc : CPtr D) {c : Nat} (hs : isS c) : D c 3 = ((c + 3 : Nat) : Int) := hc.at c 3 (c + 3) (isS_p hs).2.2.1
theorem sk_3 {κ : aK} (hκ : Shp κ) {c : Nat} (hs : isS c) : aok κ ((c + 3 : Nat) : Int) 100 = true := shp_k hκ (c + 3) (n := 10) (by have := isS_lt hs; omega) (isS_t hs).2.2.2.1
theorem sn_3 {κ : aK} (hκ : Shp κ) {c : Nat} (hs : isS c) {i : Int} (h0 : 0 ≤ i) (h1 : i.toNat < 10) : ain κ ((c + 3 : Nat) : Int) 100 i = true := shp_n hκ (c + 3) (n := 10) (by have := isS_lt hs; omega) (isS_t hs).2.2.2.1 h0 h1
theorem sp_4 {D : Nat → Nat → Int} (hc : CPtr D) {c : Nat} (hs : isS c) : D c 4 = ((c + 4 : Nat) : Int) := hc.at c 4 (c + 4) (isS_p hs).2.2.2
theorem sk_4 {κ : aK} (hκ : Shp κ) {c : Nat} (hs : isS c) : aok κ ((c + 4 : Nat) : Int) 100 = true := shp_k hκ (c + 4) (n := 24) (by have := isS_lt hs; omega) (isS_t hs).2.2.2.2
theorem sn_4 {κ : aK} (hκ : Shp κ) {c : Nat} (hs : isS c) {i : Int} (h0 : 0 ≤ i) (h1 : i.toNat < 24) : ain κ ((c + 4 : Nat) : Int) 100 i = true := shp_n hκ (c + 4) (n := 24) (by have := isS_lt hs; omega) (isS_t hs).2.2.2.2 h0 h1
