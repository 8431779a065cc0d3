/-! The cells as the two constructors lay them. -/
def KTl : List (Nat × Nat) := [(11, 20), (102, 2000), (4, 9), (100, 402), (100, 402), (101, 402), (101, 24), (100, 24), (8, 4), (9, 16), (101, 6), (100, 6), (7, 5), (100, 7), (100, 7), (100, 7), (100, 7), (3, 3), (100, 3), (101, 24), (100, 24), (101, 10), (101, 8), (101, 8), (101, 8), (100, 5), (100, 120), (0, 6), (100, 6), (100, 400), (100, 400), (9, 16), (101, 6), (100, 6), (7, 5), (100, 7), (100, 7), (100, 7), (100, 7), (3, 3), (100, 3), (101, 24), (100, 24), (101, 10), (101, 8), (101, 8), (101, 8), (100, 5), (100, 120), (0, 6), (100, 6), (100, 400), (100, 400), (6, 9), (100, 7), (101, 10), (100, 10), (100, 24), (6, 9), (100, 7), (101, 10), (100, 10), (100, 24), (104, 30), (104, 3), (10, 3), (100, 280), (100, 24), (1, 7), (100, 39), (101, 0), (100, 0), (5, 7), (101, 1024), (100, 128), (100, 128), (101, 128), (2, 13), (100, 9), (100, 9), (100, 9), (100, 128), (100, 7), (101, 8), (100, 64), (100, 64), (100, 64), (100, 64), (101, 512), (100, 4), (100, 9), (6, 9), (100, 7), (101, 10), (100, 10), (100, 24), (6, 9), (100, 7), (101, 10), (100, 10), (100, 24), (6, 9), (100, 7), (101, 10), (100, 10), (100, 24), (6, 9), (100, 7), (101, 10), (100, 10), (100, 24), (6, 9), (100, 7), (101, 10), (100, 10), (100, 24), (6, 9), (100, 7), (101, 10), (100, 10), (100, 24), (6, 9), (100, 7), (101, 10), (100, 10), (100, 24), (6, 9), (100, 7), (101, 10), (100, 10), (100, 24), (6, 9), (100, 7), (101, 10), (100, 10), (100, 24), (6, 9), (100, 7), (101, 10), (100, 10), (100, 24), (6, 9), (100, 7), (101, 10), (100, 10), (100, 24), (6, 9), (100, 7), (101, 10), (100, 10), (100, 24), (6, 9), (100, 7), (101, 10), (100, 10), (100, 24), (6, 9), (100, 7), (101, 10), (100, 10), (100, 24), (6, 9), (100, 7), (101, 10), (100, 10), (100, 24), (6, 9), (100, 7), (101, 10), (100, 10), (100, 24), (6, 9), (100, 7), (101, 10), (100, 10), (100, 24), (6, 9), (100, 7), (101, 10), (100, 10), (100, 24), (6, 9), (100, 7), (101, 10), (100, 10), (100, 24), (6, 9), (100, 7), (101, 10), (100, 10), (100, 24), (6, 9), (100, 7), (101, 10), (100, 10), (100, 24), (6, 9), (100, 7), (101, 10), (100, 10), (100, 24), (6, 9), (100, 7), (101, 10), (100, 10), (100, 24), (6, 9), (100, 7), (101, 10), (100, 10), (100, 24), (6, 9), (100, 7), (101, 10), (100, 10), (100, 24), (6, 9), (100, 7), (101, 10), (100, 10), (100, 24), (6, 9), (100, 7), (101, 10), (100, 10), (100, 24), (6, 9), (100, 7), (101, 10), (100, 10), (100, 24), (6, 9), (100, 7), (101, 10), (100, 10), (100, 24), (6, 9), (100, 7), (101, 10), (100, 10), (100, 24), (6, 9), (100, 7), (101, 10), (100, 10), (100, 24), (6, 9), (100, 7), (101, 10), (100, 10), (100, 24), (6, 9), (100, 7), (101, 10), (100, 10), (100, 24), (12, 85), (102, 2000), (102, 2000), (100, 403), (100, 403), (100, 403), (101, 403), (101, 24), (100, 2), (101, 12), (100, 12), (100, 2), (100, 14), (100, 14), (100, 14), (100, 14), (100, 14), (100, 14), (100, 6), (101, 48), (100, 48), (100, 2), (101, 20), (100, 2), (101, 16), (101, 16), (101, 16), (100, 2), (100, 10), (100, 10), (100, 40), (100, 40), (100, 2), (100, 2), (100, 2), (103, 260), (100, 260), (100, 260), (100, 260), (100, 260), (100, 840), (100, 840), (100, 64), (100, 6), (100, 400), (101, 60), (101, 60), (100, 10), (101, 1800), (101, 1800), (100, 1800), (100, 7), (100, 7), (100, 7), (101, 128), (100, 81), (100, 24), (103, 3), (101, 180)]
def KT (r : Nat) : Nat × Nat := KTl.getD r (0, 0)
def Shp (κ : aK) : Prop := ∀ r, r < 315 → r < κ.1 ∧ κ.2.2 r = KT r
theorem shp_k {κ : aK} (hκ : Shp κ) (r : Nat) {c n : Nat} (hr : r < 315) (hk : KT r = (c, n)) : aok κ ((r : Nat) : Int) c = true := aok_t r rfl (hκ r hr).1 ((hκ r hr).2.trans hk)
theorem shp_n {κ : aK} (hκ : Shp κ) (r : Nat) {c n : Nat} {i : Int} (hr : r < 315) (hk : KT r = (c, n)) (h0 : 0 ≤ i) (h1 : i.toNat < n) : ain κ ((r : Nat) : Int) c i = true := ain_t r i.toNat rfl (by omega) (hκ r hr).1 ((hκ r hr).2.trans hk) h1
theorem k_0 {κ : aK} (hκ : Shp κ) : aok κ 0 11 = true := shp_k hκ 0 (n := 20) (by decide) rfl
theorem k_1 {κ : aK} (hκ : Shp κ) : aok κ 1 102 = true := shp_k hκ 1 (n := 2000) (by decide) rfl
theorem n_1 {κ : aK} (hκ : Shp κ) {i : Int} (h0 : 0 ≤ i) (h1 : i.toNat < 2000) : ain κ 1 102 i = true := shp_n hκ 1 (n := 2000) (by decide) rfl h0 h1
theorem k_2 {κ : aK} (hκ : Shp κ) : aok κ 2 4 = true := shp_k hκ 2 (n := 9) (by decide) rfl
theorem k_3 {κ : aK} (hκ : Shp κ) : aok κ 3 100 = true := shp_k hκ 3 (n := 402) (by decide) rfl
theorem n_3 {κ : aK} (hκ : Shp κ) {i : Int} (h0 : 0 ≤ i) (h1 : i.toNat < 402) : ain κ 3 100 i = true := shp_n hκ 3 (n := 402) (by decide) rfl h0 h1
theorem k_4 {κ : aK} (hκ : Shp κ) : aok κ 4 100 = true := shp_k hκ 4 (n := 402) (by decide) rfl
theorem n_4 {κ : aK} (hκ : Shp κ) {i : Int} (h0 : 0 ≤ i) (h1 : i.toNat < 402) : ain κ 4 100 i = true := shp_n hκ 4 (n := 402) (by decide) rfl h0 h1
theorem k_5 {κ : aK} (hκ : Shp κ) : aok κ 5 101 = true := shp_k hκ 5 (n := 402) (by decide) rfl
theorem n_5 {κ : aK} (hκ : Shp κ) {i : Int} (h0 : 0 ≤ i) (h1 : i.toNat < 402) : ain κ 5 101 i = true := shp_n hκ 5 (n := 402) (by decide) rfl h0 h1
theorem k_6 {κ : aK} (hκ : Shp κ) : aok κ 6 101 = true := shp_k hκ 6 (n := 24) (by decide) rfl
theorem n_6 {κ : aK} (hκ : Shp κ) {i : Int} (h0 : 0 ≤ i) (h1 : i.toNat < 24) : ain κ 6 101 i = true := shp_n hκ 6 (n := 24) (by decide) rfl h0 h1
theorem k_7 {κ : aK} (hκ : Shp κ) : aok κ 7 100 = true := shp_k hκ 7 (n := 24) (by decide) rfl
theorem n_7 {κ : aK} (hκ : Shp κ) {i : Int} (h0 : 0 ≤ i) (h1 : i.toNat < 24) : ain κ 7 100 i = true := shp_n hκ 7 (n := 24) (by decide) rfl h0 h1
theorem k_8 {κ : aK} (hκ : Shp κ) : aok κ 8 8 = true := shp_k hκ 8 (n := 4) (by decide) rfl
theorem k_9 {κ : aK} (hκ : Shp κ) : aok κ 9 9 = true := shp_k hκ 9 (n := 16) (by decide) rfl
theorem k_10 {κ : aK} (hκ : Shp κ) : aok κ 10 101 = true := shp_k hκ 10 (n := 6) (by decide) rfl
theorem n_10 {κ : aK} (hκ : Shp κ) {i : Int} (h0 : 0 ≤ i) (h1 : i.toNat < 6) : ain κ 10 101 i = true := shp_n hκ 10 (n := 6) (by decide) rfl h0 h1
theorem k_11 {κ : aK} (hκ : Shp κ) : aok κ 11 100 = true := shp_k hκ 11 (n := 6) (by decide) rfl
theorem n_11 {κ : aK} (hκ : Shp κ) {i : Int} (h0 : 0 ≤ i) (h1 : i.toNat < 6) : ain κ 11 100 i = true := shp_n hκ 11 (n := 6) (by decide) rfl h0 h1
theorem k_12 {κ : aK} (hκ : Shp κ) : aok κ 12 7 = true := shp_k hκ 12 (n := 5) (by decide) rfl
theorem k_13 {κ : aK} (hκ : Shp κ) : aok κ 13 100 = true := shp_k hκ 13 (n := 7) (by decide) rfl
theorem n_13 {κ : aK} (hκ : Shp κ) {i : Int} (h0 : 0 ≤ i) (h1 : i.toNat < 7) : ain κ 13 100 i = true := shp_n hκ 13 (n := 7) (by decide) rfl h0 h1
theorem k_14 {κ : aK} (hκ : Shp κ) : aok κ 14 100 = true := shp_k hκ 14 (n := 7) (by decide) rfl
theorem n_14 {κ : aK} (hκ : Shp κ) {i : Int} (h0 : 0 ≤ i) (h1 : i.toNat < 7) : ain κ 14 100 i = true := shp_n hκ 14 (n := 7) (by decide) rfl h0 h1
theorem k_15 {κ : aK} (hκ : Shp κ) : aok κ 15 100 = true := shp_k hκ 15 (n := 7) (by decide) rfl
theorem n_15 {κ : aK} (hκ : Shp κ) {i : Int} (h0 : 0 ≤ i) (h1 : i.toNat < 7) : ain κ 15 100 i = true := shp_n hκ 15 (n := 7) (by decide) rfl h0 h1
theorem k_16 {κ : aK} (hκ : Shp κ) : aok κ 16 100 = true := shp_k hκ 16 (n := 7) (by decide) rfl
theorem n_16 {κ : aK} (hκ : Shp κ) {i : Int} (h0 : 0 ≤ i) (h1 : i.toNat < 7) : ain κ 16 100 i = true := shp_n hκ 16 (n := 7) (by decide) rfl h0 h1
theorem k_17 {κ : aK} (hκ : Shp κ) : aok κ 17 3 = true := shp_k hκ 17 (n := 3) (by decide) rfl
theorem k_18 {κ : aK} (hκ : Shp κ) : aok κ 18 100 = true := shp_k hκ 18 (n := 3) (by decide) rfl
theorem n_18 {κ : aK} (hκ : Shp κ) {i : Int} (h0 : 0 ≤ i) (h1 : i.toNat < 3) : ain κ 18 100 i = true := shp_n hκ 18 (n := 3) (by decide) rfl h0 h1
theorem k_19 {κ : aK} (hκ : Shp κ) : aok κ 19 101 = true := shp_k hκ 19 (n := 24) (by decide) rfl
theorem n_19 {κ : aK} (hκ : Shp κ) {i : Int} (h0 : 0 ≤ i) (h1 : i.toNat < 24) : ain κ 19 101 i = true := shp_n hκ 19 (n := 24) (by decide) rfl h0 h1
theorem k_20 {κ : aK} (hκ : Shp κ) : aok κ 20 100 = true := shp_k hκ 20 (n := 24) (by decide) rfl
theorem n_20 {κ : aK} (hκ : Shp κ) {i : Int} (h0 : 0 ≤ i) (h1 : i.toNat < 24) : ain κ 20 100 i = true := shp_n hκ 20 (n := 24) (by decide) rfl h0 h1
theorem k_21 {κ : aK} (hκ : Shp κ) : aok κ 21 101 = true := shp_k hκ 21 (n := 10) (by decide) rfl
theorem n_21 {κ : aK} (hκ : Shp κ) {i : Int} (h0 : 0 ≤ i) (h1 : i.toNat < 10) : ain κ 21 101 i = true := shp_n hκ 21 (n := 10) (by decide) rfl h0 h1
theorem k_22 {κ : aK} (hκ : Shp κ) : aok κ 22 101 = true := shp_k hκ 22 (n := 8) (by decide) rfl
theorem n_22 {κ : aK} (hκ : Shp κ) {i : Int} (h0 : 0 ≤ i) (h1 : i.toNat < 8) : ain κ 22 101 i = true := shp_n hκ 22 (n := 8) (by decide) rfl h0 h1
theorem k_23 {κ : aK} (hκ : Shp κ) : aok κ 23 101 = true := shp_k hκ 23 (n := 8) (by decide) rfl
theorem n_23 {κ : aK} (hκ : Shp κ) {i : Int} (h0 : 0 ≤ i) (h1 : i.toNat < 8) : ain κ 23 101 i = true := shp_n hκ 23 (n := 8) (by decide) rfl h0 h1
theorem k_24 {κ : aK} (hκ : Shp κ) : aok κ 24 101 = true := shp_k hκ 24 (n := 8) (by decide) rfl
theorem n_24 {κ : aK} (hκ : Shp κ) {i : Int} (h0 : 0 ≤ i) (h1 : i.toNat < 8) : ain κ 24 101 i = true := shp_n hκ 24 (n := 8) (by decide) rfl h0 h1
theorem k_25 {κ : aK} (hκ : Shp κ) : aok κ 25 100 = true := shp_k hκ 25 (n := 5) (by decide) rfl
theorem n_25 {κ : aK} (hκ : Shp κ) {i : Int} (h0 : 0 ≤ i) (h1 : i.toNat < 5) : ain κ 25 100 i = true := shp_n hκ 25 (n := 5) (by decide) rfl h0 h1
theorem k_26 {κ : aK} (hκ : Shp κ) : aok κ 26 100 = true := shp_k hκ 26 (n := 120) (by decide) rfl
theorem n_26 {κ : aK} (hκ : Shp κ) {i : Int} (h0 : 0 ≤ i) (h1 : i.toNat < 120) : ain κ 26 100 i = true := shp_n hκ 26 (n := 120) (by decide) rfl h0 h1
theorem k_27 {κ : aK} (hκ : Shp κ) : aok κ 27 0 = true := shp_k hκ 27 (n := 6) (by decide) rfl
theorem k_28 {κ : aK} (hκ : Shp κ) : aok κ 28 100 = true := shp_k hκ 28 (n := 6) (by decide) rfl
theorem n_28 {κ : aK} (hκ : Shp κ) {i : Int} (h0 : 0 ≤ i) (h1 : i.toNat < 6) : ain κ 28 100 i = true := shp_n hκ 28 (n := 6) (by decide) rfl h0 h1
theorem k_29 {κ : aK} (hκ : Shp κ) : aok κ 29 100 = true := shp_k hκ 29 (n := 400) (by decide) rfl
theorem n_29 {κ : aK} (hκ : Shp κ) {i : Int} (h0 : 0 ≤ i) (h1 : i.toNat < 400) : ain κ 29 100 i = true := shp_n hκ 29 (n := 400) (by decide) rfl h0 h1
theorem k_30 {κ : aK} (hκ : Shp κ) : aok κ 30 100 = true := shp_k hκ 30 (n := 400) (by decide) rfl
theorem n_30 {κ : aK} (hκ : Shp κ) {i : Int} (h0 : 0 ≤ i) (h1 : i.toNat < 400) : ain κ 30 100 i = true := shp_n hκ 30 (n := 400) (by decide) rfl h0 h1
theorem k_31 {κ : aK} (hκ : Shp κ) : aok κ 31 9 = true := shp_k hκ 31 (n := 16) (by decide) rfl
theorem k_32 {κ : aK} (hκ : Shp κ) : aok κ 32 101 = true := shp_k hκ 32 (n := 6) (by decide) rfl
theorem n_32 {κ : aK} (hκ : Shp κ) {i : Int} (h0 : 0 ≤ i) (h1 : i.toNat < 6) : ain κ 32 101 i = true := shp_n hκ 32 (n := 6) (by decide) rfl h0 h1
theorem k_33 {κ : aK} (hκ : Shp κ) : aok κ 33 100 = true := shp_k hκ 33 (n := 6) (by decide) rfl
theorem n_33 {κ : aK} (hκ : Shp κ) {i : Int} (h0 : 0 ≤ i) (h1 : i.toNat < 6) : ain κ 33 100 i = true := shp_n hκ 33 (n := 6) (by decide) rfl h0 h1
theorem k_34 {κ : aK} (hκ : Shp κ) : aok κ 34 7 = true := shp_k hκ 34 (n := 5) (by decide) rfl
theorem k_35 {κ : aK} (hκ : Shp κ) : aok κ 35 100 = true := shp_k hκ 35 (n := 7) (by decide) rfl
theorem n_35 {κ : aK} (hκ : Shp κ) {i : Int} (h0 : 0 ≤ i) (h1 : i.toNat < 7) : ain κ 35 100 i = true := shp_n hκ 35 (n := 7) (by decide) rfl h0 h1
theorem k_36 {κ : aK} (hκ : Shp κ) : aok κ 36 100 = true := shp_k hκ 36 (n := 7) (by decide) rfl
theorem n_36 {κ : aK} (hκ : Shp κ) {i : Int} (h0 : 0 ≤ i) (h1 : i.toNat < 7) : ain κ 36 100 i = true := shp_n hκ 36 (n := 7) (by decide) rfl h0 h1
theorem k_37 {κ : aK} (hκ : Shp κ) : aok κ 37 100 = true := shp_k hκ 37 (n := 7) (by decide) rfl
theorem n_37 {κ : aK} (hκ : Shp κ) {i : Int} (h0 : 0 ≤ i) (h1 : i.toNat < 7) : ain κ 37 100 i = true := shp_n hκ 37 (n := 7) (by decide) rfl h0 h1
theorem k_38 {κ : aK} (hκ : Shp κ) : aok κ 38 100 = true := shp_k hκ 38 (n := 7) (by decide) rfl
theorem n_38 {κ : aK} (hκ : Shp κ) {i : Int} (h0 : 0 ≤ i) (h1 : i.toNat < 7) : ain κ 38 100 i = true := shp_n hκ 38 (n := 7) (by decide) rfl h0 h1
theorem k_39 {κ : aK} (hκ : Shp κ) : aok κ 39 3 = true := shp_k hκ 39 (n := 3) (by decide) rfl
theorem k_40 {κ : aK} (hκ : Shp κ) : aok κ 40 100 = true := shp_k hκ 40 (n := 3) (by decide) rfl
theorem n_40 {κ : aK} (hκ : Shp κ) {i : Int} (h0 : 0 ≤ i) (h1 : i.toNat < 3) : ain κ 40 100 i = true := shp_n hκ 40 (n := 3) (by decide) rfl h0 h1
theorem k_41 {κ : aK} (hκ : Shp κ) : aok κ 41 101 = true := shp_k hκ 41 (n := 24) (by decide) rfl
theorem n_41 {κ : aK} (hκ : Shp κ) {i : Int} (h0 : 0 ≤ i) (h1 : i.toNat < 24) : ain κ 41 101 i = true := shp_n hκ 41 (n := 24) (by decide) rfl h0 h1
theorem k_42 {κ : aK} (hκ : Shp κ) : aok κ 42 100 = true := shp_k hκ 42 (n := 24) (by decide) rfl
theorem n_42 {κ : aK} (hκ : Shp κ) {i : Int} (h0 : 0 ≤ i) (h1 : i.toNat < 24) : ain κ 42 100 i = true := shp_n hκ 42 (n := 24) (by decide) rfl h0 h1
theorem k_43 {κ : aK} (hκ : Shp κ) : aok κ 43 101 = true := shp_k hκ 43 (n := 10) (by decide) rfl
theorem n_43 {κ : aK} (hκ : Shp κ) {i : Int} (h0 : 0 ≤ i) (h1 : i.toNat < 10) : ain κ 43 101 i = true := shp_n hκ 43 (n := 10) (by decide) rfl h0 h1
theorem k_44 {κ : aK} (hκ : Shp κ) : aok κ 44 101 = true := shp_k hκ 44 (n := 8) (by decide) rfl
theorem n_44 {κ : aK} (hκ : Shp κ) {i : Int} (h0 : 0 ≤ i) (h1 : i.toNat < 8) : ain κ 44 101 i = true := shp_n hκ 44 (n := 8) (by decide) rfl h0 h1
theorem k_45 {κ : aK} (hκ : Shp κ) : aok κ 45 101 = true := shp_k hκ 45 (n := 8) (by decide) rfl
theorem n_45 {κ : aK} (hκ : Shp κ) {i : Int} (h0 : 0 ≤ i) (h1 : i.toNat < 8) : ain κ 45 101 i = true := shp_n hκ 45 (n := 8) (by decide) rfl h0 h1
theorem k_46 {κ : aK} (hκ : Shp κ) : aok κ 46 101 = true := shp_k hκ 46 (n := 8) (by decide) rfl
theorem n_46 {κ : aK} (hκ : Shp κ) {i : Int} (h0 : 0 ≤ i) (h1 : i.toNat < 8) : ain κ 46 101 i = true := shp_n hκ 46 (n := 8) (by decide) rfl h0 h1
theorem k_47 {κ : aK} (hκ : Shp κ) : aok κ 47 100 = true := shp_k hκ 47 (n := 5) (by decide) rfl
theorem n_47 {κ : aK} (hκ : Shp κ) {i : Int} (h0 : 0 ≤ i) (h1 : i.toNat < 5) : ain κ 47 100 i = true := shp_n hκ 47 (n := 5) (by decide) rfl h0 h1
theorem k_48 {κ : aK} (hκ : Shp κ) : aok κ 48 100 = true := shp_k hκ 48 (n := 120) (by decide) rfl
theorem n_48 {κ : aK} (hκ : Shp κ) {i : Int} (h0 : 0 ≤ i) (h1 : i.toNat < 120) : ain κ 48 100 i = true := shp_n hκ 48 (n := 120) (by decide) rfl h0 h1
theorem k_49 {κ : aK} (hκ : Shp κ) : aok κ 49 0 = true := shp_k hκ 49 (n := 6) (by decide) rfl
theorem k_50 {κ : aK} (hκ : Shp κ) : aok κ 50 100 = true := shp_k hκ 50 (n := 6) (by decide) rfl
theorem n_50 {κ : aK} (hκ : Shp κ) {i : Int} (h0 : 0 ≤ i) (h1 : i.toNat < 6) : ain κ 50 100 i = true := shp_n hκ 50 (n := 6) (by decide) rfl h0 h1
theorem k_51 {κ : aK} (hκ : Shp κ) : aok κ 51 100 = true := shp_k hκ 51 (n := 400) (by decide) rfl
theorem n_51 {κ : aK} (hκ : Shp κ) {i : Int} (h0 : 0 ≤ i) (h1 : i.toNat < 400) : ain κ 51 100 i = true := shp_n hκ 51 (n := 400) (by decide) rfl h0 h1
theorem k_52 {κ : aK} (hκ : Shp κ) : aok κ 52 100 = true := shp_k hκ 52 (n := 400) (by decide) rfl
theorem n_52 {κ : aK} (hκ : Shp κ) {i : Int} (h0 : 0 ≤ i) (h1 : i.toNat < 400) : ain κ 52 100 i = true := shp_n hκ 52 (n := 400) (by decide) rfl h0 h1
theorem k_53 {κ : aK} (hκ : Shp κ) : aok κ 53 6 = true := shp_k hκ 53 (n := 9) (by decide) rfl
theorem k_54 {κ : aK} (hκ : Shp κ) : aok κ 54 100 = true := shp_k hκ 54 (n := 7) (by decide) rfl
theorem n_54 {κ : aK} (hκ : Shp κ) {i : Int} (h0 : 0 ≤ i) (h1 : i.toNat < 7) : ain κ 54 100 i = true := shp_n hκ 54 (n := 7) (by decide) rfl h0 h1
theorem k_55 {κ : aK} (hκ : Shp κ) : aok κ 55 101 = true := shp_k hκ 55 (n := 10) (by decide) rfl
theorem n_55 {κ : aK} (hκ : Shp κ) {i : Int} (h0 : 0 ≤ i) (h1 : i.toNat < 10) : ain κ 55 101 i = true := shp_n hκ 55 (n := 10) (by decide) rfl h0 h1
theorem k_56 {κ : aK} (hκ : Shp κ) : aok κ 56 100 = true := shp_k hκ 56 (n := 10) (by decide) rfl
theorem n_56 {κ : aK} (hκ : Shp κ) {i : Int} (h0 : 0 ≤ i) (h1 : i.toNat < 10) : ain κ 56 100 i = true := shp_n hκ 56 (n := 10) (by decide) rfl h0 h1
theorem k_57 {κ : aK} (hκ : Shp κ) : aok κ 57 100 = true := shp_k hκ 57 (n := 24) (by decide) rfl
theorem n_57 {κ : aK} (hκ : Shp κ) {i : Int} (h0 : 0 ≤ i) (h1 : i.toNat < 24) : ain κ 57 100 i = true := shp_n hκ 57 (n := 24) (by decide) rfl h0 h1
theorem k_58 {κ : aK} (hκ : Shp κ) : aok κ 58 6 = true := shp_k hκ 58 (n := 9) (by decide) rfl
theorem k_59 {κ : aK} (hκ : Shp κ) : aok κ 59 100 = true := shp_k hκ 59 (n := 7) (by decide) rfl
theorem n_59 {κ : aK} (hκ : Shp κ) {i : Int} (h0 : 0 ≤ i) (h1 : i.toNat < 7) : ain κ 59 100 i = true := shp_n hκ 59 (n := 7) (by decide) rfl h0 h1
theorem k_60 {κ : aK} (hκ : Shp κ) : aok κ 60 101 = true := shp_k hκ 60 (n := 10) (by decide) rfl
theorem n_60 {κ : aK} (hκ : Shp κ) {i : Int} (h0 : 0 ≤ i) (h1 : i.toNat < 10) : ain κ 60 101 i = true := shp_n hκ 60 (n := 10) (by decide) rfl h0 h1
theorem k_61 {κ : aK} (hκ : Shp κ) : aok κ 61 100 = true := shp_k hκ 61 (n := 10) (by decide) rfl
theorem n_61 {κ : aK} (hκ : Shp κ) {i : Int} (h0 : 0 ≤ i) (h1 : i.toNat < 10) : ain κ 61 100 i = true := shp_n hκ 61 (n := 10) (by decide) rfl h0 h1
theorem k_62 {κ : aK} (hκ : Shp κ) : aok κ 62 100 = true := shp_k hκ 62 (n := 24) (by decide) rfl
theorem n_62 {κ : aK} (hκ : Shp κ) {i : Int} (h0 : 0 ≤ i) (h1 : i.toNat < 24) : ain κ 62 100 i = true := shp_n hκ 62 (n := 24) (by decide) rfl h0 h1
theorem k_63 {κ : aK} (hκ : Shp κ) : aok κ 63 104 = true := shp_k hκ 63 (n := 30) (by decide) rfl
theorem n_63 {κ : aK} (hκ : Shp κ) {i : Int} (h0 : 0 ≤ i) (h1 : i.toNat < 30) : ain κ 63 104 i = true := shp_n hκ 63 (n := 30) (by decide) rfl h0 h1
theorem k_64 {κ : aK} (hκ : Shp κ) : aok κ 64 104 = true := shp_k hκ 64 (n := 3) (by decide) rfl
theorem n_64 {κ : aK} (hκ : Shp κ) {i : Int} (h0 : 0 ≤ i) (h1 : i.toNat < 3) : ain κ 64 104 i = true := shp_n hκ 64 (n := 3) (by decide) rfl h0 h1
theorem k_65 {κ : aK} (hκ : Shp κ) : aok κ 65 10 = true := shp_k hκ 65 (n := 3) (by decide) rfl
theorem k_66 {κ : aK} (hκ : Shp κ) : aok κ 66 100 = true := shp_k hκ 66 (n := 280) (by decide) rfl
theorem n_66 {κ : aK} (hκ : Shp κ) {i : Int} (h0 : 0 ≤ i) (h1 : i.toNat < 280) : ain κ 66 100 i = true := shp_n hκ 66 (n := 280) (by decide) rfl h0 h1
theorem k_67 {κ : aK} (hκ : Shp κ) : aok κ 67 100 = true := shp_k hκ 67 (n := 24) (by decide) rfl
theorem n_67 {κ : aK} (hκ : Shp κ) {i : Int} (h0 : 0 ≤ i) (h1 : i.toNat < 24) : ain κ 67 100 i = true := shp_n hκ 67 (n := 24) (by decide) rfl h0 h1
theorem k_68 {κ : aK} (hκ : Shp κ) : aok κ 68 1 = true := shp_k hκ 68 (n := 7) (by decide) rfl
theorem k_69 {κ : aK} (hκ : Shp κ) : aok κ 69 100 = true := shp_k hκ 69 (n := 39) (by decide) rfl
theorem n_69 {κ : aK} (hκ : Shp κ) {i : Int} (h0 : 0 ≤ i) (h1 : i.toNat < 39) : ain κ 69 100 i = true := shp_n hκ 69 (n := 39) (by decide) rfl h0 h1
theorem k_70 {κ : aK} (hκ : Shp κ) : aok κ 70 101 = true := shp_k hκ 70 (n := 0) (by decide) rfl
theorem n_70 {κ : aK} (hκ : Shp κ) {i : Int} (h0 : 0 ≤ i) (h1 : i.toNat < 0) : ain κ 70 101 i = true := shp_n hκ 70 (n := 0) (by decide) rfl h0 h1
theorem k_71 {κ : aK} (hκ : Shp κ) : aok κ 71 100 = true := shp_k hκ 71 (n := 0) (by decide) rfl
theorem n_71 {κ : aK} (hκ : Shp κ) {i : Int} (h0 : 0 ≤ i) (h1 : i.toNat < 0) : ain κ 71 100 i = true := shp_n hκ 71 (n := 0) (by decide) rfl h0 h1
theorem k_72 {κ : aK} (hκ : Shp κ) : aok κ 72 5 = true := shp_k hκ 72 (n := 7) (by decide) rfl
theorem k_73 {κ : aK} (hκ : Shp κ) : aok κ 73 101 = true := shp_k hκ 73 (n := 1024) (by decide) rfl
theorem n_73 {κ : aK} (hκ : Shp κ) {i : Int} (h0 : 0 ≤ i) (h1 : i.toNat < 1024) : ain κ 73 101 i = true := shp_n hκ 73 (n := 1024) (by decide) rfl h0 h1
theorem k_74 {κ : aK} (hκ : Shp κ) : aok κ 74 100 = true := shp_k hκ 74 (n := 128) (by decide) rfl
theorem n_74 {κ : aK} (hκ : Shp κ) {i : Int} (h0 : 0 ≤ i) (h1 : i.toNat < 128) : ain κ 74 100 i = true := shp_n hκ 74 (n := 128) (by decide) rfl h0 h1
theorem k_75 {κ : aK} (hκ : Shp κ) : aok κ 75 100 = true := shp_k hκ 75 (n := 128) (by decide) rfl
theorem n_75 {κ : aK} (hκ : Shp κ) {i : Int} (h0 : 0 ≤ i) (h1 : i.toNat < 128) : ain κ 75 100 i = true := shp_n hκ 75 (n := 128) (by decide) rfl h0 h1
theorem k_76 {κ : aK} (hκ : Shp κ) : aok κ 76 101 = true := shp_k hκ 76 (n := 128) (by decide) rfl
theorem n_76 {κ : aK} (hκ : Shp κ) {i : Int} (h0 : 0 ≤ i) (h1 : i.toNat < 128) : ain κ 76 101 i = true := shp_n hκ 76 (n := 128) (by decide) rfl h0 h1
theorem k_77 {κ : aK} (hκ : Shp κ) : aok κ 77 2 = true := shp_k hκ 77 (n := 13) (by decide) rfl
theorem k_78 {κ : aK} (hκ : Shp κ) : aok κ 78 100 = true := shp_k hκ 78 (n := 9) (by decide) rfl
theorem n_78 {κ : aK} (hκ : Shp κ) {i : Int} (h0 : 0 ≤ i) (h1 : i.toNat < 9) : ain κ 78 100 i = true := shp_n hκ 78 (n := 9) (by decide) rfl h0 h1
theorem k_79 {κ : aK} (hκ : Shp κ) : aok κ 79 100 = true := shp_k hκ 79 (n := 9) (by decide) rfl
theorem n_79 {κ : aK} (hκ : Shp κ) {i : Int} (h0 : 0 ≤ i) (h1 : i.toNat < 9) : ain κ 79 100 i = true := shp_n hκ 79 (n := 9) (by decide) rfl h0 h1
theorem k_80 {κ : aK} (hκ : Shp κ) : aok κ 80 100 = true := shp_k hκ 80 (n := 9) (by decide) rfl
theorem n_80 {κ : aK} (hκ : Shp κ) {i : Int} (h0 : 0 ≤ i) (h1 : i.toNat < 9) : ain κ 80 100 i = true := shp_n hκ 80 (n := 9) (by decide) rfl h0 h1
theorem k_81 {κ : aK} (hκ : Shp κ) : aok κ 81 100 = true := shp_k hκ 81 (n := 128) (by decide) rfl
theorem n_81 {κ : aK} (hκ : Shp κ) {i : Int} (h0 : 0 ≤ i) (h1 : i.toNat < 128) : ain κ 81 100 i = true := shp_n hκ 81 (n := 128) (by decide) rfl h0 h1
theorem k_82 {κ : aK} (hκ : Shp κ) : aok κ 82 100 = true := shp_k hκ 82 (n := 7) (by decide) rfl
theorem n_82 {κ : aK} (hκ : Shp κ) {i : Int} (h0 : 0 ≤ i) (h1 : i.toNat < 7) : ain κ 82 100 i = true := shp_n hκ 82 (n := 7) (by decide) rfl h0 h1
theorem k_83 {κ : aK} (hκ : Shp κ) : aok κ 83 101 = true := shp_k hκ 83 (n := 8) (by decide) rfl
theorem n_83 {κ : aK} (hκ : Shp κ) {i : Int} (h0 : 0 ≤ i) (h1 : i.toNat < 8) : ain κ 83 101 i = true := shp_n hκ 83 (n := 8) (by decide) rfl h0 h1
theorem k_84 {κ : aK} (hκ : Shp κ) : aok κ 84 100 = true := shp_k hκ 84 (n := 64) (by decide) rfl
theorem n_84 {κ : aK} (hκ : Shp κ) {i : Int} (h0 : 0 ≤ i) (h1 : i.toNat < 64) : ain κ 84 100 i = true := shp_n hκ 84 (n := 64) (by decide) rfl h0 h1
theorem k_85 {κ : aK} (hκ : Shp κ) : aok κ 85 100 = true := shp_k hκ 85 (n := 64) (by decide) rfl
theorem n_85 {κ : aK} (hκ : Shp κ) {i : Int} (h0 : 0 ≤ i) (h1 : i.toNat < 64) : ain κ 85 100 i = true := shp_n hκ 85 (n := 64) (by decide) rfl h0 h1
theorem k_86 {κ : aK} (hκ : Shp κ) : aok κ 86 100 = true := shp_k hκ 86 (n := 64) (by decide) rfl
theorem n_86 {κ : aK} (hκ : Shp κ) {i : Int} (h0 : 0 ≤ i) (h1 : i.toNat < 64) : ain κ 86 100 i = true := shp_n hκ 86 (n := 64) (by decide) rfl h0 h1
theorem k_87 {κ : aK} (hκ : Shp κ) : aok κ 87 100 = true := shp_k hκ 87 (n := 64) (by decide) rfl
theorem n_87 {κ : aK} (hκ : Shp κ) {i : Int} (h0 : 0 ≤ i) (h1 : i.toNat < 64) : ain κ 87 100 i = true := shp_n hκ 87 (n := 64) (by decide) rfl h0 h1
theorem k_88 {κ : aK} (hκ : Shp κ) : aok κ 88 101 = true := shp_k hκ 88 (n := 512) (by decide) rfl
theorem n_88 {κ : aK} (hκ : Shp κ) {i : Int} (h0 : 0 ≤ i) (h1 : i.toNat < 512) : ain κ 88 101 i = true := shp_n hκ 88 (n := 512) (by decide) rfl h0 h1
theorem k_89 {κ : aK} (hκ : Shp κ) : aok κ 89 100 = true := shp_k hκ 89 (n := 4) (by decide) rfl
theorem n_89 {κ : aK} (hκ : Shp κ) {i : Int} (h0 : 0 ≤ i) (h1 : i.toNat < 4) : ain κ 89 100 i = true := shp_n hκ 89 (n := 4) (by decide) rfl h0 h1
theorem k_90 {κ : aK} (hκ : Shp κ) : aok κ 90 100 = true := shp_k hκ 90 (n := 9) (by decide) rfl
theorem n_90 {κ : aK} (hκ : Shp κ) {i : Int} (h0 : 0 ≤ i) (h1 : i.toNat < 9) : ain κ 90 100 i = true := shp_n hκ 90 (n := 9) (by decide) rfl h0 h1
theorem k_256 {κ : aK} (hκ : Shp κ) : aok κ 256 12 = true := shp_k hκ 256 (n := 85) (by decide) rfl
theorem k_257 {κ : aK} (hκ : Shp κ) : aok κ 257 102 = true := shp_k hκ 257 (n := 2000) (by decide) rfl
theorem n_257 {κ : aK} (hκ : Shp κ) {i : Int} (h0 : 0 ≤ i) (h1 : i.toNat < 2000) : ain κ 257 102 i = true := shp_n hκ 257 (n := 2000) (by decide) rfl h0 h1
theorem k_258 {κ : aK} (hκ : Shp κ) : aok κ 258 102 = true := shp_k hκ 258 (n := 2000) (by decide) rfl
theorem n_258 {κ : aK} (hκ : Shp κ) {i : Int} (h0 : 0 ≤ i) (h1 : i.toNat < 2000) : ain κ 258 102 i = true := shp_n hκ 258 (n := 2000) (by decide) rfl h0 h1
theorem k_259 {κ : aK} (hκ : Shp κ) : aok κ 259 100 = true := shp_k hκ 259 (n := 403) (by decide) rfl
theorem n_259 {κ : aK} (hκ : Shp κ) {i : Int} (h0 : 0 ≤ i) (h1 : i.toNat < 403) : ain κ 259 100 i = true := shp_n hκ 259 (n := 403) (by decide) rfl h0 h1
theorem k_260 {κ : aK} (hκ : Shp κ) : aok κ 260 100 = true := shp_k hκ 260 (n := 403) (by decide) rfl
theorem n_260 {κ : aK} (hκ : Shp κ) {i : Int} (h0 : 0 ≤ i) (h1 : i.toNat < 403) : ain κ 260 100 i = true := shp_n hκ 260 (n := 403) (by decide) rfl h0 h1
theorem k_261 {κ : aK} (hκ : Shp κ) : aok κ 261 100 = true := shp_k hκ 261 (n := 403) (by decide) rfl
theorem n_261 {κ : aK} (hκ : Shp κ) {i : Int} (h0 : 0 ≤ i) (h1 : i.toNat < 403) : ain κ 261 100 i = true := shp_n hκ 261 (n := 403) (by decide) rfl h0 h1
theorem k_262 {κ : aK} (hκ : Shp κ) : aok κ 262 101 = true := shp_k hκ 262 (n := 403) (by decide) rfl
theorem n_262 {κ : aK} (hκ : Shp κ) {i : Int} (h0 : 0 ≤ i) (h1 : i.toNat < 403) : ain κ 262 101 i = true := shp_n hκ 262 (n := 403) (by decide) rfl h0 h1
theorem k_263 {κ : aK} (hκ : Shp κ) : aok κ 263 101 = true := shp_k hκ 263 (n := 24) (by decide) rfl
theorem n_263 {κ : aK} (hκ : Shp κ) {i : Int} (h0 : 0 ≤ i) (h1 : i.toNat < 24) : ain κ 263 101 i = true := shp_n hκ 263 (n := 24) (by decide) rfl h0 h1
theorem k_264 {κ : aK} (hκ : Shp κ) : aok κ 264 100 = true := shp_k hκ 264 (n := 2) (by decide) rfl
theorem n_264 {κ : aK} (hκ : Shp κ) {i : Int} (h0 : 0 ≤ i) (h1 : i.toNat < 2) : ain κ 264 100 i = true := shp_n hκ 264 (n := 2) (by decide) rfl h0 h1
theorem k_265 {κ : aK} (hκ : Shp κ) : aok κ 265 101 = true := shp_k hκ 265 (n := 12) (by decide) rfl
theorem n_265 {κ : aK} (hκ : Shp κ) {i : Int} (h0 : 0 ≤ i) (h1 : i.toNat < 12) : ain κ 265 101 i = true := shp_n hκ 265 (n := 12) (by decide) rfl h0 h1
theorem k_266 {κ : aK} (hκ : Shp κ) : aok κ 266 100 = true := shp_k hκ 266 (n := 12) (by decide) rfl
theorem n_266 {κ : aK} (hκ : Shp κ) {i : Int} (h0 : 0 ≤ i) (h1 : i.toNat < 12) : ain κ 266 100 i = true := shp_n hκ 266 (n := 12) (by decide) rfl h0 h1
theorem k_267 {κ : aK} (hκ : Shp κ) : aok κ 267 100 = true := shp_k hκ 267 (n := 2) (by decide) rfl
theorem n_267 {κ : aK} (hκ : Shp κ) {i : Int} (h0 : 0 ≤ i) (h1 : i.toNat < 2) : ain κ 267 100 i = true := shp_n hκ 267 (n := 2) (by decide) rfl h0 h1
theorem k_268 {κ : aK} (hκ : Shp κ) : aok κ 268 100 = true := shp_k hκ 268 (n := 14) (by decide) rfl
theorem n_268 {κ : aK} (hκ : Shp κ) {i : Int} (h0 : 0 ≤ i) (h1 : i.toNat < 14) : ain κ 268 100 i = true := shp_n hκ 268 (n := 14) (by decide) rfl h0 h1
theorem k_269 {κ : aK} (hκ : Shp κ) : aok κ 269 100 = true := shp_k hκ 269 (n := 14) (by decide) rfl
theorem n_269 {κ : aK} (hκ : Shp κ) {i : Int} (h0 : 0 ≤ i) (h1 : i.toNat < 14) : ain κ 269 100 i = true := shp_n hκ 269 (n := 14) (by decide) rfl h0 h1
theorem k_270 {κ : aK} (hκ : Shp κ) : aok κ 270 100 = true := shp_k hκ 270 (n := 14) (by decide) rfl
theorem n_270 {κ : aK} (hκ : Shp κ) {i : Int} (h0 : 0 ≤ i) (h1 : i.toNat < 14) : ain κ 270 100 i = true := shp_n hκ 270 (n := 14) (by decide) rfl h0 h1
theorem k_271 {κ : aK} (hκ : Shp κ) : aok κ 271 100 = true := shp_k hκ 271 (n := 14) (by decide) rfl
theorem n_271 {κ : aK} (hκ : Shp κ) {i : Int} (h0 : 0 ≤ i) (h1 : i.toNat < 14) : ain κ 271 100 i = true := shp_n hκ 271 (n := 14) (by decide) rfl h0 h1
theorem k_272 {κ : aK} (hκ : Shp κ) : aok κ 272 100 = true := shp_k hκ 272 (n := 14) (by decide) rfl
theorem n_272 {κ : aK} (hκ : Shp κ) {i : Int} (h0 : 0 ≤ i) (h1 : i.toNat < 14) : ain κ 272 100 i = true := shp_n hκ 272 (n := 14) (by decide) rfl h0 h1
theorem k_273 {κ : aK} (hκ : Shp κ) : aok κ 273 100 = true := shp_k hκ 273 (n := 14) (by decide) rfl
theorem n_273 {κ : aK} (hκ : Shp κ) {i : Int} (h0 : 0 ≤ i) (h1 : i.toNat < 14) : ain κ 273 100 i = true := shp_n hκ 273 (n := 14) (by decide) rfl h0 h1
theorem k_274 {κ : aK} (hκ : Shp κ) : aok κ 274 100 = true := shp_k hκ 274 (n := 6) (by decide) rfl
theorem n_274 {κ : aK} (hκ : Shp κ) {i : Int} (h0 : 0 ≤ i) (h1 : i.toNat < 6) : ain κ 274 100 i = true := shp_n hκ 274 (n := 6) (by decide) rfl h0 h1
theorem k_275 {κ : aK} (hκ : Shp κ) : aok κ 275 101 = true := shp_k hκ 275 (n := 48) (by decide) rfl
theorem n_275 {κ : aK} (hκ : Shp κ) {i : Int} (h0 : 0 ≤ i) (h1 : i.toNat < 48) : ain κ 275 101 i = true := shp_n hκ 275 (n := 48) (by decide) rfl h0 h1
theorem k_276 {κ : aK} (hκ : Shp κ) : aok κ 276 100 = true := shp_k hκ 276 (n := 48) (by decide) rfl
theorem n_276 {κ : aK} (hκ : Shp κ) {i : Int} (h0 : 0 ≤ i) (h1 : i.toNat < 48) : ain κ 276 100 i = true := shp_n hκ 276 (n := 48) (by decide) rfl h0 h1
theorem k_277 {κ : aK} (hκ : Shp κ) : aok κ 277 100 = true := shp_k hκ 277 (n := 2) (by decide) rfl
theorem n_277 {κ : aK} (hκ : Shp κ) {i : Int} (h0 : 0 ≤ i) (h1 : i.toNat < 2) : ain κ 277 100 i = true := shp_n hκ 277 (n := 2) (by decide) rfl h0 h1
theorem k_278 {κ : aK} (hκ : Shp κ) : aok κ 278 101 = true := shp_k hκ 278 (n := 20) (by decide) rfl
theorem n_278 {κ : aK} (hκ : Shp κ) {i : Int} (h0 : 0 ≤ i) (h1 : i.toNat < 20) : ain κ 278 101 i = true := shp_n hκ 278 (n := 20) (by decide) rfl h0 h1
theorem k_279 {κ : aK} (hκ : Shp κ) : aok κ 279 100 = true := shp_k hκ 279 (n := 2) (by decide) rfl
theorem n_279 {κ : aK} (hκ : Shp κ) {i : Int} (h0 : 0 ≤ i) (h1 : i.toNat < 2) : ain κ 279 100 i = true := shp_n hκ 279 (n := 2) (by decide) rfl h0 h1
theorem k_280 {κ : aK} (hκ : Shp κ) : aok κ 280 101 = true := shp_k hκ 280 (n := 16) (by decide) rfl
theorem n_280 {κ : aK} (hκ : Shp κ) {i : Int} (h0 : 0 ≤ i) (h1 : i.toNat < 16) : ain κ 280 101 i = true := shp_n hκ 280 (n := 16) (by decide) rfl h0 h1
theorem k_281 {κ : aK} (hκ : Shp κ) : aok κ 281 101 = true := shp_k hκ 281 (n := 16) (by decide) rfl
theorem n_281 {κ : aK} (hκ : Shp κ) {i : Int} (h0 : 0 ≤ i) (h1 : i.toNat < 16) : ain κ 281 101 i = true := shp_n hκ 281 (n := 16) (by decide) rfl h0 h1
theorem k_282 {κ : aK} (hκ : Shp κ) : aok κ 282 101 = true := shp_k hκ 282 (n := 16) (by decide) rfl
theorem n_282 {κ : aK} (hκ : Shp κ) {i : Int} (h0 : 0 ≤ i) (h1 : i.toNat < 16) : ain κ 282 101 i = true := shp_n hκ 282 (n := 16) (by decide) rfl h0 h1
theorem k_283 {κ : aK} (hκ : Shp κ) : aok κ 283 100 = true := shp_k hκ 283 (n := 2) (by decide) rfl
theorem n_283 {κ : aK} (hκ : Shp κ) {i : Int} (h0 : 0 ≤ i) (h1 : i.toNat < 2) : ain κ 283 100 i = true := shp_n hκ 283 (n := 2) (by decide) rfl h0 h1
theorem k_284 {κ : aK} (hκ : Shp κ) : aok κ 284 100 = true := shp_k hκ 284 (n := 10) (by decide) rfl
theorem n_284 {κ : aK} (hκ : Shp κ) {i : Int} (h0 : 0 ≤ i) (h1 : i.toNat < 10) : ain κ 284 100 i = true := shp_n hκ 284 (n := 10) (by decide) rfl h0 h1
theorem k_285 {κ : aK} (hκ : Shp κ) : aok κ 285 100 = true := shp_k hκ 285 (n := 10) (by decide) rfl
theorem n_285 {κ : aK} (hκ : Shp κ) {i : Int} (h0 : 0 ≤ i) (h1 : i.toNat < 10) : ain κ 285 100 i = true := shp_n hκ 285 (n := 10) (by decide) rfl h0 h1
theorem k_286 {κ : aK} (hκ : Shp κ) : aok κ 286 100 = true := shp_k hκ 286 (n := 40) (by decide) rfl
theorem n_286 {κ : aK} (hκ : Shp κ) {i : Int} (h0 : 0 ≤ i) (h1 : i.toNat < 40) : ain κ 286 100 i = true := shp_n hκ 286 (n := 40) (by decide) rfl h0 h1
theorem k_287 {κ : aK} (hκ : Shp κ) : aok κ 287 100 = true := shp_k hκ 287 (n := 40) (by decide) rfl
theorem n_287 {κ : aK} (hκ : Shp κ) {i : Int} (h0 : 0 ≤ i) (h1 : i.toNat < 40) : ain κ 287 100 i = true := shp_n hκ 287 (n := 40) (by decide) rfl h0 h1
theorem k_288 {κ : aK} (hκ : Shp κ) : aok κ 288 100 = true := shp_k hκ 288 (n := 2) (by decide) rfl
theorem n_288 {κ : aK} (hκ : Shp κ) {i : Int} (h0 : 0 ≤ i) (h1 : i.toNat < 2) : ain κ 288 100 i = true := shp_n hκ 288 (n := 2) (by decide) rfl h0 h1
theorem k_289 {κ : aK} (hκ : Shp κ) : aok κ 289 100 = true := shp_k hκ 289 (n := 2) (by decide) rfl
theorem n_289 {κ : aK} (hκ : Shp κ) {i : Int} (h0 : 0 ≤ i) (h1 : i.toNat < 2) : ain κ 289 100 i = true := shp_n hκ 289 (n := 2) (by decide) rfl h0 h1
theorem k_290 {κ : aK} (hκ : Shp κ) : aok κ 290 100 = true := shp_k hκ 290 (n := 2) (by decide) rfl
theorem n_290 {κ : aK} (hκ : Shp κ) {i : Int} (h0 : 0 ≤ i) (h1 : i.toNat < 2) : ain κ 290 100 i = true := shp_n hκ 290 (n := 2) (by decide) rfl h0 h1
theorem k_291 {κ : aK} (hκ : Shp κ) : aok κ 291 103 = true := shp_k hκ 291 (n := 260) (by decide) rfl
theorem n_291 {κ : aK} (hκ : Shp κ) {i : Int} (h0 : 0 ≤ i) (h1 : i.toNat < 260) : ain κ 291 103 i = true := shp_n hκ 291 (n := 260) (by decide) rfl h0 h1
theorem k_292 {κ : aK} (hκ : Shp κ) : aok κ 292 100 = true := shp_k hκ 292 (n := 260) (by decide) rfl
theorem n_292 {κ : aK} (hκ : Shp κ) {i : Int} (h0 : 0 ≤ i) (h1 : i.toNat < 260) : ain κ 292 100 i = true := shp_n hκ 292 (n := 260) (by decide) rfl h0 h1
theorem k_293 {κ : aK} (hκ : Shp κ) : aok κ 293 100 = true := shp_k hκ 293 (n := 260) (by decide) rfl
theorem n_293 {κ : aK} (hκ : Shp κ) {i : Int} (h0 : 0 ≤ i) (h1 : i.toNat < 260) : ain κ 293 100 i = true := shp_n hκ 293 (n := 260) (by decide) rfl h0 h1
theorem k_294 {κ : aK} (hκ : Shp κ) : aok κ 294 100 = true := shp_k hκ 294 (n := 260) (by decide) rfl
theorem n_294 {κ : aK} (hκ : Shp κ) {i : Int} (h0 : 0 ≤ i) (h1 : i.toNat < 260) : ain κ 294 100 i = true := shp_n hκ 294 (n := 260) (by decide) rfl h0 h1
theorem k_295 {κ : aK} (hκ : Shp κ) : aok κ 295 100 = true := shp_k hκ 295 (n := 260) (by decide) rfl
theorem n_295 {κ : aK} (hκ : Shp κ) {i : Int} (h0 : 0 ≤ i) (h1 : i.toNat < 260) : ain κ 295 100 i = true := shp_n hκ 295 (n := 260) (by decide) rfl h0 h1
theorem k_296 {κ : aK} (hκ : Shp κ) : aok κ 296 100 = true := shp_k hκ 296 (n := 840) (by decide) rfl
theorem n_296 {κ : aK} (hκ : Shp κ) {i : Int} (h0 : 0 ≤ i) (h1 : i.toNat < 840) : ain κ 296 100 i = true := shp_n hκ 296 (n := 840) (by decide) rfl h0 h1
theorem k_297 {κ : aK} (hκ : Shp κ) : aok κ 297 100 = true := shp_k hκ 297 (n := 840) (by decide) rfl
theorem n_297 {κ : aK} (hκ : Shp κ) {i : Int} (h0 : 0 ≤ i) (h1 : i.toNat < 840) : ain κ 297 100 i = true := shp_n hκ 297 (n := 840) (by decide) rfl h0 h1
theorem k_298 {κ : aK} (hκ : Shp κ) : aok κ 298 100 = true := shp_k hκ 298 (n := 64) (by decide) rfl
theorem n_298 {κ : aK} (hκ : Shp κ) {i : Int} (h0 : 0 ≤ i) (h1 : i.toNat < 64) : ain κ 298 100 i = true := shp_n hκ 298 (n := 64) (by decide) rfl h0 h1
theorem k_299 {κ : aK} (hκ : Shp κ) : aok κ 299 100 = true := shp_k hκ 299 (n := 6) (by decide) rfl
theorem n_299 {κ : aK} (hκ : Shp κ) {i : Int} (h0 : 0 ≤ i) (h1 : i.toNat < 6) : ain κ 299 100 i = true := shp_n hκ 299 (n := 6) (by decide) rfl h0 h1
theorem k_300 {κ : aK} (hκ : Shp κ) : aok κ 300 100 = true := shp_k hκ 300 (n := 400) (by decide) rfl
theorem n_300 {κ : aK} (hκ : Shp κ) {i : Int} (h0 : 0 ≤ i) (h1 : i.toNat < 400) : ain κ 300 100 i = true := shp_n hκ 300 (n := 400) (by decide) rfl h0 h1
theorem k_301 {κ : aK} (hκ : Shp κ) : aok κ 301 101 = true := shp_k hκ 301 (n := 60) (by decide) rfl
theorem n_301 {κ : aK} (hκ : Shp κ) {i : Int} (h0 : 0 ≤ i) (h1 : i.toNat < 60) : ain κ 301 101 i = true := shp_n hκ 301 (n := 60) (by decide) rfl h0 h1
theorem k_302 {κ : aK} (hκ : Shp κ) : aok κ 302 101 = true := shp_k hκ 302 (n := 60) (by decide) rfl
theorem n_302 {κ : aK} (hκ : Shp κ) {i : Int} (h0 : 0 ≤ i) (h1 : i.toNat < 60) : ain κ 302 101 i = true := shp_n hκ 302 (n := 60) (by decide) rfl h0 h1
theorem k_303 {κ : aK} (hκ : Shp κ) : aok κ 303 100 = true := shp_k hκ 303 (n := 10) (by decide) rfl
theorem n_303 {κ : aK} (hκ : Shp κ) {i : Int} (h0 : 0 ≤ i) (h1 : i.toNat < 10) : ain κ 303 100 i = true := shp_n hκ 303 (n := 10) (by decide) rfl h0 h1
theorem k_304 {κ : aK} (hκ : Shp κ) : aok κ 304 101 = true := shp_k hκ 304 (n := 1800) (by decide) rfl
theorem n_304 {κ : aK} (hκ : Shp κ) {i : Int} (h0 : 0 ≤ i) (h1 : i.toNat < 1800) : ain κ 304 101 i = true := shp_n hκ 304 (n := 1800) (by decide) rfl h0 h1
theorem k_305 {κ : aK} (hκ : Shp κ) : aok κ 305 101 = true := shp_k hκ 305 (n := 1800) (by decide) rfl
theorem n_305 {κ : aK} (hκ : Shp κ) {i : Int} (h0 : 0 ≤ i) (h1 : i.toNat < 1800) : ain κ 305 101 i = true := shp_n hκ 305 (n := 1800) (by decide) rfl h0 h1
theorem k_306 {κ : aK} (hκ : Shp κ) : aok κ 306 100 = true := shp_k hκ 306 (n := 1800) (by decide) rfl
theorem n_306 {κ : aK} (hκ : Shp κ) {i : Int} (h0 : 0 ≤ i) (h1 : i.toNat < 1800) : ain κ 306 100 i = true := shp_n hκ 306 (n := 1800) (by decide) rfl h0 h1
theorem k_307 {κ : aK} (hκ : Shp κ) : aok κ 307 100 = true := shp_k hκ 307 (n := 7) (by decide) rfl
theorem n_307 {κ : aK} (hκ : Shp κ) {i : Int} (h0 : 0 ≤ i) (h1 : i.toNat < 7) : ain κ 307 100 i = true := shp_n hκ 307 (n := 7) (by decide) rfl h0 h1
theorem k_308 {κ : aK} (hκ : Shp κ) : aok κ 308 100 = true := shp_k hκ 308 (n := 7) (by decide) rfl
theorem n_308 {κ : aK} (hκ : Shp κ) {i : Int} (h0 : 0 ≤ i) (h1 : i.toNat < 7) : ain κ 308 100 i = true := shp_n hκ 308 (n := 7) (by decide) rfl h0 h1
theorem k_309 {κ : aK} (hκ : Shp κ) : aok κ 309 100 = true := shp_k hκ 309 (n := 7) (by decide) rfl
theorem n_309 {κ : aK} (hκ : Shp κ) {i : Int} (h0 : 0 ≤ i) (h1 : i.toNat < 7) : ain κ 309 100 i = true := shp_n hκ 309 (n := 7) (by decide) rfl h0 h1
theorem k_310 {κ : aK} (hκ : Shp κ) : aok κ 310 101 = true := shp_k hκ 310 (n := 128) (by decide) rfl
theorem n_310 {κ : aK} (hκ : Shp κ) {i : Int} (h0 : 0 ≤ i) (h1 : i.toNat < 128) : ain κ 310 101 i = true := shp_n hκ 310 (n := 128) (by decide) rfl h0 h1
theorem k_311 {κ : aK} (hκ : Shp κ) : aok κ 311 100 = true := shp_k hκ 311 (n := 81) (by decide) rfl
theorem n_311 {κ : aK} (hκ : Shp κ) {i : Int} (h0 : 0 ≤ i) (h1 : i.toNat < 81) : ain κ 311 100 i = true := shp_n hκ 311 (n := 81) (by decide) rfl h0 h1
theorem k_312 {κ : aK} (hκ : Shp κ) : aok κ 312 100 = true := shp_k hκ 312 (n := 24) (by decide) rfl
theorem n_312 {κ : aK} (hκ : Shp κ) {i : Int} (h0 : 0 ≤ i) (h1 : i.toNat < 24) : ain κ 312 100 i = true := shp_n hκ 312 (n := 24) (by decide) rfl h0 h1
theorem k_313 {κ : aK} (hκ : Shp κ) : aok κ 313 103 = true := shp_k hκ 313 (n := 3) (by decide) rfl
theorem n_313 {κ : aK} (hκ : Shp κ) {i : Int} (h0 : 0 ≤ i) (h1 : i.toNat < 3) : ain κ 313 103 i = true := shp_n hκ 313 (n := 3) (by decide) rfl h0 h1
theorem k_314 {κ : aK} (hκ : Shp κ) : aok κ 314 101 = true := shp_k hκ 314 (n := 180) (by decide) rfl
theorem n_314 {κ : aK} (hκ : Shp κ) {i : Int} (h0 : 0 ≤ i) (h1 : i.toNat < 180) : ain κ 314 101 i = true := shp_n hκ 314 (n := 180) (by decide) rfl h0 h1
def PtrR (D : Nat → Nat → Int) : Prop := D 256 1 = 257 ∧ D 256 3 = 258 ∧ D 256 5 = 259 ∧ D 256 6 = 260 ∧ D 256 7 = 261 ∧ D 256 8 = 262 ∧ D 256 9 = 263 ∧ D 256 20 = 264 ∧ D 256 21 = 265 ∧ D 256 22 = 266 ∧ D 256 23 = 267 ∧ D 256 24 = 268 ∧ D 256 25 = 269 ∧ D 256 26 = 270 ∧ D 256 27 = 271 ∧ D 256 28 = 272 ∧ D 256 29 = 273 ∧ D 256 30 = 274 ∧ D 256 31 = 275 ∧ D 256 32 = 276 ∧ D 256 33 = 277 ∧ D 256 34 = 278 ∧ D 256 35 = 279 ∧ D 256 36 = 280 ∧ D 256 37 = 281 ∧ D 256 38 = 282 ∧ D 256 39 = 283 ∧ D 256 40 = 284 ∧ D 256 41 = 285 ∧ D 256 42 = 286 ∧ D 256 43 = 287 ∧ D 256 44 = 288 ∧ D 256 45 = 289 ∧ D 256 46 = 290 ∧ D 256 48 = 291 ∧ D 256 49 = 292 ∧ D 256 50 = 293 ∧ D 256 51 = 294 ∧ D 256 52 = 295 ∧ D 256 54 = 296 ∧ D 256 55 = 297 ∧ D 256 58 = 298 ∧ D 256 60 = 299 ∧ D 256 61 = 300 ∧ D 256 63 = 301 ∧ D 256 64 = 302 ∧ D 256 65 = 303 ∧ D 256 71 = 304 ∧ D 256 72 = 305 ∧ D 256 73 = 306 ∧ D 256 75 = 307 ∧ D 256 76 = 308 ∧ D 256 78 = 309 ∧ D 256 80 = 310 ∧ D 256 81 = 311 ∧ D 256 82 = 312 ∧ D 256 83 = 313 ∧ D 256 84 = 314
theorem pr_1 {D : Nat → Nat → Int} (hp : PtrR D) : D 256 1 = 257 := hp.1
theorem pr_3 {D : Nat → Nat → Int} (hp : PtrR D) : D 256 3 = 258 := hp.2.1
theorem pr_5 {D : Nat → Nat → Int} (hp : PtrR D) : D 256 5 = 259 := hp.2.2.1
theorem pr_6 {D : Nat → Nat → Int} (hp : PtrR D) : D 256 6 = 260 := hp.2.2.2.1
theorem pr_7 {D : Nat → Nat → Int} (hp : PtrR D) : D 256 7 = 261 := hp.2.2.2.2.1
theorem pr_8 {D : Nat → Nat → Int} (hp : PtrR D) : D 256 8 = 262 := hp.2.2.2.2.2.1
theorem pr_9 {D : Nat → Nat → Int} (hp : PtrR D) : D 256 9 = 263 := hp.2.2.2.2.2.2.1
theorem pr_20 {D : Nat → Nat → Int} (hp : PtrR D) : D 256 20 = 264 := hp.2.2.2.2.2.2.2.1
theorem pr_21 {D : Nat → Nat → Int} (hp : PtrR D) : D 256 21 = 265 := hp.2.2.2.2.2.2.2.2.1
theorem pr_22 {D : Nat → Nat → Int} (hp : PtrR D) : D 256 22 = 266 := hp.2.2.2.2.2.2.2.2.2.1
theorem pr_23 {D : Nat → Nat → Int} (hp : PtrR D) : D 256 23 = 267 := hp.2.2.2.2.2.2.2.2.2.2.1
theorem pr_24 {D : Nat → Nat → Int} (hp : PtrR D) : D 256 24 = 268 := hp.2.2.2.2.2.2.2.2.2.2.2.1
theorem pr_25 {D : Nat → Nat → Int} (hp : PtrR D) : D 256 25 = 269 := hp.2.2.2.2.2.2.2.2.2.2.2.2.1
theorem pr_26 {D : Nat → Nat → Int} (hp : PtrR D) : D 256 26 = 270 := hp.2.2.2.2.2.2.2.2.2.2.2.2.2.1
theorem pr_27 {D : Nat → Nat → Int} (hp : PtrR D) : D 256 27 = 271 := hp.2.2.2.2.2.2.2.2.2.2.2.2.2.2.1
theorem pr_28 {D : Nat → Nat → Int} (hp : PtrR D) : D 256 28 = 272 := hp.2.2.2.2.2.2.2.2.2.2.2.2.2.2.2.1
theorem pr_29 {D : Nat → Nat → Int} (hp : PtrR D) : D 256 29 = 273 := hp.2.2.2.2.2.2.2.2.2.2.2.2.2.2.2.2.1
theorem pr_30 {D : Nat → Nat → Int} (hp : PtrR D) : D 256 30 = 274 := hp.2.2.2.2.2.2.2.2.2.2.2.2.2.2.2.2.2.1
theorem pr_31 {D : Nat → Nat → Int} (hp : PtrR D) : D 256 31 = 275 := hp.2.2.2.2.2.2.2.2.2.2.2.2.2.2.2.2.2.2.1
theorem pr_32 {D : Nat → Nat → Int} (hp : PtrR D) : D 256 32 = 276 := hp.2.2.2.2.2.2.2.2.2.2.2.2.2.2.2.2.2.2.2.1
theorem pr_33 {D : Nat → Nat → Int} (hp : PtrR D) : D 256 33 = 277 := hp.2.2.2.2.2.2.2.2.2.2.2.2.2.2.2.2.2.2.2.2.1
theorem pr_34 {D : Nat → Nat → Int} (hp : PtrR D) : D 256 34 = 278 := hp.2.2.2.2.2.2.2.2.2.2.2.2.2.2.2.2.2.2.2.2.2.1
theorem pr_35 {D : Nat → Nat → Int} (hp : PtrR D) : D 256 35 = 279 := hp.2.2.2.2.2.2.2.2.2.2.2.2.2.2.2.2.2.2.2.2.2.2.1
theorem pr_36 {D : Nat → Nat → Int} (hp : PtrR D) : D 256 36 = 280 := hp.2.2.2.2.2.2.2.2.2.2.2.2.2.2.2.2.2.2.2.2.2.2.2.1
theorem pr_37 {D : Nat → Nat → Int} (hp : PtrR D) : D 256 37 = 281 := hp.2.2.2.2.2.2.2.2.2.2.2.2.2.2.2.2.2.2.2.2.2.2.2.2.1
theorem pr_38 {D : Nat → Nat → Int} (hp : PtrR D) : D 256 38 = 282 := hp.2.2.2.2.2.2.2.2.2.2.2.2.2.2.2.2.2.2.2.2.2.2.2.2.2.1
theorem pr_39 {D : Nat → Nat → Int} (hp : PtrR D) : D 256 39 = 283 := hp.2.2.2.2.2.2.2.2.2.2.2.2.2.2.2.2.2.2.2.2.2.2.2.2.2.2.1
theorem pr_40 {D : Nat → Nat → Int} (hp : PtrR D) : D 256 40 = 284 := hp.2.2.2.2.2.2.2.2.2.2.2.2.2.2.2.2.2.2.2.2.2.2.2.2.2.2.2.1
theorem pr_41 {D : Nat → Nat → Int} (hp : PtrR D) : D 256 41 = 285 := hp.2.2.2.2.2.2.2.2.2.2.2.2.2.2.2.2.2.2.2.2.2.2.2.2.2.2.2.2.1
theorem pr_42 {D : Nat → Nat → Int} (hp : PtrR D) : D 256 42 = 286 := hp.2.2.2.2.2.2.2.2.2.2.2.2.2.2.2.2.2.2.2.2.2.2.2.2.2.2.2.2.2.1
theorem pr_43 {D : Nat → Nat → Int} (hp : PtrR D) : D 256 43 = 287 := hp.2.2.2.2.2.2.2.2.2.2.2.2.2.2.2.2.2.2.2.2.2.2.2.2.2.2.2.2.2.2.1
theorem pr_44 {D : Nat → Nat → Int} (hp : PtrR D) : D 256 44 = 288 := hp.2.2.2.2.2.2.2.2.2.2.2.2.2.2.2.2.2.2.2.2.2.2.2.2.2.2.2.2.2.2.2.1
theorem pr_45 {D : Nat → Nat → Int} (hp : PtrR D) : D 256 45 = 289 := hp.2.2.2.2.2.2.2.2.2.2.2.2.2.2.2.2.2.2.2.2.2.2.2.2.2.2.2.2.2.2.2.2.1
theorem pr_46 {D : Nat → Nat → Int} (hp : PtrR D) : D 256 46 = 290 := hp.2.2.2.2.2.2.2.2.2.2.2.2.2.2.2.2.2.2.2.2.2.2.2.2.2.2.2.2.2.2.2.2.2.1
theorem pr_48 {D : Nat → Nat → Int} (hp : PtrR D) : D 256 48 = 291 := hp.2.2.2.2.2.2.2.2.2.2.2.2.2.2.2.2.2.2.2.2.2.2.2.2.2.2.2.2.2.2.2.2.2.2.1
theorem pr_49 {D : Nat → Nat → Int} (hp : PtrR D) : D 256 49 = 292 := hp.2.2.2.2.2.2.2.2.2.2.2.2.2.2.2.2.2.2.2.2.2.2.2.2.2.2.2.2.2.2.2.2.2.2.2.1
theorem pr_50 {D : Nat → Nat → Int} (hp : PtrR D) : D 256 50 = 293 := hp.2.2.2.2.2.2.2.2.2.2.2.2.2.2.2.2.2.2.2.2.2.2.2.2.2.2.2.2.2.2.2.2.2.2.2.2.1
theorem pr_51 {D : Nat → Nat → Int} (hp : PtrR D) : D 256 51 = 294 := hp.2.2.2.2.2.2.2.2.2.2.2.2.2.2.2.2.2.2.2.2.2.2.2.2.2.2.2.2.2.2.2.2.2.2.2.2.2.1
theorem pr_52 {D : Nat → Nat → Int} (hp : PtrR D) : D 256 52 = 295 := hp.2.2.2.2.2.2.2.2.2.2.2.2.2.2.2.2.2.2.2.2.2.2.2.2.2.2.2.2.2.2.2.2.2.2.2.2.2.2.1
theorem pr_54 {D : Nat → Nat → Int} (hp : PtrR D) : D 256 54 = 296 := hp.2.2.2.2.2.2.2.2.2.2.2.2.2.2.2.2.2.2.2.2.2.2.2.2.2.2.2.2.2.2.2.2.2.2.2.2.2.2.2.1
theorem pr_55 {D : Nat → Nat → Int} (hp : PtrR D) : D 256 55 = 297 := hp.2.2.2.2.2.2.2.2.2.2.2.2.2.2.2.2.2.2.2.2.2.2.2.2.2.2.2.2.2.2.2.2.2.2.2.2.2.2.2.2.1
theorem pr_58 {D : Nat → Nat → Int} (hp : PtrR D) : D 256 58 = 298 := hp.2.2.2.2.2.2.2.2.2.2.2.2.2.2.2.2.2.2.2.2.2.2.2.2.2.2.2.2.2.2.2.2.2.2.2.2.2.2.2.2.2.1
theorem pr_60 {D : Nat → Nat → Int} (hp : PtrR D) : D 256 60 = 299 := hp.2.2.2.2.2.2.2.2.2.2.2.2.2.2.2.2.2.2.2.2.2.2.2.2.2.2.2.2.2.2.2.2.2.2.2.2.2.2.2.2.2.2.1
theorem pr_61 {D : Nat → Nat → Int} (hp : PtrR D) : D 256 61 = 300 := hp.2.2.2.2.2.2.2.2.2.2.2.2.2.2.2.2.2.2.2.2.2.2.2.2.2.2.2.2.2.2.2.2.2.2.2.2.2.2.2.2.2.2.2.1
theorem pr_63 {D : Nat → Nat → Int} (hp : PtrR D) : D 256 63 = 301 := hp.2.2.2.2.2.2.2.2.2.2.2.2.2.2.2.2.2.2.2.2.2.2.2.2.2.2.2.2.2.2.2.2.2.2.2.2.2.2.2.2.2.2.2.2.1
theorem pr_64 {D : Nat → Nat → Int} (hp : PtrR D) : D 256 64 = 302 := hp.2.2.2.2.2.2.2.2.2.2.2.2.2.2.2.2.2.2.2.2.2.2.2.2.2.2.2.2.2.2.2.2.2.2.2.2.2.2.2.2.2.2.2.2.2.1
theorem pr_65 {D : Nat → Nat → Int} (hp : PtrR D) : D 256 65 = 303 := hp.2.2.2.2.2.2.2.2.2.2.2.2.2.2.2.2.2.2.2.2.2.2.2.2.2.2.2.2.2.2.2.2.2.2.2.2.2.2.2.2.2.2.2.2.2.2.1
theorem pr_71 {D : Nat → Nat → Int} (hp : PtrR D) : D 256 71 = 304 := hp.2.2.2.2.2.2.2.2.2.2.2.2.2.2.2.2.2.2.2.2.2.2.2.2.2.2.2.2.2.2.2.2.2.2.2.2.2.2.2.2.2.2.2.2.2.2.2.1
theorem pr_72 {D : Nat → Nat → Int} (hp : PtrR D) : D 256 72 = 305 := hp.2.2.2.2.2.2.2.2.2.2.2.2.2.2.2.2.2.2.2.2.2.2.2.2.2.2.2.2.2.2.2.2.2.2.2.2.2.2.2.2.2.2.2.2.2.2.2.2.1
theorem pr_73 {D : Nat → Nat → Int} (hp : PtrR D) : D 256 73 = 306 := hp.2.2.2.2.2.2.2.2.2.2.2.2.2.2.2.2.2.2.2.2.2.2.2.2.2.2.2.2.2.2.2.2.2.2.2.2.2.2.2.2.2.2.2.2.2.2.2.2.2.1
theorem pr_75 {D : Nat → Nat → Int} (hp : PtrR D) : D 256 75 = 307 := hp.2.2.2.2.2.2.2.2.2.2.2.2.2.2.2.2.2.2.2.2.2.2.2.2.2.2.2.2.2.2.2.2.2.2.2.2.2.2.2.2.2.2.2.2.2.2.2.2.2.2.1
theorem pr_76 {D : Nat → Nat → Int} (hp : PtrR D) : D 256 76 = 308 := hp.2.2.2.2.2.2.2.2.2.2.2.2.2.2.2.2.2.2.2.2.2.2.2.2.2.2.2.2.2.2.2.2.2.2.2.2.2.2.2.2.2.2.2.2.2.2.2.2.2.2.2.1
theorem pr_78 {D : Nat → Nat → Int} (hp : PtrR D) : D 256 78 = 309 := hp.2.2.2.2.2.2.2.2.2.2.2.2.2.2.2.2.2.2.2.2.2.2.2.2.2.2.2.2.2.2.2.2.2.2.2.2.2.2.2.2.2.2.2.2.2.2.2.2.2.2.2.2.1
theorem pr_80 {D : Nat → Nat → Int} (hp : PtrR D) : D 256 80 = 310 := hp.2.2.2.2.2.2.2.2.2.2.2.2.2.2.2.2.2.2.2.2.2.2.2.2.2.2.2.2.2.2.2.2.2.2.2.2.2.2.2.2.2.2.2.2.2.2.2.2.2.2.2.2.2.1
theorem pr_81 {D : Nat → Nat → Int} (hp : PtrR D) : D 256 81 = 311 := hp.2.2.2.2.2.2.2.2.2.2.2.2.2.2.2.2.2.2.2.2.2.2.2.2.2.2.2.2.2.2.2.2.2.2.2.2.2.2.2.2.2.2.2.2.2.2.2.2.2.2.2.2.2.2.1
theorem pr_82 {D : Nat → Nat → Int} (hp : PtrR D) : D 256 82 = 312 := hp.2.2.2.2.2.2.2.2.2.2.2.2.2.2.2.2.2.2.2.2.2.2.2.2.2.2.2.2.2.2.2.2.2.2.2.2.2.2.2.2.2.2.2.2.2.2.2.2.2.2.2.2.2.2.2.1
theorem pr_83 {D : Nat → Nat → Int} (hp : PtrR D) : D 256 83 = 313 := hp.2.2.2.2.2.2.2.2.2.2.2.2.2.2.2.2.2.2.2.2.2.2.2.2.2.2.2.2.2.2.2.2.2.2.2.2.2.2.2.2.2.2.2.2.2.2.2.2.2.2.2.2.2.2.2.2.1
theorem pr_84 {D : Nat → Nat → Int} (hp : PtrR D) : D 256 84 = 314 := hp.2.2.2.2.2.2.2.2.2.2.2.2.2.2.2.2.2.2.2.2.2.2.2.2.2.2.2.2.2.2.2.2.2.2.2.2.2.2.2.2.2.2.2.2.2.2.2.2.2.2.2.2.2.2.2.2.2
