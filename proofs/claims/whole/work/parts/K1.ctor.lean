/-! The constructors, block by block. -/
def opA (h : aH) (N c n : Nat) (g : Nat → Int) : aH := ((N + 1, h.1.2.1 + n, fun q => if q = N then (c, n) else h.1.2.2 q), fun q j => if q = N then g j else h.2 q j)
def opW (h : aH) (r k : Nat) (v : Int) : aH := (h.1, aup h.2 r k v)
def kd (h : aH) (r c n : Nat) : Prop := r < h.1.1 ∧ h.1.2.2 r = (c, n)
theorem kd_A {h : aH} {r c n N c' n' : Nat} {g : Nat → Int} (hN : h.1.1 = N) (hk : kd h r c n) : kd (opA h N c' n' g) r c n := by
  subst hN
  exact ⟨Nat.lt_succ_of_lt hk.1, (if_neg (Nat.ne_of_lt hk.1)).trans hk.2⟩
theorem kd_W {h : aH} {r c n q k : Nat} {v : Int} (hk : kd h r c n) : kd (opW h q k v) r c n := hk
theorem kd_N (h : aH) (N c n : Nat) (g : Nat → Int) : kd (opA h N c n g) N c n := ⟨Nat.lt_succ_self _, if_pos rfl⟩
theorem oW_q {h : aH} {r k q : Nat} {v : Int} (hq : q ≠ r) : (opW h r k v).2 q = h.2 q := aupN hq
theorem oA_q {h : aH} {N c n q : Nat} {g : Nat → Int} (hq : q ≠ N) : (opA h N c n g).2 q = h.2 q := by
  funext j
  exact if_neg hq
theorem kd_ok {h : aH} {r c n : Nat} (hk : kd h r c n) : aok h.1 ((r : Nat) : Int) c = true := aok_t r rfl hk.1 hk.2
theorem kd_in {h : aH} {r c n i : Nat} (hk : kd h r c n) (hi : i < n) : ain h.1 ((r : Nat) : Int) c ((i : Nat) : Int) = true := ain_t r i rfl rfl hk.1 hk.2 hi
theorem nn0 (r : Nat) : decide (0 ≤ ((r : Nat) : Int)) = true := decide_eq_true (Int.natCast_nonneg r)
theorem b_0_0 (xs : List Int) (d : Nat) {r N : Nat} {h : aH} (hr : kd h r 0 6) (hN : h.1.1 = N) : cl xs (d + 1) 0 [.inr (.inr ((r : Nat) : Int))] h = ev xs d mm_0 9 [some (.inr (.inr ((r : Nat) : Int)))] [.inr (.inr ((N : Nat) : Int)), .inr (.inr ((r : Nat) : Int))] (opA h N 100 6 (fun _ => 0)) := by
  subst hN
  rw [c_0]
  try simp only [kd_ok hr, nn0, cond_true, Bool.and_true, Bool.true_and, bV_s]
  try rfl
theorem b_0_9 (xs : List Int) (d : Nat) {r s N : Nat} {h : aH} (hr : kd h r 0 6) (hN : h.1.1 = N) : ev xs d mm_0 9 [some (.inr (.inr ((r : Nat) : Int)))] [.inr (.inr ((s : Nat) : Int)), .inr (.inr ((r : Nat) : Int))] h = ev xs d mm_0 23 [some (.inr (.inr ((r : Nat) : Int)))] [.inr (.inr ((N : Nat) : Int)), .inr (.inr ((r : Nat) : Int))] (opA (opW (opW h r 0 ((s : Nat) : Int)) r 1 0) N 100 400 (fun _ => 0)) := by
  subst hN
  rw [q_0_9]
  try simp only [kd_ok hr, nn0, cond_true, Bool.and_true, Bool.true_and, bV_s]
  try rfl
theorem b_0_23 (xs : List Int) (d : Nat) {r s N : Nat} {h : aH} (hr : kd h r 0 6) (hN : h.1.1 = N) : ev xs d mm_0 23 [some (.inr (.inr ((r : Nat) : Int)))] [.inr (.inr ((s : Nat) : Int)), .inr (.inr ((r : Nat) : Int))] h = ev xs d mm_0 32 [some (.inr (.inr ((r : Nat) : Int)))] [.inr (.inr ((N : Nat) : Int)), .inr (.inr ((r : Nat) : Int))] (opA (opW h r 2 ((s : Nat) : Int)) N 100 400 (fun _ => 0)) := by
  subst hN
  rw [q_0_23]
  try simp only [kd_ok hr, nn0, cond_true, Bool.and_true, Bool.true_and, bV_s]
  try rfl
theorem b_0_32 (xs : List Int) (d : Nat) {r s : Nat} {h : aH} (hr : kd h r 0 6) : ev xs d mm_0 32 [some (.inr (.inr ((r : Nat) : Int)))] [.inr (.inr ((s : Nat) : Int)), .inr (.inr ((r : Nat) : Int))] h = ev xs d mm_0 45 [some (.inr (.inr ((r : Nat) : Int)))] [] (opW (opW (opW h r 3 ((s : Nat) : Int)) r 4 0) r 5 0) := by
  rw [q_0_32]
  try simp only [kd_ok hr, nn0, cond_true, Bool.and_true, Bool.true_and, bV_s]
  try rfl
theorem b_0_45 (xs : List Int) (d : Nat) {r : Nat} {h : aH} (hr : kd h r 0 6) : ev xs d mm_0 45 [some (.inr (.inr ((r : Nat) : Int)))] [] h = some (none, h) := by
  rw [q_0_45]
def o0 (h : aH) (r n : Nat) : aH := (opW (opW (opW (opA (opW (opA (opW (opW (opA h n 100 6 (fun _ => 0)) r 0 ((n : Nat) : Int)) r 1 0) (n + 1) 100 400 (fun _ => 0)) r 2 (((n + 1) : Nat) : Int)) (n + 2) 100 400 (fun _ => 0)) r 3 (((n + 2) : Nat) : Int)) r 4 0) r 5 0)
theorem kd_o0 {h : aH} {r n q a b : Nat} (hn : h.1.1 = n) (hk : kd h q a b) : kd (o0 h r n) q a b := by
  subst hn
  unfold o0
  exact (by repeat (first | assumption | exact kd_N _ _ _ _ _ | apply kd_W | apply kd_A rfl))
theorem i_0 (xs : List Int) (d : Nat) {h : aH} {r n : Nat} (hn : h.1.1 = n) (hr : kd h r 0 6) : cl xs (d + 1) 0 [.inr (.inr ((r : Nat) : Int))] h = some (none, o0 h r n) :=
  (Eq.trans (b_0_0 xs _ (N := n) hr hn) (Eq.trans (b_0_9 xs _ (N := (n + 1)) (kd_A hn hr) rfl) (Eq.trans (b_0_23 xs _ (N := (n + 2)) (kd_A rfl (kd_W (kd_W (kd_A hn hr)))) rfl) (Eq.trans (b_0_32 xs _ (kd_A rfl (kd_W (kd_A rfl (kd_W (kd_W (kd_A hn hr))))))) (b_0_45 xs _ (kd_W (kd_W (kd_W (kd_A rfl (kd_W (kd_A rfl (kd_W (kd_W (kd_A hn hr))))))))))))))
theorem n_o0 (h : aH) (r n : Nat) : (o0 h r n).1.1 = n + 3 := rfl
theorem b_11_0 (xs : List Int) (d : Nat) {r N : Nat} {h : aH} (hr : kd h r 1 7) (hN : h.1.1 = N) : cl xs (d + 1) 11 [.inr (.inr ((r : Nat) : Int))] h = ev xs d mm_11 14 [some (.inr (.inr ((r : Nat) : Int)))] [.inr (.inr ((N : Nat) : Int)), .inr (.inr ((r : Nat) : Int))] (opA (opW h r 0 0) N 100 39 (fun _ => 0)) := by
  subst hN
  rw [c_11]
  try simp only [kd_ok hr, nn0, cond_true, Bool.and_true, Bool.true_and, bV_s]
  try rfl
theorem b_11_14 (xs : List Int) (d : Nat) {r s N : Nat} {h : aH} (hr : kd h r 1 7) (hN : h.1.1 = N) : ev xs d mm_11 14 [some (.inr (.inr ((r : Nat) : Int)))] [.inr (.inr ((s : Nat) : Int)), .inr (.inr ((r : Nat) : Int))] h = ev xs d mm_11 21 [some (.inr (.inr ((r : Nat) : Int)))] [.inr (.inr ((N : Nat) : Int)), .inr (.inr ((r : Nat) : Int))] (opA (opW h r 1 ((s : Nat) : Int)) N 101 0 (fun _ => 0)) := by
  subst hN
  rw [q_11_14]
  try simp only [kd_ok hr, nn0, cond_true, Bool.and_true, Bool.true_and, bV_s]
  try rfl
theorem b_11_21 (xs : List Int) (d : Nat) {r s N : Nat} {h : aH} (hr : kd h r 1 7) (hN : h.1.1 = N) : ev xs d mm_11 21 [some (.inr (.inr ((r : Nat) : Int)))] [.inr (.inr ((s : Nat) : Int)), .inr (.inr ((r : Nat) : Int))] h = ev xs d mm_11 28 [some (.inr (.inr ((r : Nat) : Int)))] [.inr (.inr ((N : Nat) : Int)), .inr (.inr ((r : Nat) : Int))] (opA (opW h r 2 ((s : Nat) : Int)) N 100 0 (fun _ => 0)) := by
  subst hN
  rw [q_11_21]
  try simp only [kd_ok hr, nn0, cond_true, Bool.and_true, Bool.true_and, bV_s]
  try rfl
theorem b_11_28 (xs : List Int) (d : Nat) {r s : Nat} {h : aH} (hr : kd h r 1 7) : ev xs d mm_11 28 [some (.inr (.inr ((r : Nat) : Int)))] [.inr (.inr ((s : Nat) : Int)), .inr (.inr ((r : Nat) : Int))] h = ev xs d mm_11 41 [some (.inr (.inr ((r : Nat) : Int)))] [] (opW (opW (opW h r 3 ((s : Nat) : Int)) r 4 0) r 5 0) := by
  rw [q_11_28]
  try simp only [kd_ok hr, nn0, cond_true, Bool.and_true, Bool.true_and, bV_s]
  try rfl
theorem b_11_41 (xs : List Int) (d : Nat) {r : Nat} {h : aH} (hr : kd h r 1 7) : ev xs d mm_11 41 [some (.inr (.inr ((r : Nat) : Int)))] [] h = some (none, (opW h r 6 (-2))) := by
  rw [q_11_41]
  try simp only [kd_ok hr, nn0, cond_true, Bool.and_true, Bool.true_and, bV_s]
  try rfl
def o11 (h : aH) (r n : Nat) : aH := (opW (opW (opW (opW (opA (opW (opA (opW (opA (opW h r 0 0) n 100 39 (fun _ => 0)) r 1 ((n : Nat) : Int)) (n + 1) 101 0 (fun _ => 0)) r 2 (((n + 1) : Nat) : Int)) (n + 2) 100 0 (fun _ => 0)) r 3 (((n + 2) : Nat) : Int)) r 4 0) r 5 0) r 6 (-2))
theorem kd_o11 {h : aH} {r n q a b : Nat} (hn : h.1.1 = n) (hk : kd h q a b) : kd (o11 h r n) q a b := by
  subst hn
  unfold o11
  exact (by repeat (first | assumption | exact kd_N _ _ _ _ _ | apply kd_W | apply kd_A rfl | apply kd_o0 rfl))
theorem i_11 (xs : List Int) (d : Nat) {h : aH} {r n : Nat} (hn : h.1.1 = n) (hr : kd h r 1 7) : cl xs (d + 1) 11 [.inr (.inr ((r : Nat) : Int))] h = some (none, o11 h r n) :=
  (Eq.trans (b_11_0 xs _ (N := n) hr hn) (Eq.trans (b_11_14 xs _ (N := (n + 1)) (kd_A hn (kd_W hr)) rfl) (Eq.trans (b_11_21 xs _ (N := (n + 2)) (kd_A rfl (kd_W (kd_A hn (kd_W hr)))) rfl) (Eq.trans (b_11_28 xs _ (kd_A rfl (kd_W (kd_A rfl (kd_W (kd_A hn (kd_W hr))))))) (b_11_41 xs _ (kd_W (kd_W (kd_W (kd_A rfl (kd_W (kd_A rfl (kd_W (kd_A hn (kd_W hr))))))))))))))
theorem n_o11 (h : aH) (r n : Nat) : (o11 h r n).1.1 = n + 3 := rfl
theorem b_19_0 (xs : List Int) (d : Nat) {r N : Nat} {h : aH} (hr : kd h r 2 13) (hN : h.1.1 = N) : cl xs (d + 1) 19 [.inr (.inr ((r : Nat) : Int))] h = ev xs d mm_19 14 [some (.inr (.inr ((r : Nat) : Int)))] [.inr (.inr ((N : Nat) : Int)), .inr (.inr ((r : Nat) : Int))] (opA (opW h r 0 0) N 100 9 (fun _ => 0)) := by
  subst hN
  rw [c_19]
  try simp only [kd_ok hr, nn0, cond_true, Bool.and_true, Bool.true_and, bV_s]
  try rfl
theorem b_19_14 (xs : List Int) (d : Nat) {r s N : Nat} {h : aH} (hr : kd h r 2 13) (hN : h.1.1 = N) : ev xs d mm_19 14 [some (.inr (.inr ((r : Nat) : Int)))] [.inr (.inr ((s : Nat) : Int)), .inr (.inr ((r : Nat) : Int))] h = ev xs d mm_19 22 [some (.inr (.inr ((r : Nat) : Int)))] [.inr (.inr ((N : Nat) : Int)), .inr (.inr ((r : Nat) : Int))] (opA (opW h r 1 ((s : Nat) : Int)) N 100 9 (fun _ => 0)) := by
  subst hN
  rw [q_19_14]
  try simp only [kd_ok hr, nn0, cond_true, Bool.and_true, Bool.true_and, bV_s]
  try rfl
theorem b_19_22 (xs : List Int) (d : Nat) {r s N : Nat} {h : aH} (hr : kd h r 2 13) (hN : h.1.1 = N) : ev xs d mm_19 22 [some (.inr (.inr ((r : Nat) : Int)))] [.inr (.inr ((s : Nat) : Int)), .inr (.inr ((r : Nat) : Int))] h = ev xs d mm_19 30 [some (.inr (.inr ((r : Nat) : Int)))] [.inr (.inr ((N : Nat) : Int)), .inr (.inr ((r : Nat) : Int))] (opA (opW h r 2 ((s : Nat) : Int)) N 100 9 (fun _ => 0)) := by
  subst hN
  rw [q_19_22]
  try simp only [kd_ok hr, nn0, cond_true, Bool.and_true, Bool.true_and, bV_s]
  try rfl
theorem b_19_30 (xs : List Int) (d : Nat) {r s N : Nat} {h : aH} (hr : kd h r 2 13) (hN : h.1.1 = N) : ev xs d mm_19 30 [some (.inr (.inr ((r : Nat) : Int)))] [.inr (.inr ((s : Nat) : Int)), .inr (.inr ((r : Nat) : Int))] h = ev xs d mm_19 39 [some (.inr (.inr ((r : Nat) : Int)))] [.inr (.inr ((N : Nat) : Int)), .inr (.inr ((r : Nat) : Int))] (opA (opW h r 3 ((s : Nat) : Int)) N 100 128 (fun _ => 0)) := by
  subst hN
  rw [q_19_30]
  try simp only [kd_ok hr, nn0, cond_true, Bool.and_true, Bool.true_and, bV_s]
  try rfl
theorem b_19_39 (xs : List Int) (d : Nat) {r s N : Nat} {h : aH} (hr : kd h r 2 13) (hN : h.1.1 = N) : ev xs d mm_19 39 [some (.inr (.inr ((r : Nat) : Int)))] [.inr (.inr ((s : Nat) : Int)), .inr (.inr ((r : Nat) : Int))] h = ev xs d mm_19 47 [some (.inr (.inr ((r : Nat) : Int)))] [.inr (.inr ((N : Nat) : Int)), .inr (.inr ((r : Nat) : Int))] (opA (opW h r 4 ((s : Nat) : Int)) N 100 7 (fun _ => 0)) := by
  subst hN
  rw [q_19_39]
  try simp only [kd_ok hr, nn0, cond_true, Bool.and_true, Bool.true_and, bV_s]
  try rfl
theorem b_19_47 (xs : List Int) (d : Nat) {r s N : Nat} {h : aH} (hr : kd h r 2 13) (hN : h.1.1 = N) : ev xs d mm_19 47 [some (.inr (.inr ((r : Nat) : Int)))] [.inr (.inr ((s : Nat) : Int)), .inr (.inr ((r : Nat) : Int))] h = ev xs d mm_19 55 [some (.inr (.inr ((r : Nat) : Int)))] [.inr (.inr ((N : Nat) : Int)), .inr (.inr ((r : Nat) : Int))] (opA (opW h r 5 ((s : Nat) : Int)) N 101 8 (fun _ => 0)) := by
  subst hN
  rw [q_19_47]
  try simp only [kd_ok hr, nn0, cond_true, Bool.and_true, Bool.true_and, bV_s]
  try rfl
theorem b_19_55 (xs : List Int) (d : Nat) {r s N : Nat} {h : aH} (hr : kd h r 2 13) (hN : h.1.1 = N) : ev xs d mm_19 55 [some (.inr (.inr ((r : Nat) : Int)))] [.inr (.inr ((s : Nat) : Int)), .inr (.inr ((r : Nat) : Int))] h = ev xs d mm_19 68 [some (.inr (.inr ((r : Nat) : Int)))] [.inr (.inr ((N : Nat) : Int)), .inr (.inr ((r : Nat) : Int))] (opA (opW (opW h r 6 ((s : Nat) : Int)) r 7 0) N 100 64 (fun _ => 0)) := by
  subst hN
  rw [q_19_55]
  try simp only [kd_ok hr, nn0, cond_true, Bool.and_true, Bool.true_and, bV_s]
  try rfl
theorem b_19_68 (xs : List Int) (d : Nat) {r s N : Nat} {h : aH} (hr : kd h r 2 13) (hN : h.1.1 = N) : ev xs d mm_19 68 [some (.inr (.inr ((r : Nat) : Int)))] [.inr (.inr ((s : Nat) : Int)), .inr (.inr ((r : Nat) : Int))] h = ev xs d mm_19 76 [some (.inr (.inr ((r : Nat) : Int)))] [.inr (.inr ((N : Nat) : Int)), .inr (.inr ((r : Nat) : Int))] (opA (opW h r 8 ((s : Nat) : Int)) N 100 64 (fun _ => 0)) := by
  subst hN
  rw [q_19_68]
  try simp only [kd_ok hr, nn0, cond_true, Bool.and_true, Bool.true_and, bV_s]
  try rfl
theorem b_19_76 (xs : List Int) (d : Nat) {r s N : Nat} {h : aH} (hr : kd h r 2 13) (hN : h.1.1 = N) : ev xs d mm_19 76 [some (.inr (.inr ((r : Nat) : Int)))] [.inr (.inr ((s : Nat) : Int)), .inr (.inr ((r : Nat) : Int))] h = ev xs d mm_19 84 [some (.inr (.inr ((r : Nat) : Int)))] [.inr (.inr ((N : Nat) : Int)), .inr (.inr ((r : Nat) : Int))] (opA (opW h r 9 ((s : Nat) : Int)) N 100 64 (fun _ => 0)) := by
  subst hN
  rw [q_19_76]
  try simp only [kd_ok hr, nn0, cond_true, Bool.and_true, Bool.true_and, bV_s]
  try rfl
theorem b_19_84 (xs : List Int) (d : Nat) {r s N : Nat} {h : aH} (hr : kd h r 2 13) (hN : h.1.1 = N) : ev xs d mm_19 84 [some (.inr (.inr ((r : Nat) : Int)))] [.inr (.inr ((s : Nat) : Int)), .inr (.inr ((r : Nat) : Int))] h = ev xs d mm_19 92 [some (.inr (.inr ((r : Nat) : Int)))] [.inr (.inr ((N : Nat) : Int)), .inr (.inr ((r : Nat) : Int))] (opA (opW h r 10 ((s : Nat) : Int)) N 100 64 (fun _ => 0)) := by
  subst hN
  rw [q_19_84]
  try simp only [kd_ok hr, nn0, cond_true, Bool.and_true, Bool.true_and, bV_s]
  try rfl
theorem b_19_92 (xs : List Int) (d : Nat) {r s N : Nat} {h : aH} (hr : kd h r 2 13) (hN : h.1.1 = N) : ev xs d mm_19 92 [some (.inr (.inr ((r : Nat) : Int)))] [.inr (.inr ((s : Nat) : Int)), .inr (.inr ((r : Nat) : Int))] h = ev xs d mm_19 101 [some (.inr (.inr ((r : Nat) : Int)))] [.inr (.inr ((N : Nat) : Int)), .inr (.inr ((r : Nat) : Int))] (opA (opW h r 11 ((s : Nat) : Int)) N 101 512 (fun _ => 0)) := by
  subst hN
  rw [q_19_92]
  try simp only [kd_ok hr, nn0, cond_true, Bool.and_true, Bool.true_and, bV_s]
  try rfl
theorem b_19_101 (xs : List Int) (d : Nat) {r s : Nat} {h : aH} (hr : kd h r 2 13) : ev xs d mm_19 101 [some (.inr (.inr ((r : Nat) : Int)))] [.inr (.inr ((s : Nat) : Int)), .inr (.inr ((r : Nat) : Int))] h = some (none, (opW h r 12 ((s : Nat) : Int))) := by
  rw [q_19_101]
  try simp only [kd_ok hr, nn0, cond_true, Bool.and_true, Bool.true_and, bV_s]
  try rfl
def o19 (h : aH) (r n : Nat) : aH := (opW (opA (opW (opA (opW (opA (opW (opA (opW (opA (opW (opW (opA (opW (opA (opW (opA (opW (opA (opW (opA (opW (opA (opW h r 0 0) n 100 9 (fun _ => 0)) r 1 ((n : Nat) : Int)) (n + 1) 100 9 (fun _ => 0)) r 2 (((n + 1) : Nat) : Int)) (n + 2) 100 9 (fun _ => 0)) r 3 (((n + 2) : Nat) : Int)) (n + 3) 100 128 (fun _ => 0)) r 4 (((n + 3) : Nat) : Int)) (n + 4) 100 7 (fun _ => 0)) r 5 (((n + 4) : Nat) : Int)) (n + 5) 101 8 (fun _ => 0)) r 6 (((n + 5) : Nat) : Int)) r 7 0) (n + 6) 100 64 (fun _ => 0)) r 8 (((n + 6) : Nat) : Int)) (n + 7) 100 64 (fun _ => 0)) r 9 (((n + 7) : Nat) : Int)) (n + 8) 100 64 (fun _ => 0)) r 10 (((n + 8) : Nat) : Int)) (n + 9) 100 64 (fun _ => 0)) r 11 (((n + 9) : Nat) : Int)) (n + 10) 101 512 (fun _ => 0)) r 12 (((n + 10) : Nat) : Int))
theorem kd_o19 {h : aH} {r n q a b : Nat} (hn : h.1.1 = n) (hk : kd h q a b) : kd (o19 h r n) q a b := by
  subst hn
  unfold o19
  exact (by repeat (first | assumption | exact kd_N _ _ _ _ _ | apply kd_W | apply kd_A rfl | apply kd_o0 rfl | apply kd_o11 rfl))
theorem i_19 (xs : List Int) (d : Nat) {h : aH} {r n : Nat} (hn : h.1.1 = n) (hr : kd h r 2 13) : cl xs (d + 1) 19 [.inr (.inr ((r : Nat) : Int))] h = some (none, o19 h r n) :=
  (Eq.trans (b_19_0 xs _ (N := n) hr hn) (Eq.trans (b_19_14 xs _ (N := (n + 1)) (kd_A hn (kd_W hr)) rfl) (Eq.trans (b_19_22 xs _ (N := (n + 2)) (kd_A rfl (kd_W (kd_A hn (kd_W hr)))) rfl) (Eq.trans (b_19_30 xs _ (N := (n + 3)) (kd_A rfl (kd_W (kd_A rfl (kd_W (kd_A hn (kd_W hr)))))) rfl) (Eq.trans (b_19_39 xs _ (N := (n + 4)) (kd_A rfl (kd_W (kd_A rfl (kd_W (kd_A rfl (kd_W (kd_A hn (kd_W hr)))))))) rfl) (Eq.trans (b_19_47 xs _ (N := (n + 5)) (kd_A rfl (kd_W (kd_A rfl (kd_W (kd_A rfl (kd_W (kd_A rfl (kd_W (kd_A hn (kd_W hr)))))))))) rfl) (Eq.trans (b_19_55 xs _ (N := (n + 6)) (kd_A rfl (kd_W (kd_A rfl (kd_W (kd_A rfl (kd_W (kd_A rfl (kd_W (kd_A rfl (kd_W (kd_A hn (kd_W hr)))))))))))) rfl) (Eq.trans (b_19_68 xs _ (N := (n + 7)) (kd_A rfl (kd_W (kd_W (kd_A rfl (kd_W (kd_A rfl (kd_W (kd_A rfl (kd_W (kd_A rfl (kd_W (kd_A rfl (kd_W (kd_A hn (kd_W hr))))))))))))))) rfl) (Eq.trans (b_19_76 xs _ (N := (n + 8)) (kd_A rfl (kd_W (kd_A rfl (kd_W (kd_W (kd_A rfl (kd_W (kd_A rfl (kd_W (kd_A rfl (kd_W (kd_A rfl (kd_W (kd_A rfl (kd_W (kd_A hn (kd_W hr))))))))))))))))) rfl) (Eq.trans (b_19_84 xs _ (N := (n + 9)) (kd_A rfl (kd_W (kd_A rfl (kd_W (kd_A rfl (kd_W (kd_W (kd_A rfl (kd_W (kd_A rfl (kd_W (kd_A rfl (kd_W (kd_A rfl (kd_W (kd_A rfl (kd_W (kd_A hn (kd_W hr))))))))))))))))))) rfl) (Eq.trans (b_19_92 xs _ (N := (n + 10)) (kd_A rfl (kd_W (kd_A rfl (kd_W (kd_A rfl (kd_W (kd_A rfl (kd_W (kd_W (kd_A rfl (kd_W (kd_A rfl (kd_W (kd_A rfl (kd_W (kd_A rfl (kd_W (kd_A rfl (kd_W (kd_A hn (kd_W hr))))))))))))))))))))) rfl) (b_19_101 xs _ (kd_A rfl (kd_W (kd_A rfl (kd_W (kd_A rfl (kd_W (kd_A rfl (kd_W (kd_A rfl (kd_W (kd_W (kd_A rfl (kd_W (kd_A rfl (kd_W (kd_A rfl (kd_W (kd_A rfl (kd_W (kd_A rfl (kd_W (kd_A hn (kd_W hr)))))))))))))))))))))))))))))))))))
theorem n_o19 (h : aH) (r n : Nat) : (o19 h r n).1.1 = n + 11 := rfl
theorem b_29_0 (xs : List Int) (d : Nat) {r N : Nat} {h : aH} (hr : kd h r 3 3) (hN : h.1.1 = N) : cl xs (d + 1) 29 [.inr (.inr ((r : Nat) : Int))] h = ev xs d mm_29 8 [some (.inr (.inr ((r : Nat) : Int)))] [.inr (.inr ((N : Nat) : Int)), .inr (.inr ((r : Nat) : Int))] (opA h N 100 3 (fun _ => 0)) := by
  subst hN
  rw [c_29]
  try simp only [kd_ok hr, nn0, cond_true, Bool.and_true, Bool.true_and, bV_s]
  try rfl
theorem b_29_8 (xs : List Int) (d : Nat) {r s N : Nat} {h : aH} (hr : kd h r 3 3) (hN : h.1.1 = N) : ev xs d mm_29 8 [some (.inr (.inr ((r : Nat) : Int)))] [.inr (.inr ((s : Nat) : Int)), .inr (.inr ((r : Nat) : Int))] h = ev xs d mm_29 16 [some (.inr (.inr ((r : Nat) : Int)))] [.inr (.inr ((N : Nat) : Int)), .inr (.inr ((r : Nat) : Int))] (opA (opW h r 0 ((s : Nat) : Int)) N 101 24 (fun _ => 0)) := by
  subst hN
  rw [q_29_8]
  try simp only [kd_ok hr, nn0, cond_true, Bool.and_true, Bool.true_and, bV_s]
  try rfl
theorem b_29_16 (xs : List Int) (d : Nat) {r s N : Nat} {h : aH} (hr : kd h r 3 3) (hN : h.1.1 = N) : ev xs d mm_29 16 [some (.inr (.inr ((r : Nat) : Int)))] [.inr (.inr ((s : Nat) : Int)), .inr (.inr ((r : Nat) : Int))] h = ev xs d mm_29 24 [some (.inr (.inr ((r : Nat) : Int)))] [.inr (.inr ((N : Nat) : Int)), .inr (.inr ((r : Nat) : Int))] (opA (opW h r 1 ((s : Nat) : Int)) N 100 24 (fun _ => 0)) := by
  subst hN
  rw [q_29_16]
  try simp only [kd_ok hr, nn0, cond_true, Bool.and_true, Bool.true_and, bV_s]
  try rfl
theorem b_29_24 (xs : List Int) (d : Nat) {r s : Nat} {h : aH} (hr : kd h r 3 3) : ev xs d mm_29 24 [some (.inr (.inr ((r : Nat) : Int)))] [.inr (.inr ((s : Nat) : Int)), .inr (.inr ((r : Nat) : Int))] h = some (none, (opW h r 2 ((s : Nat) : Int))) := by
  rw [q_29_24]
  try simp only [kd_ok hr, nn0, cond_true, Bool.and_true, Bool.true_and, bV_s]
  try rfl
def o29 (h : aH) (r n : Nat) : aH := (opW (opA (opW (opA (opW (opA h n 100 3 (fun _ => 0)) r 0 ((n : Nat) : Int)) (n + 1) 101 24 (fun _ => 0)) r 1 (((n + 1) : Nat) : Int)) (n + 2) 100 24 (fun _ => 0)) r 2 (((n + 2) : Nat) : Int))
theorem kd_o29 {h : aH} {r n q a b : Nat} (hn : h.1.1 = n) (hk : kd h q a b) : kd (o29 h r n) q a b := by
  subst hn
  unfold o29
  exact (by repeat (first | assumption | exact kd_N _ _ _ _ _ | apply kd_W | apply kd_A rfl | apply kd_o0 rfl | apply kd_o11 rfl | apply kd_o19 rfl))
theorem i_29 (xs : List Int) (d : Nat) {h : aH} {r n : Nat} (hn : h.1.1 = n) (hr : kd h r 3 3) : cl xs (d + 1) 29 [.inr (.inr ((r : Nat) : Int))] h = some (none, o29 h r n) :=
  (Eq.trans (b_29_0 xs _ (N := n) hr hn) (Eq.trans (b_29_8 xs _ (N := (n + 1)) (kd_A hn hr) rfl) (Eq.trans (b_29_16 xs _ (N := (n + 2)) (kd_A rfl (kd_W (kd_A hn hr))) rfl) (b_29_24 xs _ (kd_A rfl (kd_W (kd_A rfl (kd_W (kd_A hn hr)))))))))
theorem n_o29 (h : aH) (r n : Nat) : (o29 h r n).1.1 = n + 3 := rfl
theorem b_60_0 (xs : List Int) (d : Nat) {r : Nat} {h : aH} (hr : kd h r 5 7) : cl xs (d + 1) 60 [.inr (.inr ((r : Nat) : Int))] h = ev xs d mm_60 19 [some (.inr (.inr ((r : Nat) : Int)))] [] (opW (opW (opW h r 0 0) r 1 1) r 2 0) := by
  rw [c_60]
  try simp only [kd_ok hr, nn0, cond_true, Bool.and_true, Bool.true_and, bV_s]
  try rfl
theorem b_60_19 (xs : List Int) (d : Nat) {r N : Nat} {h : aH} (hr : kd h r 5 7) (hN : h.1.1 = N) : ev xs d mm_60 19 [some (.inr (.inr ((r : Nat) : Int)))] [] h = ev xs d mm_60 25 [some (.inr (.inr ((r : Nat) : Int)))] [.inr (.inr ((N : Nat) : Int)), .inr (.inr ((r : Nat) : Int))] (opA h N 101 1024 (fun _ => 0)) := by
  subst hN
  rw [q_60_19]
  try simp only [kd_ok hr, nn0, cond_true, Bool.and_true, Bool.true_and, bV_s]
  try rfl
theorem b_60_25 (xs : List Int) (d : Nat) {r s N : Nat} {h : aH} (hr : kd h r 5 7) (hN : h.1.1 = N) : ev xs d mm_60 25 [some (.inr (.inr ((r : Nat) : Int)))] [.inr (.inr ((s : Nat) : Int)), .inr (.inr ((r : Nat) : Int))] h = ev xs d mm_60 34 [some (.inr (.inr ((r : Nat) : Int)))] [.inr (.inr ((N : Nat) : Int)), .inr (.inr ((r : Nat) : Int))] (opA (opW h r 3 ((s : Nat) : Int)) N 100 128 (fun _ => 0)) := by
  subst hN
  rw [q_60_25]
  try simp only [kd_ok hr, nn0, cond_true, Bool.and_true, Bool.true_and, bV_s]
  try rfl
theorem b_60_34 (xs : List Int) (d : Nat) {r s N : Nat} {h : aH} (hr : kd h r 5 7) (hN : h.1.1 = N) : ev xs d mm_60 34 [some (.inr (.inr ((r : Nat) : Int)))] [.inr (.inr ((s : Nat) : Int)), .inr (.inr ((r : Nat) : Int))] h = ev xs d mm_60 43 [some (.inr (.inr ((r : Nat) : Int)))] [.inr (.inr ((N : Nat) : Int)), .inr (.inr ((r : Nat) : Int))] (opA (opW h r 4 ((s : Nat) : Int)) N 100 128 (fun _ => 0)) := by
  subst hN
  rw [q_60_34]
  try simp only [kd_ok hr, nn0, cond_true, Bool.and_true, Bool.true_and, bV_s]
  try rfl
theorem b_60_43 (xs : List Int) (d : Nat) {r s N : Nat} {h : aH} (hr : kd h r 5 7) (hN : h.1.1 = N) : ev xs d mm_60 43 [some (.inr (.inr ((r : Nat) : Int)))] [.inr (.inr ((s : Nat) : Int)), .inr (.inr ((r : Nat) : Int))] h = ev xs d mm_60 52 [some (.inr (.inr ((r : Nat) : Int)))] [.inr (.inr ((N : Nat) : Int)), .inr (.inr ((r : Nat) : Int))] (opA (opW h r 5 ((s : Nat) : Int)) N 101 128 (fun _ => 0)) := by
  subst hN
  rw [q_60_43]
  try simp only [kd_ok hr, nn0, cond_true, Bool.and_true, Bool.true_and, bV_s]
  try rfl
theorem b_60_52 (xs : List Int) (d : Nat) {r s : Nat} {h : aH} (hr : kd h r 5 7) : ev xs d mm_60 52 [some (.inr (.inr ((r : Nat) : Int)))] [.inr (.inr ((s : Nat) : Int)), .inr (.inr ((r : Nat) : Int))] h = some (none, (opW h r 6 ((s : Nat) : Int))) := by
  rw [q_60_52]
  try simp only [kd_ok hr, nn0, cond_true, Bool.and_true, Bool.true_and, bV_s]
  try rfl
def o60 (h : aH) (r n : Nat) : aH := (opW (opA (opW (opA (opW (opA (opW (opA (opW (opW (opW h r 0 0) r 1 1) r 2 0) n 101 1024 (fun _ => 0)) r 3 ((n : Nat) : Int)) (n + 1) 100 128 (fun _ => 0)) r 4 (((n + 1) : Nat) : Int)) (n + 2) 100 128 (fun _ => 0)) r 5 (((n + 2) : Nat) : Int)) (n + 3) 101 128 (fun _ => 0)) r 6 (((n + 3) : Nat) : Int))
theorem kd_o60 {h : aH} {r n q a b : Nat} (hn : h.1.1 = n) (hk : kd h q a b) : kd (o60 h r n) q a b := by
  subst hn
  unfold o60
  exact (by repeat (first | assumption | exact kd_N _ _ _ _ _ | apply kd_W | apply kd_A rfl | apply kd_o0 rfl | apply kd_o11 rfl | apply kd_o19 rfl | apply kd_o29 rfl))
theorem i_60 (xs : List Int) (d : Nat) {h : aH} {r n : Nat} (hn : h.1.1 = n) (hr : kd h r 5 7) : cl xs (d + 1) 60 [.inr (.inr ((r : Nat) : Int))] h = some (none, o60 h r n) :=
  (Eq.trans (b_60_0 xs _ hr) (Eq.trans (b_60_19 xs _ (N := n) (kd_W (kd_W (kd_W hr))) hn) (Eq.trans (b_60_25 xs _ (N := (n + 1)) (kd_A hn (kd_W (kd_W (kd_W hr)))) rfl) (Eq.trans (b_60_34 xs _ (N := (n + 2)) (kd_A rfl (kd_W (kd_A hn (kd_W (kd_W (kd_W hr)))))) rfl) (Eq.trans (b_60_43 xs _ (N := (n + 3)) (kd_A rfl (kd_W (kd_A rfl (kd_W (kd_A hn (kd_W (kd_W (kd_W hr)))))))) rfl) (b_60_52 xs _ (kd_A rfl (kd_W (kd_A rfl (kd_W (kd_A rfl (kd_W (kd_A hn (kd_W (kd_W (kd_W hr))))))))))))))))
theorem n_o60 (h : aH) (r n : Nat) : (o60 h r n).1.1 = n + 4 := rfl
theorem b_72_0 (xs : List Int) (d : Nat) {r N : Nat} {h : aH} (hr : kd h r 6 9) (hN : h.1.1 = N) : cl xs (d + 1) 72 [.inr (.inr ((r : Nat) : Int))] h = ev xs d mm_72 14 [some (.inr (.inr ((r : Nat) : Int)))] [.inr (.inr ((N : Nat) : Int)), .inr (.inr ((r : Nat) : Int))] (opA (opW h r 0 0) N 100 7 (fun _ => 0)) := by
  subst hN
  rw [c_72]
  try simp only [kd_ok hr, nn0, cond_true, Bool.and_true, Bool.true_and, bV_s]
  try rfl
theorem b_72_14 (xs : List Int) (d : Nat) {r s N : Nat} {h : aH} (hr : kd h r 6 9) (hN : h.1.1 = N) : ev xs d mm_72 14 [some (.inr (.inr ((r : Nat) : Int)))] [.inr (.inr ((s : Nat) : Int)), .inr (.inr ((r : Nat) : Int))] h = ev xs d mm_72 22 [some (.inr (.inr ((r : Nat) : Int)))] [.inr (.inr ((N : Nat) : Int)), .inr (.inr ((r : Nat) : Int))] (opA (opW h r 1 ((s : Nat) : Int)) N 101 10 (fun _ => 0)) := by
  subst hN
  rw [q_72_14]
  try simp only [kd_ok hr, nn0, cond_true, Bool.and_true, Bool.true_and, bV_s]
  try rfl
theorem b_72_22 (xs : List Int) (d : Nat) {r s N : Nat} {h : aH} (hr : kd h r 6 9) (hN : h.1.1 = N) : ev xs d mm_72 22 [some (.inr (.inr ((r : Nat) : Int)))] [.inr (.inr ((s : Nat) : Int)), .inr (.inr ((r : Nat) : Int))] h = ev xs d mm_72 30 [some (.inr (.inr ((r : Nat) : Int)))] [.inr (.inr ((N : Nat) : Int)), .inr (.inr ((r : Nat) : Int))] (opA (opW h r 2 ((s : Nat) : Int)) N 100 10 (fun _ => 0)) := by
  subst hN
  rw [q_72_22]
  try simp only [kd_ok hr, nn0, cond_true, Bool.and_true, Bool.true_and, bV_s]
  try rfl
theorem b_72_30 (xs : List Int) (d : Nat) {r s N : Nat} {h : aH} (hr : kd h r 6 9) (hN : h.1.1 = N) : ev xs d mm_72 30 [some (.inr (.inr ((r : Nat) : Int)))] [.inr (.inr ((s : Nat) : Int)), .inr (.inr ((r : Nat) : Int))] h = ev xs d mm_72 38 [some (.inr (.inr ((r : Nat) : Int)))] [.inr (.inr ((N : Nat) : Int)), .inr (.inr ((r : Nat) : Int))] (opA (opW h r 3 ((s : Nat) : Int)) N 100 24 (fun _ => 0)) := by
  subst hN
  rw [q_72_30]
  try simp only [kd_ok hr, nn0, cond_true, Bool.and_true, Bool.true_and, bV_s]
  try rfl
theorem b_72_38 (xs : List Int) (d : Nat) {r s : Nat} {h : aH} (hr : kd h r 6 9) : ev xs d mm_72 38 [some (.inr (.inr ((r : Nat) : Int)))] [.inr (.inr ((s : Nat) : Int)), .inr (.inr ((r : Nat) : Int))] h = ev xs d mm_72 51 [some (.inr (.inr ((r : Nat) : Int)))] [] (opW (opW (opW h r 4 ((s : Nat) : Int)) r 5 0) r 6 0) := by
  rw [q_72_38]
  try simp only [kd_ok hr, nn0, cond_true, Bool.and_true, Bool.true_and, bV_s]
  try rfl
theorem b_72_51 (xs : List Int) (d : Nat) {r : Nat} {h : aH} (hr : kd h r 6 9) : ev xs d mm_72 51 [some (.inr (.inr ((r : Nat) : Int)))] [] h = some (none, (opW (opW h r 7 0) r 8 0)) := by
  rw [q_72_51]
  try simp only [kd_ok hr, nn0, cond_true, Bool.and_true, Bool.true_and, bV_s]
  try rfl
def o72 (h : aH) (r n : Nat) : aH := (opW (opW (opW (opW (opW (opA (opW (opA (opW (opA (opW (opA (opW h r 0 0) n 100 7 (fun _ => 0)) r 1 ((n : Nat) : Int)) (n + 1) 101 10 (fun _ => 0)) r 2 (((n + 1) : Nat) : Int)) (n + 2) 100 10 (fun _ => 0)) r 3 (((n + 2) : Nat) : Int)) (n + 3) 100 24 (fun _ => 0)) r 4 (((n + 3) : Nat) : Int)) r 5 0) r 6 0) r 7 0) r 8 0)
theorem kd_o72 {h : aH} {r n q a b : Nat} (hn : h.1.1 = n) (hk : kd h q a b) : kd (o72 h r n) q a b := by
  subst hn
  unfold o72
  exact (by repeat (first | assumption | exact kd_N _ _ _ _ _ | apply kd_W | apply kd_A rfl | apply kd_o0 rfl | apply kd_o11 rfl | apply kd_o19 rfl | apply kd_o29 rfl | apply kd_o60 rfl))
theorem i_72 (xs : List Int) (d : Nat) {h : aH} {r n : Nat} (hn : h.1.1 = n) (hr : kd h r 6 9) : cl xs (d + 1) 72 [.inr (.inr ((r : Nat) : Int))] h = some (none, o72 h r n) :=
  (Eq.trans (b_72_0 xs _ (N := n) hr hn) (Eq.trans (b_72_14 xs _ (N := (n + 1)) (kd_A hn (kd_W hr)) rfl) (Eq.trans (b_72_22 xs _ (N := (n + 2)) (kd_A rfl (kd_W (kd_A hn (kd_W hr)))) rfl) (Eq.trans (b_72_30 xs _ (N := (n + 3)) (kd_A rfl (kd_W (kd_A rfl (kd_W (kd_A hn (kd_W hr)))))) rfl) (Eq.trans (b_72_38 xs _ (kd_A rfl (kd_W (kd_A rfl (kd_W (kd_A rfl (kd_W (kd_A hn (kd_W hr))))))))) (b_72_51 xs _ (kd_W (kd_W (kd_W (kd_A rfl (kd_W (kd_A rfl (kd_W (kd_A rfl (kd_W (kd_A hn (kd_W hr)))))))))))))))))
theorem n_o72 (h : aH) (r n : Nat) : (o72 h r n).1.1 = n + 4 := rfl
theorem b_84_0 (xs : List Int) (d : Nat) {r N : Nat} {h : aH} (hr : kd h r 7 5) (hN : h.1.1 = N) : cl xs (d + 1) 84 [.inr (.inr ((r : Nat) : Int))] h = ev xs d mm_84 14 [some (.inr (.inr ((r : Nat) : Int)))] [.inr (.inr ((N : Nat) : Int)), .inr (.inr ((r : Nat) : Int))] (opA (opW h r 0 0) N 100 7 (fun _ => 0)) := by
  subst hN
  rw [c_84]
  try simp only [kd_ok hr, nn0, cond_true, Bool.and_true, Bool.true_and, bV_s]
  try rfl
theorem b_84_14 (xs : List Int) (d : Nat) {r s N : Nat} {h : aH} (hr : kd h r 7 5) (hN : h.1.1 = N) : ev xs d mm_84 14 [some (.inr (.inr ((r : Nat) : Int)))] [.inr (.inr ((s : Nat) : Int)), .inr (.inr ((r : Nat) : Int))] h = ev xs d mm_84 22 [some (.inr (.inr ((r : Nat) : Int)))] [.inr (.inr ((N : Nat) : Int)), .inr (.inr ((r : Nat) : Int))] (opA (opW h r 1 ((s : Nat) : Int)) N 100 7 (fun _ => 0)) := by
  subst hN
  rw [q_84_14]
  try simp only [kd_ok hr, nn0, cond_true, Bool.and_true, Bool.true_and, bV_s]
  try rfl
theorem b_84_22 (xs : List Int) (d : Nat) {r s N : Nat} {h : aH} (hr : kd h r 7 5) (hN : h.1.1 = N) : ev xs d mm_84 22 [some (.inr (.inr ((r : Nat) : Int)))] [.inr (.inr ((s : Nat) : Int)), .inr (.inr ((r : Nat) : Int))] h = ev xs d mm_84 30 [some (.inr (.inr ((r : Nat) : Int)))] [.inr (.inr ((N : Nat) : Int)), .inr (.inr ((r : Nat) : Int))] (opA (opW h r 2 ((s : Nat) : Int)) N 100 7 (fun _ => 0)) := by
  subst hN
  rw [q_84_22]
  try simp only [kd_ok hr, nn0, cond_true, Bool.and_true, Bool.true_and, bV_s]
  try rfl
theorem b_84_30 (xs : List Int) (d : Nat) {r s N : Nat} {h : aH} (hr : kd h r 7 5) (hN : h.1.1 = N) : ev xs d mm_84 30 [some (.inr (.inr ((r : Nat) : Int)))] [.inr (.inr ((s : Nat) : Int)), .inr (.inr ((r : Nat) : Int))] h = ev xs d mm_84 38 [some (.inr (.inr ((r : Nat) : Int)))] [.inr (.inr ((N : Nat) : Int)), .inr (.inr ((r : Nat) : Int))] (opA (opW h r 3 ((s : Nat) : Int)) N 100 7 (fun _ => 0)) := by
  subst hN
  rw [q_84_30]
  try simp only [kd_ok hr, nn0, cond_true, Bool.and_true, Bool.true_and, bV_s]
  try rfl
theorem b_84_38 (xs : List Int) (d : Nat) {r s : Nat} {h : aH} (hr : kd h r 7 5) : ev xs d mm_84 38 [some (.inr (.inr ((r : Nat) : Int)))] [.inr (.inr ((s : Nat) : Int)), .inr (.inr ((r : Nat) : Int))] h = some (none, (opW h r 4 ((s : Nat) : Int))) := by
  rw [q_84_38]
  try simp only [kd_ok hr, nn0, cond_true, Bool.and_true, Bool.true_and, bV_s]
  try rfl
def o84 (h : aH) (r n : Nat) : aH := (opW (opA (opW (opA (opW (opA (opW (opA (opW h r 0 0) n 100 7 (fun _ => 0)) r 1 ((n : Nat) : Int)) (n + 1) 100 7 (fun _ => 0)) r 2 (((n + 1) : Nat) : Int)) (n + 2) 100 7 (fun _ => 0)) r 3 (((n + 2) : Nat) : Int)) (n + 3) 100 7 (fun _ => 0)) r 4 (((n + 3) : Nat) : Int))
theorem kd_o84 {h : aH} {r n q a b : Nat} (hn : h.1.1 = n) (hk : kd h q a b) : kd (o84 h r n) q a b := by
  subst hn
  unfold o84
  exact (by repeat (first | assumption | exact kd_N _ _ _ _ _ | apply kd_W | apply kd_A rfl | apply kd_o0 rfl | apply kd_o11 rfl | apply kd_o19 rfl | apply kd_o29 rfl | apply kd_o60 rfl | apply kd_o72 rfl))
theorem i_84 (xs : List Int) (d : Nat) {h : aH} {r n : Nat} (hn : h.1.1 = n) (hr : kd h r 7 5) : cl xs (d + 1) 84 [.inr (.inr ((r : Nat) : Int))] h = some (none, o84 h r n) :=
  (Eq.trans (b_84_0 xs _ (N := n) hr hn) (Eq.trans (b_84_14 xs _ (N := (n + 1)) (kd_A hn (kd_W hr)) rfl) (Eq.trans (b_84_22 xs _ (N := (n + 2)) (kd_A rfl (kd_W (kd_A hn (kd_W hr)))) rfl) (Eq.trans (b_84_30 xs _ (N := (n + 3)) (kd_A rfl (kd_W (kd_A rfl (kd_W (kd_A hn (kd_W hr)))))) rfl) (b_84_38 xs _ (kd_A rfl (kd_W (kd_A rfl (kd_W (kd_A rfl (kd_W (kd_A hn (kd_W hr)))))))))))))
theorem n_o84 (h : aH) (r n : Nat) : (o84 h r n).1.1 = n + 4 := rfl
theorem b_88_0 (xs : List Int) (d : Nat) {r u : Nat} {h : aH} (hr : kd h r 8 4) : cl xs (d + 1) 88 [.inr (.inr ((r : Nat) : Int)), .inr (.inr ((u : Nat) : Int))] h = ev xs d mm_88 19 [some (.inr (.inr ((r : Nat) : Int))), some (.inr (.inr ((u : Nat) : Int)))] [] (opW (opW (opW h r 0 0) r 1 (-1)) r 3 0) := by
  rw [c_88]
  try simp only [kd_ok hr, nn0, cond_true, Bool.and_true, Bool.true_and, bV_s]
  try rfl
theorem b_88_19 (xs : List Int) (d : Nat) {r u : Nat} {h : aH} (hr : kd h r 8 4) : ev xs d mm_88 19 [some (.inr (.inr ((r : Nat) : Int))), some (.inr (.inr ((u : Nat) : Int)))] [] h = some (none, (opW h r 2 ((u : Nat) : Int))) := by
  rw [q_88_19]
  try simp only [kd_ok hr, nn0, cond_true, Bool.and_true, Bool.true_and, bV_s]
  try rfl
def o88 (h : aH) (r n : Nat) (u : Nat) : aH := (opW (opW (opW (opW h r 0 0) r 1 (-1)) r 3 0) r 2 ((u : Nat) : Int))
theorem kd_o88 {h : aH} {r n u q a b : Nat} (hn : h.1.1 = n) (hk : kd h q a b) : kd (o88 h r n u) q a b := by
  subst hn
  unfold o88
  exact (by repeat (first | assumption | exact kd_N _ _ _ _ _ | apply kd_W | apply kd_A rfl | apply kd_o0 rfl | apply kd_o11 rfl | apply kd_o19 rfl | apply kd_o29 rfl | apply kd_o60 rfl | apply kd_o72 rfl | apply kd_o84 rfl))
theorem i_88 (xs : List Int) (d : Nat) {h : aH} {r n u : Nat} (hn : h.1.1 = n) (hr : kd h r 8 4) : cl xs (d + 1) 88 [.inr (.inr ((r : Nat) : Int)), .inr (.inr ((u : Nat) : Int))] h = some (none, o88 h r n u) :=
  (Eq.trans (b_88_0 xs _ hr) (b_88_19 xs _ (kd_W (kd_W (kd_W hr)))))
theorem n_o88 (h : aH) (r n u : Nat) : (o88 h r n u).1.1 = h.1.1 := rfl
theorem b_113_0 (xs : List Int) (d : Nat) {r N : Nat} {h : aH} (hr : kd h r 10 3) (hN : h.1.1 = N) : cl xs (d + 1) 113 [.inr (.inr ((r : Nat) : Int))] h = ev xs d mm_113 15 [some (.inr (.inr ((r : Nat) : Int)))] [.inr (.inr ((N : Nat) : Int)), .inr (.inr ((r : Nat) : Int))] (opA (opW h r 0 0) N 100 280 (fun _ => 0)) := by
  subst hN
  rw [c_113]
  try simp only [kd_ok hr, nn0, cond_true, Bool.and_true, Bool.true_and, bV_s]
  try rfl
theorem b_113_15 (xs : List Int) (d : Nat) {r s N : Nat} {h : aH} (hr : kd h r 10 3) (hN : h.1.1 = N) : ev xs d mm_113 15 [some (.inr (.inr ((r : Nat) : Int)))] [.inr (.inr ((s : Nat) : Int)), .inr (.inr ((r : Nat) : Int))] h = ev xs d mm_113 23 [some (.inr (.inr ((r : Nat) : Int)))] [.inr (.inr ((N : Nat) : Int)), .inr (.inr ((r : Nat) : Int))] (opA (opW h r 1 ((s : Nat) : Int)) N 100 24 (fun _ => 0)) := by
  subst hN
  rw [q_113_15]
  try simp only [kd_ok hr, nn0, cond_true, Bool.and_true, Bool.true_and, bV_s]
  try rfl
theorem b_113_23 (xs : List Int) (d : Nat) {r s : Nat} {h : aH} (hr : kd h r 10 3) : ev xs d mm_113 23 [some (.inr (.inr ((r : Nat) : Int)))] [.inr (.inr ((s : Nat) : Int)), .inr (.inr ((r : Nat) : Int))] h = some (none, (opW h r 2 ((s : Nat) : Int))) := by
  rw [q_113_23]
  try simp only [kd_ok hr, nn0, cond_true, Bool.and_true, Bool.true_and, bV_s]
  try rfl
def o113 (h : aH) (r n : Nat) : aH := (opW (opA (opW (opA (opW h r 0 0) n 100 280 (fun _ => 0)) r 1 ((n : Nat) : Int)) (n + 1) 100 24 (fun _ => 0)) r 2 (((n + 1) : Nat) : Int))
theorem kd_o113 {h : aH} {r n q a b : Nat} (hn : h.1.1 = n) (hk : kd h q a b) : kd (o113 h r n) q a b := by
  subst hn
  unfold o113
  exact (by repeat (first | assumption | exact kd_N _ _ _ _ _ | apply kd_W | apply kd_A rfl | apply kd_o0 rfl | apply kd_o11 rfl | apply kd_o19 rfl | apply kd_o29 rfl | apply kd_o60 rfl | apply kd_o72 rfl | apply kd_o84 rfl | apply kd_o88 rfl))
theorem i_113 (xs : List Int) (d : Nat) {h : aH} {r n : Nat} (hn : h.1.1 = n) (hr : kd h r 10 3) : cl xs (d + 1) 113 [.inr (.inr ((r : Nat) : Int))] h = some (none, o113 h r n) :=
  (Eq.trans (b_113_0 xs _ (N := n) hr hn) (Eq.trans (b_113_15 xs _ (N := (n + 1)) (kd_A hn (kd_W hr)) rfl) (b_113_23 xs _ (kd_A rfl (kd_W (kd_A hn (kd_W hr)))))))
theorem n_o113 (h : aH) (r n : Nat) : (o113 h r n).1.1 = n + 2 := rfl
theorem b_108_0 (xs : List Int) (d : Nat) {r N : Nat} {h : aH} (hr : kd h r 9 16) (hN : h.1.1 = N) : cl xs (d + 1) 108 [.inr (.inr ((r : Nat) : Int))] h = ev xs d mm_108 14 [some (.inr (.inr ((r : Nat) : Int)))] [.inr (.inr ((N : Nat) : Int)), .inr (.inr ((r : Nat) : Int))] (opA (opW h r 0 0) N 101 6 (fun _ => 0)) := by
  subst hN
  rw [c_108]
  try simp only [kd_ok hr, nn0, cond_true, Bool.and_true, Bool.true_and, bV_s]
  try rfl
theorem b_108_14 (xs : List Int) (d : Nat) {r s N : Nat} {h : aH} (hr : kd h r 9 16) (hN : h.1.1 = N) : ev xs d mm_108 14 [some (.inr (.inr ((r : Nat) : Int)))] [.inr (.inr ((s : Nat) : Int)), .inr (.inr ((r : Nat) : Int))] h = ev xs d mm_108 22 [some (.inr (.inr ((r : Nat) : Int)))] [.inr (.inr ((N : Nat) : Int)), .inr (.inr ((r : Nat) : Int))] (opA (opW h r 1 ((s : Nat) : Int)) N 100 6 (fun _ => 0)) := by
  subst hN
  rw [q_108_14]
  try simp only [kd_ok hr, nn0, cond_true, Bool.and_true, Bool.true_and, bV_s]
  try rfl
theorem b_108_22 (xs : List Int) (d : Nat) {r s N : Nat} {h : aH} (hr : kd h r 9 16) (hN : h.1.1 = N) : ev xs d mm_108 22 [some (.inr (.inr ((r : Nat) : Int)))] [.inr (.inr ((s : Nat) : Int)), .inr (.inr ((r : Nat) : Int))] h = ev xs d mm_108 29 [some (.inr (.inr ((r : Nat) : Int)))] [.inr (.inr ((N : Nat) : Int)), .inr (.inr ((r : Nat) : Int))] (opA (opW h r 2 ((s : Nat) : Int)) N 7 5 (adf 7)) := by
  subst hN
  rw [q_108_22]
  try simp only [kd_ok hr, nn0, cond_true, Bool.and_true, Bool.true_and, bV_s]
  try rfl
theorem b_108_29 (xs : List Int) (d : Nat) {r s N : Nat} {h h1 : aH} (e : cl xs d 84 [.inr (.inr ((s : Nat) : Int))] h = some (none, h1)) (hr : kd h1 r 9 16) (hN : h1.1.1 = N) : ev xs d mm_108 29 [some (.inr (.inr ((r : Nat) : Int)))] [.inr (.inr ((s : Nat) : Int)), .inr (.inr ((r : Nat) : Int))] h = ev xs d mm_108 40 [some (.inr (.inr ((r : Nat) : Int)))] [.inr (.inr ((N : Nat) : Int)), .inr (.inr ((r : Nat) : Int))] (opA (opW h1 r 3 ((s : Nat) : Int)) N 3 3 (adf 3)) := by
  subst hN
  rw [q_108_29]
  try simp only [e, kd_ok hr, nn0, cond_true, Bool.and_true, Bool.true_and, bV_s]
  try rfl
theorem b_108_40 (xs : List Int) (d : Nat) {r s N : Nat} {h h1 : aH} (e : cl xs d 29 [.inr (.inr ((s : Nat) : Int))] h = some (none, h1)) (hr : kd h1 r 9 16) (hN : h1.1.1 = N) : ev xs d mm_108 40 [some (.inr (.inr ((r : Nat) : Int)))] [.inr (.inr ((s : Nat) : Int)), .inr (.inr ((r : Nat) : Int))] h = ev xs d mm_108 57 [some (.inr (.inr ((r : Nat) : Int)))] [.inr (.inr ((N : Nat) : Int)), .inr (.inr ((r : Nat) : Int))] (opA (opW (opW h1 r 4 ((s : Nat) : Int)) r 5 0) N 101 10 (fun _ => 0)) := by
  subst hN
  rw [q_108_40]
  try simp only [e, kd_ok hr, nn0, cond_true, Bool.and_true, Bool.true_and, bV_s]
  try rfl
theorem b_108_57 (xs : List Int) (d : Nat) {r s N : Nat} {h : aH} (hr : kd h r 9 16) (hN : h.1.1 = N) : ev xs d mm_108 57 [some (.inr (.inr ((r : Nat) : Int)))] [.inr (.inr ((s : Nat) : Int)), .inr (.inr ((r : Nat) : Int))] h = ev xs d mm_108 70 [some (.inr (.inr ((r : Nat) : Int)))] [.inr (.inr ((N : Nat) : Int)), .inr (.inr ((r : Nat) : Int))] (opA (opW (opW h r 6 ((s : Nat) : Int)) r 7 0) N 101 8 (fun _ => 0)) := by
  subst hN
  rw [q_108_57]
  try simp only [kd_ok hr, nn0, cond_true, Bool.and_true, Bool.true_and, bV_s]
  try rfl
theorem b_108_70 (xs : List Int) (d : Nat) {r s N : Nat} {h : aH} (hr : kd h r 9 16) (hN : h.1.1 = N) : ev xs d mm_108 70 [some (.inr (.inr ((r : Nat) : Int)))] [.inr (.inr ((s : Nat) : Int)), .inr (.inr ((r : Nat) : Int))] h = ev xs d mm_108 78 [some (.inr (.inr ((r : Nat) : Int)))] [.inr (.inr ((N : Nat) : Int)), .inr (.inr ((r : Nat) : Int))] (opA (opW h r 8 ((s : Nat) : Int)) N 101 8 (fun _ => 0)) := by
  subst hN
  rw [q_108_70]
  try simp only [kd_ok hr, nn0, cond_true, Bool.and_true, Bool.true_and, bV_s]
  try rfl
theorem b_108_78 (xs : List Int) (d : Nat) {r s N : Nat} {h : aH} (hr : kd h r 9 16) (hN : h.1.1 = N) : ev xs d mm_108 78 [some (.inr (.inr ((r : Nat) : Int)))] [.inr (.inr ((s : Nat) : Int)), .inr (.inr ((r : Nat) : Int))] h = ev xs d mm_108 86 [some (.inr (.inr ((r : Nat) : Int)))] [.inr (.inr ((N : Nat) : Int)), .inr (.inr ((r : Nat) : Int))] (opA (opW h r 9 ((s : Nat) : Int)) N 101 8 (fun _ => 0)) := by
  subst hN
  rw [q_108_78]
  try simp only [kd_ok hr, nn0, cond_true, Bool.and_true, Bool.true_and, bV_s]
  try rfl
theorem b_108_86 (xs : List Int) (d : Nat) {r s N : Nat} {h : aH} (hr : kd h r 9 16) (hN : h.1.1 = N) : ev xs d mm_108 86 [some (.inr (.inr ((r : Nat) : Int)))] [.inr (.inr ((s : Nat) : Int)), .inr (.inr ((r : Nat) : Int))] h = ev xs d mm_108 98 [some (.inr (.inr ((r : Nat) : Int)))] [.inr (.inr ((N : Nat) : Int)), .inr (.inr ((r : Nat) : Int))] (opA (opW (opW h r 10 ((s : Nat) : Int)) r 11 0) N 100 5 (fun _ => 0)) := by
  subst hN
  rw [q_108_86]
  try simp only [kd_ok hr, nn0, cond_true, Bool.and_true, Bool.true_and, bV_s]
  try rfl
theorem b_108_98 (xs : List Int) (d : Nat) {r s N : Nat} {h : aH} (hr : kd h r 9 16) (hN : h.1.1 = N) : ev xs d mm_108 98 [some (.inr (.inr ((r : Nat) : Int)))] [.inr (.inr ((s : Nat) : Int)), .inr (.inr ((r : Nat) : Int))] h = ev xs d mm_108 106 [some (.inr (.inr ((r : Nat) : Int)))] [.inr (.inr ((N : Nat) : Int)), .inr (.inr ((r : Nat) : Int))] (opA (opW h r 12 ((s : Nat) : Int)) N 100 120 (fun _ => 0)) := by
  subst hN
  rw [q_108_98]
  try simp only [kd_ok hr, nn0, cond_true, Bool.and_true, Bool.true_and, bV_s]
  try rfl
theorem b_108_106 (xs : List Int) (d : Nat) {r s N : Nat} {h : aH} (hr : kd h r 9 16) (hN : h.1.1 = N) : ev xs d mm_108 106 [some (.inr (.inr ((r : Nat) : Int)))] [.inr (.inr ((s : Nat) : Int)), .inr (.inr ((r : Nat) : Int))] h = ev xs d mm_108 113 [some (.inr (.inr ((r : Nat) : Int)))] [.inr (.inr ((N : Nat) : Int)), .inr (.inr ((r : Nat) : Int))] (opA (opW h r 13 ((s : Nat) : Int)) N 0 6 (adf 0)) := by
  subst hN
  rw [q_108_106]
  try simp only [kd_ok hr, nn0, cond_true, Bool.and_true, Bool.true_and, bV_s]
  try rfl
theorem b_108_113 (xs : List Int) (d : Nat) {r s : Nat} {h h1 : aH} (e : cl xs d 0 [.inr (.inr ((s : Nat) : Int))] h = some (none, h1)) (hr : kd h1 r 9 16) : ev xs d mm_108 113 [some (.inr (.inr ((r : Nat) : Int)))] [.inr (.inr ((s : Nat) : Int)), .inr (.inr ((r : Nat) : Int))] h = some (none, (opW (opW h1 r 14 ((s : Nat) : Int)) r 15 0)) := by
  rw [q_108_113]
  try simp only [e, kd_ok hr, nn0, cond_true, Bool.and_true, Bool.true_and, bV_s]
  try rfl
def o108 (h : aH) (r n : Nat) : aH := (opW (opW (o0 (opA (opW (opA (opW (opA (opW (opW (opA (opW (opA (opW (opA (opW (opW (opA (opW (opW (o29 (opA (opW (o84 (opA (opW (opA (opW (opA (opW h r 0 0) n 101 6 (fun _ => 0)) r 1 ((n : Nat) : Int)) (n + 1) 100 6 (fun _ => 0)) r 2 (((n + 1) : Nat) : Int)) (n + 2) 7 5 (adf 7)) (n + 2) (n + 3)) r 3 (((n + 2) : Nat) : Int)) (n + 7) 3 3 (adf 3)) (n + 7) (n + 8)) r 4 (((n + 7) : Nat) : Int)) r 5 0) (n + 11) 101 10 (fun _ => 0)) r 6 (((n + 11) : Nat) : Int)) r 7 0) (n + 12) 101 8 (fun _ => 0)) r 8 (((n + 12) : Nat) : Int)) (n + 13) 101 8 (fun _ => 0)) r 9 (((n + 13) : Nat) : Int)) (n + 14) 101 8 (fun _ => 0)) r 10 (((n + 14) : Nat) : Int)) r 11 0) (n + 15) 100 5 (fun _ => 0)) r 12 (((n + 15) : Nat) : Int)) (n + 16) 100 120 (fun _ => 0)) r 13 (((n + 16) : Nat) : Int)) (n + 17) 0 6 (adf 0)) (n + 17) (n + 18)) r 14 (((n + 17) : Nat) : Int)) r 15 0)
theorem kd_o108 {h : aH} {r n q a b : Nat} (hn : h.1.1 = n) (hk : kd h q a b) : kd (o108 h r n) q a b := by
  subst hn
  unfold o108
  exact (by repeat (first | assumption | exact kd_N _ _ _ _ _ | apply kd_W | apply kd_A rfl | apply kd_o0 rfl | apply kd_o11 rfl | apply kd_o19 rfl | apply kd_o29 rfl | apply kd_o60 rfl | apply kd_o72 rfl | apply kd_o84 rfl | apply kd_o88 rfl | apply kd_o113 rfl))
theorem i_108 (xs : List Int) (d : Nat) {h : aH} {r n : Nat} (hn : h.1.1 = n) (hr : kd h r 9 16) : cl xs (d + 2) 108 [.inr (.inr ((r : Nat) : Int))] h = some (none, o108 h r n) :=
  (Eq.trans (b_108_0 xs _ (N := n) hr hn) (Eq.trans (b_108_14 xs _ (N := (n + 1)) (kd_A hn (kd_W hr)) rfl) (Eq.trans (b_108_22 xs _ (N := (n + 2)) (kd_A rfl (kd_W (kd_A hn (kd_W hr)))) rfl) (Eq.trans (b_108_29 xs _ (N := (n + 7)) (i_84 xs _ (n := (n + 3)) rfl (kd_N _ _ _ _ _)) (kd_o84 rfl (kd_A rfl (kd_W (kd_A rfl (kd_W (kd_A hn (kd_W hr))))))) rfl) (Eq.trans (b_108_40 xs _ (N := (n + 11)) (i_29 xs _ (n := (n + 8)) rfl (kd_N _ _ _ _ _)) (kd_o29 rfl (kd_A rfl (kd_W (kd_o84 rfl (kd_A rfl (kd_W (kd_A rfl (kd_W (kd_A hn (kd_W hr)))))))))) rfl) (Eq.trans (b_108_57 xs _ (N := (n + 12)) (kd_A rfl (kd_W (kd_W (kd_o29 rfl (kd_A rfl (kd_W (kd_o84 rfl (kd_A rfl (kd_W (kd_A rfl (kd_W (kd_A hn (kd_W hr))))))))))))) rfl) (Eq.trans (b_108_70 xs _ (N := (n + 13)) (kd_A rfl (kd_W (kd_W (kd_A rfl (kd_W (kd_W (kd_o29 rfl (kd_A rfl (kd_W (kd_o84 rfl (kd_A rfl (kd_W (kd_A rfl (kd_W (kd_A hn (kd_W hr)))))))))))))))) rfl) (Eq.trans (b_108_78 xs _ (N := (n + 14)) (kd_A rfl (kd_W (kd_A rfl (kd_W (kd_W (kd_A rfl (kd_W (kd_W (kd_o29 rfl (kd_A rfl (kd_W (kd_o84 rfl (kd_A rfl (kd_W (kd_A rfl (kd_W (kd_A hn (kd_W hr)))))))))))))))))) rfl) (Eq.trans (b_108_86 xs _ (N := (n + 15)) (kd_A rfl (kd_W (kd_A rfl (kd_W (kd_A rfl (kd_W (kd_W (kd_A rfl (kd_W (kd_W (kd_o29 rfl (kd_A rfl (kd_W (kd_o84 rfl (kd_A rfl (kd_W (kd_A rfl (kd_W (kd_A hn (kd_W hr)))))))))))))))))))) rfl) (Eq.trans (b_108_98 xs _ (N := (n + 16)) (kd_A rfl (kd_W (kd_W (kd_A rfl (kd_W (kd_A rfl (kd_W (kd_A rfl (kd_W (kd_W (kd_A rfl (kd_W (kd_W (kd_o29 rfl (kd_A rfl (kd_W (kd_o84 rfl (kd_A rfl (kd_W (kd_A rfl (kd_W (kd_A hn (kd_W hr))))))))))))))))))))))) rfl) (Eq.trans (b_108_106 xs _ (N := (n + 17)) (kd_A rfl (kd_W (kd_A rfl (kd_W (kd_W (kd_A rfl (kd_W (kd_A rfl (kd_W (kd_A rfl (kd_W (kd_W (kd_A rfl (kd_W (kd_W (kd_o29 rfl (kd_A rfl (kd_W (kd_o84 rfl (kd_A rfl (kd_W (kd_A rfl (kd_W (kd_A hn (kd_W hr))))))))))))))))))))))))) rfl) (b_108_113 xs _ (i_0 xs _ (n := (n + 18)) rfl (kd_N _ _ _ _ _)) (kd_o0 rfl (kd_A rfl (kd_W (kd_A rfl (kd_W (kd_A rfl (kd_W (kd_W (kd_A rfl (kd_W (kd_A rfl (kd_W (kd_A rfl (kd_W (kd_W (kd_A rfl (kd_W (kd_W (kd_o29 rfl (kd_A rfl (kd_W (kd_o84 rfl (kd_A rfl (kd_W (kd_A rfl (kd_W (kd_A hn (kd_W hr))))))))))))))))))))))))))))))))))))))))
theorem n_o108 (h : aH) (r n : Nat) : (o108 h r n).1.1 = n + 21 := rfl
theorem b_187_0 (xs : List Int) (d : Nat) {r N : Nat} {h : aH} (hr : kd h r 12 85) (hN : h.1.1 = N) : cl xs (d + 1) 187 [.inr (.inr ((r : Nat) : Int))] h = ev xs d mm_187 10 [some (.inr (.inr ((r : Nat) : Int)))] [.inr (.inr ((N : Nat) : Int)), .inr (.inr ((r : Nat) : Int))] (opA h N 102 2000 (fun _ => 0)) := by
  subst hN
  rw [c_187]
  try simp only [kd_ok hr, nn0, cond_true, Bool.and_true, Bool.true_and, bV_s]
  try rfl
theorem b_187_10 (xs : List Int) (d : Nat) {r s N : Nat} {h : aH} (hr : kd h r 12 85) (hN : h.1.1 = N) : ev xs d mm_187 10 [some (.inr (.inr ((r : Nat) : Int)))] [.inr (.inr ((s : Nat) : Int)), .inr (.inr ((r : Nat) : Int))] h = ev xs d mm_187 19 [some (.inr (.inr ((r : Nat) : Int)))] [.inr (.inr ((N : Nat) : Int)), .inr (.inr ((r : Nat) : Int))] (opA (opW h r 1 ((s : Nat) : Int)) N 102 2000 (fun _ => 0)) := by
  subst hN
  rw [q_187_10]
  try simp only [kd_ok hr, nn0, cond_true, Bool.and_true, Bool.true_and, bV_s]
  try rfl
theorem b_187_19 (xs : List Int) (d : Nat) {r s N : Nat} {h : aH} (hr : kd h r 12 85) (hN : h.1.1 = N) : ev xs d mm_187 19 [some (.inr (.inr ((r : Nat) : Int)))] [.inr (.inr ((s : Nat) : Int)), .inr (.inr ((r : Nat) : Int))] h = ev xs d mm_187 28 [some (.inr (.inr ((r : Nat) : Int)))] [.inr (.inr ((N : Nat) : Int)), .inr (.inr ((r : Nat) : Int))] (opA (opW h r 3 ((s : Nat) : Int)) N 100 403 (fun _ => 0)) := by
  subst hN
  rw [q_187_19]
  try simp only [kd_ok hr, nn0, cond_true, Bool.and_true, Bool.true_and, bV_s]
  try rfl
theorem b_187_28 (xs : List Int) (d : Nat) {r s N : Nat} {h : aH} (hr : kd h r 12 85) (hN : h.1.1 = N) : ev xs d mm_187 28 [some (.inr (.inr ((r : Nat) : Int)))] [.inr (.inr ((s : Nat) : Int)), .inr (.inr ((r : Nat) : Int))] h = ev xs d mm_187 37 [some (.inr (.inr ((r : Nat) : Int)))] [.inr (.inr ((N : Nat) : Int)), .inr (.inr ((r : Nat) : Int))] (opA (opW h r 5 ((s : Nat) : Int)) N 100 403 (fun _ => 0)) := by
  subst hN
  rw [q_187_28]
  try simp only [kd_ok hr, nn0, cond_true, Bool.and_true, Bool.true_and, bV_s]
  try rfl
theorem b_187_37 (xs : List Int) (d : Nat) {r s N : Nat} {h : aH} (hr : kd h r 12 85) (hN : h.1.1 = N) : ev xs d mm_187 37 [some (.inr (.inr ((r : Nat) : Int)))] [.inr (.inr ((s : Nat) : Int)), .inr (.inr ((r : Nat) : Int))] h = ev xs d mm_187 46 [some (.inr (.inr ((r : Nat) : Int)))] [.inr (.inr ((N : Nat) : Int)), .inr (.inr ((r : Nat) : Int))] (opA (opW h r 6 ((s : Nat) : Int)) N 100 403 (fun _ => 0)) := by
  subst hN
  rw [q_187_37]
  try simp only [kd_ok hr, nn0, cond_true, Bool.and_true, Bool.true_and, bV_s]
  try rfl
theorem b_187_46 (xs : List Int) (d : Nat) {r s N : Nat} {h : aH} (hr : kd h r 12 85) (hN : h.1.1 = N) : ev xs d mm_187 46 [some (.inr (.inr ((r : Nat) : Int)))] [.inr (.inr ((s : Nat) : Int)), .inr (.inr ((r : Nat) : Int))] h = ev xs d mm_187 55 [some (.inr (.inr ((r : Nat) : Int)))] [.inr (.inr ((N : Nat) : Int)), .inr (.inr ((r : Nat) : Int))] (opA (opW h r 7 ((s : Nat) : Int)) N 101 403 (fun _ => 0)) := by
  subst hN
  rw [q_187_46]
  try simp only [kd_ok hr, nn0, cond_true, Bool.and_true, Bool.true_and, bV_s]
  try rfl
theorem b_187_55 (xs : List Int) (d : Nat) {r s N : Nat} {h : aH} (hr : kd h r 12 85) (hN : h.1.1 = N) : ev xs d mm_187 55 [some (.inr (.inr ((r : Nat) : Int)))] [.inr (.inr ((s : Nat) : Int)), .inr (.inr ((r : Nat) : Int))] h = ev xs d mm_187 63 [some (.inr (.inr ((r : Nat) : Int)))] [.inr (.inr ((N : Nat) : Int)), .inr (.inr ((r : Nat) : Int))] (opA (opW h r 8 ((s : Nat) : Int)) N 101 24 (fun _ => 0)) := by
  subst hN
  rw [q_187_55]
  try simp only [kd_ok hr, nn0, cond_true, Bool.and_true, Bool.true_and, bV_s]
  try rfl
theorem b_187_63 (xs : List Int) (d : Nat) {r s N : Nat} {h : aH} (hr : kd h r 12 85) (hN : h.1.1 = N) : ev xs d mm_187 63 [some (.inr (.inr ((r : Nat) : Int)))] [.inr (.inr ((s : Nat) : Int)), .inr (.inr ((r : Nat) : Int))] h = ev xs d mm_187 75 [some (.inr (.inr ((r : Nat) : Int)))] [.inr (.inr ((N : Nat) : Int)), .inr (.inr ((r : Nat) : Int))] (opA (opW (opW h r 9 ((s : Nat) : Int)) r 17 (-1)) N 100 2 (fun _ => 0)) := by
  subst hN
  rw [q_187_63]
  try simp only [kd_ok hr, nn0, cond_true, Bool.and_true, Bool.true_and, bV_s]
  try rfl
theorem b_187_75 (xs : List Int) (d : Nat) {r s N : Nat} {h : aH} (hr : kd h r 12 85) (hN : h.1.1 = N) : ev xs d mm_187 75 [some (.inr (.inr ((r : Nat) : Int)))] [.inr (.inr ((s : Nat) : Int)), .inr (.inr ((r : Nat) : Int))] h = ev xs d mm_187 83 [some (.inr (.inr ((r : Nat) : Int)))] [.inr (.inr ((N : Nat) : Int)), .inr (.inr ((r : Nat) : Int))] (opA (opW h r 20 ((s : Nat) : Int)) N 101 12 (fun _ => 0)) := by
  subst hN
  rw [q_187_75]
  try simp only [kd_ok hr, nn0, cond_true, Bool.and_true, Bool.true_and, bV_s]
  try rfl
theorem b_187_83 (xs : List Int) (d : Nat) {r s N : Nat} {h : aH} (hr : kd h r 12 85) (hN : h.1.1 = N) : ev xs d mm_187 83 [some (.inr (.inr ((r : Nat) : Int)))] [.inr (.inr ((s : Nat) : Int)), .inr (.inr ((r : Nat) : Int))] h = ev xs d mm_187 91 [some (.inr (.inr ((r : Nat) : Int)))] [.inr (.inr ((N : Nat) : Int)), .inr (.inr ((r : Nat) : Int))] (opA (opW h r 21 ((s : Nat) : Int)) N 100 12 (fun _ => 0)) := by
  subst hN
  rw [q_187_83]
  try simp only [kd_ok hr, nn0, cond_true, Bool.and_true, Bool.true_and, bV_s]
  try rfl
theorem b_187_91 (xs : List Int) (d : Nat) {r s N : Nat} {h : aH} (hr : kd h r 12 85) (hN : h.1.1 = N) : ev xs d mm_187 91 [some (.inr (.inr ((r : Nat) : Int)))] [.inr (.inr ((s : Nat) : Int)), .inr (.inr ((r : Nat) : Int))] h = ev xs d mm_187 98 [some (.inr (.inr ((r : Nat) : Int)))] [.inr (.inr ((N : Nat) : Int)), .inr (.inr ((r : Nat) : Int))] (opA (opW h r 22 ((s : Nat) : Int)) N 100 2 (fun _ => 0)) := by
  subst hN
  rw [q_187_91]
  try simp only [kd_ok hr, nn0, cond_true, Bool.and_true, Bool.true_and, bV_s]
  try rfl
theorem b_187_98 (xs : List Int) (d : Nat) {r s N : Nat} {h : aH} (hr : kd h r 12 85) (hN : h.1.1 = N) : ev xs d mm_187 98 [some (.inr (.inr ((r : Nat) : Int)))] [.inr (.inr ((s : Nat) : Int)), .inr (.inr ((r : Nat) : Int))] h = ev xs d mm_187 106 [some (.inr (.inr ((r : Nat) : Int)))] [.inr (.inr ((N : Nat) : Int)), .inr (.inr ((r : Nat) : Int))] (opA (opW h r 23 ((s : Nat) : Int)) N 100 14 (fun _ => 0)) := by
  subst hN
  rw [q_187_98]
  try simp only [kd_ok hr, nn0, cond_true, Bool.and_true, Bool.true_and, bV_s]
  try rfl
theorem b_187_106 (xs : List Int) (d : Nat) {r s N : Nat} {h : aH} (hr : kd h r 12 85) (hN : h.1.1 = N) : ev xs d mm_187 106 [some (.inr (.inr ((r : Nat) : Int)))] [.inr (.inr ((s : Nat) : Int)), .inr (.inr ((r : Nat) : Int))] h = ev xs d mm_187 114 [some (.inr (.inr ((r : Nat) : Int)))] [.inr (.inr ((N : Nat) : Int)), .inr (.inr ((r : Nat) : Int))] (opA (opW h r 24 ((s : Nat) : Int)) N 100 14 (fun _ => 0)) := by
  subst hN
  rw [q_187_106]
  try simp only [kd_ok hr, nn0, cond_true, Bool.and_true, Bool.true_and, bV_s]
  try rfl
theorem b_187_114 (xs : List Int) (d : Nat) {r s N : Nat} {h : aH} (hr : kd h r 12 85) (hN : h.1.1 = N) : ev xs d mm_187 114 [some (.inr (.inr ((r : Nat) : Int)))] [.inr (.inr ((s : Nat) : Int)), .inr (.inr ((r : Nat) : Int))] h = ev xs d mm_187 122 [some (.inr (.inr ((r : Nat) : Int)))] [.inr (.inr ((N : Nat) : Int)), .inr (.inr ((r : Nat) : Int))] (opA (opW h r 25 ((s : Nat) : Int)) N 100 14 (fun _ => 0)) := by
  subst hN
  rw [q_187_114]
  try simp only [kd_ok hr, nn0, cond_true, Bool.and_true, Bool.true_and, bV_s]
  try rfl
theorem b_187_122 (xs : List Int) (d : Nat) {r s N : Nat} {h : aH} (hr : kd h r 12 85) (hN : h.1.1 = N) : ev xs d mm_187 122 [some (.inr (.inr ((r : Nat) : Int)))] [.inr (.inr ((s : Nat) : Int)), .inr (.inr ((r : Nat) : Int))] h = ev xs d mm_187 130 [some (.inr (.inr ((r : Nat) : Int)))] [.inr (.inr ((N : Nat) : Int)), .inr (.inr ((r : Nat) : Int))] (opA (opW h r 26 ((s : Nat) : Int)) N 100 14 (fun _ => 0)) := by
  subst hN
  rw [q_187_122]
  try simp only [kd_ok hr, nn0, cond_true, Bool.and_true, Bool.true_and, bV_s]
  try rfl
theorem b_187_130 (xs : List Int) (d : Nat) {r s N : Nat} {h : aH} (hr : kd h r 12 85) (hN : h.1.1 = N) : ev xs d mm_187 130 [some (.inr (.inr ((r : Nat) : Int)))] [.inr (.inr ((s : Nat) : Int)), .inr (.inr ((r : Nat) : Int))] h = ev xs d mm_187 138 [some (.inr (.inr ((r : Nat) : Int)))] [.inr (.inr ((N : Nat) : Int)), .inr (.inr ((r : Nat) : Int))] (opA (opW h r 27 ((s : Nat) : Int)) N 100 14 (fun _ => 0)) := by
  subst hN
  rw [q_187_130]
  try simp only [kd_ok hr, nn0, cond_true, Bool.and_true, Bool.true_and, bV_s]
  try rfl
theorem b_187_138 (xs : List Int) (d : Nat) {r s N : Nat} {h : aH} (hr : kd h r 12 85) (hN : h.1.1 = N) : ev xs d mm_187 138 [some (.inr (.inr ((r : Nat) : Int)))] [.inr (.inr ((s : Nat) : Int)), .inr (.inr ((r : Nat) : Int))] h = ev xs d mm_187 146 [some (.inr (.inr ((r : Nat) : Int)))] [.inr (.inr ((N : Nat) : Int)), .inr (.inr ((r : Nat) : Int))] (opA (opW h r 28 ((s : Nat) : Int)) N 100 14 (fun _ => 0)) := by
  subst hN
  rw [q_187_138]
  try simp only [kd_ok hr, nn0, cond_true, Bool.and_true, Bool.true_and, bV_s]
  try rfl
theorem b_187_146 (xs : List Int) (d : Nat) {r s N : Nat} {h : aH} (hr : kd h r 12 85) (hN : h.1.1 = N) : ev xs d mm_187 146 [some (.inr (.inr ((r : Nat) : Int)))] [.inr (.inr ((s : Nat) : Int)), .inr (.inr ((r : Nat) : Int))] h = ev xs d mm_187 154 [some (.inr (.inr ((r : Nat) : Int)))] [.inr (.inr ((N : Nat) : Int)), .inr (.inr ((r : Nat) : Int))] (opA (opW h r 29 ((s : Nat) : Int)) N 100 6 (fun _ => 0)) := by
  subst hN
  rw [q_187_146]
  try simp only [kd_ok hr, nn0, cond_true, Bool.and_true, Bool.true_and, bV_s]
  try rfl
theorem b_187_154 (xs : List Int) (d : Nat) {r s N : Nat} {h : aH} (hr : kd h r 12 85) (hN : h.1.1 = N) : ev xs d mm_187 154 [some (.inr (.inr ((r : Nat) : Int)))] [.inr (.inr ((s : Nat) : Int)), .inr (.inr ((r : Nat) : Int))] h = ev xs d mm_187 162 [some (.inr (.inr ((r : Nat) : Int)))] [.inr (.inr ((N : Nat) : Int)), .inr (.inr ((r : Nat) : Int))] (opA (opW h r 30 ((s : Nat) : Int)) N 101 48 (fun _ => 0)) := by
  subst hN
  rw [q_187_154]
  try simp only [kd_ok hr, nn0, cond_true, Bool.and_true, Bool.true_and, bV_s]
  try rfl
theorem b_187_162 (xs : List Int) (d : Nat) {r s N : Nat} {h : aH} (hr : kd h r 12 85) (hN : h.1.1 = N) : ev xs d mm_187 162 [some (.inr (.inr ((r : Nat) : Int)))] [.inr (.inr ((s : Nat) : Int)), .inr (.inr ((r : Nat) : Int))] h = ev xs d mm_187 170 [some (.inr (.inr ((r : Nat) : Int)))] [.inr (.inr ((N : Nat) : Int)), .inr (.inr ((r : Nat) : Int))] (opA (opW h r 31 ((s : Nat) : Int)) N 100 48 (fun _ => 0)) := by
  subst hN
  rw [q_187_162]
  try simp only [kd_ok hr, nn0, cond_true, Bool.and_true, Bool.true_and, bV_s]
  try rfl
theorem b_187_170 (xs : List Int) (d : Nat) {r s N : Nat} {h : aH} (hr : kd h r 12 85) (hN : h.1.1 = N) : ev xs d mm_187 170 [some (.inr (.inr ((r : Nat) : Int)))] [.inr (.inr ((s : Nat) : Int)), .inr (.inr ((r : Nat) : Int))] h = ev xs d mm_187 177 [some (.inr (.inr ((r : Nat) : Int)))] [.inr (.inr ((N : Nat) : Int)), .inr (.inr ((r : Nat) : Int))] (opA (opW h r 32 ((s : Nat) : Int)) N 100 2 (fun _ => 0)) := by
  subst hN
  rw [q_187_170]
  try simp only [kd_ok hr, nn0, cond_true, Bool.and_true, Bool.true_and, bV_s]
  try rfl
theorem b_187_177 (xs : List Int) (d : Nat) {r s N : Nat} {h : aH} (hr : kd h r 12 85) (hN : h.1.1 = N) : ev xs d mm_187 177 [some (.inr (.inr ((r : Nat) : Int)))] [.inr (.inr ((s : Nat) : Int)), .inr (.inr ((r : Nat) : Int))] h = ev xs d mm_187 185 [some (.inr (.inr ((r : Nat) : Int)))] [.inr (.inr ((N : Nat) : Int)), .inr (.inr ((r : Nat) : Int))] (opA (opW h r 33 ((s : Nat) : Int)) N 101 20 (fun _ => 0)) := by
  subst hN
  rw [q_187_177]
  try simp only [kd_ok hr, nn0, cond_true, Bool.and_true, Bool.true_and, bV_s]
  try rfl
theorem b_187_185 (xs : List Int) (d : Nat) {r s N : Nat} {h : aH} (hr : kd h r 12 85) (hN : h.1.1 = N) : ev xs d mm_187 185 [some (.inr (.inr ((r : Nat) : Int)))] [.inr (.inr ((s : Nat) : Int)), .inr (.inr ((r : Nat) : Int))] h = ev xs d mm_187 192 [some (.inr (.inr ((r : Nat) : Int)))] [.inr (.inr ((N : Nat) : Int)), .inr (.inr ((r : Nat) : Int))] (opA (opW h r 34 ((s : Nat) : Int)) N 100 2 (fun _ => 0)) := by
  subst hN
  rw [q_187_185]
  try simp only [kd_ok hr, nn0, cond_true, Bool.and_true, Bool.true_and, bV_s]
  try rfl
theorem b_187_192 (xs : List Int) (d : Nat) {r s N : Nat} {h : aH} (hr : kd h r 12 85) (hN : h.1.1 = N) : ev xs d mm_187 192 [some (.inr (.inr ((r : Nat) : Int)))] [.inr (.inr ((s : Nat) : Int)), .inr (.inr ((r : Nat) : Int))] h = ev xs d mm_187 200 [some (.inr (.inr ((r : Nat) : Int)))] [.inr (.inr ((N : Nat) : Int)), .inr (.inr ((r : Nat) : Int))] (opA (opW h r 35 ((s : Nat) : Int)) N 101 16 (fun _ => 0)) := by
  subst hN
  rw [q_187_192]
  try simp only [kd_ok hr, nn0, cond_true, Bool.and_true, Bool.true_and, bV_s]
  try rfl
theorem b_187_200 (xs : List Int) (d : Nat) {r s N : Nat} {h : aH} (hr : kd h r 12 85) (hN : h.1.1 = N) : ev xs d mm_187 200 [some (.inr (.inr ((r : Nat) : Int)))] [.inr (.inr ((s : Nat) : Int)), .inr (.inr ((r : Nat) : Int))] h = ev xs d mm_187 208 [some (.inr (.inr ((r : Nat) : Int)))] [.inr (.inr ((N : Nat) : Int)), .inr (.inr ((r : Nat) : Int))] (opA (opW h r 36 ((s : Nat) : Int)) N 101 16 (fun _ => 0)) := by
  subst hN
  rw [q_187_200]
  try simp only [kd_ok hr, nn0, cond_true, Bool.and_true, Bool.true_and, bV_s]
  try rfl
theorem b_187_208 (xs : List Int) (d : Nat) {r s N : Nat} {h : aH} (hr : kd h r 12 85) (hN : h.1.1 = N) : ev xs d mm_187 208 [some (.inr (.inr ((r : Nat) : Int)))] [.inr (.inr ((s : Nat) : Int)), .inr (.inr ((r : Nat) : Int))] h = ev xs d mm_187 216 [some (.inr (.inr ((r : Nat) : Int)))] [.inr (.inr ((N : Nat) : Int)), .inr (.inr ((r : Nat) : Int))] (opA (opW h r 37 ((s : Nat) : Int)) N 101 16 (fun _ => 0)) := by
  subst hN
  rw [q_187_208]
  try simp only [kd_ok hr, nn0, cond_true, Bool.and_true, Bool.true_and, bV_s]
  try rfl
theorem b_187_216 (xs : List Int) (d : Nat) {r s N : Nat} {h : aH} (hr : kd h r 12 85) (hN : h.1.1 = N) : ev xs d mm_187 216 [some (.inr (.inr ((r : Nat) : Int)))] [.inr (.inr ((s : Nat) : Int)), .inr (.inr ((r : Nat) : Int))] h = ev xs d mm_187 223 [some (.inr (.inr ((r : Nat) : Int)))] [.inr (.inr ((N : Nat) : Int)), .inr (.inr ((r : Nat) : Int))] (opA (opW h r 38 ((s : Nat) : Int)) N 100 2 (fun _ => 0)) := by
  subst hN
  rw [q_187_216]
  try simp only [kd_ok hr, nn0, cond_true, Bool.and_true, Bool.true_and, bV_s]
  try rfl
theorem b_187_223 (xs : List Int) (d : Nat) {r s N : Nat} {h : aH} (hr : kd h r 12 85) (hN : h.1.1 = N) : ev xs d mm_187 223 [some (.inr (.inr ((r : Nat) : Int)))] [.inr (.inr ((s : Nat) : Int)), .inr (.inr ((r : Nat) : Int))] h = ev xs d mm_187 231 [some (.inr (.inr ((r : Nat) : Int)))] [.inr (.inr ((N : Nat) : Int)), .inr (.inr ((r : Nat) : Int))] (opA (opW h r 39 ((s : Nat) : Int)) N 100 10 (fun _ => 0)) := by
  subst hN
  rw [q_187_223]
  try simp only [kd_ok hr, nn0, cond_true, Bool.and_true, Bool.true_and, bV_s]
  try rfl
theorem b_187_231 (xs : List Int) (d : Nat) {r s N : Nat} {h : aH} (hr : kd h r 12 85) (hN : h.1.1 = N) : ev xs d mm_187 231 [some (.inr (.inr ((r : Nat) : Int)))] [.inr (.inr ((s : Nat) : Int)), .inr (.inr ((r : Nat) : Int))] h = ev xs d mm_187 239 [some (.inr (.inr ((r : Nat) : Int)))] [.inr (.inr ((N : Nat) : Int)), .inr (.inr ((r : Nat) : Int))] (opA (opW h r 40 ((s : Nat) : Int)) N 100 10 (fun _ => 0)) := by
  subst hN
  rw [q_187_231]
  try simp only [kd_ok hr, nn0, cond_true, Bool.and_true, Bool.true_and, bV_s]
  try rfl
theorem b_187_239 (xs : List Int) (d : Nat) {r s N : Nat} {h : aH} (hr : kd h r 12 85) (hN : h.1.1 = N) : ev xs d mm_187 239 [some (.inr (.inr ((r : Nat) : Int)))] [.inr (.inr ((s : Nat) : Int)), .inr (.inr ((r : Nat) : Int))] h = ev xs d mm_187 247 [some (.inr (.inr ((r : Nat) : Int)))] [.inr (.inr ((N : Nat) : Int)), .inr (.inr ((r : Nat) : Int))] (opA (opW h r 41 ((s : Nat) : Int)) N 100 40 (fun _ => 0)) := by
  subst hN
  rw [q_187_239]
  try simp only [kd_ok hr, nn0, cond_true, Bool.and_true, Bool.true_and, bV_s]
  try rfl
theorem b_187_247 (xs : List Int) (d : Nat) {r s N : Nat} {h : aH} (hr : kd h r 12 85) (hN : h.1.1 = N) : ev xs d mm_187 247 [some (.inr (.inr ((r : Nat) : Int)))] [.inr (.inr ((s : Nat) : Int)), .inr (.inr ((r : Nat) : Int))] h = ev xs d mm_187 255 [some (.inr (.inr ((r : Nat) : Int)))] [.inr (.inr ((N : Nat) : Int)), .inr (.inr ((r : Nat) : Int))] (opA (opW h r 42 ((s : Nat) : Int)) N 100 40 (fun _ => 0)) := by
  subst hN
  rw [q_187_247]
  try simp only [kd_ok hr, nn0, cond_true, Bool.and_true, Bool.true_and, bV_s]
  try rfl
theorem b_187_255 (xs : List Int) (d : Nat) {r s N : Nat} {h : aH} (hr : kd h r 12 85) (hN : h.1.1 = N) : ev xs d mm_187 255 [some (.inr (.inr ((r : Nat) : Int)))] [.inr (.inr ((s : Nat) : Int)), .inr (.inr ((r : Nat) : Int))] h = ev xs d mm_187 262 [some (.inr (.inr ((r : Nat) : Int)))] [.inr (.inr ((N : Nat) : Int)), .inr (.inr ((r : Nat) : Int))] (opA (opW h r 43 ((s : Nat) : Int)) N 100 2 (fun _ => 0)) := by
  subst hN
  rw [q_187_255]
  try simp only [kd_ok hr, nn0, cond_true, Bool.and_true, Bool.true_and, bV_s]
  try rfl
theorem b_187_262 (xs : List Int) (d : Nat) {r s N : Nat} {h : aH} (hr : kd h r 12 85) (hN : h.1.1 = N) : ev xs d mm_187 262 [some (.inr (.inr ((r : Nat) : Int)))] [.inr (.inr ((s : Nat) : Int)), .inr (.inr ((r : Nat) : Int))] h = ev xs d mm_187 269 [some (.inr (.inr ((r : Nat) : Int)))] [.inr (.inr ((N : Nat) : Int)), .inr (.inr ((r : Nat) : Int))] (opA (opW h r 44 ((s : Nat) : Int)) N 100 2 (fun _ => 0)) := by
  subst hN
  rw [q_187_262]
  try simp only [kd_ok hr, nn0, cond_true, Bool.and_true, Bool.true_and, bV_s]
  try rfl
theorem b_187_269 (xs : List Int) (d : Nat) {r s N : Nat} {h : aH} (hr : kd h r 12 85) (hN : h.1.1 = N) : ev xs d mm_187 269 [some (.inr (.inr ((r : Nat) : Int)))] [.inr (.inr ((s : Nat) : Int)), .inr (.inr ((r : Nat) : Int))] h = ev xs d mm_187 276 [some (.inr (.inr ((r : Nat) : Int)))] [.inr (.inr ((N : Nat) : Int)), .inr (.inr ((r : Nat) : Int))] (opA (opW h r 45 ((s : Nat) : Int)) N 100 2 (fun _ => 0)) := by
  subst hN
  rw [q_187_269]
  try simp only [kd_ok hr, nn0, cond_true, Bool.and_true, Bool.true_and, bV_s]
  try rfl
theorem b_187_276 (xs : List Int) (d : Nat) {r s N : Nat} {h : aH} (hr : kd h r 12 85) (hN : h.1.1 = N) : ev xs d mm_187 276 [some (.inr (.inr ((r : Nat) : Int)))] [.inr (.inr ((s : Nat) : Int)), .inr (.inr ((r : Nat) : Int))] h = ev xs d mm_187 285 [some (.inr (.inr ((r : Nat) : Int)))] [.inr (.inr ((N : Nat) : Int)), .inr (.inr ((r : Nat) : Int))] (opA (opW h r 46 ((s : Nat) : Int)) N 103 260 (fun _ => 0)) := by
  subst hN
  rw [q_187_276]
  try simp only [kd_ok hr, nn0, cond_true, Bool.and_true, Bool.true_and, bV_s]
  try rfl
theorem b_187_285 (xs : List Int) (d : Nat) {r s N : Nat} {h : aH} (hr : kd h r 12 85) (hN : h.1.1 = N) : ev xs d mm_187 285 [some (.inr (.inr ((r : Nat) : Int)))] [.inr (.inr ((s : Nat) : Int)), .inr (.inr ((r : Nat) : Int))] h = ev xs d mm_187 294 [some (.inr (.inr ((r : Nat) : Int)))] [.inr (.inr ((N : Nat) : Int)), .inr (.inr ((r : Nat) : Int))] (opA (opW h r 48 ((s : Nat) : Int)) N 100 260 (fun _ => 0)) := by
  subst hN
  rw [q_187_285]
  try simp only [kd_ok hr, nn0, cond_true, Bool.and_true, Bool.true_and, bV_s]
  try rfl
theorem b_187_294 (xs : List Int) (d : Nat) {r s N : Nat} {h : aH} (hr : kd h r 12 85) (hN : h.1.1 = N) : ev xs d mm_187 294 [some (.inr (.inr ((r : Nat) : Int)))] [.inr (.inr ((s : Nat) : Int)), .inr (.inr ((r : Nat) : Int))] h = ev xs d mm_187 303 [some (.inr (.inr ((r : Nat) : Int)))] [.inr (.inr ((N : Nat) : Int)), .inr (.inr ((r : Nat) : Int))] (opA (opW h r 49 ((s : Nat) : Int)) N 100 260 (fun _ => 0)) := by
  subst hN
  rw [q_187_294]
  try simp only [kd_ok hr, nn0, cond_true, Bool.and_true, Bool.true_and, bV_s]
  try rfl
theorem b_187_303 (xs : List Int) (d : Nat) {r s N : Nat} {h : aH} (hr : kd h r 12 85) (hN : h.1.1 = N) : ev xs d mm_187 303 [some (.inr (.inr ((r : Nat) : Int)))] [.inr (.inr ((s : Nat) : Int)), .inr (.inr ((r : Nat) : Int))] h = ev xs d mm_187 312 [some (.inr (.inr ((r : Nat) : Int)))] [.inr (.inr ((N : Nat) : Int)), .inr (.inr ((r : Nat) : Int))] (opA (opW h r 50 ((s : Nat) : Int)) N 100 260 (fun _ => 0)) := by
  subst hN
  rw [q_187_303]
  try simp only [kd_ok hr, nn0, cond_true, Bool.and_true, Bool.true_and, bV_s]
  try rfl
theorem b_187_312 (xs : List Int) (d : Nat) {r s N : Nat} {h : aH} (hr : kd h r 12 85) (hN : h.1.1 = N) : ev xs d mm_187 312 [some (.inr (.inr ((r : Nat) : Int)))] [.inr (.inr ((s : Nat) : Int)), .inr (.inr ((r : Nat) : Int))] h = ev xs d mm_187 321 [some (.inr (.inr ((r : Nat) : Int)))] [.inr (.inr ((N : Nat) : Int)), .inr (.inr ((r : Nat) : Int))] (opA (opW h r 51 ((s : Nat) : Int)) N 100 260 (fun _ => 0)) := by
  subst hN
  rw [q_187_312]
  try simp only [kd_ok hr, nn0, cond_true, Bool.and_true, Bool.true_and, bV_s]
  try rfl
theorem b_187_321 (xs : List Int) (d : Nat) {r s N : Nat} {h : aH} (hr : kd h r 12 85) (hN : h.1.1 = N) : ev xs d mm_187 321 [some (.inr (.inr ((r : Nat) : Int)))] [.inr (.inr ((s : Nat) : Int)), .inr (.inr ((r : Nat) : Int))] h = ev xs d mm_187 330 [some (.inr (.inr ((r : Nat) : Int)))] [.inr (.inr ((N : Nat) : Int)), .inr (.inr ((r : Nat) : Int))] (opA (opW h r 52 ((s : Nat) : Int)) N 100 840 (fun _ => 0)) := by
  subst hN
  rw [q_187_321]
  try simp only [kd_ok hr, nn0, cond_true, Bool.and_true, Bool.true_and, bV_s]
  try rfl
theorem b_187_330 (xs : List Int) (d : Nat) {r s N : Nat} {h : aH} (hr : kd h r 12 85) (hN : h.1.1 = N) : ev xs d mm_187 330 [some (.inr (.inr ((r : Nat) : Int)))] [.inr (.inr ((s : Nat) : Int)), .inr (.inr ((r : Nat) : Int))] h = ev xs d mm_187 339 [some (.inr (.inr ((r : Nat) : Int)))] [.inr (.inr ((N : Nat) : Int)), .inr (.inr ((r : Nat) : Int))] (opA (opW h r 54 ((s : Nat) : Int)) N 100 840 (fun _ => 0)) := by
  subst hN
  rw [q_187_330]
  try simp only [kd_ok hr, nn0, cond_true, Bool.and_true, Bool.true_and, bV_s]
  try rfl
theorem b_187_339 (xs : List Int) (d : Nat) {r s N : Nat} {h : aH} (hr : kd h r 12 85) (hN : h.1.1 = N) : ev xs d mm_187 339 [some (.inr (.inr ((r : Nat) : Int)))] [.inr (.inr ((s : Nat) : Int)), .inr (.inr ((r : Nat) : Int))] h = ev xs d mm_187 347 [some (.inr (.inr ((r : Nat) : Int)))] [.inr (.inr ((N : Nat) : Int)), .inr (.inr ((r : Nat) : Int))] (opA (opW h r 55 ((s : Nat) : Int)) N 100 64 (fun _ => 0)) := by
  subst hN
  rw [q_187_339]
  try simp only [kd_ok hr, nn0, cond_true, Bool.and_true, Bool.true_and, bV_s]
  try rfl
theorem b_187_347 (xs : List Int) (d : Nat) {r s N : Nat} {h : aH} (hr : kd h r 12 85) (hN : h.1.1 = N) : ev xs d mm_187 347 [some (.inr (.inr ((r : Nat) : Int)))] [.inr (.inr ((s : Nat) : Int)), .inr (.inr ((r : Nat) : Int))] h = ev xs d mm_187 355 [some (.inr (.inr ((r : Nat) : Int)))] [.inr (.inr ((N : Nat) : Int)), .inr (.inr ((r : Nat) : Int))] (opA (opW h r 58 ((s : Nat) : Int)) N 100 6 (fun _ => 0)) := by
  subst hN
  rw [q_187_347]
  try simp only [kd_ok hr, nn0, cond_true, Bool.and_true, Bool.true_and, bV_s]
  try rfl
theorem b_187_355 (xs : List Int) (d : Nat) {r s N : Nat} {h : aH} (hr : kd h r 12 85) (hN : h.1.1 = N) : ev xs d mm_187 355 [some (.inr (.inr ((r : Nat) : Int)))] [.inr (.inr ((s : Nat) : Int)), .inr (.inr ((r : Nat) : Int))] h = ev xs d mm_187 364 [some (.inr (.inr ((r : Nat) : Int)))] [.inr (.inr ((N : Nat) : Int)), .inr (.inr ((r : Nat) : Int))] (opA (opW h r 60 ((s : Nat) : Int)) N 100 400 (fun _ => 0)) := by
  subst hN
  rw [q_187_355]
  try simp only [kd_ok hr, nn0, cond_true, Bool.and_true, Bool.true_and, bV_s]
  try rfl
theorem b_187_364 (xs : List Int) (d : Nat) {r s N : Nat} {h : aH} (hr : kd h r 12 85) (hN : h.1.1 = N) : ev xs d mm_187 364 [some (.inr (.inr ((r : Nat) : Int)))] [.inr (.inr ((s : Nat) : Int)), .inr (.inr ((r : Nat) : Int))] h = ev xs d mm_187 372 [some (.inr (.inr ((r : Nat) : Int)))] [.inr (.inr ((N : Nat) : Int)), .inr (.inr ((r : Nat) : Int))] (opA (opW h r 61 ((s : Nat) : Int)) N 101 60 (fun _ => 0)) := by
  subst hN
  rw [q_187_364]
  try simp only [kd_ok hr, nn0, cond_true, Bool.and_true, Bool.true_and, bV_s]
  try rfl
theorem b_187_372 (xs : List Int) (d : Nat) {r s N : Nat} {h : aH} (hr : kd h r 12 85) (hN : h.1.1 = N) : ev xs d mm_187 372 [some (.inr (.inr ((r : Nat) : Int)))] [.inr (.inr ((s : Nat) : Int)), .inr (.inr ((r : Nat) : Int))] h = ev xs d mm_187 380 [some (.inr (.inr ((r : Nat) : Int)))] [.inr (.inr ((N : Nat) : Int)), .inr (.inr ((r : Nat) : Int))] (opA (opW h r 63 ((s : Nat) : Int)) N 101 60 (fun _ => 0)) := by
  subst hN
  rw [q_187_372]
  try simp only [kd_ok hr, nn0, cond_true, Bool.and_true, Bool.true_and, bV_s]
  try rfl
theorem b_187_380 (xs : List Int) (d : Nat) {r s N : Nat} {h : aH} (hr : kd h r 12 85) (hN : h.1.1 = N) : ev xs d mm_187 380 [some (.inr (.inr ((r : Nat) : Int)))] [.inr (.inr ((s : Nat) : Int)), .inr (.inr ((r : Nat) : Int))] h = ev xs d mm_187 388 [some (.inr (.inr ((r : Nat) : Int)))] [.inr (.inr ((N : Nat) : Int)), .inr (.inr ((r : Nat) : Int))] (opA (opW h r 64 ((s : Nat) : Int)) N 100 10 (fun _ => 0)) := by
  subst hN
  rw [q_187_380]
  try simp only [kd_ok hr, nn0, cond_true, Bool.and_true, Bool.true_and, bV_s]
  try rfl
theorem b_187_388 (xs : List Int) (d : Nat) {r s N : Nat} {h : aH} (hr : kd h r 12 85) (hN : h.1.1 = N) : ev xs d mm_187 388 [some (.inr (.inr ((r : Nat) : Int)))] [.inr (.inr ((s : Nat) : Int)), .inr (.inr ((r : Nat) : Int))] h = ev xs d mm_187 397 [some (.inr (.inr ((r : Nat) : Int)))] [.inr (.inr ((N : Nat) : Int)), .inr (.inr ((r : Nat) : Int))] (opA (opW h r 65 ((s : Nat) : Int)) N 101 1800 (fun _ => 0)) := by
  subst hN
  rw [q_187_388]
  try simp only [kd_ok hr, nn0, cond_true, Bool.and_true, Bool.true_and, bV_s]
  try rfl
theorem b_187_397 (xs : List Int) (d : Nat) {r s N : Nat} {h : aH} (hr : kd h r 12 85) (hN : h.1.1 = N) : ev xs d mm_187 397 [some (.inr (.inr ((r : Nat) : Int)))] [.inr (.inr ((s : Nat) : Int)), .inr (.inr ((r : Nat) : Int))] h = ev xs d mm_187 406 [some (.inr (.inr ((r : Nat) : Int)))] [.inr (.inr ((N : Nat) : Int)), .inr (.inr ((r : Nat) : Int))] (opA (opW h r 71 ((s : Nat) : Int)) N 101 1800 (fun _ => 0)) := by
  subst hN
  rw [q_187_397]
  try simp only [kd_ok hr, nn0, cond_true, Bool.and_true, Bool.true_and, bV_s]
  try rfl
theorem b_187_406 (xs : List Int) (d : Nat) {r s N : Nat} {h : aH} (hr : kd h r 12 85) (hN : h.1.1 = N) : ev xs d mm_187 406 [some (.inr (.inr ((r : Nat) : Int)))] [.inr (.inr ((s : Nat) : Int)), .inr (.inr ((r : Nat) : Int))] h = ev xs d mm_187 415 [some (.inr (.inr ((r : Nat) : Int)))] [.inr (.inr ((N : Nat) : Int)), .inr (.inr ((r : Nat) : Int))] (opA (opW h r 72 ((s : Nat) : Int)) N 100 1800 (fun _ => 0)) := by
  subst hN
  rw [q_187_406]
  try simp only [kd_ok hr, nn0, cond_true, Bool.and_true, Bool.true_and, bV_s]
  try rfl
theorem b_187_415 (xs : List Int) (d : Nat) {r s N : Nat} {h : aH} (hr : kd h r 12 85) (hN : h.1.1 = N) : ev xs d mm_187 415 [some (.inr (.inr ((r : Nat) : Int)))] [.inr (.inr ((s : Nat) : Int)), .inr (.inr ((r : Nat) : Int))] h = ev xs d mm_187 423 [some (.inr (.inr ((r : Nat) : Int)))] [.inr (.inr ((N : Nat) : Int)), .inr (.inr ((r : Nat) : Int))] (opA (opW h r 73 ((s : Nat) : Int)) N 100 7 (fun _ => 0)) := by
  subst hN
  rw [q_187_415]
  try simp only [kd_ok hr, nn0, cond_true, Bool.and_true, Bool.true_and, bV_s]
  try rfl
theorem b_187_423 (xs : List Int) (d : Nat) {r s N : Nat} {h : aH} (hr : kd h r 12 85) (hN : h.1.1 = N) : ev xs d mm_187 423 [some (.inr (.inr ((r : Nat) : Int)))] [.inr (.inr ((s : Nat) : Int)), .inr (.inr ((r : Nat) : Int))] h = ev xs d mm_187 431 [some (.inr (.inr ((r : Nat) : Int)))] [.inr (.inr ((N : Nat) : Int)), .inr (.inr ((r : Nat) : Int))] (opA (opW h r 75 ((s : Nat) : Int)) N 100 7 (fun _ => 0)) := by
  subst hN
  rw [q_187_423]
  try simp only [kd_ok hr, nn0, cond_true, Bool.and_true, Bool.true_and, bV_s]
  try rfl
theorem b_187_431 (xs : List Int) (d : Nat) {r s N : Nat} {h : aH} (hr : kd h r 12 85) (hN : h.1.1 = N) : ev xs d mm_187 431 [some (.inr (.inr ((r : Nat) : Int)))] [.inr (.inr ((s : Nat) : Int)), .inr (.inr ((r : Nat) : Int))] h = ev xs d mm_187 439 [some (.inr (.inr ((r : Nat) : Int)))] [.inr (.inr ((N : Nat) : Int)), .inr (.inr ((r : Nat) : Int))] (opA (opW h r 76 ((s : Nat) : Int)) N 100 7 (fun _ => 0)) := by
  subst hN
  rw [q_187_431]
  try simp only [kd_ok hr, nn0, cond_true, Bool.and_true, Bool.true_and, bV_s]
  try rfl
theorem b_187_439 (xs : List Int) (d : Nat) {r s N : Nat} {h : aH} (hr : kd h r 12 85) (hN : h.1.1 = N) : ev xs d mm_187 439 [some (.inr (.inr ((r : Nat) : Int)))] [.inr (.inr ((s : Nat) : Int)), .inr (.inr ((r : Nat) : Int))] h = ev xs d mm_187 448 [some (.inr (.inr ((r : Nat) : Int)))] [.inr (.inr ((N : Nat) : Int)), .inr (.inr ((r : Nat) : Int))] (opA (opW h r 78 ((s : Nat) : Int)) N 101 128 (fun _ => 0)) := by
  subst hN
  rw [q_187_439]
  try simp only [kd_ok hr, nn0, cond_true, Bool.and_true, Bool.true_and, bV_s]
  try rfl
theorem b_187_448 (xs : List Int) (d : Nat) {r s N : Nat} {h : aH} (hr : kd h r 12 85) (hN : h.1.1 = N) : ev xs d mm_187 448 [some (.inr (.inr ((r : Nat) : Int)))] [.inr (.inr ((s : Nat) : Int)), .inr (.inr ((r : Nat) : Int))] h = ev xs d mm_187 456 [some (.inr (.inr ((r : Nat) : Int)))] [.inr (.inr ((N : Nat) : Int)), .inr (.inr ((r : Nat) : Int))] (opA (opW h r 80 ((s : Nat) : Int)) N 100 81 (fun _ => 0)) := by
  subst hN
  rw [q_187_448]
  try simp only [kd_ok hr, nn0, cond_true, Bool.and_true, Bool.true_and, bV_s]
  try rfl
theorem b_187_456 (xs : List Int) (d : Nat) {r s N : Nat} {h : aH} (hr : kd h r 12 85) (hN : h.1.1 = N) : ev xs d mm_187 456 [some (.inr (.inr ((r : Nat) : Int)))] [.inr (.inr ((s : Nat) : Int)), .inr (.inr ((r : Nat) : Int))] h = ev xs d mm_187 464 [some (.inr (.inr ((r : Nat) : Int)))] [.inr (.inr ((N : Nat) : Int)), .inr (.inr ((r : Nat) : Int))] (opA (opW h r 81 ((s : Nat) : Int)) N 100 24 (fun _ => 0)) := by
  subst hN
  rw [q_187_456]
  try simp only [kd_ok hr, nn0, cond_true, Bool.and_true, Bool.true_and, bV_s]
  try rfl
theorem b_187_464 (xs : List Int) (d : Nat) {r s N : Nat} {h : aH} (hr : kd h r 12 85) (hN : h.1.1 = N) : ev xs d mm_187 464 [some (.inr (.inr ((r : Nat) : Int)))] [.inr (.inr ((s : Nat) : Int)), .inr (.inr ((r : Nat) : Int))] h = ev xs d mm_187 471 [some (.inr (.inr ((r : Nat) : Int)))] [.inr (.inr ((N : Nat) : Int)), .inr (.inr ((r : Nat) : Int))] (opA (opW h r 82 ((s : Nat) : Int)) N 103 3 (fun _ => 0)) := by
  subst hN
  rw [q_187_464]
  try simp only [kd_ok hr, nn0, cond_true, Bool.and_true, Bool.true_and, bV_s]
  try rfl
theorem b_187_471 (xs : List Int) (d : Nat) {r s N : Nat} {h : aH} (hr : kd h r 12 85) (hN : h.1.1 = N) : ev xs d mm_187 471 [some (.inr (.inr ((r : Nat) : Int)))] [.inr (.inr ((s : Nat) : Int)), .inr (.inr ((r : Nat) : Int))] h = ev xs d mm_187 480 [some (.inr (.inr ((r : Nat) : Int)))] [.inr (.inr ((N : Nat) : Int)), .inr (.inr ((r : Nat) : Int))] (opA (opW h r 83 ((s : Nat) : Int)) N 101 180 (fun _ => 0)) := by
  subst hN
  rw [q_187_471]
  try simp only [kd_ok hr, nn0, cond_true, Bool.and_true, Bool.true_and, bV_s]
  try rfl
theorem b_120_0 (xs : List Int) (d : Nat) {r N : Nat} {h : aH} (hr : kd h r 11 20) (hN : h.1.1 = N) : cl xs (d + 1) 120 [.inr (.inr ((r : Nat) : Int))] h = ev xs d mm_120 10 [some (.inr (.inr ((r : Nat) : Int))), none] [.inr (.inr ((N : Nat) : Int)), .inr (.inr ((r : Nat) : Int))] (opA h N 102 2000 (fun _ => 0)) := by
  subst hN
  rw [c_120]
  try simp only [kd_ok hr, nn0, cond_true, Bool.and_true, Bool.true_and, bV_s]
  try rfl
theorem b_120_10 (xs : List Int) (d : Nat) {r s : Nat} {h : aH} (hr : kd h r 11 20) : ev xs d mm_120 10 [some (.inr (.inr ((r : Nat) : Int))), none] [.inr (.inr ((s : Nat) : Int)), .inr (.inr ((r : Nat) : Int))] h = ev xs d mm_120 23 [some (.inr (.inr ((r : Nat) : Int))), none] [] (opW (opW (opW h r 0 ((s : Nat) : Int)) r 1 0) r 2 (-1)) := by
  rw [q_120_10]
  try simp only [kd_ok hr, nn0, cond_true, Bool.and_true, Bool.true_and, bV_s]
  try rfl
theorem b_120_23 (xs : List Int) (d : Nat) {r N : Nat} {h : aH} (hr : kd h r 11 20) (hN : h.1.1 = N) : ev xs d mm_120 23 [some (.inr (.inr ((r : Nat) : Int))), none] [] h = ev xs d mm_120 27 [some (.inr (.inr ((r : Nat) : Int))), none] [.inr (.inr ((N : Nat) : Int)), .inr (.inr ((r : Nat) : Int))] (opA h N 4 9 (adf 4)) := by
  subst hN
  rw [q_120_23]
  try simp only [kd_ok hr, nn0, cond_true, Bool.and_true, Bool.true_and, bV_s]
  try rfl
theorem b_120_27 (xs : List Int) (d : Nat) {r s N : Nat} {h h1 : aH} (e : cl xs d 36 [.inr (.inr ((s : Nat) : Int))] h = some (none, h1)) (hr : kd h1 r 11 20) (hN : h1.1.1 = N) : ev xs d mm_120 27 [some (.inr (.inr ((r : Nat) : Int))), none] [.inr (.inr ((s : Nat) : Int)), .inr (.inr ((r : Nat) : Int))] h = ev xs d mm_120 38 [some (.inr (.inr ((r : Nat) : Int))), none] [.inr (.inr ((N : Nat) : Int)), .inr (.inr ((r : Nat) : Int))] (opA (opW h1 r 3 ((s : Nat) : Int)) N 8 4 (adf 8)) := by
  subst hN
  rw [q_120_27]
  try simp only [e, kd_ok hr, nn0, cond_true, Bool.and_true, Bool.true_and, bV_s]
  try rfl
theorem b_120_53 (xs : List Int) (d : Nat) {r s N : Nat} {h h1 : aH} (e : cl xs d 108 [.inr (.inr ((s : Nat) : Int))] h = some (none, h1)) (hr : kd h1 r 11 20) (hN : h1.1.1 = N) : ev xs d mm_120 53 [some (.inr (.inr ((r : Nat) : Int))), none] [.inr (.inr ((s : Nat) : Int)), .inr (.inr ((r : Nat) : Int))] h = ev xs d mm_120 64 [some (.inr (.inr ((r : Nat) : Int))), none] [.inr (.inr ((N : Nat) : Int)), .inr (.inr ((r : Nat) : Int))] (opA (opW h1 r 5 ((s : Nat) : Int)) N 9 16 (adf 9)) := by
  subst hN
  rw [q_120_53]
  try simp only [e, kd_ok hr, nn0, cond_true, Bool.and_true, Bool.true_and, bV_s]
  try rfl
theorem b_120_64 (xs : List Int) (d : Nat) {r s N : Nat} {h h1 : aH} (e : cl xs d 108 [.inr (.inr ((s : Nat) : Int))] h = some (none, h1)) (hr : kd h1 r 11 20) (hN : h1.1.1 = N) : ev xs d mm_120 64 [some (.inr (.inr ((r : Nat) : Int))), none] [.inr (.inr ((s : Nat) : Int)), .inr (.inr ((r : Nat) : Int))] h = ev xs d mm_120 75 [some (.inr (.inr ((r : Nat) : Int))), none] [.inr (.inr ((N : Nat) : Int)), .inr (.inr ((r : Nat) : Int))] (opA (opW h1 r 6 ((s : Nat) : Int)) N 6 9 (adf 6)) := by
  subst hN
  rw [q_120_64]
  try simp only [e, kd_ok hr, nn0, cond_true, Bool.and_true, Bool.true_and, bV_s]
  try rfl
theorem b_120_75 (xs : List Int) (d : Nat) {r s N : Nat} {h h1 : aH} (e : cl xs d 72 [.inr (.inr ((s : Nat) : Int))] h = some (none, h1)) (hr : kd h1 r 11 20) (hN : h1.1.1 = N) : ev xs d mm_120 75 [some (.inr (.inr ((r : Nat) : Int))), none] [.inr (.inr ((s : Nat) : Int)), .inr (.inr ((r : Nat) : Int))] h = ev xs d mm_120 86 [some (.inr (.inr ((r : Nat) : Int))), none] [.inr (.inr ((N : Nat) : Int)), .inr (.inr ((r : Nat) : Int))] (opA (opW h1 r 7 ((s : Nat) : Int)) N 6 9 (adf 6)) := by
  subst hN
  rw [q_120_75]
  try simp only [e, kd_ok hr, nn0, cond_true, Bool.and_true, Bool.true_and, bV_s]
  try rfl
theorem b_120_86 (xs : List Int) (d : Nat) {r s N : Nat} {h h1 : aH} (e : cl xs d 72 [.inr (.inr ((s : Nat) : Int))] h = some (none, h1)) (hr : kd h1 r 11 20) (hN : h1.1.1 = N) : ev xs d mm_120 86 [some (.inr (.inr ((r : Nat) : Int))), none] [.inr (.inr ((s : Nat) : Int)), .inr (.inr ((r : Nat) : Int))] h = ev xs d mm_120 99 [some (.inr (.inr ((r : Nat) : Int))), none] [.inr (.inr ((N : Nat) : Int)), .inr (.inr ((r : Nat) : Int))] (opA (opW h1 r 8 ((s : Nat) : Int)) N 104 30 (fun _ => (-1))) := by
  subst hN
  rw [q_120_86]
  try simp only [e, kd_ok hr, nn0, cond_true, Bool.and_true, Bool.true_and, bV_s]
  try rfl
theorem b_120_99 (xs : List Int) (d : Nat) {r s : Nat} {h : aH} (hr : kd h r 11 20) : ev xs d mm_120 99 [some (.inr (.inr ((r : Nat) : Int))), none] [.inr (.inr ((s : Nat) : Int)), .inr (.inr ((r : Nat) : Int))] h = ev xs d mm_120 112 [some (.inr (.inr ((r : Nat) : Int))), none] [] (opW (opW (opW h r 9 ((s : Nat) : Int)) r 10 0) r 11 0) := by
  rw [q_120_99]
  try simp only [kd_ok hr, nn0, cond_true, Bool.and_true, Bool.true_and, bV_s]
  try rfl
theorem b_120_112 (xs : List Int) (d : Nat) {r N : Nat} {h : aH} (hr : kd h r 11 20) (hN : h.1.1 = N) : ev xs d mm_120 112 [some (.inr (.inr ((r : Nat) : Int))), none] [] h = ev xs d mm_120 117 [some (.inr (.inr ((r : Nat) : Int))), none] [.inr (.inr ((N : Nat) : Int)), .inr (.inr ((r : Nat) : Int))] (opA h N 104 3 (fun _ => (-1))) := by
  subst hN
  rw [q_120_112]
  try simp only [kd_ok hr, nn0, cond_true, Bool.and_true, Bool.true_and, bV_s]
  try rfl
theorem b_120_117 (xs : List Int) (d : Nat) {r s N : Nat} {h : aH} (hr : kd h r 11 20) (hN : h.1.1 = N) : ev xs d mm_120 117 [some (.inr (.inr ((r : Nat) : Int))), none] [.inr (.inr ((s : Nat) : Int)), .inr (.inr ((r : Nat) : Int))] h = ev xs d mm_120 129 [some (.inr (.inr ((r : Nat) : Int))), none] [.inr (.inr ((N : Nat) : Int)), .inr (.inr ((r : Nat) : Int))] (opA (opW (opW h r 12 ((s : Nat) : Int)) r 13 0) N 10 3 (adf 10)) := by
  subst hN
  rw [q_120_117]
  try simp only [kd_ok hr, nn0, cond_true, Bool.and_true, Bool.true_and, bV_s]
  try rfl
theorem b_120_129 (xs : List Int) (d : Nat) {r s N : Nat} {h h1 : aH} (e : cl xs d 113 [.inr (.inr ((s : Nat) : Int))] h = some (none, h1)) (hr : kd h1 r 11 20) (hN : h1.1.1 = N) : ev xs d mm_120 129 [some (.inr (.inr ((r : Nat) : Int))), none] [.inr (.inr ((s : Nat) : Int)), .inr (.inr ((r : Nat) : Int))] h = ev xs d mm_120 140 [some (.inr (.inr ((r : Nat) : Int))), none] [.inr (.inr ((N : Nat) : Int)), .inr (.inr ((r : Nat) : Int))] (opA (opW h1 r 14 ((s : Nat) : Int)) N 1 7 (adf 1)) := by
  subst hN
  rw [q_120_129]
  try simp only [e, kd_ok hr, nn0, cond_true, Bool.and_true, Bool.true_and, bV_s]
  try rfl
theorem b_120_140 (xs : List Int) (d : Nat) {r s N : Nat} {h h1 : aH} (e : cl xs d 11 [.inr (.inr ((s : Nat) : Int))] h = some (none, h1)) (hr : kd h1 r 11 20) (hN : h1.1.1 = N) : ev xs d mm_120 140 [some (.inr (.inr ((r : Nat) : Int))), none] [.inr (.inr ((s : Nat) : Int)), .inr (.inr ((r : Nat) : Int))] h = ev xs d mm_120 151 [some (.inr (.inr ((r : Nat) : Int))), none] [.inr (.inr ((N : Nat) : Int)), .inr (.inr ((r : Nat) : Int))] (opA (opW h1 r 15 ((s : Nat) : Int)) N 5 7 (adf 5)) := by
  subst hN
  rw [q_120_140]
  try simp only [e, kd_ok hr, nn0, cond_true, Bool.and_true, Bool.true_and, bV_s]
  try rfl
theorem b_120_151 (xs : List Int) (d : Nat) {r s N : Nat} {h h1 : aH} (e : cl xs d 60 [.inr (.inr ((s : Nat) : Int))] h = some (none, h1)) (hr : kd h1 r 11 20) (hN : h1.1.1 = N) : ev xs d mm_120 151 [some (.inr (.inr ((r : Nat) : Int))), none] [.inr (.inr ((s : Nat) : Int)), .inr (.inr ((r : Nat) : Int))] h = ev xs d mm_120 162 [some (.inr (.inr ((r : Nat) : Int))), none] [.inr (.inr ((N : Nat) : Int)), .inr (.inr ((r : Nat) : Int))] (opA (opW h1 r 16 ((s : Nat) : Int)) N 2 13 (adf 2)) := by
  subst hN
  rw [q_120_151]
  try simp only [e, kd_ok hr, nn0, cond_true, Bool.and_true, Bool.true_and, bV_s]
  try rfl
theorem b_120_162 (xs : List Int) (d : Nat) {r s N : Nat} {h h1 : aH} (e : cl xs d 19 [.inr (.inr ((s : Nat) : Int))] h = some (none, h1)) (hr : kd h1 r 11 20) (hN : h1.1.1 = N) : ev xs d mm_120 162 [some (.inr (.inr ((r : Nat) : Int))), none] [.inr (.inr ((s : Nat) : Int)), .inr (.inr ((r : Nat) : Int))] h = ev xs d mm_120 173 [some (.inr (.inr ((r : Nat) : Int))), none] [.inr (.inr ((N : Nat) : Int)), .inr (.inr ((r : Nat) : Int))] (opA (opW h1 r 17 ((s : Nat) : Int)) N 100 4 (fun _ => 0)) := by
  subst hN
  rw [q_120_162]
  try simp only [e, kd_ok hr, nn0, cond_true, Bool.and_true, Bool.true_and, bV_s]
  try rfl
theorem b_120_173 (xs : List Int) (d : Nat) {r s N : Nat} {h : aH} (hr : kd h r 11 20) (hN : h.1.1 = N) : ev xs d mm_120 173 [some (.inr (.inr ((r : Nat) : Int))), none] [.inr (.inr ((s : Nat) : Int)), .inr (.inr ((r : Nat) : Int))] h = ev xs d mm_120 181 [some (.inr (.inr ((r : Nat) : Int))), none] [.inr (.inr ((N : Nat) : Int)), .inr (.inr ((r : Nat) : Int))] (opA (opW h r 18 ((s : Nat) : Int)) N 100 9 (fun _ => 0)) := by
  subst hN
  rw [q_120_173]
  try simp only [kd_ok hr, nn0, cond_true, Bool.and_true, Bool.true_and, bV_s]
  try rfl
theorem b_120_181 (xs : List Int) (d : Nat) {r s : Nat} {h : aH} (hr : kd h r 11 20) : ev xs d mm_120 181 [some (.inr (.inr ((r : Nat) : Int))), none] [.inr (.inr ((s : Nat) : Int)), .inr (.inr ((r : Nat) : Int))] h = ev xs d mm_120 186 [some (.inr (.inr ((r : Nat) : Int))), some (.inl 0)] [] (opW h r 19 ((s : Nat) : Int)) := by
  rw [q_120_181]
  try simp only [kd_ok hr, nn0, cond_true, Bool.and_true, Bool.true_and, bV_s]
  try rfl
theorem b_36_0 (xs : List Int) (d : Nat) {r N : Nat} {h : aH} (hr : kd h r 4 9) (hN : h.1.1 = N) : cl xs (d + 1) 36 [.inr (.inr ((r : Nat) : Int))] h = ev xs d mm_36 15 [some (.inr (.inr ((r : Nat) : Int))), none, none, none, none] [.inr (.inr ((N : Nat) : Int)), .inr (.inr ((r : Nat) : Int))] (opA (opW h r 0 0) N 100 402 (fun _ => 0)) := by
  subst hN
  rw [c_36]
  try simp only [kd_ok hr, nn0, cond_true, Bool.and_true, Bool.true_and, bV_s]
  try rfl
theorem b_36_15 (xs : List Int) (d : Nat) {r s N : Nat} {h : aH} (hr : kd h r 4 9) (hN : h.1.1 = N) : ev xs d mm_36 15 [some (.inr (.inr ((r : Nat) : Int))), none, none, none, none] [.inr (.inr ((s : Nat) : Int)), .inr (.inr ((r : Nat) : Int))] h = ev xs d mm_36 24 [some (.inr (.inr ((r : Nat) : Int))), none, none, none, none] [.inr (.inr ((N : Nat) : Int)), .inr (.inr ((r : Nat) : Int))] (opA (opW h r 1 ((s : Nat) : Int)) N 100 402 (fun _ => 0)) := by
  subst hN
  rw [q_36_15]
  try simp only [kd_ok hr, nn0, cond_true, Bool.and_true, Bool.true_and, bV_s]
  try rfl
theorem b_36_24 (xs : List Int) (d : Nat) {r s N : Nat} {h : aH} (hr : kd h r 4 9) (hN : h.1.1 = N) : ev xs d mm_36 24 [some (.inr (.inr ((r : Nat) : Int))), none, none, none, none] [.inr (.inr ((s : Nat) : Int)), .inr (.inr ((r : Nat) : Int))] h = ev xs d mm_36 33 [some (.inr (.inr ((r : Nat) : Int))), none, none, none, none] [.inr (.inr ((N : Nat) : Int)), .inr (.inr ((r : Nat) : Int))] (opA (opW h r 2 ((s : Nat) : Int)) N 101 402 (fun _ => 0)) := by
  subst hN
  rw [q_36_24]
  try simp only [kd_ok hr, nn0, cond_true, Bool.and_true, Bool.true_and, bV_s]
  try rfl
theorem b_36_33 (xs : List Int) (d : Nat) {r s : Nat} {h : aH} (hr : kd h r 4 9) : ev xs d mm_36 33 [some (.inr (.inr ((r : Nat) : Int))), none, none, none, none] [.inr (.inr ((s : Nat) : Int)), .inr (.inr ((r : Nat) : Int))] h = ev xs d mm_36 46 [some (.inr (.inr ((r : Nat) : Int))), none, none, none, none] [] (opW (opW (opW h r 3 ((s : Nat) : Int)) r 4 0) r 5 (-1)) := by
  rw [q_36_33]
  try simp only [kd_ok hr, nn0, cond_true, Bool.and_true, Bool.true_and, bV_s]
  try rfl
theorem b_36_46 (xs : List Int) (d : Nat) {r N : Nat} {h : aH} (hr : kd h r 4 9) (hN : h.1.1 = N) : ev xs d mm_36 46 [some (.inr (.inr ((r : Nat) : Int))), none, none, none, none] [] h = ev xs d mm_36 51 [some (.inr (.inr ((r : Nat) : Int))), none, none, none, none] [.inr (.inr ((N : Nat) : Int)), .inr (.inr ((r : Nat) : Int))] (opA h N 101 24 (fun _ => 0)) := by
  subst hN
  rw [q_36_46]
  try simp only [kd_ok hr, nn0, cond_true, Bool.and_true, Bool.true_and, bV_s]
  try rfl
theorem b_36_51 (xs : List Int) (d : Nat) {r s N : Nat} {h : aH} (hr : kd h r 4 9) (hN : h.1.1 = N) : ev xs d mm_36 51 [some (.inr (.inr ((r : Nat) : Int))), none, none, none, none] [.inr (.inr ((s : Nat) : Int)), .inr (.inr ((r : Nat) : Int))] h = ev xs d mm_36 64 [some (.inr (.inr ((r : Nat) : Int))), none, none, none, none] [.inr (.inr ((N : Nat) : Int)), .inr (.inr ((r : Nat) : Int))] (opA (opW (opW h r 6 ((s : Nat) : Int)) r 7 0) N 100 24 (fun _ => 0)) := by
  subst hN
  rw [q_36_51]
  try simp only [kd_ok hr, nn0, cond_true, Bool.and_true, Bool.true_and, bV_s]
  try rfl
theorem b_36_64 (xs : List Int) (d : Nat) {r s : Nat} {h : aH} (hr : kd h r 4 9) : ev xs d mm_36 64 [some (.inr (.inr ((r : Nat) : Int))), none, none, none, none] [.inr (.inr ((s : Nat) : Int)), .inr (.inr ((r : Nat) : Int))] h = ev xs d mm_36 73 [some (.inr (.inr ((r : Nat) : Int))), some (.inl 0), some (.inl 0), some (.inl 0), none] [] (opW h r 8 ((s : Nat) : Int)) := by
  rw [q_36_64]
  try simp only [kd_ok hr, nn0, cond_true, Bool.and_true, Bool.true_and, bV_s]
  try rfl
