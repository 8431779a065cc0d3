/-! The reference reads: signs that come out. -/
set_option maxRecDepth 100000 in
set_option maxHeartbeats 4000000 in
theorem q_222_0u (xs : List Int) (d : Nat) (v0 : Int) (v1 : Int) (u2 : Option aV) (h : aH) : ev xs d mm_222 0 [some (.inr (.inr v0)), some (.inl v1), u2] [] h =
  bif aok h.1 v0 12 then
    bif decide ((h.2 v0.toNat 59) ≤ 0) then
      some (none, h)
    else
      bif aok h.1 v0 12 then
        bif aok h.1 v0 12 then
          bif ain h.1 (h.2 v0.toNat 58) 100 (w32 ((h.2 v0.toNat 59) - 1)) then
            bif decide ((h.2 (h.2 v0.toNat 58).toNat (w32 ((h.2 v0.toNat 59) - 1)).toNat) = 6) then
              some (none, h)
            else
              bif decide (v1 = 0) then
                ev xs d mm_222 42 [some (.inr (.inr v0)), some (.inl v1), some (.inl (h.2 (h.2 v0.toNat 58).toNat (w32 ((h.2 v0.toNat 59) - 1)).toNat))] [] h
              else
                bif decide ((h.2 (h.2 v0.toNat 58).toNat (w32 ((h.2 v0.toNat 59) - 1)).toNat) = 8) then
                  some (none, h)
                else
                  bif decide (¬ (h.2 (h.2 v0.toNat 58).toNat (w32 ((h.2 v0.toNat 59) - 1)).toNat) = 9) then
                    ev xs d mm_222 42 [some (.inr (.inr v0)), some (.inl v1), some (.inl (h.2 (h.2 v0.toNat 58).toNat (w32 ((h.2 v0.toNat 59) - 1)).toNat))] [] h
                  else
                    some (none, h)
          else none
        else none
      else none
  else none :=
  (aB gP gX xs stp_222 24 d mm_222 0 _ _ h).trans rfl

theorem cl222 (xs : List Int) (d : Nat) (v0 v1 : Int) (h : aH) : cl xs (d + 1) 222 [.inr (.inr v0), .inl v1] h = ev xs d mm_222 0 [some (.inr (.inr v0)), some (.inl v1), none] [] h := rfl
/-- one more code, by the machine -/
theorem r_emit (xs : List Int) (d : Nat) {κ : aK} {E : Nat → Nat → Int} {u k : Nat} (hκ : Shp κ) (hp : PtrR E) (hu : u < 2) (hk : k < 420) (e53 : E 256 53 = ((420 * u + k : Nat) : Int)) (x y : Int) : cl xs (d + 1) 221 [.inr (.inr 256), .inl x, .inl y] (κ, E) = some (none, (κ, aup (aup (aup E 296 (420 * u + k) x) 297 (420 * u + k) y) 256 53 ((420 * u + (k + 1) : Nat) : Int))) := by
  have k256 := k_256 hκ
  have ew : w32 (((420 * u + k : Nat) : Int) + 1) = ((420 * u + (k + 1) : Nat) : Int) := by rw [w32_id (by omega) (by omega)]; omega
  rw [c_221]
  simp (disch := omega) only [k256, pr_54 hp, pr_55 hp, e53, n_296 hκ, n_297 hκ, ew, cond_true, cond_false, Bool.and_true, Bool.true_and, Bool.and_false, Bool.false_and, Int.toNat_natCast, Int.reduceToNat, bI_s, bJ_s, bV_s, bR_s, decide_true, decide_false, not_true_eq_false, not_false_eq_true, dT, dF, w_al, w_la, w_ab, w_sl, w_sb, w_dec, w_ml, w_lm, ol2i_n, aup_ne, aupE, aupJ, setc_self, setc_ne]
  rw [q_221_30]
def emD (E : Nat → Nat → Int) (u k : Nat) (x y : Int) : Nat → Nat → Int := aup (aup (aup E 296 (420 * u + k) x) 297 (420 * u + k) y) 256 53 ((420 * u + (k + 1) : Nat) : Int)
theorem emD_S {D E : Nat → Nat → Int} {v u k : Nat} {T : Nat → TK} {s w : SS} (h : RpS D E v T s w) (hk : k < 420) (huv : ¬ u = v) (x y : Int) : RpS D (emD E u k x y) v T s w := by
  refine h.fr (((h.1.wr (q := 296) (by decide) (by decide) ?_ _).wr (q := 297) (by decide) (by decide) ?_ _).fld (by decide) _) (fun j hj => ?_)
  · show ¬ (420 * u + k) / 420 = v
    omega
  · show ¬ (420 * u + k) / 420 = v
    omega
  · unfold emD
    rw [aupJ (by omega), aupN (by decide), aupN (by decide)]
theorem emD_F {E : Nat → Nat → Int} {u k : Nat} (x y : Int) : RxF E (emD E u k x y) u k := ((RxF.u296 (Nat.le_refl _) x).trans (RxF.u297 (Nat.le_refl _) y) (Nat.le_refl _)).trans (RxF.fld (by omega) _) (Nat.le_refl _)
theorem fld_S {D E : Nat → Nat → Int} {v : Nat} {T : Nat → TK} {s w : SS} (h : RpS D E v T s w) {j : Nat} (hj : j = 12 ∨ j = 53 ∨ j = 59) (x : Int) : RpS D (aup E 256 j x) v T s w := h.fr (h.1.fld (by rcases hj with rfl | rfl | rfl <;> decide) _) (fun i hi => aupJ (by omega))
theorem w98_S {D E : Nat → Nat → Int} {v : Nat} {T : Nat → TK} {s w : SS} (h : RpS D E v T s w) (j : Nat) (x : Int) : RpS D (aup E 298 j x) v T s w := h.fr (h.1.w298 j x) (fun i hi => by rw [aupN (by decide)])
/-- one sign comes out -/
theorem co_pop (xs : List Int) (d : Nat) {κ : aK} {D E : Nat → Nat → Int} {v u : Nat} (hκ : Shp κ) (hpD : PtrR D) {T : Nat → TK} {s w : SS} (h : RpS D E v T s w) (hsd : RsD D v u) {p0 k o : Nat} {W : List Nat} {S : List VF} {f g : VF} (ho : isop o) (hk : k < 420) (hW : W.length < 60) (hX : XI E u p0 k (rho o :: W) (g :: f :: S)) {st : Int} (hst : st = 0 ∨ (st = 1 ∧ (o = 42 ∨ o = 47))) (u2 : Option aV) : ∃ E', ev xs (d + 1) mm_222 0 [some (.inr (.inr 256)), some (.inl st), u2] [] (κ, E) = ev xs (d + 1) mm_222 0 [some (.inr (.inr 256)), some (.inl st), some (.inl (rho o : Int))] [] (κ, E') ∧ RpS D E' v T s w ∧ XI E' u p0 (k + 1) W (bin2 o f g :: S) ∧ RxF E E' u k ∧ E' 256 12 = E 256 12 := by
  have k256 := k_256 hκ
  have hp := h.1.ptr hpD
  obtain ⟨t1, t2⟩ := hX.top
  have s1 := fld_S h (j := 59) (by omega) (W.length : Int)
  have X1 := hX.unwait
  have hp1 := s1.1.ptr hpD
  have em := r_emit xs d hκ hp1 hsd.2.2.2.1 hk X1.1 (opc o) 0
  have ew : w32 (((W.length + 1 : Nat) : Int) - 1) = (W.length : Int) := by rw [w32_id (by omega) (by omega)]; omega
  refine ⟨emD (aup E 256 59 (W.length : Int)) u k (opc o) 0, ?_, emD_S s1 hk hsd.2.2.2.2 _ _, X1.emit ⟨(opc_ne ho).2.2.1, (opc_ne ho).2.2.2, fun z => absurd z (opc_ne ho).2.1⟩ (fun V C I hC _ => seq_bin ho hC), (RxF.fld (by omega) _).trans (emD_F _ _) (Nat.le_refl _), ?_⟩
  · have fin : ∀ c : Int, c = opc o → ev xs (d + 1) mm_222 84 [some (.inr (.inr 256)), some (.inl st), some (.inl (rho o : Int))] [.inl c, .inr (.inr 256)] (κ, aup E 256 59 (W.length : Int)) = ev xs (d + 1) mm_222 0 [some (.inr (.inr 256)), some (.inl st), some (.inl (rho o : Int))] [] (κ, emD (aup E 256 59 (W.length : Int)) u k (opc o) 0) := fun c hc => by
      subst hc
      rw [q_222_84]
      simp (disch := omega) only [cond_true, cond_false, Bool.and_true, Bool.true_and, Bool.and_false, Bool.false_and, Int.toNat_natCast, Int.reduceToNat, bI_s, bJ_s, bV_s, bR_s, decide_true, decide_false, not_true_eq_false, not_false_eq_true, dT, dF, w_al, w_la, w_ab, w_sl, w_sb, w_dec, w_ml, w_lm, ol2i_n, aup_ne, aupE, aupJ, setc_self, setc_ne, k256, em]
      rfl
    rw [q_222_0u]
    rcases ho with rfl | rfl | rfl | rfl
    · rcases hst with rfl | ⟨rfl, _⟩
      · simp (disch := omega) only [k256, t1, pr_58 hp, ew, n_298 hκ, t2, show ((rho 42 : Nat) : Int) = 10 from rfl, cond_true, cond_false, Bool.and_true, Bool.true_and, Bool.and_false, Bool.false_and, Int.toNat_natCast, Int.reduceToNat, bI_s, bJ_s, bV_s, bR_s, decide_true, decide_false, not_true_eq_false, not_false_eq_true, dT, dF, w_al, w_la, w_ab, w_sl, w_sb, w_dec, w_ml, w_lm, ol2i_n, aup_ne, aupE, aupJ, setc_self, setc_ne]
        rw [q_222_42]
        simp (disch := omega) only [k256, t1, ew, cond_true, cond_false, Bool.and_true, Bool.true_and, Bool.and_false, Bool.false_and, Int.toNat_natCast, Int.reduceToNat, bI_s, bJ_s, bV_s, bR_s, decide_true, decide_false, not_true_eq_false, not_false_eq_true, dT, dF, w_al, w_la, w_ab, w_sl, w_sb, w_dec, w_ml, w_lm, ol2i_n, aup_ne, aupE, aupJ, setc_self, setc_ne]
        exact fin 4 rfl
      · simp (disch := omega) only [k256, t1, pr_58 hp, ew, n_298 hκ, t2, show ((rho 42 : Nat) : Int) = 10 from rfl, cond_true, cond_false, Bool.and_true, Bool.true_and, Bool.and_false, Bool.false_and, Int.toNat_natCast, Int.reduceToNat, bI_s, bJ_s, bV_s, bR_s, decide_true, decide_false, not_true_eq_false, not_false_eq_true, dT, dF, w_al, w_la, w_ab, w_sl, w_sb, w_dec, w_ml, w_lm, ol2i_n, aup_ne, aupE, aupJ, setc_self, setc_ne]
        rw [q_222_42]
        simp (disch := omega) only [k256, t1, ew, cond_true, cond_false, Bool.and_true, Bool.true_and, Bool.and_false, Bool.false_and, Int.toNat_natCast, Int.reduceToNat, bI_s, bJ_s, bV_s, bR_s, decide_true, decide_false, not_true_eq_false, not_false_eq_true, dT, dF, w_al, w_la, w_ab, w_sl, w_sb, w_dec, w_ml, w_lm, ol2i_n, aup_ne, aupE, aupJ, setc_self, setc_ne]
        exact fin 4 rfl
    · have hst0 : st = 0 := by omega
      subst hst0
      simp (disch := omega) only [k256, t1, pr_58 hp, ew, n_298 hκ, t2, show ((rho 43 : Nat) : Int) = 8 from rfl, cond_true, cond_false, Bool.and_true, Bool.true_and, Bool.and_false, Bool.false_and, Int.toNat_natCast, Int.reduceToNat, bI_s, bJ_s, bV_s, bR_s, decide_true, decide_false, not_true_eq_false, not_false_eq_true, dT, dF, w_al, w_la, w_ab, w_sl, w_sb, w_dec, w_ml, w_lm, ol2i_n, aup_ne, aupE, aupJ, setc_self, setc_ne]
      rw [q_222_42]
      simp (disch := omega) only [k256, t1, ew, cond_true, cond_false, Bool.and_true, Bool.true_and, Bool.and_false, Bool.false_and, Int.toNat_natCast, Int.reduceToNat, bI_s, bJ_s, bV_s, bR_s, decide_true, decide_false, not_true_eq_false, not_false_eq_true, dT, dF, w_al, w_la, w_ab, w_sl, w_sb, w_dec, w_ml, w_lm, ol2i_n, aup_ne, aupE, aupJ, setc_self, setc_ne]
      exact fin 2 rfl
    · have hst0 : st = 0 := by omega
      subst hst0
      simp (disch := omega) only [k256, t1, pr_58 hp, ew, n_298 hκ, t2, show ((rho 45 : Nat) : Int) = 9 from rfl, cond_true, cond_false, Bool.and_true, Bool.true_and, Bool.and_false, Bool.false_and, Int.toNat_natCast, Int.reduceToNat, bI_s, bJ_s, bV_s, bR_s, decide_true, decide_false, not_true_eq_false, not_false_eq_true, dT, dF, w_al, w_la, w_ab, w_sl, w_sb, w_dec, w_ml, w_lm, ol2i_n, aup_ne, aupE, aupJ, setc_self, setc_ne]
      rw [q_222_42]
      simp (disch := omega) only [k256, t1, ew, cond_true, cond_false, Bool.and_true, Bool.true_and, Bool.and_false, Bool.false_and, Int.toNat_natCast, Int.reduceToNat, bI_s, bJ_s, bV_s, bR_s, decide_true, decide_false, not_true_eq_false, not_false_eq_true, dT, dF, w_al, w_la, w_ab, w_sl, w_sb, w_dec, w_ml, w_lm, ol2i_n, aup_ne, aupE, aupJ, setc_self, setc_ne]
      exact fin 3 rfl
    · rcases hst with rfl | ⟨rfl, _⟩
      · simp (disch := omega) only [k256, t1, pr_58 hp, ew, n_298 hκ, t2, show ((rho 47 : Nat) : Int) = 15 from rfl, cond_true, cond_false, Bool.and_true, Bool.true_and, Bool.and_false, Bool.false_and, Int.toNat_natCast, Int.reduceToNat, bI_s, bJ_s, bV_s, bR_s, decide_true, decide_false, not_true_eq_false, not_false_eq_true, dT, dF, w_al, w_la, w_ab, w_sl, w_sb, w_dec, w_ml, w_lm, ol2i_n, aup_ne, aupE, aupJ, setc_self, setc_ne]
        rw [q_222_42]
        simp (disch := omega) only [k256, t1, ew, cond_true, cond_false, Bool.and_true, Bool.true_and, Bool.and_false, Bool.false_and, Int.toNat_natCast, Int.reduceToNat, bI_s, bJ_s, bV_s, bR_s, decide_true, decide_false, not_true_eq_false, not_false_eq_true, dT, dF, w_al, w_la, w_ab, w_sl, w_sb, w_dec, w_ml, w_lm, ol2i_n, aup_ne, aupE, aupJ, setc_self, setc_ne]
        exact fin 5 rfl
      · simp (disch := omega) only [k256, t1, pr_58 hp, ew, n_298 hκ, t2, show ((rho 47 : Nat) : Int) = 15 from rfl, cond_true, cond_false, Bool.and_true, Bool.true_and, Bool.and_false, Bool.false_and, Int.toNat_natCast, Int.reduceToNat, bI_s, bJ_s, bV_s, bR_s, decide_true, decide_false, not_true_eq_false, not_false_eq_true, dT, dF, w_al, w_la, w_ab, w_sl, w_sb, w_dec, w_ml, w_lm, ol2i_n, aup_ne, aupE, aupJ, setc_self, setc_ne]
        rw [q_222_42]
        simp (disch := omega) only [k256, t1, ew, cond_true, cond_false, Bool.and_true, Bool.true_and, Bool.and_false, Bool.false_and, Int.toNat_natCast, Int.reduceToNat, bI_s, bJ_s, bV_s, bR_s, decide_true, decide_false, not_true_eq_false, not_false_eq_true, dT, dF, w_al, w_la, w_ab, w_sl, w_sb, w_dec, w_ml, w_lm, ol2i_n, aup_ne, aupE, aupJ, setc_self, setc_ne]
        exact fin 5 rfl
  · unfold emD
    rw [aupJ (by decide), aupN (by decide), aupN (by decide), aupJ (by decide)]
/-- nothing (more) comes out -/
theorem co_stop (xs : List Int) (d : Nat) {κ : aK} {D E : Nat → Nat → Int} {v u : Nat} (hκ : Shp κ) (hpD : PtrR D) {T : Nat → TK} {s w : SS} (h : RpS D E v T s w) {p0 k : Nat} {W : List Nat} {S : List VF} (hX : XI E u p0 k W S) (hWl : W.length < 60) {st : Int} (hW : W = [] ∨ (∃ R, W = 6 :: R) ∨ (st = 1 ∧ ∃ o R, W = o :: R ∧ (o = 8 ∨ o = 9))) (u2 : Option aV) : ev xs (d + 1) mm_222 0 [some (.inr (.inr 256)), some (.inl st), u2] [] (κ, E) = some (none, (κ, E)) := by
  have k256 := k_256 hκ
  have hp := h.1.ptr hpD
  rw [q_222_0u]
  rcases hW with rfl | ⟨R, rfl⟩ | ⟨rfl, o, R, rfl, ho⟩
  · have e : E 256 59 = 0 := hX.2.2.1
    simp (disch := omega) only [cond_true, cond_false, Bool.and_true, Bool.true_and, Bool.and_false, Bool.false_and, Int.toNat_natCast, Int.reduceToNat, bI_s, bJ_s, bV_s, bR_s, decide_true, decide_false, not_true_eq_false, not_false_eq_true, dT, dF, w_al, w_la, w_ab, w_sl, w_sb, w_dec, w_ml, w_lm, ol2i_n, aup_ne, aupE, aupJ, setc_self, setc_ne, k256, e]
  · obtain ⟨t1, t2⟩ := hX.top
    rw [List.length_cons] at hWl
    have ew : w32 (((R.length + 1 : Nat) : Int) - 1) = (R.length : Int) := by rw [w32_id (by omega) (by omega)]; omega
    simp (disch := omega) only [k256, t1, pr_58 hp, ew, n_298 hκ, t2, show ((6 : Nat) : Int) = 6 from rfl, cond_true, cond_false, Bool.and_true, Bool.true_and, Bool.and_false, Bool.false_and, Int.toNat_natCast, Int.reduceToNat, bI_s, bJ_s, bV_s, bR_s, decide_true, decide_false, not_true_eq_false, not_false_eq_true, dT, dF, w_al, w_la, w_ab, w_sl, w_sb, w_dec, w_ml, w_lm, ol2i_n, aup_ne, aupE, aupJ, setc_self, setc_ne]
  · obtain ⟨t1, t2⟩ := hX.top
    rw [List.length_cons] at hWl
    have ew : w32 (((R.length + 1 : Nat) : Int) - 1) = (R.length : Int) := by rw [w32_id (by omega) (by omega)]; omega
    rcases ho with rfl | rfl
    · simp (disch := omega) only [k256, t1, pr_58 hp, ew, n_298 hκ, t2, show ((8 : Nat) : Int) = 8 from rfl, cond_true, cond_false, Bool.and_true, Bool.true_and, Bool.and_false, Bool.false_and, Int.toNat_natCast, Int.reduceToNat, bI_s, bJ_s, bV_s, bR_s, decide_true, decide_false, not_true_eq_false, not_false_eq_true, dT, dF, w_al, w_la, w_ab, w_sl, w_sb, w_dec, w_ml, w_lm, ol2i_n, aup_ne, aupE, aupJ, setc_self, setc_ne]
    · simp (disch := omega) only [k256, t1, pr_58 hp, ew, n_298 hκ, t2, show ((9 : Nat) : Int) = 9 from rfl, cond_true, cond_false, Bool.and_true, Bool.true_and, Bool.and_false, Bool.false_and, Int.toNat_natCast, Int.reduceToNat, bI_s, bJ_s, bV_s, bR_s, decide_true, decide_false, not_true_eq_false, not_false_eq_true, dT, dF, w_al, w_la, w_ab, w_sl, w_sb, w_dec, w_ml, w_lm, ol2i_n, aup_ne, aupE, aupJ, setc_self, setc_ne]
def lok (l : LV) : Prop := (∀ q, l.1 = some q → q.2 = 43 ∨ q.2 = 45) ∧ (∀ q, l.2 = some q → q.2 = 42 ∨ q.2 = 47)
def pw (p : Option (VF × Nat)) : List Nat := match p with
  | some q => [rho q.2]
  | none => []
def pf (p : Option (VF × Nat)) : List VF := match p with
  | some q => [q.1]
  | none => []
/-- what waits at one level comes out: of its product, and of its sum too -/
theorem co_strong (xs : List Int) (d : Nat) {κ : aK} {D E : Nat → Nat → Int} {v u : Nat} (hκ : Shp κ) (hpD : PtrR D) {T : Nat → TK} {s w : SS} (h : RpS D E v T s w) (hsd : RsD D v u) {p0 k : Nat} {l : LV} (hl : lok l) {R : List Nat} {S : List VF} {c : VF} (hk : k + 2 < 420) (hR : R = [] ∨ ∃ Q, R = 6 :: Q) (hRl : R.length < 50) (hX : XI E u p0 k (pw l.2 ++ (pw l.1 ++ R)) (c :: (pf l.2 ++ (pf l.1 ++ S)))) : ∃ E', cl xs (d + 2) 222 [.inr (.inr 256), .inl 1] (κ, E) = some (none, (κ, E')) ∧ RpS D E' v T s w ∧ XI E' u p0 (k + (pf l.2).length) (pw l.1 ++ R) (apl l.2 c :: (pf l.1 ++ S)) ∧ RxF E E' u k ∧ E' 256 12 = E 256 12 := by
  have hl1 : (pw l.1 ++ R).length < 55 := by
    rw [List.length_append]
    have : (pw l.1).length ≤ 1 := by cases l.1 <;> simp [pw]
    omega
  have hstop : ∀ q, l.1 = some q → rho q.2 = 8 ∨ rho q.2 = 9 := fun q hq => by
    rcases hl.1 q hq with e | e <;> rw [e]
    · exact Or.inl rfl
    · exact Or.inr rfl
  have hWs : pw l.1 ++ R = [] ∨ (∃ Q, pw l.1 ++ R = 6 :: Q) ∨ ((1 : Int) = 1 ∧ ∃ o Q, pw l.1 ++ R = o :: Q ∧ (o = 8 ∨ o = 9)) := by
    cases h1 : l.1 with
    | none =>
      rcases hR with rfl | ⟨Q, rfl⟩
      · exact Or.inl rfl
      · exact Or.inr (Or.inl ⟨Q, rfl⟩)
    | some q => exact Or.inr (Or.inr ⟨rfl, rho q.2, R, rfl, hstop q h1⟩)
  rw [cl222]
  cases h2 : l.2 with
  | none =>
    rw [h2] at hX
    exact ⟨E, co_stop xs d hκ hpD h hX (by show (pw l.1 ++ R).length < 60; omega) hWs none, h, hX, RxF.rfl', rfl⟩
  | some q =>
    rw [h2] at hX
    have ho := hl.2 q h2
    obtain ⟨E1, a1, a2, a3, a4, a5⟩ := co_pop xs d hκ hpD h hsd (o := q.2) (by rcases ho with e | e; exact Or.inl e; exact Or.inr (Or.inr (Or.inr e))) (by omega) (W := pw l.1 ++ R) (by omega) hX (st := 1) (Or.inr ⟨rfl, ho⟩) none
    exact ⟨E1, a1.trans (co_stop xs d hκ hpD a2 a3 (by omega) hWs _), a2, a3, a4, a5⟩
theorem co_all (xs : List Int) (d : Nat) {κ : aK} {D E : Nat → Nat → Int} {v u : Nat} (hκ : Shp κ) (hpD : PtrR D) {T : Nat → TK} {s w : SS} (h : RpS D E v T s w) (hsd : RsD D v u) {p0 k : Nat} {l : LV} (hl : lok l) {R : List Nat} {S : List VF} {c : VF} (hk : k + 2 < 420) (hR : R = [] ∨ ∃ Q, R = 6 :: Q) (hRl : R.length < 50) (hX : XI E u p0 k (pw l.2 ++ (pw l.1 ++ R)) (c :: (pf l.2 ++ (pf l.1 ++ S)))) : ∃ E', cl xs (d + 2) 222 [.inr (.inr 256), .inl 0] (κ, E) = some (none, (κ, E')) ∧ RpS D E' v T s w ∧ XI E' u p0 (k + (pf l.2).length + (pf l.1).length) R (fin1 l c :: S) ∧ RxF E E' u k ∧ E' 256 12 = E 256 12 := by
  have hl1 : (pw l.1 ++ R).length < 55 := by
    rw [List.length_append]
    have : (pw l.1).length ≤ 1 := by cases l.1 <;> simp [pw]
    omega
  have hWs : R = [] ∨ (∃ Q, R = 6 :: Q) ∨ ((0 : Int) = 1 ∧ ∃ o Q, R = o :: Q ∧ (o = 8 ∨ o = 9)) := by
    rcases hR with e | e
    · exact Or.inl e
    · exact Or.inr (Or.inl e)
  -- behind the product
  have sec : ∀ (E1 : Nat → Nat → Int) (k1 : Nat) (c1 : VF) (u2 : Option aV), k1 ≤ k + 1 → RpS D E1 v T s w → XI E1 u p0 k1 (pw l.1 ++ R) (c1 :: (pf l.1 ++ S)) → ∃ E', ev xs (d + 1) mm_222 0 [some (.inr (.inr 256)), some (.inl 0), u2] [] (κ, E1) = some (none, (κ, E')) ∧ RpS D E' v T s w ∧ XI E' u p0 (k1 + (pf l.1).length) R (apl l.1 c1 :: S) ∧ RxF E1 E' u k1 ∧ E' 256 12 = E1 256 12 := fun E1 k1 c1 u2 hk1 h1 X1 => by
    cases h3 : l.1 with
    | none =>
      rw [h3] at X1
      exact ⟨E1, co_stop xs d hκ hpD h1 X1 (by show R.length < 60; omega) hWs u2, h1, X1, RxF.rfl', rfl⟩
    | some q =>
      rw [h3] at X1
      have ho := hl.1 q h3
      obtain ⟨E2, a1, a2, a3, a4, a5⟩ := co_pop xs d hκ hpD h1 hsd (o := q.2) (by rcases ho with e | e; exact Or.inr (Or.inl e); exact Or.inr (Or.inr (Or.inl e))) (by omega) (W := R) (by omega) X1 (st := 0) (Or.inl rfl) u2
      exact ⟨E2, a1.trans (co_stop xs d hκ hpD a2 a3 (by omega) hWs _), a2, a3, a4, a5⟩
  rw [cl222]
  cases h2 : l.2 with
  | none =>
    rw [h2] at hX
    obtain ⟨E', a1, a2, a3, a4, a5⟩ := sec E k c none (by omega) h hX
    refine ⟨E', a1, a2, ?_, a4, a5⟩
    unfold fin1
    rw [h2]
    exact a3
  | some q =>
    rw [h2] at hX
    have ho := hl.2 q h2
    obtain ⟨E1, a1, a2, a3, a4, a5⟩ := co_pop xs d hκ hpD h hsd (o := q.2) (by rcases ho with e | e; exact Or.inl e; exact Or.inr (Or.inr (Or.inr e))) (by omega) (W := pw l.1 ++ R) (by omega) hX (st := 0) (Or.inl rfl) none
    obtain ⟨E', b1, b2, b3, b4, b5⟩ := sec E1 (k + 1) _ _ (Nat.le_refl _) a2 a3
    refine ⟨E', a1.trans b1, b2, ?_, a4.trans b4 (by omega), b5.trans a5⟩
    unfold fin1
    rw [h2]
    exact b3
