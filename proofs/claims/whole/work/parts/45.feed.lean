/-! FEED: the class's -/
section FD
variable {n d a b T t : Nat} {I : Nat → Nat → Int32} {L : Nat → Nat → Int64} {R : Nat → Nat → Option Nat} {nc ns : Nat} {nx : Bool} {x y z w j : Int32} {h : ip_H}
/-- the byte of a number at a shift, as the class takes it -/
def byC (x s : Int32) : Int32 := (x.toUInt32 >>> (s.toUInt32 &&& Int32.toUInt32 31)).toInt32 &&& 255
def tapeI (I : Nat → Nat → Int32) (t : Nat) (x : Int32) : Nat → Nat → Int32 :=
  ip_up (ip_up (ip_up (ip_up (ip_up (ip_up (ip_up (ip_up I 3 t (byC x 24)) 2 1 (Int32.ofNat (t + 1))) 3 (t + 1) (byC x 16)) 2 1 (Int32.ofNat (t + 2))) 3 (t + 2) (byC x 8)) 2 1 (Int32.ofNat (t + 3))) 3 (t + 3) (byC x 0)) 2 1 (Int32.ofNat (t + 4))
theorem nu_400 (h : t < 400) : ¬ (400 : Int32) ≤ Int32.ofNat t := by
  intro g
  have := (nu_le (t := 400) (s := t) (by omega) (by omega)).mp g
  omega
theorem shL : ((24 : Int32) < 0) = False ∧ ((16 : Int32) < 0) = False ∧ ((8 : Int32) < 0) = False ∧ ((0 : Int32) < 0) = False ∧ ((-8 : Int32) < 0) = True ∧ (24 : Int32) + -8 = 16 ∧ (16 : Int32) + -8 = 8 ∧ (8 : Int32) + -8 = 0 ∧ (0 : Int32) + -8 = -8 := by
  refine ⟨eq_false (by decide), eq_false (by decide), eq_false (by decide), eq_false (by decide), eq_true (by decide), by decide, by decide, by decide, by decide⟩
theorem c14 (hR : LYR R) (ht : I 2 1 = Int32.ofNat t) (h4 : t + 4 ≤ 400) : cf d 14 [.ref 2, .int x] (SH n, I, L, R, nc, ns, nx) = some (.inl none, (SH n, tapeI I t x, L, R, nc, ns, nx)) := by
  have a0 : Int32.ofNat t + 1 = Int32.ofNat (t + 1) := nu_add (s := 1)
  have a1 : Int32.ofNat (t + 1) + 1 = Int32.ofNat (t + 2) := nu_add (s := 1)
  have a2 : Int32.ofNat (t + 2) + 1 = Int32.ofNat (t + 3) := nu_add (s := 1)
  have a3 : Int32.ofNat (t + 3) + 1 = Int32.ofNat (t + 4) := nu_add (s := 1)
  have g0 := nu_400 (t := t) (by omega)
  have g1 := nu_400 (t := t + 1) (by omega)
  have g2 := nu_400 (t := t + 2) (by omega)
  have g3 := nu_400 (t := t + 3) (by omega)
  have n0 := nu_tn (t := t) (by omega)
  have n1 := nu_tn (t := t + 1) (by omega)
  have n2 := nu_tn (t := t + 2) (by omega)
  have n3 := nu_tn (t := t + 3) (by omega)
  have b0 := (nu_inb (t := t) (k := 400) (by omega)).mpr (by omega)
  have b1 := (nu_inb (t := t + 1) (k := 400) (by omega)).mpr (by omega)
  have b2 := (nu_inb (t := t + 2) (k := 400) (by omega)).mpr (by omega)
  have b3 := (nu_inb (t := t + 3) (k := 400) (by omega)).mpr (by omega)
  simp only [en14, e14_0, e14_2, e14_4, e14_7, e14_8, e14_11, e14_14, e14_17, e14_18, e14_21, e14_22, e14_25, e14_26, e14_27, e14_28, e14_31, e14_32, e14_33, e14_34, e14_34r, e14_35, e14_38, e14_39, e14_40, e14_43, e14_46, e14_49, e14_3, rk_n, rk_v, nl_n, nl_i, nl_r, cat_n, ip_cat_int, ip_cat_ref, ip_cat_long, ip_rf_some, Nat.reduceAdd, Nat.reduceLeDiff, Nat.reduceLT, Nat.le_refl, Nat.zero_le, hR, ia_lit, shL, ht, a0, a1, a2, a3, g0, g1, g2, g3, n0, n1, n2, n3, b0, b1, b2, b3, up_eq, up_a, Nat.reduceEqDiff, not_false_eq_true, if_true, if_false]
  rfl
theorem tape_len : tapeI I t x 2 1 = Int32.ofNat (t + 4) := up_eq
theorem c13 (hR : LYR R) (ht : I 2 1 = Int32.ofNat t) (h4 : t + 20 ≤ 400) {x0 x1 x2 x3 x4 : Int32} : cf (d + 1) 13 [.ref 2, .int x0, .int x1, .int x2, .int x3, .int x4] (SH n, I, L, R, nc, ns, nx) = some (.inl (some (.int (Int32.ofNat (t + 20)))), (SH n, tapeI (tapeI (tapeI (tapeI (tapeI I t x0) (t + 4) x1) (t + 8) x2) (t + 12) x3) (t + 16) x4, L, R, nc, ns, nx)) := by
  have g : Int32.ofNat t + 20 ≤ 400 := by
    have e : Int32.ofNat t + 20 = Int32.ofNat (t + 20) := nu_add (s := 20)
    rw [e]
    exact (nu_le (t := t + 20) (s := 400) (by omega) (by omega)).mpr h4
  simp only [en13, e13_0, e13_1, e13_4, e13_6, e13_7, e13_10, e13_13, e13_14, e13_15, e13_16, e13_17, e13_20, e13_21, e13_22, e13_25, e13_26, e13_27, e13_30, e13_31, e13_33, e13_36, e13_37, e13_39, e13_42, e13_43, e13_46, rk_n, rk_v, nl_n, nl_i, nl_r, cat_n, ip_cat_int, ip_cat_ref, ip_cat_long, ip_rf_some, Nat.reduceAdd, Nat.reduceLeDiff, Nat.reduceLT, Nat.le_refl, Nat.zero_le, ht, g, if_true, c14 hR ht (show t + 4 ≤ 400 by omega), c14 (x := x1) hR (tape_len (I := I) (t := t) (x := x0)) (show t + 4 + 4 ≤ 400 by omega), c14 (x := x2) hR (tape_len (I := tapeI I t x0) (t := t + 4) (x := x1)) (show t + 8 + 4 ≤ 400 by omega), c14 (x := x3) hR (tape_len (I := tapeI (tapeI I t x0) (t + 4) x1) (t := t + 8) (x := x2)) (show t + 12 + 4 ≤ 400 by omega), c14 (x := x4) hR (tape_len (I := tapeI (tapeI (tapeI I t x0) (t + 4) x1) (t + 8) x2) (t := t + 12) (x := x3)) (show t + 16 + 4 ≤ 400 by omega), tape_len]
theorem b13 (ht : I 2 1 = Int32.ofNat t) (h3 : t ≤ 400) (h4 : ¬ t + 20 ≤ 400) {x0 x1 x2 x3 x4 : Int32} : cf (d + 1) 13 [.ref 2, .int x0, .int x1, .int x2, .int x3, .int x4] (SH n, I, L, R, nc, ns, nx) = some (.inl (some (.int (-1))), (SH n, I, L, R, nc, ns, nx)) := by
  have g : ¬ Int32.ofNat t + 20 ≤ 400 := by
    have e : Int32.ofNat t + 20 = Int32.ofNat (t + 20) := nu_add (s := 20)
    rw [e]
    intro q
    exact h4 ((nu_le (t := t + 20) (s := 400) (by omega) (by omega)).mp q)
  simp only [en13, e13_0, e13_1, e13_4, e13_6, e13_7, e13_10, e13_13, e13_14, e13_15, e13_16, e13_17, e13_20, e13_21, e13_22, e13_25, e13_26, e13_27, e13_30, e13_31, e13_33, e13_36, e13_37, e13_39, e13_42, e13_43, e13_46, rk_n, rk_v, nl_n, nl_i, nl_r, cat_n, ip_cat_int, ip_cat_ref, ip_cat_long, ip_rf_some, Nat.reduceAdd, Nat.reduceLeDiff, Nat.reduceLT, Nat.le_refl, Nat.zero_le, ht, g, if_false]
end FD
