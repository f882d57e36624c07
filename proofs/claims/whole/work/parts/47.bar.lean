/-! BAR and TELL -/
section BT
variable {n d a b T : Nat} {I : Nat → Nat → Int32} {L : Nat → Nat → Int64} {R : Nat → Nat → Option Nat} {nc ns : Nat} {nx : Bool} {x y z w j : Int32} {h : ip_H}
theorem i12 (h1 : ¬ x < 1) (h2 : ¬ 2 < x) : x = 1 ∨ x = 2 := by
  rw [Int32.lt_iff_toInt_lt] at h1 h2
  have o : (1 : Int32).toInt = 1 := by decide
  have t : (2 : Int32).toInt = 2 := by decide
  rw [← Int32.toInt_inj, ← Int32.toInt_inj, o, t]
  rw [o] at h1
  rw [t] at h2
  omega
theorem i012 (h1 : ¬ y < 0) (h2 : y < 3) : y = 0 ∨ y = 1 ∨ y = 2 := by
  rw [Int32.lt_iff_toInt_lt] at h1 h2
  have z : (0 : Int32).toInt = 0 := by decide
  have o : (1 : Int32).toInt = 1 := by decide
  have t : (2 : Int32).toInt = 2 := by decide
  have q : (3 : Int32).toInt = 3 := by decide
  rw [← Int32.toInt_inj, ← Int32.toInt_inj, ← Int32.toInt_inj, z, o, t]
  rw [z] at h1
  rw [q] at h2
  omega
theorem bp_in (h1 : ¬ x < 1) (h2 : ¬ 2 < x) (h3 : ¬ y < 0) (h4 : y < 3) : inb ((x - 1) * 3 + y) 6 := by
  rcases i12 h1 h2 with rfl | rfl <;> rcases i012 h3 h4 with rfl | rfl | rfl <;> unfold inb <;> decide
theorem bp_eq : 3 * x - 3 + y = (x - 1) * 3 + y := by
  rw [Int32.sub_mul, Int32.mul_comm]
  rfl
theorem c79 (hR : LYR R) (ht : R 2 4 = some T) (hT : isT T) (h1 : ¬ x < 1) (h2 : ¬ 2 < x) (h3 : ¬ y < 0) (h4 : y < 3) : cf (d + 1) 79 [.ref 2, .int x, .int y] (SH n, I, L, R, nc, ns, nx) = some (.inl (some (.int (I (T + 5) ((x - 1) * 3 + y).toNatClampNeg))), (SH n, I, L, R, nc, ns, nx)) := by
  simp only [en79, e79_0, e79_1, e79_2, e79_5, e79_6, e79_9, e79_12, e79_13, e79_14, e79_17, e79_18, rk_n, rk_v, nl_n, nl_i, nl_r, cat_n, ip_cat_int, ip_cat_ref, ip_cat_long, ip_rf_some, Nat.reduceAdd, Nat.reduceLeDiff, Nat.reduceLT, Nat.le_refl, Nat.zero_le, hR, ht, hT, c80 h1 h2 h3 h4, c81, ia_T5 hT, bp_in h1 h2 h3 h4]
theorem x79 (hx : x < 1 ∨ 2 < x ∨ y < 0 ∨ ¬ y < 3) : cf (d + 1) 79 [.ref 2, .int x, .int y] (SH n, I, L, R, nc, ns, nx) = some (.inr "java/lang/IllegalArgumentException", ip_hx (SH n, I, L, R, nc, ns, nx)) := by
  simp only [en79, e79_0, e79_1, e79_2, e79_5, e79_6, e79_9, e79_12, e79_13, e79_14, e79_17, e79_18, rk_n, rk_v, nl_n, nl_i, nl_r, cat_n, ip_cat_int, ip_cat_ref, ip_cat_long, ip_rf_some, Nat.reduceAdd, Nat.reduceLeDiff, Nat.reduceLT, Nat.le_refl, Nat.zero_le, x80 hx, rk_x hh79]
theorem c83 (hR : LYR R) (ht : R 2 4 = some T) (hT : isT T) (h1 : ¬ x < 1) (h2 : ¬ 2 < x) (h3 : ¬ y < 0) (h4 : y < 3) (h5 : ¬ z < 0) (h6 : z ≤ 9) : cf (d + 1) 83 [.ref 2, .int x, .int y, .int z] (SH n, I, L, R, nc, ns, nx) = some (.inl (some (.int (I (T + 5) ((x - 1) * 3 + y).toNatClampNeg))), (SH n, ip_up I (T + 5) ((x - 1) * 3 + y).toNatClampNeg z, L, R, nc, ns, nx)) := by
  simp only [en83, e83_0, e83_1, e83_2, e83_5, e83_6, e83_9, e83_10, e83_12, e83_15, e83_25, e83_26, e83_27, e83_30, e83_32, e83_33, e83_36, e83_39, e83_41, e83_42, e83_44, e83_45, e83_48, e83_51, e83_53, e83_54, e83_55, e83_57, rk_n, rk_v, nl_n, nl_i, nl_r, cat_n, ip_cat_int, ip_cat_ref, ip_cat_long, ip_rf_some, Nat.reduceAdd, Nat.reduceLeDiff, Nat.reduceLT, Nat.le_refl, Nat.zero_le, hR, ht, hT, c80 h1 h2 h3 h4, c81, ia_T5 hT, bp_in h1 h2 h3 h4, h5, h6, if_true, if_false]
theorem x83 (hx : (x < 1 ∨ 2 < x ∨ y < 0 ∨ ¬ y < 3) ∨ z < 0 ∨ ¬ z ≤ 9) : cf (d + 1) 83 [.ref 2, .int x, .int y, .int z] (SH n, I, L, R, nc, ns, nx) = some (.inr "java/lang/IllegalArgumentException", ip_hx (SH n, I, L, R, nc, ns, nx)) := by
  by_cases hb : x < 1 ∨ 2 < x ∨ y < 0 ∨ ¬ y < 3
  · simp only [en83, e83_0, e83_1, e83_2, e83_5, e83_6, e83_9, e83_10, e83_12, e83_15, e83_25, e83_26, e83_27, e83_30, e83_32, e83_33, e83_36, e83_39, e83_41, e83_42, e83_44, e83_45, e83_48, e83_51, e83_53, e83_54, e83_55, e83_57, rk_n, rk_v, nl_n, nl_i, nl_r, cat_n, ip_cat_int, ip_cat_ref, ip_cat_long, ip_rf_some, Nat.reduceAdd, Nat.reduceLeDiff, Nat.reduceLT, Nat.le_refl, Nat.zero_le, x80 hb, rk_x hh83]
  · have hz := hx.resolve_left hb
    have h1 : ¬ x < 1 := fun q => hb (Or.inl q)
    have h2 : ¬ 2 < x := fun q => hb (Or.inr (Or.inl q))
    have h3 : ¬ y < 0 := fun q => hb (Or.inr (Or.inr (Or.inl q)))
    have h4 : y < 3 := Decidable.byContradiction (fun q => hb (Or.inr (Or.inr (Or.inr q))))
    by_cases h5 : z < 0
    · simp only [en83, e83_0, e83_1, e83_2, e83_5, e83_6, e83_9, e83_10, e83_12, e83_15, e83_25, e83_26, e83_27, e83_30, e83_32, e83_33, e83_36, e83_39, e83_41, e83_42, e83_44, e83_45, e83_48, e83_51, e83_53, e83_54, e83_55, e83_57, rk_n, rk_v, nl_n, nl_i, nl_r, cat_n, ip_cat_int, ip_cat_ref, ip_cat_long, ip_rf_some, Nat.reduceAdd, Nat.reduceLeDiff, Nat.reduceLT, Nat.le_refl, Nat.zero_le, c80 h1 h2 h3 h4, h5, if_true]
    · have h6 := hz.resolve_left h5
      simp only [en83, e83_0, e83_1, e83_2, e83_5, e83_6, e83_9, e83_10, e83_12, e83_15, e83_25, e83_26, e83_27, e83_30, e83_32, e83_33, e83_36, e83_39, e83_41, e83_42, e83_44, e83_45, e83_48, e83_51, e83_53, e83_54, e83_55, e83_57, rk_n, rk_v, nl_n, nl_i, nl_r, cat_n, ip_cat_int, ip_cat_ref, ip_cat_long, ip_rf_some, Nat.reduceAdd, Nat.reduceLeDiff, Nat.reduceLT, Nat.le_refl, Nat.zero_le, c80 h1 h2 h3 h4, h5, h6, if_true, if_false]
end BT
