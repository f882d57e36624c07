/-! BAR and TELL: the model's -/
section BM
variable {n d a b T : Nat} {I : Nat → Nat → Int32} {L : Nat → Nat → Int64} {R : Nat → Nat → Option Nat} {nc ns : Nat} {nx : Bool} {x y z w j : Int32} {h : ip_H}
theorem lt3 : y < 3 ↔ ¬ 2 < y := by
  rw [Int32.lt_iff_toInt_lt, Int32.lt_iff_toInt_lt]
  have t : (2 : Int32).toInt = 2 := by decide
  have q : (3 : Int32).toInt = 3 := by decide
  rw [t, q]
  omega
theorem le9 : y ≤ 9 ↔ ¬ 9 < y := by
  rw [Int32.lt_iff_toInt_lt, Int32.le_iff_toInt_le]
  omega
theorem c222 (hR : LYR R) (h1 : ¬ x < 1) (h2 : ¬ 2 < x) (h3 : ¬ y < 0) (h4 : y < 3) : cf (d + 1) 222 [.ref 265, .int x, .int y] (SH n, I, L, R, nc, ns, nx) = some (.inl (some (.int (I 277 ((x - 1) * 3 + y).toNatClampNeg))), (SH n, ip_up I 265 0 0, L, R, nc, ns, nx)) := by
  simp only [en222, e222_0, e222_1, e222_2, e222_3, e222_4, e222_7, e222_10, e222_11, e222_12, e222_13, e222_16, e222_19, e222_20, e222_23, e222_24, e222_27, e222_28, e222_31, e222_34, e222_35, e222_38, e222_39, e222_42, e222_43, e222_44, e222_45, e222_46, e222_47, e222_48, e222_49, e222_50, rk_n, rk_v, nl_n, nl_i, nl_r, cat_n, ip_cat_int, ip_cat_ref, ip_cat_long, ip_rf_some, Nat.reduceAdd, Nat.reduceLeDiff, Nat.reduceLT, Nat.le_refl, Nat.zero_le, hR, c217 h1 h2, c217 h3 (lt3.mp h4), zle, up_eq, up_a, Nat.reduceEqDiff, not_false_eq_true, if_true, if_false, bp_eq, ia_lit, bp_in h1 h2 h3 h4]
theorem b222 (hx : x < 1 ∨ 2 < x ∨ y < 0 ∨ ¬ y < 3) : cf (d + 1) 222 [.ref 265, .int x, .int y] (SH n, I, L, R, nc, ns, nx) = some (.inl (some (.int 0)), (SH n, ip_up I 265 0 1, L, R, nc, ns, nx)) := by
  by_cases hb : x < 1 ∨ 2 < x
  · simp only [en222, e222_0, e222_1, e222_2, e222_3, e222_4, e222_7, e222_10, e222_11, e222_12, e222_13, e222_16, e222_19, e222_20, e222_23, e222_24, e222_27, e222_28, e222_31, e222_34, e222_35, e222_38, e222_39, e222_42, e222_43, e222_44, e222_45, e222_46, e222_47, e222_48, e222_49, e222_50, rk_n, rk_v, nl_n, nl_i, nl_r, cat_n, ip_cat_int, ip_cat_ref, ip_cat_long, ip_rf_some, Nat.reduceAdd, Nat.reduceLeDiff, Nat.reduceLT, Nat.le_refl, Nat.zero_le, b217 hb, zle, up_eq, if_true, if_false]
  · have h1 : ¬ x < 1 := fun q => hb (Or.inl q)
    have h2 : ¬ 2 < x := fun q => hb (Or.inr q)
    have h3 := (hx.resolve_left h1).resolve_left h2
    have h4 : y < 0 ∨ 2 < y := h3.imp id (fun q => Decidable.byContradiction (fun g => q (lt3.mpr g)))
    simp only [en222, e222_0, e222_1, e222_2, e222_3, e222_4, e222_7, e222_10, e222_11, e222_12, e222_13, e222_16, e222_19, e222_20, e222_23, e222_24, e222_27, e222_28, e222_31, e222_34, e222_35, e222_38, e222_39, e222_42, e222_43, e222_44, e222_45, e222_46, e222_47, e222_48, e222_49, e222_50, rk_n, rk_v, nl_n, nl_i, nl_r, cat_n, ip_cat_int, ip_cat_ref, ip_cat_long, ip_rf_some, Nat.reduceAdd, Nat.reduceLeDiff, Nat.reduceLT, Nat.le_refl, Nat.zero_le, c217 h1 h2, b217 h4, zle, up_eq, if_true, if_false]
theorem c223 (hR : LYR R) (h1 : ¬ x < 1) (h2 : ¬ 2 < x) (h3 : ¬ y < 0) (h4 : y < 3) (h5 : ¬ z < 0) (h6 : z ≤ 9) : cf (d + 1) 223 [.ref 265, .int x, .int y, .int z] (SH n, I, L, R, nc, ns, nx) = some (.inl (some (.int (I 277 ((x - 1) * 3 + y).toNatClampNeg))), (SH n, ip_up (ip_up I 265 0 0) 277 ((x - 1) * 3 + y).toNatClampNeg z, L, R, nc, ns, nx)) := by
  simp only [en223, e223_0, e223_1, e223_2, e223_3, e223_4, e223_7, e223_10, e223_11, e223_12, e223_13, e223_16, e223_19, e223_20, e223_21, e223_23, e223_26, e223_29, e223_30, e223_33, e223_34, e223_37, e223_38, e223_41, e223_44, e223_45, e223_46, e223_47, e223_50, e223_51, e223_52, e223_53, e223_54, e223_55, e223_56, e223_57, e223_58, e223_60, e223_61, e223_64, e223_65, e223_66, e223_67, e223_68, e223_69, e223_70, e223_71, e223_72, e223_73, e223_75, rk_n, rk_v, nl_n, nl_i, nl_r, cat_n, ip_cat_int, ip_cat_ref, ip_cat_long, ip_rf_some, Nat.reduceAdd, Nat.reduceLeDiff, Nat.reduceLT, Nat.le_refl, Nat.zero_le, hR, c217 h1 h2, c217 h3 (lt3.mp h4), c217 h5 (le9.mp h6), zle, up_eq, up_a, Nat.reduceEqDiff, not_false_eq_true, if_true, if_false, bp_eq, ia_lit, bp_in h1 h2 h3 h4]
theorem b223 (hx : (x < 1 ∨ 2 < x ∨ y < 0 ∨ ¬ y < 3) ∨ z < 0 ∨ ¬ z ≤ 9) : cf (d + 1) 223 [.ref 265, .int x, .int y, .int z] (SH n, I, L, R, nc, ns, nx) = some (.inl (some (.int 0)), (SH n, ip_up I 265 0 1, L, R, nc, ns, nx)) := by
  by_cases hb : x < 1 ∨ 2 < x
  · simp only [en223, e223_0, e223_1, e223_2, e223_3, e223_4, e223_7, e223_10, e223_11, e223_12, e223_13, e223_16, e223_19, e223_20, e223_21, e223_23, e223_26, e223_29, e223_30, e223_33, e223_34, e223_37, e223_38, e223_41, e223_44, e223_45, e223_46, e223_47, e223_50, e223_51, e223_52, e223_53, e223_54, e223_55, e223_56, e223_57, e223_58, e223_60, e223_61, e223_64, e223_65, e223_66, e223_67, e223_68, e223_69, e223_70, e223_71, e223_72, e223_73, e223_75, rk_n, rk_v, nl_n, nl_i, nl_r, cat_n, ip_cat_int, ip_cat_ref, ip_cat_long, ip_rf_some, Nat.reduceAdd, Nat.reduceLeDiff, Nat.reduceLT, Nat.le_refl, Nat.zero_le, b217 hb, zle, up_eq, if_true, if_false]
  · have h1 : ¬ x < 1 := fun q => hb (Or.inl q)
    have h2 : ¬ 2 < x := fun q => hb (Or.inr q)
    by_cases hc : y < 0 ∨ 2 < y
    · simp only [en223, e223_0, e223_1, e223_2, e223_3, e223_4, e223_7, e223_10, e223_11, e223_12, e223_13, e223_16, e223_19, e223_20, e223_21, e223_23, e223_26, e223_29, e223_30, e223_33, e223_34, e223_37, e223_38, e223_41, e223_44, e223_45, e223_46, e223_47, e223_50, e223_51, e223_52, e223_53, e223_54, e223_55, e223_56, e223_57, e223_58, e223_60, e223_61, e223_64, e223_65, e223_66, e223_67, e223_68, e223_69, e223_70, e223_71, e223_72, e223_73, e223_75, rk_n, rk_v, nl_n, nl_i, nl_r, cat_n, ip_cat_int, ip_cat_ref, ip_cat_long, ip_rf_some, Nat.reduceAdd, Nat.reduceLeDiff, Nat.reduceLT, Nat.le_refl, Nat.zero_le, c217 h1 h2, b217 hc, zle, up_eq, if_true, if_false]
    · have h3 : ¬ y < 0 := fun q => hc (Or.inl q)
      have h4 : ¬ 2 < y := fun q => hc (Or.inr q)
      have h5 : z < 0 ∨ ¬ z ≤ 9 := hx.resolve_left (fun q => q.elim h1 (fun q => q.elim h2 (fun q => q.elim h3 (fun q => q (lt3.mpr h4)))))
      have h6 : z < 0 ∨ 9 < z := h5.imp id (fun q => Decidable.byContradiction (fun g => q (le9.mpr g)))
      simp only [en223, e223_0, e223_1, e223_2, e223_3, e223_4, e223_7, e223_10, e223_11, e223_12, e223_13, e223_16, e223_19, e223_20, e223_21, e223_23, e223_26, e223_29, e223_30, e223_33, e223_34, e223_37, e223_38, e223_41, e223_44, e223_45, e223_46, e223_47, e223_50, e223_51, e223_52, e223_53, e223_54, e223_55, e223_56, e223_57, e223_58, e223_60, e223_61, e223_64, e223_65, e223_66, e223_67, e223_68, e223_69, e223_70, e223_71, e223_72, e223_73, e223_75, rk_n, rk_v, nl_n, nl_i, nl_r, cat_n, ip_cat_int, ip_cat_ref, ip_cat_long, ip_rf_some, Nat.reduceAdd, Nat.reduceLeDiff, Nat.reduceLT, Nat.le_refl, Nat.zero_le, c217 h1 h2, c217 h3 h4, b217 h6, zle, up_eq, if_true, if_false]
end BM
