/-! THE CLASS: what is asked of arguments, and other small methods -/
section ND
variable {n d a b T : Nat} {I : Nat → Nat → Int32} {L : Nat → Nat → Int64} {R : Nat → Nat → Option Nat} {nc ns : Nat} {nx : Bool} {x y z w j : Int32} {h : ip_H}
theorem c10 (hT : isT T) : cf d 10 [.ref T] (SH n, I, L, R, nc, ns, nx) = some (.inl (some (.int (1 <<< (I T 6 &&& 31) - 1))), (SH n, I, L, R, nc, ns, nx)) := by
  simp only [en10, e10_0, e10_1, e10_2, e10_5, e10_6, e10_7, e10_8, rk_n, rk_v, nl_n, nl_i, nl_r, cat_n, ip_cat_int, ip_cat_ref, ip_cat_long, ip_rf_some, Nat.reduceAdd, Nat.reduceLeDiff, Nat.reduceLT, Nat.le_refl, Nat.zero_le, hT]
theorem c75 (ht : R 2 4 = some T) (hT : isT T) (h1 : ¬ x < 0) (h2 : x < I T 6) : cf d 75 [.ref 2, .int x] (SH n, I, L, R, nc, ns, nx) = some (.inl none, (SH n, I, L, R, nc, ns, nx)) := by
  simp only [en75, e75_0, e75_1, e75_4, e75_5, e75_6, e75_9, e75_12, e75_15, e75_26, rk_n, rk_v, nl_n, nl_i, nl_r, cat_n, ip_cat_int, ip_cat_ref, ip_cat_long, ip_rf_some, Nat.reduceAdd, Nat.reduceLeDiff, Nat.reduceLT, Nat.le_refl, Nat.zero_le, ht, hT, h1, h2, if_true, if_false]
theorem x75 (ht : R 2 4 = some T) (hT : isT T) (hx : x < 0 ∨ ¬ x < I T 6) : cf d 75 [.ref 2, .int x] (SH n, I, L, R, nc, ns, nx) = some (.inr "java/lang/IndexOutOfBoundsException", ip_hx (SH n, I, L, R, nc, ns, nx)) := by
  by_cases h1 : x < 0
  · simp only [en75, e75_0, e75_1, e75_4, e75_5, e75_6, e75_9, e75_12, e75_15, e75_26, rk_n, rk_v, nl_n, nl_i, nl_r, cat_n, ip_cat_int, ip_cat_ref, ip_cat_long, ip_rf_some, Nat.reduceAdd, Nat.reduceLeDiff, Nat.reduceLT, Nat.le_refl, Nat.zero_le, ht, hT, h1, if_true, if_false]
  · have h2 : ¬ x < I T 6 := hx.resolve_left h1
    simp only [en75, e75_0, e75_1, e75_4, e75_5, e75_6, e75_9, e75_12, e75_15, e75_26, rk_n, rk_v, nl_n, nl_i, nl_r, cat_n, ip_cat_int, ip_cat_ref, ip_cat_long, ip_rf_some, Nat.reduceAdd, Nat.reduceLeDiff, Nat.reduceLT, Nat.le_refl, Nat.zero_le, ht, hT, h1, h2, if_true, if_false]
theorem c124 (h1 : ¬ x < 0) (h2 : x < I 2 6) : cf d 124 [.ref 2, .int x] (SH n, I, L, R, nc, ns, nx) = some (.inl none, (SH n, I, L, R, nc, ns, nx)) := by
  simp only [en124, e124_0, e124_1, e124_4, e124_5, e124_6, e124_9, e124_12, e124_23, rk_n, rk_v, nl_n, nl_i, nl_r, cat_n, ip_cat_int, ip_cat_ref, ip_cat_long, ip_rf_some, Nat.reduceAdd, Nat.reduceLeDiff, Nat.reduceLT, Nat.le_refl, Nat.zero_le, h1, h2, if_true, if_false]
theorem x124 (hx : x < 0 ∨ ¬ x < I 2 6) : cf d 124 [.ref 2, .int x] (SH n, I, L, R, nc, ns, nx) = some (.inr "java/lang/IndexOutOfBoundsException", ip_hx (SH n, I, L, R, nc, ns, nx)) := by
  by_cases h1 : x < 0
  · simp only [en124, e124_0, e124_1, e124_4, e124_5, e124_6, e124_9, e124_12, e124_23, rk_n, rk_v, nl_n, nl_i, nl_r, cat_n, ip_cat_int, ip_cat_ref, ip_cat_long, ip_rf_some, Nat.reduceAdd, Nat.reduceLeDiff, Nat.reduceLT, Nat.le_refl, Nat.zero_le, h1, if_true, if_false]
  · have h2 : ¬ x < I 2 6 := hx.resolve_left h1
    simp only [en124, e124_0, e124_1, e124_4, e124_5, e124_6, e124_9, e124_12, e124_23, rk_n, rk_v, nl_n, nl_i, nl_r, cat_n, ip_cat_int, ip_cat_ref, ip_cat_long, ip_rf_some, Nat.reduceAdd, Nat.reduceLeDiff, Nat.reduceLT, Nat.le_refl, Nat.zero_le, h1, h2, if_true, if_false]
theorem c86 (h1 : ¬ x < 0) (h2 : x < 2) : cf d 86 [.int x] h = some (.inl none, h) := by
  simp only [en86, e86_0, e86_1, e86_4, e86_5, e86_6, e86_9, e86_20, rk_n, rk_v, nl_n, nl_i, nl_r, cat_n, ip_cat_int, ip_cat_ref, ip_cat_long, ip_rf_some, Nat.reduceAdd, Nat.reduceLeDiff, Nat.reduceLT, Nat.le_refl, Nat.zero_le, h1, h2, if_true, if_false]
theorem x86 (hx : x < 0 ∨ ¬ x < 2) : cf d 86 [.int x] h = some (.inr "java/lang/IllegalArgumentException", ip_hx h) := by
  by_cases h1 : x < 0
  · simp only [en86, e86_0, e86_1, e86_4, e86_5, e86_6, e86_9, e86_20, rk_n, rk_v, nl_n, nl_i, nl_r, cat_n, ip_cat_int, ip_cat_ref, ip_cat_long, ip_rf_some, Nat.reduceAdd, Nat.reduceLeDiff, Nat.reduceLT, Nat.le_refl, Nat.zero_le, h1, if_true, if_false]
  · have h2 := hx.resolve_left h1
    simp only [en86, e86_0, e86_1, e86_4, e86_5, e86_6, e86_9, e86_20, rk_n, rk_v, nl_n, nl_i, nl_r, cat_n, ip_cat_int, ip_cat_ref, ip_cat_long, ip_rf_some, Nat.reduceAdd, Nat.reduceLeDiff, Nat.reduceLT, Nat.le_refl, Nat.zero_le, h1, h2, if_true, if_false]
theorem c129 (h1 : ¬ x < 0) (h2 : x ≤ 99) : cf d 129 [.int x] h = some (.inl none, h) := by
  simp only [en129, e129_0, e129_1, e129_4, e129_5, e129_7, e129_10, e129_21, rk_n, rk_v, nl_n, nl_i, nl_r, cat_n, ip_cat_int, ip_cat_ref, ip_cat_long, ip_rf_some, Nat.reduceAdd, Nat.reduceLeDiff, Nat.reduceLT, Nat.le_refl, Nat.zero_le, h1, h2, if_true, if_false]
theorem x129 (hx : x < 0 ∨ ¬ x ≤ 99) : cf d 129 [.int x] h = some (.inr "java/lang/IllegalArgumentException", ip_hx h) := by
  by_cases h1 : x < 0
  · simp only [en129, e129_0, e129_1, e129_4, e129_5, e129_7, e129_10, e129_21, rk_n, rk_v, nl_n, nl_i, nl_r, cat_n, ip_cat_int, ip_cat_ref, ip_cat_long, ip_rf_some, Nat.reduceAdd, Nat.reduceLeDiff, Nat.reduceLT, Nat.le_refl, Nat.zero_le, h1, if_true, if_false]
  · have h2 := hx.resolve_left h1
    simp only [en129, e129_0, e129_1, e129_4, e129_5, e129_7, e129_10, e129_21, rk_n, rk_v, nl_n, nl_i, nl_r, cat_n, ip_cat_int, ip_cat_ref, ip_cat_long, ip_rf_some, Nat.reduceAdd, Nat.reduceLeDiff, Nat.reduceLT, Nat.le_refl, Nat.zero_le, h1, h2, if_true, if_false]
theorem c80 (h1 : ¬ x < 1) (h2 : ¬ 2 < x) (h3 : ¬ y < 0) (h4 : y < 3) : cf d 80 [.int x, .int y] h = some (.inl none, h) := by
  simp only [en80, e80_0, e80_1, e80_2, e80_5, e80_6, e80_7, e80_10, e80_11, e80_14, e80_15, e80_16, e80_19, e80_30, rk_n, rk_v, nl_n, nl_i, nl_r, cat_n, ip_cat_int, ip_cat_ref, ip_cat_long, ip_rf_some, Nat.reduceAdd, Nat.reduceLeDiff, Nat.reduceLT, Nat.le_refl, Nat.zero_le, h1, h2, h3, h4, if_true, if_false]
theorem x80 (hx : x < 1 ∨ 2 < x ∨ y < 0 ∨ ¬ y < 3) : cf d 80 [.int x, .int y] h = some (.inr "java/lang/IllegalArgumentException", ip_hx h) := by
  by_cases h1 : x < 1
  · simp only [en80, e80_0, e80_1, e80_2, e80_5, e80_6, e80_7, e80_10, e80_11, e80_14, e80_15, e80_16, e80_19, e80_30, rk_n, rk_v, nl_n, nl_i, nl_r, cat_n, ip_cat_int, ip_cat_ref, ip_cat_long, ip_rf_some, Nat.reduceAdd, Nat.reduceLeDiff, Nat.reduceLT, Nat.le_refl, Nat.zero_le, h1, if_true, if_false]
  · have hx := hx.resolve_left h1
    by_cases h2 : 2 < x
    · simp only [en80, e80_0, e80_1, e80_2, e80_5, e80_6, e80_7, e80_10, e80_11, e80_14, e80_15, e80_16, e80_19, e80_30, rk_n, rk_v, nl_n, nl_i, nl_r, cat_n, ip_cat_int, ip_cat_ref, ip_cat_long, ip_rf_some, Nat.reduceAdd, Nat.reduceLeDiff, Nat.reduceLT, Nat.le_refl, Nat.zero_le, h1, h2, if_true, if_false]
    · have hx := hx.resolve_left h2
      by_cases h3 : y < 0
      · simp only [en80, e80_0, e80_1, e80_2, e80_5, e80_6, e80_7, e80_10, e80_11, e80_14, e80_15, e80_16, e80_19, e80_30, rk_n, rk_v, nl_n, nl_i, nl_r, cat_n, ip_cat_int, ip_cat_ref, ip_cat_long, ip_rf_some, Nat.reduceAdd, Nat.reduceLeDiff, Nat.reduceLT, Nat.le_refl, Nat.zero_le, h1, h2, h3, if_true, if_false]
      · have h4 := hx.resolve_left h3
        simp only [en80, e80_0, e80_1, e80_2, e80_5, e80_6, e80_7, e80_10, e80_11, e80_14, e80_15, e80_16, e80_19, e80_30, rk_n, rk_v, nl_n, nl_i, nl_r, cat_n, ip_cat_int, ip_cat_ref, ip_cat_long, ip_rf_some, Nat.reduceAdd, Nat.reduceLeDiff, Nat.reduceLT, Nat.le_refl, Nat.zero_le, h1, h2, h3, h4, if_true, if_false]
theorem c81 : cf d 81 [.int x, .int y] h = some (.inl (some (.int ((x - 1) * 3 + y))), h) := by
  simp only [en81, e81_0, e81_1, e81_2, e81_3, e81_4, e81_5, e81_6, e81_7, rk_n, rk_v, nl_n, nl_i, nl_r, cat_n, ip_cat_int, ip_cat_ref, ip_cat_long, ip_rf_some, Nat.reduceAdd, Nat.reduceLeDiff, Nat.reduceLT, Nat.le_refl, Nat.zero_le]
theorem c98 (ht : R 2 4 = some T) (hT : isT T) (h1 : x &&& (1 <<< (I T 6 &&& 31) - 1 ^^^ -1) = 0) : cf (d + 1) 98 [.ref 2, .int x] (SH n, I, L, R, nc, ns, nx) = some (.inl none, (SH n, I, L, R, nc, ns, nx)) := by
  simp only [en98, e98_0, e98_1, e98_2, e98_5, e98_8, e98_9, e98_10, e98_11, e98_14, e98_25, rk_n, rk_v, nl_n, nl_i, nl_r, cat_n, ip_cat_int, ip_cat_ref, ip_cat_long, ip_rf_some, Nat.reduceAdd, Nat.reduceLeDiff, Nat.reduceLT, Nat.le_refl, Nat.zero_le, ht, hT, c10 hT, h1, if_true, if_false]
theorem x98 (ht : R 2 4 = some T) (hT : isT T) (h1 : ¬ x &&& (1 <<< (I T 6 &&& 31) - 1 ^^^ -1) = 0) : cf (d + 1) 98 [.ref 2, .int x] (SH n, I, L, R, nc, ns, nx) = some (.inr "java/lang/IllegalArgumentException", ip_hx (SH n, I, L, R, nc, ns, nx)) := by
  simp only [en98, e98_0, e98_1, e98_2, e98_5, e98_8, e98_9, e98_10, e98_11, e98_14, e98_25, rk_n, rk_v, nl_n, nl_i, nl_r, cat_n, ip_cat_int, ip_cat_ref, ip_cat_long, ip_rf_some, Nat.reduceAdd, Nat.reduceLeDiff, Nat.reduceLT, Nat.le_refl, Nat.zero_le, ht, hT, c10 hT, h1, if_true, if_false]
theorem c107 (h1 : I 2 6 < 40) : cf d 107 [.ref 2] (SH n, I, L, R, nc, ns, nx) = some (.inl none, (SH n, I, L, R, nc, ns, nx)) := by
  simp only [en107, e107_0, e107_1, e107_4, e107_6, e107_9, e107_20, rk_n, rk_v, nl_n, nl_i, nl_r, cat_n, ip_cat_int, ip_cat_ref, ip_cat_long, ip_rf_some, Nat.reduceAdd, Nat.reduceLeDiff, Nat.reduceLT, Nat.le_refl, Nat.zero_le, h1, if_true, if_false]
theorem x107 (h1 : ¬ I 2 6 < 40) : cf d 107 [.ref 2] (SH n, I, L, R, nc, ns, nx) = some (.inr "java/lang/IllegalStateException", ip_hx (SH n, I, L, R, nc, ns, nx)) := by
  simp only [en107, e107_0, e107_1, e107_4, e107_6, e107_9, e107_20, rk_n, rk_v, nl_n, nl_i, nl_r, cat_n, ip_cat_int, ip_cat_ref, ip_cat_long, ip_rf_some, Nat.reduceAdd, Nat.reduceLeDiff, Nat.reduceLT, Nat.le_refl, Nat.zero_le, h1, if_true, if_false]
theorem c16 : cf d 16 [.ref 2] (SH n, I, L, R, nc, ns, nx) = some (.inl (some (.int (I 2 2))), (SH n, I, L, R, nc, ns, nx)) := by
  simp only [en16, e16_0, e16_1, e16_4, rk_n, rk_v, nl_n, nl_i, nl_r, cat_n, ip_cat_int, ip_cat_ref, ip_cat_long, ip_rf_some, Nat.reduceAdd, Nat.reduceLeDiff, Nat.reduceLT, Nat.le_refl, Nat.zero_le]
theorem c15 (h1 : ¬ x < 0) (h2 : x ≤ I 2 1) : cf d 15 [.ref 2, .int x] (SH n, I, L, R, nc, ns, nx) = some (.inl (some (.int 1)), (SH n, ip_up I 2 1 x, L, R, nc, ns, nx)) := by
  simp only [en15, e15_0, e15_1, e15_4, e15_5, e15_6, e15_9, e15_12, e15_13, e15_14, e15_15, e15_16, e15_19, e15_20, rk_n, rk_v, nl_n, nl_i, nl_r, cat_n, ip_cat_int, ip_cat_ref, ip_cat_long, ip_rf_some, Nat.reduceAdd, Nat.reduceLeDiff, Nat.reduceLT, Nat.le_refl, Nat.zero_le, h1, h2, if_true, if_false, or_true]
theorem b15 (hx : x < 0 ∨ ¬ x ≤ I 2 1) : cf d 15 [.ref 2, .int x] (SH n, I, L, R, nc, ns, nx) = some (.inl (some (.int 0)), (SH n, I, L, R, nc, ns, nx)) := by
  by_cases h1 : x < 0
  · simp only [en15, e15_0, e15_1, e15_4, e15_5, e15_6, e15_9, e15_12, e15_13, e15_14, e15_15, e15_16, e15_19, e15_20, rk_n, rk_v, nl_n, nl_i, nl_r, cat_n, ip_cat_int, ip_cat_ref, ip_cat_long, ip_rf_some, Nat.reduceAdd, Nat.reduceLeDiff, Nat.reduceLT, Nat.le_refl, Nat.zero_le, h1, if_true, if_false, true_or]
  · have h2 := hx.resolve_left h1
    simp only [en15, e15_0, e15_1, e15_4, e15_5, e15_6, e15_9, e15_12, e15_13, e15_14, e15_15, e15_16, e15_19, e15_20, rk_n, rk_v, nl_n, nl_i, nl_r, cat_n, ip_cat_int, ip_cat_ref, ip_cat_long, ip_rf_some, Nat.reduceAdd, Nat.reduceLeDiff, Nat.reduceLT, Nat.le_refl, Nat.zero_le, h1, h2, if_true, if_false, true_or]
theorem c123 (h1 : ¬ x < 0) (h2 : x < I 2 6) : cf (d + 1) 123 [.ref 2, .int x] (SH n, I, L, R, nc, ns, nx) = some (.inl (some (.int (I 2 7))), (SH n, ip_up I 2 7 x, L, R, nc, ns, nx)) := by
  simp only [en123, e123_0, e123_1, e123_2, e123_5, e123_6, e123_9, e123_10, e123_11, e123_12, e123_15, e123_16, rk_n, rk_v, nl_n, nl_i, nl_r, cat_n, ip_cat_int, ip_cat_ref, ip_cat_long, ip_rf_some, Nat.reduceAdd, Nat.reduceLeDiff, Nat.reduceLT, Nat.le_refl, Nat.zero_le, c124 h1 h2]
theorem x123 (hx : x < 0 ∨ ¬ x < I 2 6) : cf (d + 1) 123 [.ref 2, .int x] (SH n, I, L, R, nc, ns, nx) = some (.inr "java/lang/IndexOutOfBoundsException", ip_hx (SH n, I, L, R, nc, ns, nx)) := by
  simp only [en123, e123_0, e123_1, e123_2, e123_5, e123_6, e123_9, e123_10, e123_11, e123_12, e123_15, e123_16, rk_n, rk_v, nl_n, nl_i, nl_r, cat_n, ip_cat_int, ip_cat_ref, ip_cat_long, ip_rf_some, Nat.reduceAdd, Nat.reduceLeDiff, Nat.reduceLT, Nat.le_refl, Nat.zero_le, x124 hx, rk_x hh123]
theorem c118 : cf d 118 [.ref 2] (SH n, I, L, R, nc, ns, nx) = some (.inl (some (.int (I 2 6))), (SH n, ip_up (ip_up I 2 7 (I 2 6)) 2 6 (I 2 6 + 1), L, R, nc, ns, nx)) := by
  simp only [en118, e118_0, e118_1, e118_2, e118_5, e118_8, e118_9, e118_9r, e118_10, e118_13, e118_14, e118_15, e118_18, e118_19, e118_22, rk_n, rk_v, nl_n, nl_i, nl_r, cat_n, ip_cat_int, ip_cat_ref, ip_cat_long, ip_rf_some, Nat.reduceAdd, Nat.reduceLeDiff, Nat.reduceLT, Nat.le_refl, Nat.zero_le, up_eq, up_k, Nat.reduceEqDiff, not_false_eq_true]
theorem c20 : cf d 20 [.int x, .int y] h = some (.inl (some (.int (x - y &&& y))), h) := by
  simp only [en20, e20_0, e20_1, e20_2, e20_3, e20_4, e20_5, rk_n, rk_v, nl_n, nl_i, nl_r, cat_n, ip_cat_int, ip_cat_ref, ip_cat_long, ip_rf_some, Nat.reduceAdd, Nat.reduceLeDiff, Nat.reduceLT, Nat.le_refl, Nat.zero_le]
theorem c132 : cf d 132 [.int x] h = some (.inl (some (.int (if x = 2 then 2 else if x = 3 then 1 else 0))), h) := by
  by_cases h1 : x = 2
  · simp only [en132, e132_0, e132_1, e132_2, e132_5, e132_6, e132_9, e132_10, e132_11, e132_14, e132_15, e132_18, e132_19, rk_n, rk_v, nl_n, nl_i, nl_r, cat_n, ip_cat_int, ip_cat_ref, ip_cat_long, ip_rf_some, Nat.reduceAdd, Nat.reduceLeDiff, Nat.reduceLT, Nat.le_refl, Nat.zero_le, h1, not_true_eq_false, if_true, if_false]
  · by_cases h2 : x = 3
    · subst h2
      simp only [en132, e132_0, e132_1, e132_2, e132_5, e132_6, e132_9, e132_10, e132_11, e132_14, e132_15, e132_18, e132_19, rk_n, rk_v, nl_n, nl_i, nl_r, cat_n, ip_cat_int, ip_cat_ref, ip_cat_long, ip_rf_some, Nat.reduceAdd, Nat.reduceLeDiff, Nat.reduceLT, Nat.le_refl, Nat.zero_le, h1, not_true_eq_false, not_false_eq_true, if_true, if_false]
    · simp only [en132, e132_0, e132_1, e132_2, e132_5, e132_6, e132_9, e132_10, e132_11, e132_14, e132_15, e132_18, e132_19, rk_n, rk_v, nl_n, nl_i, nl_r, cat_n, ip_cat_int, ip_cat_ref, ip_cat_long, ip_rf_some, Nat.reduceAdd, Nat.reduceLeDiff, Nat.reduceLT, Nat.le_refl, Nat.zero_le, h1, h2, not_true_eq_false, not_false_eq_true, if_true, if_false]
end ND
