/-! THE MODEL: small methods -/
section MD
variable {n d a b T : Nat} {I : Nat → Nat → Int32} {L : Nat → Nat → Int64} {R : Nat → Nat → Option Nat} {nc ns : Nat} {nx : Bool} {x y z w j : Int32} {h : ip_H}
theorem c217 (h1 : ¬ x < y) (h2 : ¬ z < x) : cf d 217 [.int x, .int y, .int z] h = some (.inl (some (.int 1)), h) := by
  simp only [en217, e217_0, e217_1, e217_2, e217_5, e217_6, e217_7, e217_10, e217_11, e217_14, e217_15, rk_n, rk_v, nl_n, nl_i, nl_r, cat_n, ip_cat_int, ip_cat_ref, ip_cat_long, ip_rf_some, Nat.reduceAdd, Nat.reduceLeDiff, Nat.reduceLT, Nat.le_refl, Nat.zero_le, h1, h2, if_true, if_false, or_true]
theorem b217 (hx : x < y ∨ z < x) : cf d 217 [.int x, .int y, .int z] h = some (.inl (some (.int 0)), h) := by
  by_cases h1 : x < y
  · simp only [en217, e217_0, e217_1, e217_2, e217_5, e217_6, e217_7, e217_10, e217_11, e217_14, e217_15, rk_n, rk_v, nl_n, nl_i, nl_r, cat_n, ip_cat_int, ip_cat_ref, ip_cat_long, ip_rf_some, Nat.reduceAdd, Nat.reduceLeDiff, Nat.reduceLT, Nat.le_refl, Nat.zero_le, h1, if_true, if_false, true_or]
  · have h2 := hx.resolve_left h1
    simp only [en217, e217_0, e217_1, e217_2, e217_5, e217_6, e217_7, e217_10, e217_11, e217_14, e217_15, rk_n, rk_v, nl_n, nl_i, nl_r, cat_n, ip_cat_int, ip_cat_ref, ip_cat_long, ip_rf_some, Nat.reduceAdd, Nat.reduceLeDiff, Nat.reduceLT, Nat.le_refl, Nat.zero_le, h1, h2, if_true, if_false, true_or]
theorem c186 : cf d 186 [.int x, .int y] h = some (.inl (some (.int (if x >>> (y &&& 31) &&& 1 = 1 then 1 else 0))), h) := by
  by_cases h1 : x >>> (y &&& 31) &&& 1 = 1 <;> simp only [en186, e186_0, e186_1, e186_2, e186_3, e186_4, e186_5, e186_6, e186_9, e186_10, e186_13, e186_14, rk_n, rk_v, nl_n, nl_i, nl_r, cat_n, ip_cat_int, ip_cat_ref, ip_cat_long, ip_rf_some, Nat.reduceAdd, Nat.reduceLeDiff, Nat.reduceLT, Nat.le_refl, Nat.zero_le, h1, not_true_eq_false, not_false_eq_true, if_true, if_false, true_or, or_true]
theorem c187 : cf d 187 [.ref 265] (SH n, I, L, R, nc, ns, nx) = some (.inl (some (.int (1 <<< (I 265 17 &&& 31) - 1))), (SH n, I, L, R, nc, ns, nx)) := by
  simp only [en187, e187_0, e187_1, e187_2, e187_5, e187_6, e187_7, e187_8, rk_n, rk_v, nl_n, nl_i, nl_r, cat_n, ip_cat_int, ip_cat_ref, ip_cat_long, ip_rf_some, Nat.reduceAdd, Nat.reduceLeDiff, Nat.reduceLT, Nat.le_refl, Nat.zero_le]
theorem c216 (h1 : ¬ x < 0) (h2 : ¬ I 265 17 - 1 < x) : cf (d + 1) 216 [.ref 265, .int x] (SH n, I, L, R, nc, ns, nx) = some (.inl (some (.int 1)), (SH n, I, L, R, nc, ns, nx)) := by
  simp only [en216, e216_0, e216_1, e216_2, e216_3, e216_6, e216_7, e216_8, e216_11, rk_n, rk_v, nl_n, nl_i, nl_r, cat_n, ip_cat_int, ip_cat_ref, ip_cat_long, ip_rf_some, Nat.reduceAdd, Nat.reduceLeDiff, Nat.reduceLT, Nat.le_refl, Nat.zero_le, c217 h1 h2, or_true]
theorem b216 (hx : x < 0 ∨ I 265 17 - 1 < x) : cf (d + 1) 216 [.ref 265, .int x] (SH n, I, L, R, nc, ns, nx) = some (.inl (some (.int 0)), (SH n, I, L, R, nc, ns, nx)) := by
  simp only [en216, e216_0, e216_1, e216_2, e216_3, e216_6, e216_7, e216_8, e216_11, rk_n, rk_v, nl_n, nl_i, nl_r, cat_n, ip_cat_int, ip_cat_ref, ip_cat_long, ip_rf_some, Nat.reduceAdd, Nat.reduceLeDiff, Nat.reduceLT, Nat.le_refl, Nat.zero_le, b217 hx, true_or]
theorem c244 (h1 : ¬ x < 0) (h2 : ¬ I 265 37 - 1 < x) : cf (d + 1) 244 [.ref 265, .int x] (SH n, I, L, R, nc, ns, nx) = some (.inl (some (.int 1)), (SH n, I, L, R, nc, ns, nx)) := by
  simp only [en244, e244_0, e244_1, e244_2, e244_3, e244_6, e244_7, e244_8, e244_11, rk_n, rk_v, nl_n, nl_i, nl_r, cat_n, ip_cat_int, ip_cat_ref, ip_cat_long, ip_rf_some, Nat.reduceAdd, Nat.reduceLeDiff, Nat.reduceLT, Nat.le_refl, Nat.zero_le, c217 h1 h2, or_true]
theorem b244 (hx : x < 0 ∨ I 265 37 - 1 < x) : cf (d + 1) 244 [.ref 265, .int x] (SH n, I, L, R, nc, ns, nx) = some (.inl (some (.int 0)), (SH n, I, L, R, nc, ns, nx)) := by
  simp only [en244, e244_0, e244_1, e244_2, e244_3, e244_6, e244_7, e244_8, e244_11, rk_n, rk_v, nl_n, nl_i, nl_r, cat_n, ip_cat_int, ip_cat_ref, ip_cat_long, ip_rf_some, Nat.reduceAdd, Nat.reduceLeDiff, Nat.reduceLT, Nat.le_refl, Nat.zero_le, b217 hx, true_or]
theorem c225 (h1 : ¬ x < 0) (h2 : ¬ 1 < x) : cf (d + 1) 225 [.int x] h = some (.inl (some (.int 1)), h) := by
  simp only [en225, e225_0, e225_1, e225_2, e225_3, e225_6, rk_n, rk_v, nl_n, nl_i, nl_r, cat_n, ip_cat_int, ip_cat_ref, ip_cat_long, ip_rf_some, Nat.reduceAdd, Nat.reduceLeDiff, Nat.reduceLT, Nat.le_refl, Nat.zero_le, c217 h1 h2, or_true]
theorem b225 (hx : x < 0 ∨ 1 < x) : cf (d + 1) 225 [.int x] h = some (.inl (some (.int 0)), h) := by
  simp only [en225, e225_0, e225_1, e225_2, e225_3, e225_6, rk_n, rk_v, nl_n, nl_i, nl_r, cat_n, ip_cat_int, ip_cat_ref, ip_cat_long, ip_rf_some, Nat.reduceAdd, Nat.reduceLeDiff, Nat.reduceLT, Nat.le_refl, Nat.zero_le, b217 hx, true_or]
theorem c231 (h1 : ¬ x < 0) (h2 : ¬ 1 <<< (I 265 17 &&& 31) - 1 < x) : cf (d + 1) 231 [.ref 265, .int x] (SH n, I, L, R, nc, ns, nx) = some (.inl (some (.int 1)), (SH n, I, L, R, nc, ns, nx)) := by
  simp only [en231, e231_0, e231_1, e231_2, e231_3, e231_6, e231_9, rk_n, rk_v, nl_n, nl_i, nl_r, cat_n, ip_cat_int, ip_cat_ref, ip_cat_long, ip_rf_some, Nat.reduceAdd, Nat.reduceLeDiff, Nat.reduceLT, Nat.le_refl, Nat.zero_le, c187, c217 h1 h2, or_true]
theorem b231 (hx : x < 0 ∨ 1 <<< (I 265 17 &&& 31) - 1 < x) : cf (d + 1) 231 [.ref 265, .int x] (SH n, I, L, R, nc, ns, nx) = some (.inl (some (.int 0)), (SH n, I, L, R, nc, ns, nx)) := by
  simp only [en231, e231_0, e231_1, e231_2, e231_3, e231_6, e231_9, rk_n, rk_v, nl_n, nl_i, nl_r, cat_n, ip_cat_int, ip_cat_ref, ip_cat_long, ip_rf_some, Nat.reduceAdd, Nat.reduceLeDiff, Nat.reduceLT, Nat.le_refl, Nat.zero_le, c187, b217 hx, true_or]
theorem c189 : cf d 189 [.ref 265] (SH n, I, L, R, nc, ns, nx) = some (.inl (some (.int (I 265 0))), (SH n, I, L, R, nc, ns, nx)) := by
  simp only [en189, e189_0, e189_1, e189_4, rk_n, rk_v, nl_n, nl_i, nl_r, cat_n, ip_cat_int, ip_cat_ref, ip_cat_long, ip_rf_some, Nat.reduceAdd, Nat.reduceLeDiff, Nat.reduceLT, Nat.le_refl, Nat.zero_le]
theorem c214 : cf d 214 [.ref 265] (SH n, I, L, R, nc, ns, nx) = some (.inl (some (.int (I 265 5))), (SH n, ip_up I 265 0 0, L, R, nc, ns, nx)) := by
  simp only [en214, e214_0, e214_1, e214_2, e214_5, e214_6, e214_9, rk_n, rk_v, nl_n, nl_i, nl_r, cat_n, ip_cat_int, ip_cat_ref, ip_cat_long, ip_rf_some, Nat.reduceAdd, Nat.reduceLeDiff, Nat.reduceLT, Nat.le_refl, Nat.zero_le, up_k, Nat.reduceEqDiff, not_false_eq_true]
theorem c191 (h1 : ¬ x < 0) (h2 : x ≤ I 265 2) : cf d 191 [.ref 265, .int x] (SH n, I, L, R, nc, ns, nx) = some (.inl (some (.int 1)), (SH n, ip_up (ip_up I 265 0 0) 265 2 x, L, R, nc, ns, nx)) := by
  have e : ip_up I 265 0 0 265 2 = I 265 2 := up_k (by decide)
  simp only [en191, e191_0, e191_1, e191_2, e191_5, e191_6, e191_9, e191_10, e191_11, e191_14, e191_17, e191_18, e191_19, e191_20, e191_21, e191_24, e191_25, rk_n, rk_v, nl_n, nl_i, nl_r, cat_n, ip_cat_int, ip_cat_ref, ip_cat_long, ip_rf_some, Nat.reduceAdd, Nat.reduceLeDiff, Nat.reduceLT, Nat.le_refl, Nat.zero_le, e, h1, h2, if_true, if_false, or_true]
theorem b191 (hx : x < 0 ∨ ¬ x ≤ I 265 2) : cf d 191 [.ref 265, .int x] (SH n, I, L, R, nc, ns, nx) = some (.inl (some (.int 0)), (SH n, ip_up I 265 0 0, L, R, nc, ns, nx)) := by
  have e : ip_up I 265 0 0 265 2 = I 265 2 := up_k (by decide)
  by_cases h1 : x < 0
  · simp only [en191, e191_0, e191_1, e191_2, e191_5, e191_6, e191_9, e191_10, e191_11, e191_14, e191_17, e191_18, e191_19, e191_20, e191_21, e191_24, e191_25, rk_n, rk_v, nl_n, nl_i, nl_r, cat_n, ip_cat_int, ip_cat_ref, ip_cat_long, ip_rf_some, Nat.reduceAdd, Nat.reduceLeDiff, Nat.reduceLT, Nat.le_refl, Nat.zero_le, h1, if_true, if_false, true_or]
  · have h2 := hx.resolve_left h1
    simp only [en191, e191_0, e191_1, e191_2, e191_5, e191_6, e191_9, e191_10, e191_11, e191_14, e191_17, e191_18, e191_19, e191_20, e191_21, e191_24, e191_25, rk_n, rk_v, nl_n, nl_i, nl_r, cat_n, ip_cat_int, ip_cat_ref, ip_cat_long, ip_rf_some, Nat.reduceAdd, Nat.reduceLeDiff, Nat.reduceLT, Nat.le_refl, Nat.zero_le, e, h1, h2, if_true, if_false, true_or]
theorem zle : ((0 : Int32) ≤ 0) = True ∧ ((1 : Int32) ≤ 0) = False ∧ ((2 : Int32) ≤ 0) = False ∧ ((3 : Int32) ≤ 0) = False ∧ ((1 : Int32) = 0) = False ∧ ((0 : Int32) = 0) = True := by
  refine ⟨eq_true (by decide), eq_false (by decide), eq_false (by decide), eq_false (by decide), eq_false (by decide), eq_true rfl⟩
theorem c243 (h1 : ¬ x < 0) (h2 : ¬ I 265 37 - 1 < x) : cf (d + 2) 243 [.ref 265, .int x] (SH n, I, L, R, nc, ns, nx) = some (.inl (some (.int (I 265 38))), (SH n, ip_up (ip_up I 265 0 0) 265 38 x, L, R, nc, ns, nx)) := by
  have e : ip_up I 265 0 0 265 38 = I 265 38 := up_k (by decide)
  simp only [en243, e243_0, e243_1, e243_2, e243_3, e243_6, e243_9, e243_10, e243_13, e243_14, e243_17, e243_18, e243_21, e243_24, e243_25, e243_26, e243_27, e243_30, e243_31, e243_32, e243_33, e243_36, e243_37, rk_n, rk_v, nl_n, nl_i, nl_r, cat_n, ip_cat_int, ip_cat_ref, ip_cat_long, ip_rf_some, Nat.reduceAdd, Nat.reduceLeDiff, Nat.reduceLT, Nat.le_refl, Nat.zero_le, c244 h1 h2, zle, up_eq, e, if_true, if_false]
theorem b243 (hx : x < 0 ∨ I 265 37 - 1 < x) : cf (d + 2) 243 [.ref 265, .int x] (SH n, I, L, R, nc, ns, nx) = some (.inl (some (.int 0)), (SH n, ip_up I 265 0 1, L, R, nc, ns, nx)) := by
  simp only [en243, e243_0, e243_1, e243_2, e243_3, e243_6, e243_9, e243_10, e243_13, e243_14, e243_17, e243_18, e243_21, e243_24, e243_25, e243_26, e243_27, e243_30, e243_31, e243_32, e243_33, e243_36, e243_37, rk_n, rk_v, nl_n, nl_i, nl_r, cat_n, ip_cat_int, ip_cat_ref, ip_cat_long, ip_rf_some, Nat.reduceAdd, Nat.reduceLeDiff, Nat.reduceLT, Nat.le_refl, Nat.zero_le, b244 hx, zle, up_eq, if_true, if_false]
/-- i - 1 < x, where i isn't below 0 -/
theorem pred_lt {i x : Int32} (h : ¬ i < 0) : i - 1 < x ↔ ¬ x < i := by
  rw [Int32.lt_iff_toInt_lt, Int32.lt_iff_toInt_lt] at *
  have e : (i - 1).toInt = i.toInt - 1 := by
    rw [Int32.toInt_sub]
    have q := i.toInt_lt
    have z : (0 : Int32).toInt = 0 := by decide
    have o : (1 : Int32).toInt = 1 := by decide
    rw [z] at h
    rw [o]
    exact Int.bmod_eq_of_le (by omega) (by omega)
  rw [e]
  omega
end MD
