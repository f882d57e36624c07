/-! NODES: the small methods -/
theorem and1 (x : Int32) : x &&& 1 = 0 ∨ x &&& 1 = 1 := by
  have h : (x &&& 1).toBitVec = x.toBitVec &&& 1#32 := rfl
  rw [BitVec.and_one_eq_setWidth_ofBool_getLsbD] at h
  cases hb : x.toBitVec.getLsbD 0 with
  | false => rw [hb] at h; exact Or.inl (Int32.toBitVec_inj.mp h)
  | true => rw [hb] at h; exact Or.inr (Int32.toBitVec_inj.mp h)
theorem inb_and1 (x : Int32) : inb (x &&& 1) 2 := by
  rcases and1 x with h | h <;> rw [h] <;> unfold inb <;> decide
theorem row_eq {α : Type} {f : Nat → Nat → α} {a k : Nat} {g : Nat → α} : ip_row f a g a k = g k := by
  unfold ip_row; rw [if_pos rfl]
theorem row_a {α : Type} {f : Nat → Nat → α} {a b k : Nat} {g : Nat → α} (h : ¬ b = a) : ip_row f a g b k = f b k := by
  unfold ip_row; rw [if_neg h]
theorem row_a1 {α : Type} {f : Nat → Nat → α} {a b : Nat} {g : Nat → α} (h : ¬ b = a) : ip_row f a g b = f b := by
  funext k; exact row_a h
theorem row_e1 {α : Type} {f : Nat → Nat → α} {a : Nat} {g : Nat → α} : ip_row f a g a = g := by
  funext k; exact row_eq
theorem up_a1 {α : Type} {f : Nat → Nat → α} {a k b : Nat} {v : α} (h : ¬ b = a) : ip_up f a k v b = f b := by
  funext j; exact up_a h
section N
variable {n d a b : Nat} {I : Nat → Nat → Int32} {L : Nat → Nat → Int64} {R : Nat → Nat → Option Nat} {nc ns : Nat} {nx : Bool} {x y z w j : Int32}
def reopenI (I : Nat → Nat → Int32) (a : Nat) (x : Int32) : Nat → Nat → Int32 := ip_up (ip_up (ip_up (ip_up (ip_up I a 6 (I a 6 ||| x)) a 4 (I a 4 &&& (x ^^^ -1))) a 5 (I a 5 &&& (x ^^^ -1))) (a + 2) 0 (I (a + 2) 0 &&& (x ^^^ -1))) (a + 2) 1 (I (a + 2) 1 &&& (x ^^^ -1))
theorem c88 (hR : LYR R) (ha : isN a) : cf d 88 [.ref a, .int x] (SH n, I, L, R, nc, ns, nx) = some (.inl none, (SH n, reopenI I a x, L, R, nc, ns, nx)) := by
  simp only [en88, e88_0, e88_1, e88_1r, e88_2, e88_5, e88_6, e88_7, e88_10, e88_11, e88_11r, e88_12, e88_15, e88_16, e88_17, e88_18, e88_19, e88_22, e88_23, e88_23r, e88_24, e88_27, e88_28, e88_29, e88_30, e88_31, e88_34, e88_35, e88_38, e88_39, e88_40, e88_41, e88_42, e88_43, e88_44, e88_45, e88_46, e88_47, e88_50, e88_51, e88_52, e88_53, e88_54, e88_55, e88_56, e88_57, e88_58, rk_n, rk_v, nl_n, nl_i, nl_r, cat_n, ip_cat_int, ip_cat_ref, ip_cat_long, ip_rf_some, Nat.reduceAdd, Nat.reduceLeDiff, Nat.reduceLT, Nat.le_refl, Nat.zero_le, hR, ha, ia_N2 ha, inbL, tnL, up_eq, up_k, up_a, Nat.reduceEqDiff, not_false_eq_true, ne_a1, ne_a2]
  rfl
def becomeI (I : Nat → Nat → Int32) (a : Nat) (x y : Int32) : Nat → Nat → Int32 := ip_up (ip_up (ip_up (ip_up (ip_up (ip_up (ip_up (ip_up I a 0 0) a 1 x) a 2 (-1)) a 3 y) a 9 (-1)) a 10 0) (a + 1) 0 0) (a + 1) 1 0
theorem c12 (hR : LYR R) (ha : isN a) : cf d 12 [.ref a, .int x, .int y] (SH n, I, L, R, nc, ns, nx) = some (.inl none, (SH n, becomeI I a x y, L, R, nc, ns, nx)) := by
  simp only [en12, e12_0, e12_1, e12_2, e12_5, e12_6, e12_7, e12_10, e12_11, e12_12, e12_15, e12_16, e12_17, e12_20, e12_21, e12_22, e12_25, e12_26, e12_27, e12_30, e12_31, e12_34, e12_35, e12_36, e12_37, e12_38, e12_41, e12_42, e12_43, e12_44, rk_n, rk_v, nl_n, nl_i, nl_r, cat_n, ip_cat_int, ip_cat_ref, ip_cat_long, ip_rf_some, Nat.reduceAdd, Nat.reduceLeDiff, Nat.reduceLT, Nat.le_refl, Nat.zero_le, hR, ha, ia_N1 ha, inbL, tnL]
  rfl
def beginI (I : Nat → Nat → Int32) (a : Nat) (x : Int32) : Nat → Nat → Int32 := ip_up (ip_up (ip_up (ip_up (ip_up (ip_up (ip_up (ip_up (becomeI I a (-1) x) a 4 0) a 5 0) a 6 x) a 7 0) a 8 0) (a + 2) 0 0) (a + 2) 1 0) a 11 1
theorem c11 (hR : LYR R) (ha : isN a) : cf (d + 1) 11 [.ref a, .int x] (SH n, I, L, R, nc, ns, nx) = some (.inl none, (SH n, beginI I a x, L, R, nc, ns, nx)) := by
  simp only [en11, e11_0, e11_1, e11_2, e11_3, e11_6, e11_7, e11_8, e11_11, e11_12, e11_13, e11_16, e11_17, e11_18, e11_21, e11_22, e11_23, e11_26, e11_27, e11_28, e11_31, e11_32, e11_35, e11_36, e11_37, e11_38, e11_39, e11_42, e11_43, e11_44, e11_45, e11_46, e11_47, e11_50, rk_n, rk_v, nl_n, nl_i, nl_r, cat_n, ip_cat_int, ip_cat_ref, ip_cat_long, ip_rf_some, Nat.reduceAdd, Nat.reduceLeDiff, Nat.reduceLT, Nat.le_refl, Nat.zero_le, hR, ha, ia_N2 ha, inbL, tnL, c12 hR ha]
  rfl
theorem c92 (ha : isN a) : cf d 92 [.ref a, .int x] (SH n, I, L, R, nc, ns, nx) = some (.inl (some (.int (if x = 0 then I a 4 else I a 5))), (SH n, I, L, R, nc, ns, nx)) := by
  by_cases hx : x = 0 <;> simp only [en92, e92_0, e92_1, e92_4, e92_5, e92_8, e92_11, e92_12, e92_15, rk_n, rk_v, nl_n, nl_i, nl_r, cat_n, ip_cat_int, ip_cat_ref, ip_cat_long, ip_rf_some, Nat.reduceAdd, Nat.reduceLeDiff, Nat.reduceLT, Nat.le_refl, Nat.zero_le, ha, hx, not_true_eq_false, not_false_eq_true, if_true, if_false]
theorem c91 (ha : isN a) : cf d 91 [.ref a] (SH n, I, L, R, nc, ns, nx) = some (.inl (some (.int (if I a 0 = 0 then I a 3 &&& (I a 6 ^^^ -1) else I a 10))), (SH n, I, L, R, nc, ns, nx)) := by
  by_cases hx : I a 0 = 0 <;> simp only [en91, e91_0, e91_1, e91_4, e91_7, e91_8, e91_11, e91_12, e91_15, e91_16, e91_17, e91_18, e91_21, e91_22, e91_25, rk_n, rk_v, nl_n, nl_i, nl_r, cat_n, ip_cat_int, ip_cat_ref, ip_cat_long, ip_rf_some, Nat.reduceAdd, Nat.reduceLeDiff, Nat.reduceLT, Nat.le_refl, Nat.zero_le, ha, hx, not_true_eq_false, not_false_eq_true, if_true, if_false]
theorem c93 (hR : LYR R) (ha : isN a) : cf d 93 [.ref a, .int x, .int y] (SH n, I, L, R, nc, ns, nx) = some (.inl (some (.int (if I (a + 2) (x &&& 1).toNatClampNeg &&& y = 0 then 1 else 0))), (SH n, ip_up I (a + 2) (x &&& 1).toNatClampNeg (I (a + 2) (x &&& 1).toNatClampNeg ||| y), L, R, nc, ns, nx)) := by
  by_cases hx : I (a + 2) (x &&& 1).toNatClampNeg &&& y = 0 <;> simp only [en93, e93_0, e93_1, e93_4, e93_5, e93_6, e93_7, e93_8, e93_9, e93_10, e93_13, e93_14, e93_17, e93_18, e93_19, e93_20, e93_23, e93_24, e93_25, e93_26, e93_27, e93_28, e93_29, e93_30, e93_31, e93_32, rk_n, rk_v, nl_n, nl_i, nl_r, cat_n, ip_cat_int, ip_cat_ref, ip_cat_long, ip_rf_some, Nat.reduceAdd, Nat.reduceLeDiff, Nat.reduceLT, Nat.le_refl, Nat.zero_le, hR, ha, ia_N2 ha, inb_and1, hx, not_true_eq_false, not_false_eq_true, if_true, if_false, or_true, true_or]
theorem c105 (hR : LYR R) (ha : isN a) : cf d 105 [.ref a, .int x] (SH n, I, L, R, nc, ns, nx) = some (.inl (some (.int (I (a + 2) (x &&& 1).toNatClampNeg))), (SH n, I, L, R, nc, ns, nx)) := by
  simp only [en105, e105_0, e105_1, e105_4, e105_5, e105_6, e105_7, e105_8, rk_n, rk_v, nl_n, nl_i, nl_r, cat_n, ip_cat_int, ip_cat_ref, ip_cat_long, ip_rf_some, Nat.reduceAdd, Nat.reduceLeDiff, Nat.reduceLT, Nat.le_refl, Nat.zero_le, hR, ha, ia_N2 ha, inb_and1]
theorem c106 (hR : LYR R) (ha : isN a) : cf d 106 [.ref a, .int x] (SH n, I, L, R, nc, ns, nx) = some (.inl (some (.int (I (a + 1) (x &&& 1).toNatClampNeg))), (SH n, I, L, R, nc, ns, nx)) := by
  simp only [en106, e106_0, e106_1, e106_4, e106_5, e106_6, e106_7, e106_8, rk_n, rk_v, nl_n, nl_i, nl_r, cat_n, ip_cat_int, ip_cat_ref, ip_cat_long, ip_rf_some, Nat.reduceAdd, Nat.reduceLeDiff, Nat.reduceLT, Nat.le_refl, Nat.zero_le, hR, ha, ia_N1 ha, inb_and1]
theorem c116 (hR : LYR R) (ha : isN a) : cf d 116 [.ref a, .int x, .int y] (SH n, I, L, R, nc, ns, nx) = some (.inl none, (SH n, ip_up (ip_up I (a + 1) 0 x) (a + 1) 1 y, L, R, nc, ns, nx)) := by
  simp only [en116, e116_0, e116_1, e116_4, e116_5, e116_6, e116_7, e116_8, e116_11, e116_12, e116_13, e116_14, rk_n, rk_v, nl_n, nl_i, nl_r, cat_n, ip_cat_int, ip_cat_ref, ip_cat_long, ip_rf_some, Nat.reduceAdd, Nat.reduceLeDiff, Nat.reduceLT, Nat.le_refl, Nat.zero_le, hR, ha, ia_N1 ha, inbL, tnL]
theorem c117 (ha : isN a) : cf d 117 [.ref a, .int x] (SH n, I, L, R, nc, ns, nx) = some (.inl (some (.int (if I a 4 &&& 1 <<< (x &&& 31) = 0 then 1 else 0))), (SH n, I, L, R, nc, ns, nx)) := by
  by_cases hx : I a 4 &&& 1 <<< (x &&& 31) = 0 <;> simp only [en117, e117_0, e117_1, e117_4, e117_5, e117_6, e117_7, e117_8, e117_11, e117_12, e117_15, e117_16, rk_n, rk_v, nl_n, nl_i, nl_r, cat_n, ip_cat_int, ip_cat_ref, ip_cat_long, ip_rf_some, Nat.reduceAdd, Nat.reduceLeDiff, Nat.reduceLT, Nat.le_refl, Nat.zero_le, ha, hx, not_true_eq_false, not_false_eq_true, if_true, if_false]
def decideI (I : Nat → Nat → Int32) (a : Nat) (x y z w : Int32) : Nat → Nat → Int32 :=
  let J := reopenI I a (1 <<< (x &&& 31))
  let K := ip_up J a 6 (J a 6 &&& (1 <<< (x &&& 31) ^^^ -1))
  let M := if y = 0 then ip_up K a 4 (K a 4 ||| 1 <<< (x &&& 31)) else ip_up K a 5 (K a 5 ||| 1 <<< (x &&& 31))
  ip_up (ip_up M (a + 3) x.toNatClampNeg z) (a + 4) x.toNatClampNeg w
theorem c87 (hR : LYR R) (ha : isN a) (hx : inb x 8) : cf (d + 1) 87 [.ref a, .int x, .int y, .int z, .int w] (SH n, I, L, R, nc, ns, nx) = some (.inl none, (SH n, decideI I a x y z w, L, R, nc, ns, nx)) := by
  by_cases hy : y = 0 <;> simp only [en87, e87_0, e87_1, e87_2, e87_3, e87_5, e87_6, e87_8, e87_11, e87_12, e87_12r, e87_13, e87_16, e87_18, e87_19, e87_20, e87_21, e87_24, e87_25, e87_28, e87_29, e87_29r, e87_30, e87_33, e87_35, e87_36, e87_39, e87_42, e87_43, e87_43r, e87_44, e87_47, e87_49, e87_50, e87_53, e87_54, e87_57, e87_58, e87_59, e87_60, e87_61, e87_64, e87_65, e87_67, e87_68, rk_n, rk_v, nl_n, nl_i, nl_r, cat_n, ip_cat_int, ip_cat_ref, ip_cat_long, ip_rf_some, Nat.reduceAdd, Nat.reduceLeDiff, Nat.reduceLT, Nat.le_refl, Nat.zero_le, hR, ha, ia_N3 ha, ia_N4 ha, hx, hy, c88 hR ha, not_true_eq_false, not_false_eq_true, if_true, if_false, decideI]
def copyI (I : Nat → Nat → Int32) (a b : Nat) : Nat → Nat → Int32 :=
  ip_row (ip_row (ip_row (ip_up (ip_up (ip_up (ip_up (ip_up (ip_up I a 4 (I b 4)) a 5 (I b 5)) a 6 (I b 6)) a 7 (I b 7)) a 8 (I b 8)) a 11 (I b 11)) (a + 2) (va_cpy (I (b + 2)) (I (a + 2)) 0 0 2)) (a + 3) (va_cpy (I (b + 3)) (I (a + 3)) 0 0 8)) (a + 4) (va_cpy (I (b + 4)) (I (a + 4)) 0 0 8)
theorem cpy_ok {n a b : Nat} {z : Int32} {k : Nat} (h1 : ln (SH n) b = k) (h2 : ln (SH n) a = k) (hz : ¬ z < 0) (hk : z.toNatClampNeg = k) : ¬ (0 : Int32) < 0 ∧ ¬ (0 : Int32) < 0 ∧ ¬ z < 0 ∧ (0 : Int32).toNatClampNeg + z.toNatClampNeg ≤ ln (SH n) b ∧ (0 : Int32).toNatClampNeg + z.toNatClampNeg ≤ ln (SH n) a := by
  rw [h1, h2, hk]
  refine ⟨by decide, by decide, hz, ?_, ?_⟩ <;> rw [tnL.1, Nat.zero_add] <;> exact Nat.le_refl k
theorem c115 (hR : LYR R) (ha : isN a) (hb : isN b) (hab : a + 5 ≤ b ∨ b + 5 ≤ a) : cf d 115 [.ref a, .ref b] (SH n, I, L, R, nc, ns, nx) = some (.inl none, (SH n, copyI I a b, L, R, nc, ns, true)) := by
  have q1 : ¬ b = a := by omega
  have q2 : ¬ b + 2 = a := by omega
  have q3 : ¬ b + 3 = a := by omega
  have q4 : ¬ b + 4 = a := by omega
  have q5 : ¬ b + 3 = a + 2 := by omega
  have q6 : ¬ b + 4 = a + 2 := by omega
  have q7 : ¬ b + 4 = a + 3 := by omega
  have g2 := geN ha
  have g3 := geN hb
  have k1 : 2 ≤ a + 2 ∧ 2 ≤ a + 3 ∧ 2 ≤ a + 4 ∧ 2 ≤ b + 2 ∧ 2 ≤ b + 3 ∧ 2 ≤ b + 4 := by omega
  have E1 : ∀ (J : Nat → Nat → Int32) (ls : List (Option Value)) (nx : Bool), rf d 115 59 ls [.int 2, .int 0, .ref (a + 2), .int 0, .ref (b + 2)] (SH n, J, L, R, nc, ns, nx) = rf d 115 62 ls [] (SH n, ip_row J (a + 2) (va_cpy (J (b + 2)) (J (a + 2)) 0 0 2), L, R, nc, ns, true) := fun J ls nx => e115_59 (by decide) ⟨kdN2 ha, k1.1⟩ ⟨kdN2 hb, k1.2.2.2.1⟩ (cpy_ok (lnN2 hb) (lnN2 ha) (by decide) (by decide))
  have E2 : ∀ (J : Nat → Nat → Int32) (ls : List (Option Value)) (nx : Bool), rf d 115 74 ls [.int 8, .int 0, .ref (a + 3), .int 0, .ref (b + 3)] (SH n, J, L, R, nc, ns, nx) = rf d 115 77 ls [] (SH n, ip_row J (a + 3) (va_cpy (J (b + 3)) (J (a + 3)) 0 0 8), L, R, nc, ns, true) := fun J ls nx => e115_74 (by decide) ⟨kdN3 ha, k1.2.1⟩ ⟨kdN3 hb, k1.2.2.2.2.1⟩ (cpy_ok (lnN3 hb) (lnN3 ha) (by decide) (by decide))
  have E3 : ∀ (J : Nat → Nat → Int32) (ls : List (Option Value)) (nx : Bool), rf d 115 89 ls [.int 8, .int 0, .ref (a + 4), .int 0, .ref (b + 4)] (SH n, J, L, R, nc, ns, nx) = rf d 115 92 ls [] (SH n, ip_row J (a + 4) (va_cpy (J (b + 4)) (J (a + 4)) 0 0 8), L, R, nc, ns, true) := fun J ls nx => e115_89 (by decide) ⟨kdN4 ha, k1.2.2.1⟩ ⟨kdN4 hb, k1.2.2.2.2.2⟩ (cpy_ok (lnN4 hb) (lnN4 ha) (by decide) (by decide))
  simp only [en115, e115_0, e115_1, e115_2, e115_5, e115_8, e115_9, e115_10, e115_13, e115_16, e115_17, e115_18, e115_21, e115_24, e115_25, e115_26, e115_29, e115_32, e115_33, e115_34, e115_37, e115_40, e115_41, e115_42, e115_45, e115_48, e115_49, e115_52, e115_53, e115_54, e115_57, e115_58, e115_59, e115_59l, e115_62, e115_63, e115_66, e115_67, e115_68, e115_71, e115_72, e115_74, e115_74l, e115_77, e115_78, e115_81, e115_82, e115_83, e115_86, e115_87, e115_89, e115_89l, e115_92, E1, E2, E3, rk_n, rk_v, nl_n, nl_i, nl_r, cat_n, ip_cat_int, ip_cat_ref, ip_cat_long, ip_rf_some, Nat.reduceAdd, Nat.reduceLeDiff, Nat.reduceLT, Nat.le_refl, Nat.zero_le, hR, ha, hb, up_a, up_a1, row_a1, q1, q2, q3, q4, q5, q6, q7, ne_a1, not_false_eq_true, Nat.add_left_cancel_iff, Nat.reduceEqDiff]
  rfl
theorem N_apart (ha : isN a) (hb : isN b) (h : ¬ a = b) : a + 5 ≤ b ∨ b + 5 ≤ a := by
  unfold isN at ha hb
  rcases ha with rfl | rfl | rfl | ⟨k, hk, rfl⟩ <;> rcases hb with rfl | rfl | rfl | ⟨i, hi, rfl⟩ <;> omega
def roundI (I : Nat → Nat → Int32) (a b : Nat) (x : Int32) : Nat → Nat → Int32 := ip_up (becomeI (copyI I a b) a x (I b 6)) a 11 (I b 11 + 1)
theorem c121 (hR : LYR R) (ha : isN a) (hb : isN b) (hab : a + 5 ≤ b ∨ b + 5 ≤ a) : cf (d + 1) 121 [.ref a, .ref b, .int x] (SH n, I, L, R, nc, ns, nx) = some (.inl none, (SH n, roundI I a b x, L, R, nc, ns, true)) := by
  have q1 : ¬ b = a := by omega
  have q2 : ¬ b = a + 1 := by omega
  have q3 : ¬ b = a + 2 := by omega
  have q4 : ¬ b = a + 3 := by omega
  have q5 : ¬ b = a + 4 := by omega
  have e1 : ∀ k, copyI I a b b k = I b k := by
    intro k
    unfold copyI
    simp only [row_a, up_a, q1, q3, q4, q5, not_false_eq_true]
  have e2 : ∀ y, becomeI (copyI I a b) a x y b 11 = I b 11 := by
    intro y
    unfold becomeI
    simp only [up_a, q1, q2, not_false_eq_true, e1]
  simp only [en121, e121_0, e121_1, e121_2, e121_5, e121_6, e121_7, e121_8, e121_11, e121_14, e121_15, e121_16, e121_19, e121_20, e121_21, e121_24, rk_n, rk_v, nl_n, nl_i, nl_r, cat_n, ip_cat_int, ip_cat_ref, ip_cat_long, ip_rf_some, Nat.reduceAdd, Nat.reduceLeDiff, Nat.reduceLT, Nat.le_refl, Nat.zero_le, hR, ha, hb, c115 hR ha hb hab, c12 hR ha, e1, e2]
  rfl
end N
