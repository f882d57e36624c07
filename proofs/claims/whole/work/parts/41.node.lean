/-! NODES: the small methods -/
section N
variable {n d a b : Nat} {I : Nat → Nat → Int32} {L : Nat → Nat → Int64} {R : Nat → Nat → Option Nat} {nc ns : Nat} {nx : Bool} {x y z w j : Int32}
def reopenI (I : Nat → Nat → Int32) (a : Nat) (x : Int32) : Nat → Nat → Int32 := ip_up (ip_up (ip_up (ip_up (ip_up I a 6 (I a 6 ||| x)) a 4 (I a 4 &&& (x ^^^ -1))) a 5 (I a 5 &&& (x ^^^ -1))) (a + 2) 0 (I (a + 2) 0 &&& (x ^^^ -1))) (a + 2) 1 (I (a + 2) 1 &&& (x ^^^ -1))
theorem c88 (hR : LYR R) (ha : isN a) : cf d 88 [.ref a, .int x] (SH n, I, L, R, nc, ns, nx) = some (.inl none, (SH n, reopenI I a x, L, R, nc, ns, nx)) := by
  simp only [en88, e88_0, e88_1, e88_1r, e88_2, e88_5, e88_6, e88_7, e88_10, e88_11, e88_11r, e88_12, e88_15, e88_16, e88_17, e88_18, e88_19, e88_22, e88_23, e88_23r, e88_24, e88_27, e88_28, e88_29, e88_30, e88_31, e88_34, e88_35, e88_38, e88_39, e88_40, e88_41, e88_42, e88_43, e88_44, e88_45, e88_46, e88_47, e88_50, e88_51, e88_52, e88_53, e88_54, e88_55, e88_56, e88_57, e88_58, rk_n, rk_v, ip_nl_none, ip_nl_int, ip_nl_ref, ip_cat_nil, ip_cat_int, ip_cat_ref, ip_cat_long, ip_rf_some, Nat.reduceAdd, Nat.reduceLeDiff, Nat.reduceLT, Nat.le_refl, Nat.zero_le, hR, ha, ia_N2 ha, inbL, tnL, up_eq, up_k, up_a, Nat.reduceEqDiff, not_false_eq_true, ne_a1, ne_a2]
  rfl
end N
