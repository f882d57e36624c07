/-! TELLING: the class's, for pivotal -/
section TLL
variable {n d a b T c s t z o w m p lev k side ap b0 b1 N q B C F A i D : Nat} {I J K M I1 I2 : Nat → Nat → Int32} {L L' : Nat → Nat → Int64} {R R' : Nat → Nat → Option Nat} {nc ns : Nat} {nx : Bool} {x y j v u code x1 x2 x3 : Int32} {P : Nat → Nat → Prop} {h' h : ip_H}
theorem w_ne (a b : Bool) : ((if a = true then (1 : Int32) else 0) = (if b = true then 1 else 0)) = (a = b) := by cases a <;> cases b <;> decide
theorem c23 (hR : LYR R) (hT : isT T) (hc : I T 6 = Int32.ofNat c) (hc8 : c ≤ 8) (hs : s < 256) (ho : o < 256) : cf (d + 1) 23 [.ref T, .int (Int32.ofNat s), .int (Int32.ofNat o)] (SH n, I, L, R, nc, ns, nx) = some (.inl (some (.int (Int32.ofNat (setN (fun i => o.testBit i && (winL L T (s ^^^ 2 ^ i) != winL L T s)) c)))), (SH n, I, L, R, nc, ns, nx)) := by
  have C0 := fun d => c24 (d := d) (n := n) (I := I) (L := L) (nc := nc) (ns := ns) (nx := nx) hR hT hs
  obtain ⟨w0, hw0⟩ : ∃ w0 : Int32, w0 = (if winL L T s = true then 1 else 0) := ⟨_, rfl⟩
  rw [← hw0] at C0
  simp only [en23, e23_0, e23_1, e23_2, e23_5, e23_6, e23_7, e23_9, e23_10, e23_14, e23_15, e23_18, e23_21, e23_22, e23_23, e23_25, e23_26, e23_27, e23_30, e23_31, e23_32, e23_33, e23_35, e23_36, e23_37, e23_40, e23_41, e23_44, e23_46, e23_47, e23_49, e23_50, e23_51, e23_53, e23_56, e23_59, e23_61, rk_n, rk_v, nl_n, nl_i, nl_r, cat_n, ip_cat_int, ip_cat_ref, ip_cat_long, ip_rf_some, Nat.reduceAdd, Nat.reduceLeDiff, Nat.reduceLT, Nat.le_refl, Nat.zero_le, hT, C0, Bool.false_eq_true, Bool.true_eq_false, if_true, if_false, not_true_eq_false, not_false_eq_true, zle, eq_self]
  refine (for_eq (c := c) (fun k => rf (d + 1) 23 12 [some (.ref T), some (.int (Int32.ofNat s)), some (.int (Int32.ofNat o)), some (.int w0), some (.int (Int32.ofNat (setN (fun i => o.testBit i && (winL L T (s ^^^ 2 ^ i) != winL L T s)) k))), some (.int (Int32.ofNat k))] [] (SH n, I, L, R, nc, ns, nx)) (fun k hk => ?_)).trans ?_
  · have k8 : k < 8 := by omega
    have g : ((Int32.ofNat c : Int32) ≤ Int32.ofNat k) = (c ≤ k) := nu_lit (by omega) (by omega)
    have g1 : ¬ c ≤ k := by omega
    have bt := bit_2 ho k8
    have x8 : s ^^^ 2 ^ k < 256 := Nat.xor_lt_two_pow (n := 8) hs (Nat.pow_lt_pow_right (by omega) k8)
    have CK := fun d => c24 (d := d) (n := n) (I := I) (L := L) (nc := nc) (ns := ns) (nx := nx) hR hT x8
    try dsimp only
    rw [e23_12, setN]
    by_cases gb : o.testBit k = false
    · simp only [e23_0, e23_1, e23_2, e23_5, e23_6, e23_7, e23_9, e23_10, e23_14, e23_15, e23_18, e23_21, e23_22, e23_23, e23_25, e23_26, e23_27, e23_30, e23_31, e23_32, e23_33, e23_35, e23_36, e23_37, e23_40, e23_41, e23_44, e23_46, e23_47, e23_49, e23_50, e23_51, e23_53, e23_56, e23_59, e23_61, rk_n, rk_v, nl_n, nl_i, nl_r, cat_n, ip_cat_int, ip_cat_ref, ip_cat_long, ip_rf_some, Nat.reduceAdd, Nat.reduceLeDiff, Nat.reduceLT, Nat.le_refl, Nat.zero_le, hT, hc, g, g1, k8, sh1, bt, gb, nu_1, Bool.false_and, Bool.false_eq_true, Bool.false_eq_true, Bool.true_eq_false, if_true, if_false, not_true_eq_false, not_false_eq_true, zle, eq_self]
    · have gb' := tb_false gb
      by_cases ge : winL L T (s ^^^ 2 ^ k) = winL L T s
      · have ge' : (if winL L T (s ^^^ 2 ^ k) = true then (1 : Int32) else 0) = w0 := by rw [hw0, ge]
        have gn : (winL L T (s ^^^ 2 ^ k) != winL L T s) = false := by rw [ge]; simp
        simp only [e23_0, e23_1, e23_2, e23_5, e23_6, e23_7, e23_9, e23_10, e23_14, e23_15, e23_18, e23_21, e23_22, e23_23, e23_25, e23_26, e23_27, e23_30, e23_31, e23_32, e23_33, e23_35, e23_36, e23_37, e23_40, e23_41, e23_44, e23_46, e23_47, e23_49, e23_50, e23_51, e23_53, e23_56, e23_59, e23_61, rk_n, rk_v, nl_n, nl_i, nl_r, cat_n, ip_cat_int, ip_cat_ref, ip_cat_long, ip_rf_some, Nat.reduceAdd, Nat.reduceLeDiff, Nat.reduceLT, Nat.le_refl, Nat.zero_le, hT, hc, g, g1, k8, sh1, bt, gb', of_xor, CK, ge', gn, nu_1, Bool.and_false, Bool.false_eq_true, Bool.true_eq_false, reduceCtorEq, Bool.false_eq_true, Bool.true_eq_false, if_true, if_false, not_true_eq_false, not_false_eq_true, zle, eq_self]
      · have ge' : ¬ (if winL L T (s ^^^ 2 ^ k) = true then (1 : Int32) else 0) = w0 := by rw [hw0, w_ne]; exact ge
        have gn : (winL L T (s ^^^ 2 ^ k) != winL L T s) = true := by simpa using ge
        simp only [e23_0, e23_1, e23_2, e23_5, e23_6, e23_7, e23_9, e23_10, e23_14, e23_15, e23_18, e23_21, e23_22, e23_23, e23_25, e23_26, e23_27, e23_30, e23_31, e23_32, e23_33, e23_35, e23_36, e23_37, e23_40, e23_41, e23_44, e23_46, e23_47, e23_49, e23_50, e23_51, e23_53, e23_56, e23_59, e23_61, rk_n, rk_v, nl_n, nl_i, nl_r, cat_n, ip_cat_int, ip_cat_ref, ip_cat_long, ip_rf_some, Nat.reduceAdd, Nat.reduceLeDiff, Nat.reduceLT, Nat.le_refl, Nat.zero_le, hT, hc, g, g1, k8, sh1, bt, gb', of_xor, of_or, CK, ge', gn, nu_1, Bool.and_self, Bool.true_eq_false, reduceCtorEq, Bool.false_eq_true, Bool.true_eq_false, if_true, if_false, not_true_eq_false, not_false_eq_true, zle, eq_self]
  · have g : ((Int32.ofNat c : Int32) ≤ Int32.ofNat c) = True := by simp
    try dsimp only
    rw [e23_12]
    simp only [e23_0, e23_1, e23_2, e23_5, e23_6, e23_7, e23_9, e23_10, e23_14, e23_15, e23_18, e23_21, e23_22, e23_23, e23_25, e23_26, e23_27, e23_30, e23_31, e23_32, e23_33, e23_35, e23_36, e23_37, e23_40, e23_41, e23_44, e23_46, e23_47, e23_49, e23_50, e23_51, e23_53, e23_56, e23_59, e23_61, rk_n, rk_v, nl_n, nl_i, nl_r, cat_n, ip_cat_int, ip_cat_ref, ip_cat_long, ip_rf_some, Nat.reduceAdd, Nat.reduceLeDiff, Nat.reduceLT, Nat.le_refl, Nat.zero_le, hT, hc, g, Bool.false_eq_true, Bool.true_eq_false, if_true, if_false, not_true_eq_false, not_false_eq_true, zle, eq_self]
end TLL
