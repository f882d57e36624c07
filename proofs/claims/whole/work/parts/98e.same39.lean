/-! CALL BY CALL: unlike, widened, count -/
section S39
variable {n d a b T c s t z o w m p lev k side ap b0 b1 N q B C F A i : Nat} {I J K M I1 I2 : Nat → Nat → Int32} {L L' : Nat → Nat → Int64} {R R' : Nat → Nat → Option Nat} {nc ns : Nat} {nx : Bool} {x y j v u code x1 x2 x3 : Int32} {P : Nat → Nat → Prop} {h' h : ip_H} {r : Nat → Int32}
theorem nb8 : ∀ a, a < 256 → Int32.ofNat a ^^^ -1 = Int32.ofNat (4294967295 ^^^ a) := by decide +kernel
theorem all_n {c : Nat} (h : c ≤ 8) : (1 : Int32) <<< (Int32.ofNat c &&& 31) - 1 = Int32.ofNat (2 ^ c - 1) := sh_all c (by omega)
theorem tb_big {k : Nat} (h : k < 8) : (4294967295 : Nat).testBit k = true := by
  have : ∀ k, k < 8 → (4294967295 : Nat).testBit k = true := by decide
  exact this k h
theorem S32 : SAMEX 171 259 [.int x1, .int x2] Int32.toInt64 := by
  intro n I L R nc ns nx T c N w t p X
  have X0 := X
  have hR := X.1
  have hc8 : c ≤ 8 := X.2.1.2.2.2.1
  have i17 : I 265 17 = Int32.ofNat c := X.2.1.2.2.2.2.2.1
  have P8 := p2le hc8
  obtain ⟨⟨n1, n2, n3⟩, ⟨y1, y2⟩, ⟨y3, y4⟩, y5⟩ := X.2.2.1
  rcases nodC (x := x1) X with ⟨k, hk, rfl, C1, M1⟩ | ⟨C1, M1⟩
  · rcases nodC (x := x2) X with ⟨q, hq, rfl, C2, M2⟩ | ⟨C2, M2⟩
    · have k40 : k < 40 := by omega
      have lk : k < 2147483648 := by omega
      have b0 := (nu_inb (t := k) (k := 40) (by omega)).mpr (by omega)
      have e1 := nd_of (k := k) (by omega)
      have iw := isN_nd (k := k) (by omega)
      have q40 : q < 40 := by omega
      have lq : q < 2147483648 := by omega
      have bq := (nu_inb (t := q) (k := 40) (by omega)).mpr (by omega)
      have eq := nd_of (k := q) (by omega)
      have iq := isN_nd (k := q) (by omega)
      obtain ⟨-, -, -, -, z1, o1, -, w1, -⟩ := y5 k hk
      obtain ⟨-, -, -, -, z2, o2, -, w2, -⟩ := y5 q hq
      obtain ⟨so1, lo1⟩ := inb_sN o1.2
      obtain ⟨sz1, lz1⟩ := inb_sN z1.2
      obtain ⟨so2, lo2⟩ := inb_sN o2.2
      obtain ⟨sz2, lz2⟩ := inb_sN z2.2
      have i41 := z1.1.trans sz1
      have i42 := z2.1.trans sz2
      have m1 := nb8 (sN (I 293 k)) (by omega)
      have m2 := nb8 (sN (I 293 q)) (by omega)
      have AL := fun d (K : Nat → Nat → Int32) L' (h : K 265 17 = I 265 17) => c187 (d := d) (n := n) (I := K) (L := L') (R := R) (nc := nc) (ns := ns) (nx := nx)
      have all := all_n hc8
      rw [← i17] at all
      generalize sN (I 293 k) = O1 at *
      generalize sN (I 293 q) = O2 at *
      generalize sN (I 296 k) = Z1 at *
      generalize sN (I 296 q) = Z2 at *
      have CL := fun d K L' => c187 (d := d) (n := n) (I := K) (L := L') (R := R) (nc := nc) (ns := ns) (nx := nx)
      refine same_ok (I1 := I) (I2 := ip_up I 265 0 0) (u := Int32.ofNat ((Z1 ^^^ Z2) ||| (((2 ^ c - 1) &&& (255 ^^^ O1) &&& (255 ^^^ Z1)) ^^^ ((2 ^ c - 1) &&& (255 ^^^ O2) &&& (255 ^^^ Z2))))) (R1 := R) (nx1 := nx) X0 _ rfl (fun d => w171 ?_) onlyP_refl (fun _ _ _ => rfl) (fun d => ?_) scM_0 up_eq
      · simp only [en172, e172_0, e172_1, e172_2, e172_5, e172_6, e172_7, e172_10, e172_11, e172_14, e172_15, e172_16, e172_17, e172_18, e172_21, e172_22, e172_23, e172_25, e172_26, e172_29, e172_31, e172_34, e172_35, e172_36, e172_39, e172_41, e172_44, e172_45, e172_46, rk_n, rk_v, nl_n, nl_i, nl_r, cat_n, ip_cat_int, ip_cat_ref, ip_cat_long, ip_rf_some, Nat.reduceAdd, Nat.reduceLeDiff, Nat.reduceLT, Nat.le_refl, Nat.zero_le, hR, C1, C2, b0, e1, iw, bq, eq, iq, i41, i42, w1, w2, of_xor, of_or, Bool.false_eq_true, Bool.true_eq_false, if_true, if_false, not_true_eq_false, not_false_eq_true, zle, eq_self]
      · simp only [en259, e259_0, e259_1, e259_2, e259_3, e259_6, e259_9, e259_10, e259_11, e259_14, e259_17, e259_18, e259_21, e259_22, e259_25, e259_26, e259_29, e259_32, e259_33, e259_34, e259_35, e259_38, e259_39, e259_40, e259_41, e259_42, e259_43, e259_46, e259_47, e259_48, e259_49, e259_50, e259_51, e259_52, e259_53, e259_56, e259_57, e259_58, e259_59, e259_62, e259_63, e259_64, e259_65, e259_66, e259_67, e259_70, e259_71, e259_72, e259_73, e259_76, e259_77, e259_78, e259_79, e259_80, e259_81, e259_82, e259_85, e259_86, rk_n, rk_v, nl_n, nl_i, nl_r, cat_n, ip_cat_int, ip_cat_ref, ip_cat_long, ip_rf_some, Nat.reduceAdd, Nat.reduceLeDiff, Nat.reduceLT, Nat.le_refl, Nat.zero_le, hR, ia_lit, nu_i, nu_tn, lk, k40, lq, q40, M1 _ _ _ _ _ _ _ _ rfl, M2 _ _ _ _ _ _ _ _ rfl, so1, so2, sz1, sz2, m1, m2, CL, all, of_xor, of_or, of_and, up_eq, up_a, up_k, Nat.reduceEqDiff, true_or, or_true, Bool.false_eq_true, Bool.true_eq_false, if_true, if_false, not_true_eq_false, not_false_eq_true, zle, eq_self]
        sorry
    · refine same_x (I1 := I) (I2 := ip_up I 265 0 1) (u := 0) (R1 := R) (code := 1) X0 (by decide) (fun d => ?_) onlyP_refl (fun _ _ _ => rfl) (fun d => ?_) scM_0 up_eq
      · refine w171x1 (d := d + 13) ?_
        simp only [en172, e172_0, e172_1, e172_2, e172_5, e172_6, e172_7, e172_10, e172_11, e172_14, e172_15, e172_16, e172_17, e172_18, e172_21, e172_22, e172_23, e172_25, e172_26, e172_29, e172_31, e172_34, e172_35, e172_36, e172_39, e172_41, e172_44, e172_45, e172_46, rk_n, rk_v, nl_n, nl_i, nl_r, cat_n, ip_cat_int, ip_cat_ref, ip_cat_long, ip_rf_some, Nat.reduceAdd, Nat.reduceLeDiff, Nat.reduceLT, Nat.le_refl, Nat.zero_le, C1, C2, rk_x hh172, Bool.false_eq_true, Bool.true_eq_false, if_true, if_false, not_true_eq_false, not_false_eq_true, zle, eq_self]
        rfl
      · simp only [en259, e259_0, e259_1, e259_2, e259_3, e259_6, e259_9, e259_10, e259_11, e259_14, e259_17, e259_18, e259_21, e259_22, e259_25, e259_26, e259_29, e259_32, e259_33, e259_34, e259_35, e259_38, e259_39, e259_40, e259_41, e259_42, e259_43, e259_46, e259_47, e259_48, e259_49, e259_50, e259_51, e259_52, e259_53, e259_56, e259_57, e259_58, e259_59, e259_62, e259_63, e259_64, e259_65, e259_66, e259_67, e259_70, e259_71, e259_72, e259_73, e259_76, e259_77, e259_78, e259_79, e259_80, e259_81, e259_82, e259_85, e259_86, rk_n, rk_v, nl_n, nl_i, nl_r, cat_n, ip_cat_int, ip_cat_ref, ip_cat_long, ip_rf_some, Nat.reduceAdd, Nat.reduceLeDiff, Nat.reduceLT, Nat.le_refl, Nat.zero_le, M1 _ _ _ _ _ _ _ _ rfl, M2 _ _ _ _ _ _ _ _ rfl, up_eq, true_or, Bool.false_eq_true, Bool.true_eq_false, if_true, if_false, not_true_eq_false, not_false_eq_true, zle, eq_self]
  · refine same_x (I1 := I) (I2 := ip_up I 265 0 1) (u := 0) (R1 := R) (code := 1) X0 (by decide) (fun d => ?_) onlyP_refl (fun _ _ _ => rfl) (fun d => ?_) scM_0 up_eq
    · refine w171x1 (d := d + 13) ?_
      simp only [en172, e172_0, e172_1, e172_2, e172_5, e172_6, e172_7, e172_10, e172_11, e172_14, e172_15, e172_16, e172_17, e172_18, e172_21, e172_22, e172_23, e172_25, e172_26, e172_29, e172_31, e172_34, e172_35, e172_36, e172_39, e172_41, e172_44, e172_45, e172_46, rk_n, rk_v, nl_n, nl_i, nl_r, cat_n, ip_cat_int, ip_cat_ref, ip_cat_long, ip_rf_some, Nat.reduceAdd, Nat.reduceLeDiff, Nat.reduceLT, Nat.le_refl, Nat.zero_le, C1, rk_x hh172, Bool.false_eq_true, Bool.true_eq_false, if_true, if_false, not_true_eq_false, not_false_eq_true, zle, eq_self]
      rfl
    · simp only [en259, e259_0, e259_1, e259_2, e259_3, e259_6, e259_9, e259_10, e259_11, e259_14, e259_17, e259_18, e259_21, e259_22, e259_25, e259_26, e259_29, e259_32, e259_33, e259_34, e259_35, e259_38, e259_39, e259_40, e259_41, e259_42, e259_43, e259_46, e259_47, e259_48, e259_49, e259_50, e259_51, e259_52, e259_53, e259_56, e259_57, e259_58, e259_59, e259_62, e259_63, e259_64, e259_65, e259_66, e259_67, e259_70, e259_71, e259_72, e259_73, e259_76, e259_77, e259_78, e259_79, e259_80, e259_81, e259_82, e259_85, e259_86, rk_n, rk_v, nl_n, nl_i, nl_r, cat_n, ip_cat_int, ip_cat_ref, ip_cat_long, ip_rf_some, Nat.reduceAdd, Nat.reduceLeDiff, Nat.reduceLT, Nat.le_refl, Nat.zero_le, M1 _ _ _ _ _ _ _ _ rfl, up_eq, true_or, Bool.false_eq_true, Bool.true_eq_false, if_true, if_false, not_true_eq_false, not_false_eq_true, zle, eq_self]
end S39
