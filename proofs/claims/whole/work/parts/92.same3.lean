/-! CALL BY CALL: due, fates, best, secure, chain -/
section S3
variable {n d a b T c s t z o w m p lev k side ap b0 b1 N q B : Nat} {I J K I1 I2 : Nat → Nat → Int32} {L L' : Nat → Nat → Int64} {R R' : Nat → Nat → Option Nat} {nc ns : Nat} {nx : Bool} {x y j v u code x1 x2 x3 : Int32} {P : Nat → Nat → Prop} {h' h : ip_H} {std rst V : Nat → Nat} {win : Nat → Bool} {br fl : Nat → Int32}
theorem err_hh : errN c std rst br win V fl lev (heardN c std rst br win V fl lev side) = errS c std rst br win V fl lev side := by
  have := errN_heard (c := c) (std := std) (rst := rst) (br := br) (win := win) (V := V) (fl := fl) (lev := lev) (s := heardN c std rst br win V fl lev side) (side := side)
  rw [Nat.and_self, heard_err] at this
  exact this
theorem gt3 : (3 < x) = ¬ x ≤ 3 := by rw [Int32.not_le]
theorem lt2' : (2 < x) = ¬ x ≤ 2 := by rw [Int32.not_le]
theorem ia37 {j : Int32} : ia n 37 j ↔ inb j 2 := ia_C13 (a := 24) C24
theorem ia38 {j : Int32} : ia n 38 j ↔ inb j 2 := ia_C14 (a := 24) C24
/-- DUE -/
theorem S17 : SAMEX 136 252 [.int x1, .int x2] Int32.toInt64 := by
  intro n I L R nc ns nx T c N w t p X
  have X0 := X
  obtain ⟨std, rst, br, win, V, fl, F, B, q, hF, hB, hR2, AA⟩ := APP2 X n nc ns nx
  have hR := X.1
  have hc8 : c ≤ 8 := X.2.1.2.2.2.1
  by_cases g2 : ¬ x1 < 0 ∧ x1 < 2
  · obtain ⟨side, hs, rfl⟩ := sd_k.mp g2
    have N2 := fun d h => c86 (d := d) (h := h) g2.1 g2.2
    have M2 := fun d h => c225 (d := d) (x := Int32.ofNat side) (h := h) g2.1 (by rw [one_lt]; exact fun e => e g2.2)
    rcases AA with ⟨lev, ap, J, hl, a2, il, hS, vlt, A1, oC, CN, CT, SJ, MO⟩ | ⟨A1, MO⟩
    · have ls : side < 2147483648 := by omega
      obtain ⟨h13, h14⟩ := SJ.2.2.2.2.2.2 side hs
      have h13' : J 37 side = Int32.ofNat (heardN c std rst br win V fl lev side) := h13
      have h14' : J 38 side = Int32.ofNat (errS c std rst br win V fl lev side) := h14
      obtain ⟨u0, hu⟩ : ∃ u0 : Int32, u0 = (if x2 = 0 then Int32.ofNat (heardN c std rst br win V fl lev side) else Int32.ofNat (errS c std rst br win V fl lev side)) := ⟨_, rfl⟩
      obtain ⟨K, LA, oK, PK⟩ := MO J (ip_up L 307 0 u0.toInt64) (sitR R 24 T F B) nc ns nx hR2 (J265 oC)
      obtain ⟨MT, MN, Z⟩ := PK 0
      have hd8 : heardN c std rst br win V fl lev side < 256 := Nat.lt_of_lt_of_le heardN_lt (p2le hc8)
      have EO := fun d => c238 (d := d) (n := n) (L := ip_up L 307 0 u0.toInt64) (nc := nc) (ns := ns) (nx := nx) hR2 MT MN hl hd8
      simp only [err_hh] at EO
      refine same_ok (I1 := J) (I2 := ip_up K 265 0 0) (u := u0) (R1 := sitR R 24 T F B) (nx1 := nx) X0 _ rfl (fun d => ?_) oC sit_R (fun d => ?_) (on_scM (on_0 oK)) up_eq
      · refine w136 (d := d + 13) ?_
        rw [hu]
        by_cases g : x2 = 0
        · simp only [en137, e137_0, e137_1, e137_4, e137_5, e137_8, e137_9, e137_12, e137_13, e137_16, e137_19, e137_20, e137_21, e137_24, e137_25, e137_28, e137_31, e137_32, e137_33, rk_n, rk_v, nl_n, nl_i, nl_r, cat_n, ip_cat_int, ip_cat_ref, ip_cat_long, ip_rf_some, Nat.reduceAdd, Nat.reduceLeDiff, Nat.reduceLT, Nat.le_refl, Nat.zero_le, hR2, N2, A1, C24, ia37, ia38, nu_i, nu_tn, ls, hs, h13', h14', g, Bool.false_eq_true, Bool.true_eq_false, if_true, if_false, not_true_eq_false, not_false_eq_true, zle, eq_self]
        · simp only [en137, e137_0, e137_1, e137_4, e137_5, e137_8, e137_9, e137_12, e137_13, e137_16, e137_19, e137_20, e137_21, e137_24, e137_25, e137_28, e137_31, e137_32, e137_33, rk_n, rk_v, nl_n, nl_i, nl_r, cat_n, ip_cat_int, ip_cat_ref, ip_cat_long, ip_rf_some, Nat.reduceAdd, Nat.reduceLeDiff, Nat.reduceLT, Nat.le_refl, Nat.zero_le, hR2, N2, A1, C24, ia37, ia38, nu_i, nu_tn, ls, hs, h13', h14', g, Bool.false_eq_true, Bool.true_eq_false, if_true, if_false, not_true_eq_false, not_false_eq_true, zle, eq_self]
      · have z60 := Z.2.2.1
        have z61 := Z.2.2.2
        rcases lt2 hs with rfl | rfl
        · by_cases g : x2 = 0
          · simp only [en252, e252_0, e252_1, e252_2, e252_5, e252_8, e252_9, e252_12, e252_13, e252_16, e252_19, e252_20, e252_23, e252_24, e252_27, e252_28, e252_31, e252_34, e252_35, e252_36, e252_37, e252_40, e252_41, e252_44, e252_47, e252_48, e252_51, e252_52, e252_53, e252_56, e252_57, e252_58, e252_59, e252_62, e252_65, e252_68, e252_69, rk_n, rk_v, nl_n, nl_i, nl_r, cat_n, ip_cat_int, ip_cat_ref, ip_cat_long, ip_rf_some, Nat.reduceAdd, Nat.reduceLeDiff, Nat.reduceLT, Nat.le_refl, Nat.zero_le, M2, LA, up_eq, z60, z61, Z.1, nz0, g, Bool.false_eq_true, Bool.true_eq_false, if_true, if_false, not_true_eq_false, not_false_eq_true, zle, eq_self]
            rw [hu, if_pos g]
          · simp only [en252, e252_0, e252_1, e252_2, e252_5, e252_8, e252_9, e252_12, e252_13, e252_16, e252_19, e252_20, e252_23, e252_24, e252_27, e252_28, e252_31, e252_34, e252_35, e252_36, e252_37, e252_40, e252_41, e252_44, e252_47, e252_48, e252_51, e252_52, e252_53, e252_56, e252_57, e252_58, e252_59, e252_62, e252_65, e252_68, e252_69, rk_n, rk_v, nl_n, nl_i, nl_r, cat_n, ip_cat_int, ip_cat_ref, ip_cat_long, ip_rf_some, Nat.reduceAdd, Nat.reduceLeDiff, Nat.reduceLT, Nat.le_refl, Nat.zero_le, M2, LA, up_eq, z60, z61, Z.1, nz0, g, EO, Bool.false_eq_true, Bool.true_eq_false, if_true, if_false, not_true_eq_false, not_false_eq_true, zle, eq_self]
            rw [hu, if_neg g]
        · by_cases g : x2 = 0
          · simp only [en252, e252_0, e252_1, e252_2, e252_5, e252_8, e252_9, e252_12, e252_13, e252_16, e252_19, e252_20, e252_23, e252_24, e252_27, e252_28, e252_31, e252_34, e252_35, e252_36, e252_37, e252_40, e252_41, e252_44, e252_47, e252_48, e252_51, e252_52, e252_53, e252_56, e252_57, e252_58, e252_59, e252_62, e252_65, e252_68, e252_69, rk_n, rk_v, nl_n, nl_i, nl_r, cat_n, ip_cat_int, ip_cat_ref, ip_cat_long, ip_rf_some, Nat.reduceAdd, Nat.reduceLeDiff, Nat.reduceLT, Nat.le_refl, Nat.zero_le, M2, LA, up_eq, z60, z61, Z.1, nz1, g, Bool.false_eq_true, Bool.true_eq_false, if_true, if_false, not_true_eq_false, not_false_eq_true, zle, eq_self]
            rw [hu, if_pos g]
          · simp only [en252, e252_0, e252_1, e252_2, e252_5, e252_8, e252_9, e252_12, e252_13, e252_16, e252_19, e252_20, e252_23, e252_24, e252_27, e252_28, e252_31, e252_34, e252_35, e252_36, e252_37, e252_40, e252_41, e252_44, e252_47, e252_48, e252_51, e252_52, e252_53, e252_56, e252_57, e252_58, e252_59, e252_62, e252_65, e252_68, e252_69, rk_n, rk_v, nl_n, nl_i, nl_r, cat_n, ip_cat_int, ip_cat_ref, ip_cat_long, ip_rf_some, Nat.reduceAdd, Nat.reduceLeDiff, Nat.reduceLT, Nat.le_refl, Nat.zero_le, M2, LA, up_eq, z60, z61, Z.1, nz1, g, EO, Bool.false_eq_true, Bool.true_eq_false, if_true, if_false, not_true_eq_false, not_false_eq_true, zle, eq_self]
            rw [hu, if_neg g]
    · obtain ⟨K, LA, oK⟩ := MO I L (sitR R 24 T F B) (nc + 1) (ns + 6) true hR2 (fun _ _ _ _ => rfl)
      refine same_x (I1 := I) (I2 := ip_up K 265 0 2) (u := 0) (R1 := sitR R 24 T F B) (code := 2) X0 (by decide) (fun d => ?_) onlyP_refl sit_R (fun d => ?_) (on_scM (on_0 oK)) up_eq
      · refine w136x2 (d := d + 13) ?_
        simp only [en137, e137_0, e137_1, e137_4, e137_5, e137_8, e137_9, e137_12, e137_13, e137_16, e137_19, e137_20, e137_21, e137_24, e137_25, e137_28, e137_31, e137_32, e137_33, rk_n, rk_v, nl_n, nl_i, nl_r, cat_n, ip_cat_int, ip_cat_ref, ip_cat_long, ip_rf_some, Nat.reduceAdd, Nat.reduceLeDiff, Nat.reduceLT, Nat.le_refl, Nat.zero_le, N2, A1, rk_x hh137, Bool.false_eq_true, Bool.true_eq_false, if_true, if_false, not_true_eq_false, not_false_eq_true, zle, eq_self]
      · simp only [en252, e252_0, e252_1, e252_2, e252_5, e252_8, e252_9, e252_12, e252_13, e252_16, e252_19, e252_20, e252_23, e252_24, e252_27, e252_28, e252_31, e252_34, e252_35, e252_36, e252_37, e252_40, e252_41, e252_44, e252_47, e252_48, e252_51, e252_52, e252_53, e252_56, e252_57, e252_58, e252_59, e252_62, e252_65, e252_68, e252_69, rk_n, rk_v, nl_n, nl_i, nl_r, cat_n, ip_cat_int, ip_cat_ref, ip_cat_long, ip_rf_some, Nat.reduceAdd, Nat.reduceLeDiff, Nat.reduceLT, Nat.le_refl, Nat.zero_le, M2, LA, up_eq, Bool.false_eq_true, Bool.true_eq_false, if_true, if_false, not_true_eq_false, not_false_eq_true, zle, eq_self]
  · have g2' := no_k (K := 2) g2
    refine same_x (I1 := I) (I2 := ip_up I 265 0 1) (u := 0) (R1 := R) (code := 1) X0 (by decide) (fun d => ?_) onlyP_refl (fun _ _ _ => rfl) (fun d => ?_) scM_0 up_eq
    · refine w136x1 (d := d + 13) ?_
      have N2 := fun d h => x86 (d := d) (h := h) g2'
      simp only [en137, e137_0, e137_1, e137_4, e137_5, e137_8, e137_9, e137_12, e137_13, e137_16, e137_19, e137_20, e137_21, e137_24, e137_25, e137_28, e137_31, e137_32, e137_33, rk_n, rk_v, nl_n, nl_i, nl_r, cat_n, ip_cat_int, ip_cat_ref, ip_cat_long, ip_rf_some, Nat.reduceAdd, Nat.reduceLeDiff, Nat.reduceLT, Nat.le_refl, Nat.zero_le, N2, rk_x hh137, Bool.false_eq_true, Bool.true_eq_false, if_true, if_false, not_true_eq_false, not_false_eq_true, zle, eq_self]
      rfl
    · have M2 := fun d h => b225 (d := d) (x := x1) (h := h) (by rw [one_lt]; exact g2')
      simp only [en252, e252_0, e252_1, e252_2, e252_5, e252_8, e252_9, e252_12, e252_13, e252_16, e252_19, e252_20, e252_23, e252_24, e252_27, e252_28, e252_31, e252_34, e252_35, e252_36, e252_37, e252_40, e252_41, e252_44, e252_47, e252_48, e252_51, e252_52, e252_53, e252_56, e252_57, e252_58, e252_59, e252_62, e252_65, e252_68, e252_69, rk_n, rk_v, nl_n, nl_i, nl_r, cat_n, ip_cat_int, ip_cat_ref, ip_cat_long, ip_rf_some, Nat.reduceAdd, Nat.reduceLeDiff, Nat.reduceLT, Nat.le_refl, Nat.zero_le, M2, up_eq, Bool.false_eq_true, Bool.true_eq_false, if_true, if_false, not_true_eq_false, not_false_eq_true, zle, eq_self]
/-- FATES -/
theorem S22 : SAMEX 153 264 [.int x1] Int32.toInt64 := by
  intro n I L R nc ns nx T c N w t p X
  have X0 := X
  obtain ⟨std, rst, br, win, V, fl, F, B, q, hF, hB, hR2, AA⟩ := APP2 X n nc ns nx
  have hR := X.1
  rcases AA with ⟨lev, ap, J, hl, a2, il, hS, vlt, A1, oC, CN, CT, SJ, MO⟩ | ⟨A1, MO⟩
  · by_cases g : ¬ x1 < 0 ∧ x1 ≤ 3
    · have W := fun d => c155 (d := d) (n := n) (x := x1) (nc := nc) (ns := ns) (nx := nx) hR2 C24 CT CN SJ a2
      obtain ⟨K, LA, oK, PK⟩ := MO J (ip_up L 307 0 (Int32.ofNat (cn (fun s => decide (ogI c std rst br win V fl lev ap (s &&& errS c std rst br win V fl lev ap) = x1)) (2 ^ c))).toInt64) (sitR R 24 T F B) nc ns nx hR2 (J265 oC)
      obtain ⟨MT, MN, Z⟩ := PK 0
      obtain ⟨K2, E, o2⟩ := l264 (d := 5) (n := n) (x := x1) (L := ip_up L 307 0 (Int32.ofNat (cn (fun s => decide (ogI c std rst br win V fl lev ap (s &&& errS c std rst br win V fl lev ap) = x1)) (2 ^ c))).toInt64) (nc := nc) (ns := ns) (nx := nx) hR2 MT MN hl Z a2
      have M1 := fun d h => c217 (d := d) (x := x1) (y := 0) (z := 3) (h := h) g.1 (by rw [gt3]; exact fun e => e g.2)
      refine same_ok (I1 := J) (I2 := K2) (u := Int32.ofNat (cn (fun s => decide (ogI c std rst br win V fl lev ap (s &&& errS c std rst br win V fl lev ap) = x1)) (2 ^ c))) (R1 := sitR R 24 T F B) (nx1 := nx) X0 _ rfl (fun d => ?_) oC sit_R (fun d => ?_) (on_scM (onlyM_tr (on_0 oK) (f5_on o2))) ((onlyM_get o2 (by unfold f5; omega)).trans up_eq)
      · refine w153 (d := d + 13) ?_
        simp only [en154, e154_0, e154_1, e154_4, e154_5, e154_8, e154_9, e154_10, e154_13, e154_24, e154_25, e154_28, e154_29, e154_32, rk_n, rk_v, nl_n, nl_i, nl_r, cat_n, ip_cat_int, ip_cat_ref, ip_cat_long, ip_rf_some, Nat.reduceAdd, Nat.reduceLeDiff, Nat.reduceLT, Nat.le_refl, Nat.zero_le, hR2, A1, C24, W, g.1, g.2, Bool.false_eq_true, Bool.true_eq_false, if_true, if_false, not_true_eq_false, not_false_eq_true, zle, eq_self]
      · refine cf_le (d := 9) ?_ (by omega)
        rw [en264]
        simp only [e264_0, e264_1, e264_2, e264_5, e264_12, e264_13, e264_14, e264_15, e264_18, e264_25, e264_26, e264_29, e264_30, e264_33, rk_n, rk_v, nl_n, nl_i, nl_r, cat_n, ip_cat_int, ip_cat_ref, ip_cat_long, ip_rf_some, Nat.reduceAdd, Nat.reduceLeDiff, Nat.reduceLT, Nat.le_refl, Nat.zero_le, LA, M1, up_eq, Bool.false_eq_true, Bool.true_eq_false, if_true, if_false, not_true_eq_false, not_false_eq_true, zle, eq_self]
        exact E
    · have g' : x1 < 0 ∨ ¬ x1 ≤ 3 := by
        by_cases e : x1 < 0
        · exact Or.inl e
        · exact Or.inr (fun h => g ⟨e, h⟩)
      obtain ⟨K, LA, oK, PK⟩ := MO J L (sitR R 24 T F B) (nc + 1) (ns + 6) true hR2 (J265 oC)
      have M1 := fun d h => b217 (d := d) (x := x1) (y := 0) (z := 3) (h := h) (by rw [gt3]; exact g')
      refine same_x (I1 := J) (I2 := ip_up K 265 0 2) (u := 0) (R1 := sitR R 24 T F B) (code := 2) X0 (by decide) (fun d => ?_) oC sit_R (fun d => ?_) (on_scM (on_0 oK)) up_eq
      · refine w153x2 (d := d + 13) ?_
        by_cases e : x1 < 0
        · simp only [en154, e154_0, e154_1, e154_4, e154_5, e154_8, e154_9, e154_10, e154_13, e154_24, e154_25, e154_28, e154_29, e154_32, rk_n, rk_v, nl_n, nl_i, nl_r, cat_n, ip_cat_int, ip_cat_ref, ip_cat_long, ip_rf_some, Nat.reduceAdd, Nat.reduceLeDiff, Nat.reduceLT, Nat.le_refl, Nat.zero_le, A1, e, Bool.false_eq_true, Bool.true_eq_false, if_true, if_false, not_true_eq_false, not_false_eq_true, zle, eq_self]
          rfl
        · have e2 := g'.resolve_left e
          simp only [en154, e154_0, e154_1, e154_4, e154_5, e154_8, e154_9, e154_10, e154_13, e154_24, e154_25, e154_28, e154_29, e154_32, rk_n, rk_v, nl_n, nl_i, nl_r, cat_n, ip_cat_int, ip_cat_ref, ip_cat_long, ip_rf_some, Nat.reduceAdd, Nat.reduceLeDiff, Nat.reduceLT, Nat.le_refl, Nat.zero_le, A1, e, e2, Bool.false_eq_true, Bool.true_eq_false, if_true, if_false, not_true_eq_false, not_false_eq_true, zle, eq_self]
          rfl
      · simp only [en264, e264_0, e264_1, e264_2, e264_5, e264_8, e264_9, e264_12, e264_13, e264_14, e264_15, e264_18, e264_21, e264_22, e264_25, e264_26, e264_29, e264_30, e264_33, e264_36, e264_37, e264_38, e264_39, e264_40, e264_41, e264_43, e264_44, e264_47, e264_50, e264_51, e264_52, e264_53, e264_54, e264_57, e264_58, e264_61, e264_62, e264_65, e264_66, e264_67, e264_68, e264_71, e264_74, e264_75, rk_n, rk_v, nl_n, nl_i, nl_r, cat_n, ip_cat_int, ip_cat_ref, ip_cat_long, ip_rf_some, Nat.reduceAdd, Nat.reduceLeDiff, Nat.reduceLT, Nat.le_refl, Nat.zero_le, LA, M1, up_eq, Bool.false_eq_true, Bool.true_eq_false, if_true, if_false, not_true_eq_false, not_false_eq_true, zle, eq_self]
  · obtain ⟨K, LA, oK⟩ := MO I L (sitR R 24 T F B) (nc + 1) (ns + 6) true hR2 (fun _ _ _ _ => rfl)
    refine same_x (I1 := I) (I2 := ip_up K 265 0 1) (u := 0) (R1 := sitR R 24 T F B) (code := 1) X0 (by decide) (fun d => ?_) onlyP_refl sit_R (fun d => ?_) (on_scM (on_0 oK)) up_eq
    · refine w153x1 (d := d + 13) ?_
      simp only [en154, e154_0, e154_1, e154_4, e154_5, e154_8, e154_9, e154_10, e154_13, e154_24, e154_25, e154_28, e154_29, e154_32, rk_n, rk_v, nl_n, nl_i, nl_r, cat_n, ip_cat_int, ip_cat_ref, ip_cat_long, ip_rf_some, Nat.reduceAdd, Nat.reduceLeDiff, Nat.reduceLT, Nat.le_refl, Nat.zero_le, A1, rk_x hh154, Bool.false_eq_true, Bool.true_eq_false, if_true, if_false, not_true_eq_false, not_false_eq_true, zle, eq_self]
    · simp only [en264, e264_0, e264_1, e264_2, e264_5, e264_8, e264_9, e264_12, e264_13, e264_14, e264_15, e264_18, e264_21, e264_22, e264_25, e264_26, e264_29, e264_30, e264_33, e264_36, e264_37, e264_38, e264_39, e264_40, e264_41, e264_43, e264_44, e264_47, e264_50, e264_51, e264_52, e264_53, e264_54, e264_57, e264_58, e264_61, e264_62, e264_65, e264_66, e264_67, e264_68, e264_71, e264_74, e264_75, rk_n, rk_v, nl_n, nl_i, nl_r, cat_n, ip_cat_int, ip_cat_ref, ip_cat_long, ip_rf_some, Nat.reduceAdd, Nat.reduceLeDiff, Nat.reduceLT, Nat.le_refl, Nat.zero_le, LA, up_eq, Bool.false_eq_true, Bool.true_eq_false, if_true, if_false, not_true_eq_false, not_false_eq_true, zle, eq_self]
/-- BEST -/
theorem S15 : SAMEX 127 248 [.int x1, .int x2] Int32.toInt64 := by
  intro n I L R nc ns nx T c N w t p X
  have X0 := X
  obtain ⟨std, rst, br, win, V, fl, F, B, q, hF, hB, hR2, AA⟩ := APP2 X n nc ns nx
  have hR := X.1
  have hc8 : c ≤ 8 := X.2.1.2.2.2.1
  by_cases g : ¬ x1 < 0 ∧ x1 ≤ 99
  · obtain ⟨pg, hp, rfl⟩ := pg_k.mp g
    have N2 := fun d h => c129 (d := d) (h := h) g.1 g.2
    have M2 := fun d h => c217 (d := d) (x := Int32.ofNat pg) (y := 0) (z := 99) (h := h) g.1 (by rw [p99]; exact fun e => e g.2)
    rcases AA with ⟨lev, ap, J, hl, a2, il, hS, vlt, A1, oC, CN, CT, SJ, MO⟩ | ⟨A1, MO⟩
    · have hE : errS c std rst br win V fl lev ap < 2 ^ c := errS_lt
      obtain ⟨f, BS, fB⟩ := c130 (d := 0) (n := n) (nc := nc) (ns := ns) (nx := nx) (E := errS c std rst br win V fl lev ap) (pg := pg) hR2 C24 CT CN SJ hE (by omega) (pgC_0 c)
      have BS' := fun d => cf_le BS (show 3 ≤ d + 12 by omega)
      have OE := fun d => c109 (d := d) (n := n) (L := L) (nc := nc) (ns := ns) (nx := nx) hR2 C24 SJ a2
      have f2 : f < 2 ^ c := sub_lt2 hE fB.1.1
      have OB := fun d => c111 (d := d) (n := n) (nc := nc) (ns := ns) (nx := nx) hR2 C24 CT CN SJ f2 (o := 0) (Nat.two_pow_pos c)
      simp only [Nat.or_zero] at OB
      have z0 : Int32.ofNat 0 = 0 := rfl
      rw [z0] at OB
      have og : outE c std rst br win V fl lev ap f f = ogI c std rst br win V fl lev ap f := rfl
      rw [og] at OB
      obtain ⟨u0, hu⟩ : ∃ u0 : Int32, u0 = (if x2 = 0 then ogI c std rst br win V fl lev ap f else Int32.ofNat f) := ⟨_, rfl⟩
      obtain ⟨K, LA, oK, PK⟩ := MO J (ip_up L 307 0 u0.toInt64) (sitR R 24 T F B) nc ns nx hR2 (J265 oC)
      obtain ⟨MT, MN, Z⟩ := PK 0
      obtain ⟨f', K2, E, o2, fB'⟩ := l248 (d := 5) (n := n) (L := ip_up L 307 0 u0.toInt64) (nc := nc) (ns := ns) (nx := nx) (q := x2) (pg := pg) hR2 MT MN hl Z a2 (by omega) (pgM_0 c) (fun s _ => by have := pgM_le (s := s) (c := c) (f := rst) (fun k hk => (MT.2.2.2.1 k hk).2) c (Nat.le_refl c); omega)
      have ef : f = f' := best_eq (q := fun s => rkN (ogI c std rst br win V fl lev ap s)) hc8 hE fB fB'
      subst ef
      rw [fB.1.1, ← hu] at E
      refine same_ok (I1 := J) (I2 := K2) (u := u0) (R1 := sitR R 24 T F B) (nx1 := nx) X0 _ rfl (fun d => ?_) oC sit_R (fun d => ?_) (on_scM (onlyM_tr (on_0 oK) (f5_on o2))) ((onlyM_get o2 (by unfold f5; omega)).trans up_eq)
      · refine w127 (d := d + 13) ?_
        rw [hu]
        by_cases gx : x2 = 0
        · simp only [en128, e128_0, e128_1, e128_4, e128_5, e128_8, e128_9, e128_12, e128_13, e128_16, e128_19, e128_20, e128_23, e128_24, e128_25, e128_28, e128_29, e128_32, e128_33, e128_36, e128_37, e128_38, e128_41, rk_n, rk_v, nl_n, nl_i, nl_r, cat_n, ip_cat_int, ip_cat_ref, ip_cat_long, ip_rf_some, Nat.reduceAdd, Nat.reduceLeDiff, Nat.reduceLT, Nat.le_refl, Nat.zero_le, hR2, N2, A1, C24, OE, BS', OB, gx, Bool.false_eq_true, Bool.true_eq_false, if_true, if_false, not_true_eq_false, not_false_eq_true, zle, eq_self]
        · simp only [en128, e128_0, e128_1, e128_4, e128_5, e128_8, e128_9, e128_12, e128_13, e128_16, e128_19, e128_20, e128_23, e128_24, e128_25, e128_28, e128_29, e128_32, e128_33, e128_36, e128_37, e128_38, e128_41, rk_n, rk_v, nl_n, nl_i, nl_r, cat_n, ip_cat_int, ip_cat_ref, ip_cat_long, ip_rf_some, Nat.reduceAdd, Nat.reduceLeDiff, Nat.reduceLT, Nat.le_refl, Nat.zero_le, hR2, N2, A1, C24, OE, BS', OB, gx, Bool.false_eq_true, Bool.true_eq_false, if_true, if_false, not_true_eq_false, not_false_eq_true, zle, eq_self]
      · refine cf_le (d := 9) ?_ (by omega)
        rw [en248]
        simp only [e248_0, e248_1, e248_2, e248_3, e248_5, e248_8, e248_15, e248_16, e248_19, e248_26, e248_27, e248_30, e248_31, e248_34, rk_n, rk_v, nl_n, nl_i, nl_r, cat_n, ip_cat_int, ip_cat_ref, ip_cat_long, ip_rf_some, Nat.reduceAdd, Nat.reduceLeDiff, Nat.reduceLT, Nat.le_refl, Nat.zero_le, LA, M2, up_eq, Bool.false_eq_true, Bool.true_eq_false, if_true, if_false, not_true_eq_false, not_false_eq_true, zle, eq_self]
        exact E
    · obtain ⟨K, LA, oK⟩ := MO I L (sitR R 24 T F B) (nc + 1) (ns + 6) true hR2 (fun _ _ _ _ => rfl)
      refine same_x (I1 := I) (I2 := ip_up K 265 0 2) (u := 0) (R1 := sitR R 24 T F B) (code := 2) X0 (by decide) (fun d => ?_) onlyP_refl sit_R (fun d => ?_) (on_scM (on_0 oK)) up_eq
      · refine w127x2 (d := d + 13) ?_
        simp only [en128, e128_0, e128_1, e128_4, e128_5, e128_8, e128_9, e128_12, e128_13, e128_16, e128_19, e128_20, e128_23, e128_24, e128_25, e128_28, e128_29, e128_32, e128_33, e128_36, e128_37, e128_38, e128_41, rk_n, rk_v, nl_n, nl_i, nl_r, cat_n, ip_cat_int, ip_cat_ref, ip_cat_long, ip_rf_some, Nat.reduceAdd, Nat.reduceLeDiff, Nat.reduceLT, Nat.le_refl, Nat.zero_le, N2, A1, rk_x hh128, Bool.false_eq_true, Bool.true_eq_false, if_true, if_false, not_true_eq_false, not_false_eq_true, zle, eq_self]
      · simp only [en248, e248_0, e248_1, e248_2, e248_3, e248_5, e248_8, e248_11, e248_12, e248_15, e248_16, e248_19, e248_22, e248_23, e248_26, e248_27, e248_30, e248_31, e248_34, e248_37, e248_38, e248_39, e248_40, e248_41, e248_42, e248_43, e248_44, e248_47, e248_49, e248_50, e248_54, e248_55, e248_58, e248_61, e248_62, e248_64, e248_67, e248_68, e248_71, e248_74, e248_75, e248_77, e248_78, e248_81, e248_83, e248_85, e248_88, e248_90, e248_93, e248_96, e248_98, e248_101, e248_103, e248_106, e248_109, e248_111, e248_114, e248_115, e248_118, e248_121, e248_124, e248_126, e248_127, e248_129, e248_131, e248_134, e248_137, e248_138, e248_141, e248_142, e248_145, e248_147, rk_n, rk_v, nl_n, nl_i, nl_r, cat_n, ip_cat_int, ip_cat_ref, ip_cat_long, ip_rf_some, Nat.reduceAdd, Nat.reduceLeDiff, Nat.reduceLT, Nat.le_refl, Nat.zero_le, M2, LA, up_eq, Bool.false_eq_true, Bool.true_eq_false, if_true, if_false, not_true_eq_false, not_false_eq_true, zle, eq_self]
  · have g' := no_p g
    refine same_x (I1 := I) (I2 := ip_up I 265 0 1) (u := 0) (R1 := R) (code := 1) X0 (by decide) (fun d => ?_) onlyP_refl (fun _ _ _ => rfl) (fun d => ?_) scM_0 up_eq
    · refine w127x1 (d := d + 13) ?_
      have N2 := fun d h => x129 (d := d) (h := h) g'
      simp only [en128, e128_0, e128_1, e128_4, e128_5, e128_8, e128_9, e128_12, e128_13, e128_16, e128_19, e128_20, e128_23, e128_24, e128_25, e128_28, e128_29, e128_32, e128_33, e128_36, e128_37, e128_38, e128_41, rk_n, rk_v, nl_n, nl_i, nl_r, cat_n, ip_cat_int, ip_cat_ref, ip_cat_long, ip_rf_some, Nat.reduceAdd, Nat.reduceLeDiff, Nat.reduceLT, Nat.le_refl, Nat.zero_le, N2, rk_x hh128, Bool.false_eq_true, Bool.true_eq_false, if_true, if_false, not_true_eq_false, not_false_eq_true, zle, eq_self]
      rfl
    · have M2 := fun d h => b217 (d := d) (x := x1) (y := 0) (z := 99) (h := h) (by rw [p99]; exact g')
      simp only [en248, e248_0, e248_1, e248_2, e248_3, e248_5, e248_8, e248_11, e248_12, e248_15, e248_16, e248_19, e248_22, e248_23, e248_26, e248_27, e248_30, e248_31, e248_34, e248_37, e248_38, e248_39, e248_40, e248_41, e248_42, e248_43, e248_44, e248_47, e248_49, e248_50, e248_54, e248_55, e248_58, e248_61, e248_62, e248_64, e248_67, e248_68, e248_71, e248_74, e248_75, e248_77, e248_78, e248_81, e248_83, e248_85, e248_88, e248_90, e248_93, e248_96, e248_98, e248_101, e248_103, e248_106, e248_109, e248_111, e248_114, e248_115, e248_118, e248_121, e248_124, e248_126, e248_127, e248_129, e248_131, e248_134, e248_137, e248_138, e248_141, e248_142, e248_145, e248_147, rk_n, rk_v, nl_n, nl_i, nl_r, cat_n, ip_cat_int, ip_cat_ref, ip_cat_long, ip_rf_some, Nat.reduceAdd, Nat.reduceLeDiff, Nat.reduceLT, Nat.le_refl, Nat.zero_le, M2, up_eq, Bool.false_eq_true, Bool.true_eq_false, if_true, if_false, not_true_eq_false, not_false_eq_true, zle, eq_self]
/-- SECURE -/
theorem S19 : SAMEX 140 253 [.int x1, .int x2, .int x3] Int32.toInt64 := by
  intro n I L R nc ns nx T c N w t p X
  have X0 := X
  obtain ⟨std, rst, br, win, V, fl, F, B, q, hF, hB, hR2, AA⟩ := APP2 X n nc ns nx
  have hR := X.1
  have hc8 : c ≤ 8 := X.2.1.2.2.2.1
  by_cases g1 : ¬ x1 < 0 ∧ x1 ≤ 99
  · obtain ⟨po, hq', rfl⟩ := pg_k.mp g1
    have N1 := fun d h => c129 (d := d) (h := h) g1.1 g1.2
    have M1 := fun d h => c217 (d := d) (x := Int32.ofNat po) (y := 0) (z := 99) (h := h) g1.1 (by rw [p99]; exact fun e => e g1.2)
    by_cases g2 : ¬ x2 < 0 ∧ x2 ≤ 99
    · obtain ⟨pg, hp, rfl⟩ := pg_k.mp g2
      have N2 := fun d h => c129 (d := d) (h := h) g2.1 g2.2
      have M2 := fun d h => c217 (d := d) (x := Int32.ofNat pg) (y := 0) (z := 99) (h := h) g2.1 (by rw [p99]; exact fun e => e g2.2)
      rcases AA with ⟨lev, ap, J, hl, a2, il, hS, vlt, A1, oC, CN, CT, SJ, MO⟩ | ⟨A1, MO⟩
      · by_cases g3 : ¬ x3 < 0 ∧ x3 ≤ 2
        · obtain ⟨J2, f, FS, o2, j4, j5, j3, fB⟩ := c142 (d := 0) (n := n) (nc := nc) (ns := ns) (nx := nx) (po := po) (pg := pg) hR2 C24 CT CN SJ a2 (by omega) (by omega)
          have FS' := fun d => cf_le FS (show 4 ≤ d + 12 by omega)
          have oC2 : onlyP scC I J2 := onlyP_tr oC (onlyP_mono o2 (fun a k e => by unfold at40 at e; unfold scC; omega))
          have hE : errS c std rst br win V fl lev ap < 2 ^ c := errS_lt
          obtain ⟨K, LA, oK, PK⟩ := MO J2 (ip_up L 307 0 (secA x3 f (wrk c std rst br win V fl lev ap pg f) (ansN c std rst br win V fl lev ap pg f)).toInt64) (sitR R 24 T F B) nc ns nx hR2 (J265 oC2)
          obtain ⟨MT, MN, Z⟩ := PK 0
          obtain ⟨K2, f', E, o3, fB'⟩ := l253 (d := 5) (n := n) (what := x3) (L := ip_up L 307 0 (secA x3 f (wrk c std rst br win V fl lev ap pg f) (ansN c std rst br win V fl lev ap pg f)).toInt64) (nc := nc) (ns := ns) (nx := nx) (po := po) (pg := pg) hR2 MT MN hl Z a2 (by omega) (by omega)
          have ef : f = f' := best_eq (q := fun s => wrk c std rst br win V fl lev ap pg s) hc8 hE fB fB'
          subst ef
          rw [fB.1.1] at E
          have M3 := fun d h => c217 (d := d) (x := x3) (y := 0) (z := 2) (h := h) g3.1 (by rw [lt2']; exact fun e => e g3.2)
          refine same_ok (I1 := J2) (I2 := K2) (u := secA x3 f (wrk c std rst br win V fl lev ap pg f) (ansN c std rst br win V fl lev ap pg f)) (R1 := sitR R 24 T F B) (nx1 := nx) X0 _ rfl (fun d => ?_) oC2 sit_R (fun d => ?_) ?_ ?_
          · refine w140 (d := d + 13) ?_
            unfold secA
            by_cases w0 : x3 = 0
            · simp only [en141, e141_0, e141_1, e141_4, e141_5, e141_8, e141_9, e141_12, e141_13, e141_16, e141_17, e141_18, e141_21, e141_31, e141_32, e141_35, e141_36, e141_39, e141_40, e141_41, e141_44, e141_45, e141_48, e141_49, e141_52, e141_55, e141_58, e141_59, e141_60, e141_63, e141_64, e141_67, e141_70, e141_73, e141_74, e141_77, e141_80, rk_n, rk_v, nl_n, nl_i, nl_r, cat_n, ip_cat_int, ip_cat_ref, ip_cat_long, ip_rf_some, Nat.reduceAdd, Nat.reduceLeDiff, Nat.reduceLT, Nat.le_refl, Nat.zero_le, hR2, N1, N2, A1, C24, FS', g3.1, g3.2, w0, j4, show ((0 : Int32) < 0) = False from eq_false (by decide), show ((0 : Int32) ≤ 2) = True from eq_true (by decide), Bool.false_eq_true, Bool.true_eq_false, if_true, if_false, not_true_eq_false, not_false_eq_true, zle, eq_self]
            · by_cases w1 : x3 = 1
              · have e12 : ¬ (1 : Int32) = 2 := by decide
                simp only [en141, e141_0, e141_1, e141_4, e141_5, e141_8, e141_9, e141_12, e141_13, e141_16, e141_17, e141_18, e141_21, e141_31, e141_32, e141_35, e141_36, e141_39, e141_40, e141_41, e141_44, e141_45, e141_48, e141_49, e141_52, e141_55, e141_58, e141_59, e141_60, e141_63, e141_64, e141_67, e141_70, e141_73, e141_74, e141_77, e141_80, rk_n, rk_v, nl_n, nl_i, nl_r, cat_n, ip_cat_int, ip_cat_ref, ip_cat_long, ip_rf_some, Nat.reduceAdd, Nat.reduceLeDiff, Nat.reduceLT, Nat.le_refl, Nat.zero_le, hR2, N1, N2, A1, C24, FS', w1, j3, e12, show ((1 : Int32) < 0) = False from eq_false (by decide), show ((1 : Int32) ≤ 2) = True from eq_true (by decide), Bool.false_eq_true, Bool.true_eq_false, if_true, if_false, not_true_eq_false, not_false_eq_true, zle, eq_self]
              · have w2 : x3 = 2 := by
                  obtain ⟨k, hk, rfl⟩ := nu_of g3.1
                  have : k ≤ 2 := (nu_le (s := 2) hk (by omega)).mp g3.2
                  have k0 : ¬ k = 0 := fun e => w0 (by rw [e]; rfl)
                  have k1 : ¬ k = 1 := fun e => w1 (by rw [e]; rfl)
                  have : k = 2 := by omega
                  rw [this]; rfl
                have e20 : ¬ (2 : Int32) = 0 := by decide
                have e21 : ¬ (2 : Int32) = 1 := by decide
                simp only [en141, e141_0, e141_1, e141_4, e141_5, e141_8, e141_9, e141_12, e141_13, e141_16, e141_17, e141_18, e141_21, e141_31, e141_32, e141_35, e141_36, e141_39, e141_40, e141_41, e141_44, e141_45, e141_48, e141_49, e141_52, e141_55, e141_58, e141_59, e141_60, e141_63, e141_64, e141_67, e141_70, e141_73, e141_74, e141_77, e141_80, rk_n, rk_v, nl_n, nl_i, nl_r, cat_n, ip_cat_int, ip_cat_ref, ip_cat_long, ip_rf_some, Nat.reduceAdd, Nat.reduceLeDiff, Nat.reduceLT, Nat.le_refl, Nat.zero_le, hR2, N1, N2, A1, C24, FS', w2, j5, e20, e21, show ((2 : Int32) < 0) = False from eq_false (by decide), show ((2 : Int32) ≤ 2) = True from eq_true (by decide), Bool.false_eq_true, Bool.true_eq_false, if_true, if_false, not_true_eq_false, not_false_eq_true, zle, eq_self]
          · refine cf_le (d := 10) ?_ (by omega)
            rw [en253]
            simp only [e253_0, e253_1, e253_2, e253_3, e253_5, e253_8, e253_11, e253_12, e253_13, e253_15, e253_18, e253_25, e253_26, e253_29, e253_36, e253_37, e253_38, e253_39, e253_42, e253_49, e253_50, e253_53, e253_54, e253_57, rk_n, rk_v, nl_n, nl_i, nl_r, cat_n, ip_cat_int, ip_cat_ref, ip_cat_long, ip_rf_some, Nat.reduceAdd, Nat.reduceLeDiff, Nat.reduceLT, Nat.le_refl, Nat.zero_le, LA, M1, M2, M3, up_eq, Bool.false_eq_true, Bool.true_eq_false, if_true, if_false, not_true_eq_false, not_false_eq_true, zle, eq_self]
            exact E
          · exact onlyP_tr (on_scM (on_0 oK)) (onlyP_mono o3 (fun a k e => by
              rcases e with e | e
              · exact Or.inl e
              · exact Or.inr ⟨e.1, f5_scr e.2⟩))
          · exact (P5_k o3 (by unfold f5; omega)).trans up_eq
        · have g3' : x3 < 0 ∨ ¬ x3 ≤ 2 := by
            by_cases e : x3 < 0
            · exact Or.inl e
            · exact Or.inr (fun h => g3 ⟨e, h⟩)
          obtain ⟨K, LA, oK, PK⟩ := MO J L (sitR R 24 T F B) (nc + 1) (ns + 6) true hR2 (J265 oC)
          have M3 := fun d h => b217 (d := d) (x := x3) (y := 0) (z := 2) (h := h) (by rw [lt2']; exact g3')
          refine same_x (I1 := J) (I2 := ip_up K 265 0 3) (u := 0) (R1 := sitR R 24 T F B) (code := 3) X0 (by decide) (fun d => ?_) oC sit_R (fun d => ?_) (on_scM (on_0 oK)) up_eq
          · refine w140x3 (d := d + 13) ?_
            by_cases e : x3 < 0
            · simp only [en141, e141_0, e141_1, e141_4, e141_5, e141_8, e141_9, e141_12, e141_13, e141_16, e141_17, e141_18, e141_21, e141_31, e141_32, e141_35, e141_36, e141_39, e141_40, e141_41, e141_44, e141_45, e141_48, e141_49, e141_52, e141_55, e141_58, e141_59, e141_60, e141_63, e141_64, e141_67, e141_70, e141_73, e141_74, e141_77, e141_80, rk_n, rk_v, nl_n, nl_i, nl_r, cat_n, ip_cat_int, ip_cat_ref, ip_cat_long, ip_rf_some, Nat.reduceAdd, Nat.reduceLeDiff, Nat.reduceLT, Nat.le_refl, Nat.zero_le, N1, N2, A1, e, Bool.false_eq_true, Bool.true_eq_false, if_true, if_false, not_true_eq_false, not_false_eq_true, zle, eq_self]
              rfl
            · have e2 := g3'.resolve_left e
              simp only [en141, e141_0, e141_1, e141_4, e141_5, e141_8, e141_9, e141_12, e141_13, e141_16, e141_17, e141_18, e141_21, e141_31, e141_32, e141_35, e141_36, e141_39, e141_40, e141_41, e141_44, e141_45, e141_48, e141_49, e141_52, e141_55, e141_58, e141_59, e141_60, e141_63, e141_64, e141_67, e141_70, e141_73, e141_74, e141_77, e141_80, rk_n, rk_v, nl_n, nl_i, nl_r, cat_n, ip_cat_int, ip_cat_ref, ip_cat_long, ip_rf_some, Nat.reduceAdd, Nat.reduceLeDiff, Nat.reduceLT, Nat.le_refl, Nat.zero_le, N1, N2, A1, e, e2, Bool.false_eq_true, Bool.true_eq_false, if_true, if_false, not_true_eq_false, not_false_eq_true, zle, eq_self]
              rfl
          · simp only [en253, e253_0, e253_1, e253_2, e253_3, e253_5, e253_8, e253_11, e253_12, e253_13, e253_15, e253_18, e253_21, e253_22, e253_25, e253_26, e253_29, e253_32, e253_33, e253_36, e253_37, e253_38, e253_39, e253_42, e253_45, e253_46, e253_49, e253_50, e253_53, e253_54, e253_57, e253_60, e253_61, e253_62, e253_63, e253_67, e253_70, e253_73, e253_74, e253_77, e253_79, e253_80, e253_81, e253_84, e253_87, e253_88, e253_91, e253_94, e253_95, e253_98, e253_101, e253_102, e253_105, e253_107, e253_108, e253_111, e253_114, e253_115, e253_118, e253_121, e253_122, e253_125, e253_127, e253_128, e253_130, e253_131, e253_133, e253_134, e253_136, e253_137, e253_141, e253_142, e253_145, e253_148, e253_149, e253_151, e253_154, e253_155, e253_158, e253_161, e253_162, e253_164, e253_165, e253_167, e253_168, e253_172, e253_173, e253_176, e253_179, e253_180, e253_182, e253_185, e253_186, e253_189, e253_192, e253_193, e253_195, e253_197, e253_198, e253_200, e253_202, e253_203, e253_206, e253_209, e253_211, e253_213, e253_214, e253_217, e253_219, e253_221, e253_224, e253_227, e253_229, e253_231, e253_233, e253_235, e253_238, e253_241, e253_243, e253_244, e253_247, e253_249, e253_251, e253_254, e253_256, e253_258, e253_261, e253_263, e253_266, e253_268, e253_271, e253_274, e253_277, e253_279, e253_281, e253_283, e253_285, e253_287, e253_289, e253_292, e253_295, e253_296, e253_299, e253_301, e253_304, e253_305, e253_306, e253_309, e253_311, e253_314, e253_316, e253_317, e253_320, e253_321, e253_324, e253_326, e253_327, e253_330, e253_331, e253_334, e253_335, rk_n, rk_v, nl_n, nl_i, nl_r, cat_n, ip_cat_int, ip_cat_ref, ip_cat_long, ip_rf_some, Nat.reduceAdd, Nat.reduceLeDiff, Nat.reduceLT, Nat.le_refl, Nat.zero_le, LA, M1, M2, M3, up_eq, Bool.false_eq_true, Bool.true_eq_false, if_true, if_false, not_true_eq_false, not_false_eq_true, zle, eq_self]
      · obtain ⟨K, LA, oK⟩ := MO I L (sitR R 24 T F B) (nc + 1) (ns + 6) true hR2 (fun _ _ _ _ => rfl)
        refine same_x (I1 := I) (I2 := ip_up K 265 0 2) (u := 0) (R1 := sitR R 24 T F B) (code := 2) X0 (by decide) (fun d => ?_) onlyP_refl sit_R (fun d => ?_) (on_scM (on_0 oK)) up_eq
        · refine w140x2 (d := d + 13) ?_
          simp only [en141, e141_0, e141_1, e141_4, e141_5, e141_8, e141_9, e141_12, e141_13, e141_16, e141_17, e141_18, e141_21, e141_31, e141_32, e141_35, e141_36, e141_39, e141_40, e141_41, e141_44, e141_45, e141_48, e141_49, e141_52, e141_55, e141_58, e141_59, e141_60, e141_63, e141_64, e141_67, e141_70, e141_73, e141_74, e141_77, e141_80, rk_n, rk_v, nl_n, nl_i, nl_r, cat_n, ip_cat_int, ip_cat_ref, ip_cat_long, ip_rf_some, Nat.reduceAdd, Nat.reduceLeDiff, Nat.reduceLT, Nat.le_refl, Nat.zero_le, N1, N2, A1, rk_x hh141, Bool.false_eq_true, Bool.true_eq_false, if_true, if_false, not_true_eq_false, not_false_eq_true, zle, eq_self]
        · simp only [en253, e253_0, e253_1, e253_2, e253_3, e253_5, e253_8, e253_11, e253_12, e253_13, e253_15, e253_18, e253_21, e253_22, e253_25, e253_26, e253_29, e253_32, e253_33, e253_36, e253_37, e253_38, e253_39, e253_42, e253_45, e253_46, e253_49, e253_50, e253_53, e253_54, e253_57, e253_60, e253_61, e253_62, e253_63, e253_67, e253_70, e253_73, e253_74, e253_77, e253_79, e253_80, e253_81, e253_84, e253_87, e253_88, e253_91, e253_94, e253_95, e253_98, e253_101, e253_102, e253_105, e253_107, e253_108, e253_111, e253_114, e253_115, e253_118, e253_121, e253_122, e253_125, e253_127, e253_128, e253_130, e253_131, e253_133, e253_134, e253_136, e253_137, e253_141, e253_142, e253_145, e253_148, e253_149, e253_151, e253_154, e253_155, e253_158, e253_161, e253_162, e253_164, e253_165, e253_167, e253_168, e253_172, e253_173, e253_176, e253_179, e253_180, e253_182, e253_185, e253_186, e253_189, e253_192, e253_193, e253_195, e253_197, e253_198, e253_200, e253_202, e253_203, e253_206, e253_209, e253_211, e253_213, e253_214, e253_217, e253_219, e253_221, e253_224, e253_227, e253_229, e253_231, e253_233, e253_235, e253_238, e253_241, e253_243, e253_244, e253_247, e253_249, e253_251, e253_254, e253_256, e253_258, e253_261, e253_263, e253_266, e253_268, e253_271, e253_274, e253_277, e253_279, e253_281, e253_283, e253_285, e253_287, e253_289, e253_292, e253_295, e253_296, e253_299, e253_301, e253_304, e253_305, e253_306, e253_309, e253_311, e253_314, e253_316, e253_317, e253_320, e253_321, e253_324, e253_326, e253_327, e253_330, e253_331, e253_334, e253_335, rk_n, rk_v, nl_n, nl_i, nl_r, cat_n, ip_cat_int, ip_cat_ref, ip_cat_long, ip_rf_some, Nat.reduceAdd, Nat.reduceLeDiff, Nat.reduceLT, Nat.le_refl, Nat.zero_le, LA, M1, M2, up_eq, Bool.false_eq_true, Bool.true_eq_false, if_true, if_false, not_true_eq_false, not_false_eq_true, zle, eq_self]
    · have g2' := no_p g2
      refine same_x (I1 := I) (I2 := ip_up I 265 0 1) (u := 0) (R1 := R) (code := 1) X0 (by decide) (fun d => ?_) onlyP_refl (fun _ _ _ => rfl) (fun d => ?_) scM_0 up_eq
      · refine w140x1 (d := d + 13) ?_
        have N2 := fun d h => x129 (d := d) (h := h) g2'
        simp only [en141, e141_0, e141_1, e141_4, e141_5, e141_8, e141_9, e141_12, e141_13, e141_16, e141_17, e141_18, e141_21, e141_31, e141_32, e141_35, e141_36, e141_39, e141_40, e141_41, e141_44, e141_45, e141_48, e141_49, e141_52, e141_55, e141_58, e141_59, e141_60, e141_63, e141_64, e141_67, e141_70, e141_73, e141_74, e141_77, e141_80, rk_n, rk_v, nl_n, nl_i, nl_r, cat_n, ip_cat_int, ip_cat_ref, ip_cat_long, ip_rf_some, Nat.reduceAdd, Nat.reduceLeDiff, Nat.reduceLT, Nat.le_refl, Nat.zero_le, N1, N2, rk_x hh141, Bool.false_eq_true, Bool.true_eq_false, if_true, if_false, not_true_eq_false, not_false_eq_true, zle, eq_self]
        rfl
      · have M2 := fun d h => b217 (d := d) (x := x2) (y := 0) (z := 99) (h := h) (by rw [p99]; exact g2')
        simp only [en253, e253_0, e253_1, e253_2, e253_3, e253_5, e253_8, e253_11, e253_12, e253_13, e253_15, e253_18, e253_21, e253_22, e253_25, e253_26, e253_29, e253_32, e253_33, e253_36, e253_37, e253_38, e253_39, e253_42, e253_45, e253_46, e253_49, e253_50, e253_53, e253_54, e253_57, e253_60, e253_61, e253_62, e253_63, e253_67, e253_70, e253_73, e253_74, e253_77, e253_79, e253_80, e253_81, e253_84, e253_87, e253_88, e253_91, e253_94, e253_95, e253_98, e253_101, e253_102, e253_105, e253_107, e253_108, e253_111, e253_114, e253_115, e253_118, e253_121, e253_122, e253_125, e253_127, e253_128, e253_130, e253_131, e253_133, e253_134, e253_136, e253_137, e253_141, e253_142, e253_145, e253_148, e253_149, e253_151, e253_154, e253_155, e253_158, e253_161, e253_162, e253_164, e253_165, e253_167, e253_168, e253_172, e253_173, e253_176, e253_179, e253_180, e253_182, e253_185, e253_186, e253_189, e253_192, e253_193, e253_195, e253_197, e253_198, e253_200, e253_202, e253_203, e253_206, e253_209, e253_211, e253_213, e253_214, e253_217, e253_219, e253_221, e253_224, e253_227, e253_229, e253_231, e253_233, e253_235, e253_238, e253_241, e253_243, e253_244, e253_247, e253_249, e253_251, e253_254, e253_256, e253_258, e253_261, e253_263, e253_266, e253_268, e253_271, e253_274, e253_277, e253_279, e253_281, e253_283, e253_285, e253_287, e253_289, e253_292, e253_295, e253_296, e253_299, e253_301, e253_304, e253_305, e253_306, e253_309, e253_311, e253_314, e253_316, e253_317, e253_320, e253_321, e253_324, e253_326, e253_327, e253_330, e253_331, e253_334, e253_335, rk_n, rk_v, nl_n, nl_i, nl_r, cat_n, ip_cat_int, ip_cat_ref, ip_cat_long, ip_rf_some, Nat.reduceAdd, Nat.reduceLeDiff, Nat.reduceLT, Nat.le_refl, Nat.zero_le, M1, M2, up_eq, Bool.false_eq_true, Bool.true_eq_false, if_true, if_false, not_true_eq_false, not_false_eq_true, zle, eq_self]
  · have g1' := no_p g1
    refine same_x (I1 := I) (I2 := ip_up I 265 0 1) (u := 0) (R1 := R) (code := 1) X0 (by decide) (fun d => ?_) onlyP_refl (fun _ _ _ => rfl) (fun d => ?_) scM_0 up_eq
    · refine w140x1 (d := d + 13) ?_
      have N1 := fun d h => x129 (d := d) (h := h) g1'
      simp only [en141, e141_0, e141_1, e141_4, e141_5, e141_8, e141_9, e141_12, e141_13, e141_16, e141_17, e141_18, e141_21, e141_31, e141_32, e141_35, e141_36, e141_39, e141_40, e141_41, e141_44, e141_45, e141_48, e141_49, e141_52, e141_55, e141_58, e141_59, e141_60, e141_63, e141_64, e141_67, e141_70, e141_73, e141_74, e141_77, e141_80, rk_n, rk_v, nl_n, nl_i, nl_r, cat_n, ip_cat_int, ip_cat_ref, ip_cat_long, ip_rf_some, Nat.reduceAdd, Nat.reduceLeDiff, Nat.reduceLT, Nat.le_refl, Nat.zero_le, N1, rk_x hh141, Bool.false_eq_true, Bool.true_eq_false, if_true, if_false, not_true_eq_false, not_false_eq_true, zle, eq_self]
      rfl
    · have M1 := fun d h => b217 (d := d) (x := x1) (y := 0) (z := 99) (h := h) (by rw [p99]; exact g1')
      simp only [en253, e253_0, e253_1, e253_2, e253_3, e253_5, e253_8, e253_11, e253_12, e253_13, e253_15, e253_18, e253_21, e253_22, e253_25, e253_26, e253_29, e253_32, e253_33, e253_36, e253_37, e253_38, e253_39, e253_42, e253_45, e253_46, e253_49, e253_50, e253_53, e253_54, e253_57, e253_60, e253_61, e253_62, e253_63, e253_67, e253_70, e253_73, e253_74, e253_77, e253_79, e253_80, e253_81, e253_84, e253_87, e253_88, e253_91, e253_94, e253_95, e253_98, e253_101, e253_102, e253_105, e253_107, e253_108, e253_111, e253_114, e253_115, e253_118, e253_121, e253_122, e253_125, e253_127, e253_128, e253_130, e253_131, e253_133, e253_134, e253_136, e253_137, e253_141, e253_142, e253_145, e253_148, e253_149, e253_151, e253_154, e253_155, e253_158, e253_161, e253_162, e253_164, e253_165, e253_167, e253_168, e253_172, e253_173, e253_176, e253_179, e253_180, e253_182, e253_185, e253_186, e253_189, e253_192, e253_193, e253_195, e253_197, e253_198, e253_200, e253_202, e253_203, e253_206, e253_209, e253_211, e253_213, e253_214, e253_217, e253_219, e253_221, e253_224, e253_227, e253_229, e253_231, e253_233, e253_235, e253_238, e253_241, e253_243, e253_244, e253_247, e253_249, e253_251, e253_254, e253_256, e253_258, e253_261, e253_263, e253_266, e253_268, e253_271, e253_274, e253_277, e253_279, e253_281, e253_283, e253_285, e253_287, e253_289, e253_292, e253_295, e253_296, e253_299, e253_301, e253_304, e253_305, e253_306, e253_309, e253_311, e253_314, e253_316, e253_317, e253_320, e253_321, e253_324, e253_326, e253_327, e253_330, e253_331, e253_334, e253_335, rk_n, rk_v, nl_n, nl_i, nl_r, cat_n, ip_cat_int, ip_cat_ref, ip_cat_long, ip_rf_some, Nat.reduceAdd, Nat.reduceLeDiff, Nat.reduceLT, Nat.le_refl, Nat.zero_le, M1, up_eq, Bool.false_eq_true, Bool.true_eq_false, if_true, if_false, not_true_eq_false, not_false_eq_true, zle, eq_self]
end S3
