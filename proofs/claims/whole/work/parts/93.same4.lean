/-! CALL BY CALL: chain, preview, pages -/
section S4
variable {n d a b T c s t z o w m p lev k side ap b0 b1 N q B : Nat} {I J K I1 I2 : Nat → Nat → Int32} {L L' : Nat → Nat → Int64} {R R' : Nat → Nat → Option Nat} {nc ns : Nat} {nx : Bool} {x y j v u code x1 x2 x3 : Int32} {P : Nat → Nat → Prop} {h' h : ip_H} {std rst V : Nat → Nat} {win : Nat → Bool} {br fl : Nat → Int32}
/-- CHAIN -/
theorem S20 : SAMEX 145 255 [.int x1, .int x2] Int32.toInt64 := by
  intro n I L R nc ns nx T c N w t p X
  have X0 := X
  obtain ⟨std, rst, br, win, V, fl, F, B, q, hF, hB, hR2, AA⟩ := APP2 X n nc ns nx
  have hR := X.1
  have hc8 : c ≤ 8 := X.2.1.2.2.2.1
  have tt := X.2.1.1
  obtain ⟨⟨n1, n2, n3⟩, ⟨y1, y2⟩, ⟨y3, y4⟩, y5⟩ := X.2.2.1
  have W := y5 w n3
  have b0 := (nu_inb (t := w) (k := 40) (by omega)).mpr (by omega)
  have e1 := nd_of (k := w) (by omega)
  have e2 := isN_nd (k := w) (by omega)
  have lw : w < 2147483648 := by omega
  have w40 : w < 40 := by omega
  have l0 : I (65 + 5 * w) 0 = I 289 w := W.1.1
  by_cases g1 : ¬ x1 < 0 ∧ x1 ≤ 99
  · obtain ⟨pg, hp, rfl⟩ := pg_k.mp g1
    have N1 := fun d h => c129 (d := d) (h := h) g1.1 g1.2
    have M1 := fun d h => c217 (d := d) (x := Int32.ofNat pg) (y := 0) (z := 99) (h := h) g1.1 (by rw [p99]; exact fun e => e g1.2)
    by_cases g0 : I 289 w = 0
    · rcases AA with ⟨lev, ap, J, hl, a2, il, hS, vlt, A1, oC, CN, CT, SJ, MO⟩ | ⟨A1, MO⟩
      · have l1 : lev = 1 := il.mpr g0
        subst l1
        have J289 : J 289 w = 0 := (oC 289 w (by unfold scC; omega)).trans g0
        have J38 : J 265 38 = Int32.ofNat w := (oC 265 38 (by unfold scC; omega)).trans y4
        by_cases g3 : ¬ x2 < 0 ∧ x2 ≤ 2
        · obtain ⟨J2, R3, nx3, g, m, f, o, FC, o2, hr3, MC, j3, j4, j5⟩ := c147 (d := 0) (n := n) (nc := nc) (ns := ns) (nx := nx) (pg := pg) hR2 CT tt CN hF hB SJ a2 vlt hS (by omega)
          have FC' := fun d => cf_le FC (show 6 ≤ d + 12 by omega)
          have oC2 : onlyP scC I J2 := onlyP_tr oC (onlyP_mono o2 (fun a k e => by unfold at147 at e; unfold scC; omega))
          have hr : ∀ a k, ¬ (isC a ∧ k < 3) → R3 a k = R a k := fun a k h => (hr3 a k (fun e => h ⟨Or.inr e.1, e.2⟩)).trans (sit_R a k h)
          have hR3 : LYR R3 := LYR_on (fun a k h => hr a k (fun e => h (Or.inl e))) hR
          have og0 : ogI c std rst br win V fl 1 ap 0 = 0 := og_none hc8 (vlt 4) CN.2.2.2.2.2.2.2.2.2.2.2.2.2 hS
          obtain ⟨K, LA, oK, PK⟩ := MO J2 (ip_up L 307 0 (chA x2 g m f o).toInt64) R3 nc ns nx3 hR3 (J265 oC2)
          obtain ⟨MT, MN, Z⟩ := PK 0
          obtain ⟨K2, g', m', f', o', E, o3, MC'⟩ := l255 (d := 5) (n := n) (what := x2) (L := ip_up L 307 0 (chA x2 g m f o).toInt64) (nc := nc) (ns := ns) (nx := nx3) (pg := pg) hR3 MT MN Z a2 (by omega) og0
          obtain ⟨h1, h2, h3, h4⟩ := minC_uniq hc8 MC MC'
          subst h1; subst h2; subst h3; subst h4
          have M3 := fun d h => c217 (d := d) (x := x2) (y := 0) (z := 2) (h := h) g3.1 (by rw [lt2']; exact fun e => e g3.2)
          have J2w : J2 289 w = 0 := (oC2 289 w (by unfold scC; omega)).trans g0
          have J238 : J2 265 38 = Int32.ofNat w := (oC2 265 38 (by unfold scC; omega)).trans y4
          have C41 : ∀ (d : Nat), cf (d + 12) 147 [.ref 40, .ref 24, .int (Int32.ofNat pg)] (SH n, J, L, sitR R 24 T F B, nc, ns, nx) = some (.inl none, (SH n, J2, L, R3, nc, ns, nx3)) := FC'
          refine same_ok (I1 := J2) (I2 := K2) (u := chA x2 g m f o) (R1 := R3) (nx1 := nx3) X0 _ rfl (fun d => ?_) oC2 hr (fun d => ?_) (on_scM (onlyM_tr (on_0 oK) (onlyM_mono o3 (fun _ => f9_scr)))) ((onlyM_get o3 (by unfold f9 f5; omega)).trans up_eq)
          · refine w145 (d := d + 13) ?_
            unfold chA
            by_cases w0 : x2 = 0
            · simp only [en146, e146_0, e146_1, e146_4, e146_5, e146_8, e146_9, e146_12, e146_13, e146_16, e146_19, e146_30, e146_31, e146_34, e146_35, e146_38, e146_39, e146_40, e146_43, e146_53, e146_54, e146_57, e146_58, e146_61, e146_62, e146_65, e146_66, e146_69, e146_70, e146_73, e146_76, e146_79, e146_80, e146_81, e146_84, e146_85, e146_88, e146_91, e146_94, e146_95, e146_98, e146_101, rk_n, rk_v, nl_n, nl_i, nl_r, cat_n, ip_cat_int, ip_cat_ref, ip_cat_long, ip_rf_some, Nat.reduceAdd, Nat.reduceLeDiff, Nat.reduceLT, Nat.le_refl, Nat.zero_le, hR, hR2, hR3, N1, y3, b0, e1, e2, l0, g0, A1, C24, C41, w0, j3, show ((0 : Int32) < 0) = False from eq_false (by decide), show ((0 : Int32) ≤ 2) = True from eq_true (by decide), show ((0 : Int32) = 1) = False from eq_false (by decide), show ((0 : Int32) = 2) = False from eq_false (by decide), Bool.false_eq_true, Bool.true_eq_false, if_true, if_false, not_true_eq_false, not_false_eq_true, zle, eq_self]
            · by_cases w1 : x2 = 1
              · simp only [en146, e146_0, e146_1, e146_4, e146_5, e146_8, e146_9, e146_12, e146_13, e146_16, e146_19, e146_30, e146_31, e146_34, e146_35, e146_38, e146_39, e146_40, e146_43, e146_53, e146_54, e146_57, e146_58, e146_61, e146_62, e146_65, e146_66, e146_69, e146_70, e146_73, e146_76, e146_79, e146_80, e146_81, e146_84, e146_85, e146_88, e146_91, e146_94, e146_95, e146_98, e146_101, rk_n, rk_v, nl_n, nl_i, nl_r, cat_n, ip_cat_int, ip_cat_ref, ip_cat_long, ip_rf_some, Nat.reduceAdd, Nat.reduceLeDiff, Nat.reduceLT, Nat.le_refl, Nat.zero_le, hR, hR2, hR3, N1, y3, b0, e1, e2, l0, g0, A1, C24, C41, w1, j4, show ((1 : Int32) < 0) = False from eq_false (by decide), show ((1 : Int32) ≤ 2) = True from eq_true (by decide), Bool.false_eq_true, Bool.true_eq_false, if_true, if_false, not_true_eq_false, not_false_eq_true, zle, eq_self]
              · have w2 : x2 = 2 := by
                  obtain ⟨k, hk, rfl⟩ := nu_of g3.1
                  have : k ≤ 2 := (nu_le (s := 2) hk (by omega)).mp g3.2
                  have k0 : ¬ k = 0 := fun e => w0 (by rw [e]; rfl)
                  have k1 : ¬ k = 1 := fun e => w1 (by rw [e]; rfl)
                  have : k = 2 := by omega
                  rw [this]; rfl
                have e20 : ¬ (2 : Int32) = 0 := by decide
                have e21 : ¬ (2 : Int32) = 1 := by decide
                simp only [en146, e146_0, e146_1, e146_4, e146_5, e146_8, e146_9, e146_12, e146_13, e146_16, e146_19, e146_30, e146_31, e146_34, e146_35, e146_38, e146_39, e146_40, e146_43, e146_53, e146_54, e146_57, e146_58, e146_61, e146_62, e146_65, e146_66, e146_69, e146_70, e146_73, e146_76, e146_79, e146_80, e146_81, e146_84, e146_85, e146_88, e146_91, e146_94, e146_95, e146_98, e146_101, rk_n, rk_v, nl_n, nl_i, nl_r, cat_n, ip_cat_int, ip_cat_ref, ip_cat_long, ip_rf_some, Nat.reduceAdd, Nat.reduceLeDiff, Nat.reduceLT, Nat.le_refl, Nat.zero_le, hR, hR2, hR3, N1, y3, b0, e1, e2, l0, g0, A1, C24, C41, w2, j5, e20, e21, show ((2 : Int32) < 0) = False from eq_false (by decide), show ((2 : Int32) ≤ 2) = True from eq_true (by decide), Bool.false_eq_true, Bool.true_eq_false, if_true, if_false, not_true_eq_false, not_false_eq_true, zle, eq_self]
          · refine cf_le (d := 10) ?_ (by omega)
            rw [en255]
            simp only [e255_0, e255_1, e255_2, e255_3, e255_5, e255_8, e255_15, e255_16, e255_19, e255_20, e255_23, e255_24, e255_27, e255_28, e255_31, e255_38, e255_39, e255_40, e255_41, e255_44, e255_51, e255_52, e255_55, e255_56, e255_59, rk_n, rk_v, nl_n, nl_i, nl_r, cat_n, ip_cat_int, ip_cat_ref, ip_cat_long, ip_rf_some, Nat.reduceAdd, Nat.reduceLeDiff, Nat.reduceLT, Nat.le_refl, Nat.zero_le, hR3, ia_lit, nu_i, nu_tn, lw, w40, J238, J2w, LA, M1, M3, up_eq, Bool.false_eq_true, Bool.true_eq_false, if_true, if_false, not_true_eq_false, not_false_eq_true, zle, eq_self]
            exact E
        · have g3' : x2 < 0 ∨ ¬ x2 ≤ 2 := by
            by_cases e : x2 < 0
            · exact Or.inl e
            · exact Or.inr (fun h => g3 ⟨e, h⟩)
          obtain ⟨K, LA, oK, PK⟩ := MO J L (sitR R 24 T F B) (nc + 1) (ns + 6) true hR2 (J265 oC)
          have M3 := fun d h => b217 (d := d) (x := x2) (y := 0) (z := 2) (h := h) (by rw [lt2']; exact g3')
          refine same_x (I1 := J) (I2 := ip_up K 265 0 3) (u := 0) (R1 := sitR R 24 T F B) (code := 3) X0 (by decide) (fun d => ?_) oC sit_R (fun d => ?_) (on_scM (on_0 oK)) up_eq
          · refine w145x3 (d := d + 13) ?_
            by_cases e : x2 < 0
            · simp only [en146, e146_0, e146_1, e146_4, e146_5, e146_8, e146_9, e146_12, e146_13, e146_16, e146_19, e146_30, e146_31, e146_34, e146_35, e146_38, e146_39, e146_40, e146_43, e146_53, e146_54, e146_57, e146_58, e146_61, e146_62, e146_65, e146_66, e146_69, e146_70, e146_73, e146_76, e146_79, e146_80, e146_81, e146_84, e146_85, e146_88, e146_91, e146_94, e146_95, e146_98, e146_101, rk_n, rk_v, nl_n, nl_i, nl_r, cat_n, ip_cat_int, ip_cat_ref, ip_cat_long, ip_rf_some, Nat.reduceAdd, Nat.reduceLeDiff, Nat.reduceLT, Nat.le_refl, Nat.zero_le, hR, N1, y3, b0, e1, e2, l0, g0, A1, e, Bool.false_eq_true, Bool.true_eq_false, if_true, if_false, not_true_eq_false, not_false_eq_true, zle, eq_self]
              rfl
            · have e2' := g3'.resolve_left e
              simp only [en146, e146_0, e146_1, e146_4, e146_5, e146_8, e146_9, e146_12, e146_13, e146_16, e146_19, e146_30, e146_31, e146_34, e146_35, e146_38, e146_39, e146_40, e146_43, e146_53, e146_54, e146_57, e146_58, e146_61, e146_62, e146_65, e146_66, e146_69, e146_70, e146_73, e146_76, e146_79, e146_80, e146_81, e146_84, e146_85, e146_88, e146_91, e146_94, e146_95, e146_98, e146_101, rk_n, rk_v, nl_n, nl_i, nl_r, cat_n, ip_cat_int, ip_cat_ref, ip_cat_long, ip_rf_some, Nat.reduceAdd, Nat.reduceLeDiff, Nat.reduceLT, Nat.le_refl, Nat.zero_le, hR, N1, y3, b0, e1, e2, l0, g0, A1, e, e2', Bool.false_eq_true, Bool.true_eq_false, if_true, if_false, not_true_eq_false, not_false_eq_true, zle, eq_self]
              rfl
          · simp only [en255, e255_0, e255_1, e255_2, e255_3, e255_5, e255_8, e255_11, e255_12, e255_15, e255_16, e255_19, e255_20, e255_23, e255_24, e255_27, e255_28, e255_31, e255_34, e255_35, e255_38, e255_39, e255_40, e255_41, e255_44, e255_47, e255_48, e255_51, e255_52, e255_55, e255_56, e255_59, e255_62, e255_63, e255_64, e255_65, e255_66, e255_69, e255_70, e255_71, e255_74, e255_75, e255_78, e255_81, e255_82, e255_85, e255_88, e255_89, e255_92, e255_93, e255_94, e255_98, e255_99, e255_102, e255_105, e255_106, e255_108, e255_111, e255_112, e255_115, e255_118, e255_119, e255_121, e255_122, e255_125, e255_128, e255_130, e255_132, e255_135, e255_136, e255_138, e255_139, e255_141, e255_142, e255_145, e255_148, e255_149, e255_151, e255_153, e255_154, e255_155, e255_158, e255_160, e255_161, e255_165, e255_166, e255_169, e255_172, e255_173, e255_175, e255_178, e255_179, e255_182, e255_185, e255_186, e255_187, e255_189, e255_191, e255_192, e255_193, e255_196, e255_199, e255_200, e255_201, e255_204, e255_205, e255_208, e255_211, e255_213, e255_214, e255_216, e255_217, e255_220, e255_221, e255_224, e255_226, e255_227, e255_230, e255_233, e255_234, e255_237, e255_238, e255_239, e255_241, e255_243, e255_246, e255_249, e255_252, e255_255, e255_258, e255_259, e255_260, e255_263, e255_264, e255_267, e255_270, e255_271, e255_272, e255_275, e255_276, e255_279, e255_282, e255_283, e255_286, e255_287, e255_290, e255_291, e255_294, e255_295, e255_298, e255_299, e255_302, e255_303, e255_306, e255_307, rk_n, rk_v, nl_n, nl_i, nl_r, cat_n, ip_cat_int, ip_cat_ref, ip_cat_long, ip_rf_some, Nat.reduceAdd, Nat.reduceLeDiff, Nat.reduceLT, Nat.le_refl, Nat.zero_le, hR2, ia_lit, nu_i, nu_tn, lw, w40, J38, J289, LA, M1, M3, up_eq, Bool.false_eq_true, Bool.true_eq_false, if_true, if_false, not_true_eq_false, not_false_eq_true, zle, eq_self]
      · obtain ⟨K, LA, oK⟩ := MO I L (sitR R 24 T F B) (nc + 1) (ns + 6) true hR2 (fun _ _ _ _ => rfl)
        refine same_x (I1 := I) (I2 := ip_up K 265 0 2) (u := 0) (R1 := sitR R 24 T F B) (code := 2) X0 (by decide) (fun d => ?_) onlyP_refl sit_R (fun d => ?_) (on_scM (on_0 oK)) up_eq
        · refine w145x2 (d := d + 13) ?_
          simp only [en146, e146_0, e146_1, e146_4, e146_5, e146_8, e146_9, e146_12, e146_13, e146_16, e146_19, e146_30, e146_31, e146_34, e146_35, e146_38, e146_39, e146_40, e146_43, e146_53, e146_54, e146_57, e146_58, e146_61, e146_62, e146_65, e146_66, e146_69, e146_70, e146_73, e146_76, e146_79, e146_80, e146_81, e146_84, e146_85, e146_88, e146_91, e146_94, e146_95, e146_98, e146_101, rk_n, rk_v, nl_n, nl_i, nl_r, cat_n, ip_cat_int, ip_cat_ref, ip_cat_long, ip_rf_some, Nat.reduceAdd, Nat.reduceLeDiff, Nat.reduceLT, Nat.le_refl, Nat.zero_le, hR, N1, y3, b0, e1, e2, l0, g0, A1, rk_x hh146, Bool.false_eq_true, Bool.true_eq_false, if_true, if_false, not_true_eq_false, not_false_eq_true, zle, eq_self]
        · simp only [en255, e255_0, e255_1, e255_2, e255_3, e255_5, e255_8, e255_11, e255_12, e255_15, e255_16, e255_19, e255_20, e255_23, e255_24, e255_27, e255_28, e255_31, e255_34, e255_35, e255_38, e255_39, e255_40, e255_41, e255_44, e255_47, e255_48, e255_51, e255_52, e255_55, e255_56, e255_59, e255_62, e255_63, e255_64, e255_65, e255_66, e255_69, e255_70, e255_71, e255_74, e255_75, e255_78, e255_81, e255_82, e255_85, e255_88, e255_89, e255_92, e255_93, e255_94, e255_98, e255_99, e255_102, e255_105, e255_106, e255_108, e255_111, e255_112, e255_115, e255_118, e255_119, e255_121, e255_122, e255_125, e255_128, e255_130, e255_132, e255_135, e255_136, e255_138, e255_139, e255_141, e255_142, e255_145, e255_148, e255_149, e255_151, e255_153, e255_154, e255_155, e255_158, e255_160, e255_161, e255_165, e255_166, e255_169, e255_172, e255_173, e255_175, e255_178, e255_179, e255_182, e255_185, e255_186, e255_187, e255_189, e255_191, e255_192, e255_193, e255_196, e255_199, e255_200, e255_201, e255_204, e255_205, e255_208, e255_211, e255_213, e255_214, e255_216, e255_217, e255_220, e255_221, e255_224, e255_226, e255_227, e255_230, e255_233, e255_234, e255_237, e255_238, e255_239, e255_241, e255_243, e255_246, e255_249, e255_252, e255_255, e255_258, e255_259, e255_260, e255_263, e255_264, e255_267, e255_270, e255_271, e255_272, e255_275, e255_276, e255_279, e255_282, e255_283, e255_286, e255_287, e255_290, e255_291, e255_294, e255_295, e255_298, e255_299, e255_302, e255_303, e255_306, e255_307, rk_n, rk_v, nl_n, nl_i, nl_r, cat_n, ip_cat_int, ip_cat_ref, ip_cat_long, ip_rf_some, Nat.reduceAdd, Nat.reduceLeDiff, Nat.reduceLT, Nat.le_refl, Nat.zero_le, hR2, ia_lit, nu_i, nu_tn, lw, w40, y4, g0, LA, M1, up_eq, Bool.false_eq_true, Bool.true_eq_false, if_true, if_false, not_true_eq_false, not_false_eq_true, zle, eq_self]
    · refine same_x (I1 := I) (I2 := ip_up I 265 0 2) (u := 0) (R1 := R) (code := 2) X0 (by decide) (fun d => ?_) onlyP_refl (fun _ _ _ => rfl) (fun d => ?_) scM_0 up_eq
      · refine w145x2 (d := d + 13) ?_
        simp only [en146, e146_0, e146_1, e146_4, e146_5, e146_8, e146_9, e146_12, e146_13, e146_16, e146_19, e146_30, e146_31, e146_34, e146_35, e146_38, e146_39, e146_40, e146_43, e146_53, e146_54, e146_57, e146_58, e146_61, e146_62, e146_65, e146_66, e146_69, e146_70, e146_73, e146_76, e146_79, e146_80, e146_81, e146_84, e146_85, e146_88, e146_91, e146_94, e146_95, e146_98, e146_101, rk_n, rk_v, nl_n, nl_i, nl_r, cat_n, ip_cat_int, ip_cat_ref, ip_cat_long, ip_rf_some, Nat.reduceAdd, Nat.reduceLeDiff, Nat.reduceLT, Nat.le_refl, Nat.zero_le, hR, N1, y3, b0, e1, e2, l0, g0, Bool.false_eq_true, Bool.true_eq_false, if_true, if_false, not_true_eq_false, not_false_eq_true, zle, eq_self]
        rfl
      · simp only [en255, e255_0, e255_1, e255_2, e255_3, e255_5, e255_8, e255_11, e255_12, e255_15, e255_16, e255_19, e255_20, e255_23, e255_24, e255_27, e255_28, e255_31, e255_34, e255_35, e255_38, e255_39, e255_40, e255_41, e255_44, e255_47, e255_48, e255_51, e255_52, e255_55, e255_56, e255_59, e255_62, e255_63, e255_64, e255_65, e255_66, e255_69, e255_70, e255_71, e255_74, e255_75, e255_78, e255_81, e255_82, e255_85, e255_88, e255_89, e255_92, e255_93, e255_94, e255_98, e255_99, e255_102, e255_105, e255_106, e255_108, e255_111, e255_112, e255_115, e255_118, e255_119, e255_121, e255_122, e255_125, e255_128, e255_130, e255_132, e255_135, e255_136, e255_138, e255_139, e255_141, e255_142, e255_145, e255_148, e255_149, e255_151, e255_153, e255_154, e255_155, e255_158, e255_160, e255_161, e255_165, e255_166, e255_169, e255_172, e255_173, e255_175, e255_178, e255_179, e255_182, e255_185, e255_186, e255_187, e255_189, e255_191, e255_192, e255_193, e255_196, e255_199, e255_200, e255_201, e255_204, e255_205, e255_208, e255_211, e255_213, e255_214, e255_216, e255_217, e255_220, e255_221, e255_224, e255_226, e255_227, e255_230, e255_233, e255_234, e255_237, e255_238, e255_239, e255_241, e255_243, e255_246, e255_249, e255_252, e255_255, e255_258, e255_259, e255_260, e255_263, e255_264, e255_267, e255_270, e255_271, e255_272, e255_275, e255_276, e255_279, e255_282, e255_283, e255_286, e255_287, e255_290, e255_291, e255_294, e255_295, e255_298, e255_299, e255_302, e255_303, e255_306, e255_307, rk_n, rk_v, nl_n, nl_i, nl_r, cat_n, ip_cat_int, ip_cat_ref, ip_cat_long, ip_rf_some, Nat.reduceAdd, Nat.reduceLeDiff, Nat.reduceLT, Nat.le_refl, Nat.zero_le, hR, ia_lit, nu_i, nu_tn, lw, w40, y4, g0, M1, up_eq, Bool.false_eq_true, Bool.true_eq_false, if_true, if_false, not_true_eq_false, not_false_eq_true, zle, eq_self]
  · have g1' := no_p g1
    refine same_x (I1 := I) (I2 := ip_up I 265 0 1) (u := 0) (R1 := R) (code := 1) X0 (by decide) (fun d => ?_) onlyP_refl (fun _ _ _ => rfl) (fun d => ?_) scM_0 up_eq
    · refine w145x1 (d := d + 13) ?_
      have N1 := fun d h => x129 (d := d) (h := h) g1'
      simp only [en146, e146_0, e146_1, e146_4, e146_5, e146_8, e146_9, e146_12, e146_13, e146_16, e146_19, e146_30, e146_31, e146_34, e146_35, e146_38, e146_39, e146_40, e146_43, e146_53, e146_54, e146_57, e146_58, e146_61, e146_62, e146_65, e146_66, e146_69, e146_70, e146_73, e146_76, e146_79, e146_80, e146_81, e146_84, e146_85, e146_88, e146_91, e146_94, e146_95, e146_98, e146_101, rk_n, rk_v, nl_n, nl_i, nl_r, cat_n, ip_cat_int, ip_cat_ref, ip_cat_long, ip_rf_some, Nat.reduceAdd, Nat.reduceLeDiff, Nat.reduceLT, Nat.le_refl, Nat.zero_le, N1, rk_x hh146, Bool.false_eq_true, Bool.true_eq_false, if_true, if_false, not_true_eq_false, not_false_eq_true, zle, eq_self]
      rfl
    · have M1 := fun d h => b217 (d := d) (x := x1) (y := 0) (z := 99) (h := h) (by rw [p99]; exact g1')
      simp only [en255, e255_0, e255_1, e255_2, e255_3, e255_5, e255_8, e255_11, e255_12, e255_15, e255_16, e255_19, e255_20, e255_23, e255_24, e255_27, e255_28, e255_31, e255_34, e255_35, e255_38, e255_39, e255_40, e255_41, e255_44, e255_47, e255_48, e255_51, e255_52, e255_55, e255_56, e255_59, e255_62, e255_63, e255_64, e255_65, e255_66, e255_69, e255_70, e255_71, e255_74, e255_75, e255_78, e255_81, e255_82, e255_85, e255_88, e255_89, e255_92, e255_93, e255_94, e255_98, e255_99, e255_102, e255_105, e255_106, e255_108, e255_111, e255_112, e255_115, e255_118, e255_119, e255_121, e255_122, e255_125, e255_128, e255_130, e255_132, e255_135, e255_136, e255_138, e255_139, e255_141, e255_142, e255_145, e255_148, e255_149, e255_151, e255_153, e255_154, e255_155, e255_158, e255_160, e255_161, e255_165, e255_166, e255_169, e255_172, e255_173, e255_175, e255_178, e255_179, e255_182, e255_185, e255_186, e255_187, e255_189, e255_191, e255_192, e255_193, e255_196, e255_199, e255_200, e255_201, e255_204, e255_205, e255_208, e255_211, e255_213, e255_214, e255_216, e255_217, e255_220, e255_221, e255_224, e255_226, e255_227, e255_230, e255_233, e255_234, e255_237, e255_238, e255_239, e255_241, e255_243, e255_246, e255_249, e255_252, e255_255, e255_258, e255_259, e255_260, e255_263, e255_264, e255_267, e255_270, e255_271, e255_272, e255_275, e255_276, e255_279, e255_282, e255_283, e255_286, e255_287, e255_290, e255_291, e255_294, e255_295, e255_298, e255_299, e255_302, e255_303, e255_306, e255_307, rk_n, rk_v, nl_n, nl_i, nl_r, cat_n, ip_cat_int, ip_cat_ref, ip_cat_long, ip_rf_some, Nat.reduceAdd, Nat.reduceLeDiff, Nat.reduceLT, Nat.le_refl, Nat.zero_le, M1, up_eq, Bool.false_eq_true, Bool.true_eq_false, if_true, if_false, not_true_eq_false, not_false_eq_true, zle, eq_self]
/-! sets as arguments -/
theorem i32_X (x : Int32) : Int32.ofNat x.toBitVec.toNat = x := by
  rw [← Int32.ofBitVec_ofNat, BitVec.ofNat_toNat, BitVec.setWidth_eq, Int32.ofBitVec_toBitVec]
theorem and_spl (x m : Int32) (h : x &&& (m ^^^ -1) = 0) : x = x &&& m := by
  have h2 : ∀ i, (x.toBitVec &&& (m.toBitVec ^^^ (-1 : Int32).toBitVec)).getLsbD i = false := by
    intro i
    have : (x &&& (m ^^^ -1)).toBitVec = x.toBitVec &&& (m.toBitVec ^^^ (-1 : Int32).toBitVec) := rfl
    rw [← this, h]
    exact BitVec.getLsbD_zero
  apply Int32.toBitVec_inj.mp
  show x.toBitVec = x.toBitVec &&& m.toBitVec
  apply BitVec.eq_of_getLsbD_eq
  intro i hi
  have e := h2 i
  have on : (-1 : Int32).toBitVec.getLsbD i = true := by
    have : (-1 : Int32).toBitVec = BitVec.allOnes 32 := rfl
    rw [this, BitVec.getLsbD_allOnes]
    exact decide_eq_true hi
  rw [BitVec.getLsbD_and, BitVec.getLsbD_xor, on] at e
  rw [BitVec.getLsbD_and]
  revert e
  generalize x.toBitVec.getLsbD i = A
  generalize m.toBitVec.getLsbD i = B
  cases A <;> cases B <;> decide
theorem set_k (hc : c ≤ 8) : (x &&& (Int32.ofNat (2 ^ c - 1) ^^^ -1) = 0) ↔ ∃ s, s < 2 ^ c ∧ x = Int32.ofNat s := by
  have P := Nat.two_pow_pos c
  have P8 := p2le hc
  constructor
  · intro h
    have e := and_spl x _ h
    rw [← i32_X x, of_and] at e
    refine ⟨x.toBitVec.toNat &&& (2 ^ c - 1), ?_, ?_⟩
    · have := Nat.and_le_right (n := x.toBitVec.toNat) (m := 2 ^ c - 1)
      omega
    · rw [← e, i32_X]
  · rintro ⟨s, h1, rfl⟩
    rw [of_andn s (by omega) _ (by omega)]
    have : s &&& (255 ^^^ (2 ^ c - 1)) = 0 := by
      apply Nat.eq_of_testBit_eq
      intro i
      rw [Nat.testBit_and, tbn, Nat.zero_testBit, Nat.testBit_two_pow_sub_one]
      cases e : s.testBit i with
      | false => rfl
      | true =>
        have := tb_lt h1 e
        simp [this, show i < 8 by omega]
    rw [this]; rfl
theorem set_m (hc : c ≤ 8) : (¬ x < 0 ∧ ¬ Int32.ofNat (2 ^ c - 1) < x) ↔ ∃ s, s < 2 ^ c ∧ x = Int32.ofNat s := by
  have P := Nat.two_pow_pos c
  have P8 := p2le hc
  constructor
  · rintro ⟨h1, h2⟩
    obtain ⟨s, h3, rfl⟩ := nu_of h1
    have : ¬ 2 ^ c - 1 < s := fun e => h2 ((nu_lt (by omega) h3).mpr e)
    exact ⟨s, by omega, rfl⟩
  · rintro ⟨s, h1, rfl⟩
    exact ⟨nu_nn (by omega), fun e => by have := (nu_lt (by omega) (by omega)).mp e; omega⟩
/-- a set of issues, in both -/
theorem setC (X : REL T c N w t p I L R) : (∃ s, s < 2 ^ c ∧ x = Int32.ofNat s ∧ (∀ d n nc ns nx, cf (d + 1) 98 [.ref 2, .int x] (SH n, I, L, R, nc, ns, nx) = some (.inl none, (SH n, I, L, R, nc, ns, nx))) ∧ (∀ d n K L' R' nc' ns' nx', K 265 17 = I 265 17 → cf (d + 1) 231 [.ref 265, .int x] (SH n, K, L', R', nc', ns', nx') = some (.inl (some (.int 1)), (SH n, K, L', R', nc', ns', nx')))) ∨ ((∀ d n nc ns nx, cf (d + 1) 98 [.ref 2, .int x] (SH n, I, L, R, nc, ns, nx) = some (.inr "java/lang/IllegalArgumentException", ip_hx (SH n, I, L, R, nc, ns, nx))) ∧ (∀ d n K L' R' nc' ns' nx', K 265 17 = I 265 17 → cf (d + 1) 231 [.ref 265, .int x] (SH n, K, L', R', nc', ns', nx') = some (.inl (some (.int 0)), (SH n, K, L', R', nc', ns', nx')))) := by
  have hT : isT T := (REL_C X).1
  obtain ⟨hR, ⟨tt, rT, -, hc8, i6, i17, -⟩, -⟩ := X
  by_cases g : ∃ s, s < 2 ^ c ∧ x = Int32.ofNat s
  · left
    obtain ⟨s, h1, h2⟩ := g
    refine ⟨s, h1, h2, fun d n nc ns nx => c98 rT hT ?_, fun d n K L' R' nc' ns' nx' hK => ?_⟩
    · rw [i6, sh_all c (by omega)]
      exact (set_k hc8).mpr ⟨s, h1, h2⟩
    · obtain ⟨q1, q2⟩ := (set_m hc8).mpr ⟨s, h1, h2⟩
      exact c231 q1 (by rw [hK, i17, sh_all c (by omega)]; exact q2)
  · right
    refine ⟨fun d n nc ns nx => x98 rT hT ?_, fun d n K L' R' nc' ns' nx' hK => b231 ?_⟩
    · rw [i6, sh_all c (by omega)]
      exact fun e => g ((set_k hc8).mp e)
    · rw [hK, i17, sh_all c (by omega)]
      by_cases e : x < 0
      · exact Or.inl e
      · refine Or.inr (Classical.byContradiction (fun h => g ((set_m hc8).mp ⟨e, h⟩)))
/-- PAGES -/
theorem S18 : SAMEX 138 246 [.int x1] Int32.toInt64 := by
  intro n I L R nc ns nx T c N w t p X
  have X0 := X
  have XC := REL_C X
  have XM := REL_M X
  have hR := X.1
  have rT := X.2.1.2.1
  have hc8 : c ≤ 8 := X.2.1.2.2.2.1
  rcases setC (x := x1) X with ⟨s, hs, rfl, C1, M1⟩ | ⟨C1, M1⟩
  · have s8 : s < 256 := Nat.lt_of_lt_of_le hs (p2le hc8)
    have PC := fun d => c131 (d := d) (n := n) (L := L) (nc := nc) (ns := ns) (nx := nx) hR XC.1 XC.2.2.1 hc8 XC.2.2.2.2.1 s8
    have o0 : onlyM scr I (ip_up I 265 0 0) := on_0 onlyM_refl
    have PM := fun d => c247 (d := d) (n := n) (L := ip_up L 307 0 (Int32.ofNat (pgC s (rstI I) c)).toInt64) (nc := nc) (ns := ns) (nx := nx) hR (MTx_on o0 XM) s8
    simp only [← pg_eq (f := rstI I) hs hc8] at PM
    refine same_ok (I1 := I) (I2 := ip_up I 265 0 0) (u := Int32.ofNat (pgC s (rstI I) c)) (R1 := R) (nx1 := nx) X0 _ rfl (fun d => ?_) onlyP_refl (fun _ _ _ => rfl) (fun d => ?_) scM_0 up_eq
    · refine w138 (d := d + 13) ?_
      simp only [en139, e139_0, e139_1, e139_2, e139_5, e139_6, e139_9, e139_10, e139_13, rk_n, rk_v, nl_n, nl_i, nl_r, cat_n, ip_cat_int, ip_cat_ref, ip_cat_long, ip_rf_some, Nat.reduceAdd, Nat.reduceLeDiff, Nat.reduceLT, Nat.le_refl, Nat.zero_le, hR, rT, XC.1, C1, PC, Bool.false_eq_true, Bool.true_eq_false, if_true, if_false, not_true_eq_false, not_false_eq_true, zle, eq_self]
    · simp only [en246, e246_0, e246_1, e246_2, e246_3, e246_6, e246_9, e246_10, e246_13, e246_14, e246_17, e246_18, e246_21, e246_24, e246_25, e246_28, e246_29, e246_30, e246_33, rk_n, rk_v, nl_n, nl_i, nl_r, cat_n, ip_cat_int, ip_cat_ref, ip_cat_long, ip_rf_some, Nat.reduceAdd, Nat.reduceLeDiff, Nat.reduceLT, Nat.le_refl, Nat.zero_le, M1 _ _ _ _ _ _ _ _ rfl, up_eq, PM, Bool.false_eq_true, Bool.true_eq_false, if_true, if_false, not_true_eq_false, not_false_eq_true, zle, eq_self]
  · refine same_x (I1 := I) (I2 := ip_up I 265 0 1) (u := 0) (R1 := R) (code := 1) X0 (by decide) (fun d => ?_) onlyP_refl (fun _ _ _ => rfl) (fun d => ?_) scM_0 up_eq
    · refine w138x1 (d := d + 13) ?_
      simp only [en139, e139_0, e139_1, e139_2, e139_5, e139_6, e139_9, e139_10, e139_13, rk_n, rk_v, nl_n, nl_i, nl_r, cat_n, ip_cat_int, ip_cat_ref, ip_cat_long, ip_rf_some, Nat.reduceAdd, Nat.reduceLeDiff, Nat.reduceLT, Nat.le_refl, Nat.zero_le, C1, rk_x hh139, Bool.false_eq_true, Bool.true_eq_false, if_true, if_false, not_true_eq_false, not_false_eq_true, zle, eq_self]
      rfl
    · simp only [en246, e246_0, e246_1, e246_2, e246_3, e246_6, e246_9, e246_10, e246_13, e246_14, e246_17, e246_18, e246_21, e246_24, e246_25, e246_28, e246_29, e246_30, e246_33, rk_n, rk_v, nl_n, nl_i, nl_r, cat_n, ip_cat_int, ip_cat_ref, ip_cat_long, ip_rf_some, Nat.reduceAdd, Nat.reduceLeDiff, Nat.reduceLT, Nat.le_refl, Nat.zero_le, M1 _ _ _ _ _ _ _ _ rfl, up_eq, Bool.false_eq_true, Bool.true_eq_false, if_true, if_false, not_true_eq_false, not_false_eq_true, zle, eq_self]
end S4
