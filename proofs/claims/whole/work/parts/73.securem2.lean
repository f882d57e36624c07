/-! SECURED: the model's loops -/
section SN
variable {n d a b T c s t z o w m p lev k side ap b0 b1 h0 h1 md C F B pg po u : Nat} {I J K : Nat → Nat → Int32} {L : Nat → Nat → Int64} {R : Nat → Nat → Option Nat} {nc ns : Nat} {nx : Bool} {x y j v lv hw0 what : Int32} {h : ip_H} {f g std rst V : Nat → Nat} {win : Nat → Bool} {br fl : Nat → Int32} {l6 l7 l8 l10 l11 l12 l13 : Option Value}
theorem l253i (hR : LYR R) (X : MTx c std rst br win I) (M : MNd w p lev V fl I) (hl : lev = 1 ∨ lev = 2) (Z : MSIT c std rst br win V fl lev ap I) (a2 : ap < 2) (N : KN c std rst br win V fl lev ap I) (s2 : s < 2 ^ c) (hp : pg < 2147483648)
    (n6 : ip_nl l6 = true) (n7 : ip_nl l7 = true) (n8 : ip_nl l8 = true) (n10 : ip_nl l10 = true) (n11 : ip_nl l11 = true) (n12 : ip_nl l12 = true) (n13 : ip_nl l13 = true) :
    ∃ J l13', ip_nl l13' = true ∧ rf (d + 5) 253 161 [some (.ref 265), some (.int x), some (.int (Int32.ofNat pg)), some (.int what), some (.int (Int32.ofNat (heardN c std rst br win V fl lev ap))), some (.int (Int32.ofNat (heardN c std rst br win V fl lev (1 - ap)))), l6, l7, l8, some (.int (Int32.ofNat s)), l10, l11, l12, l13] [] (SH n, I, L, R, nc, ns, nx) = rf (d + 5) 253 241 [some (.ref 265), some (.int x), some (.int (Int32.ofNat pg)), some (.int what), some (.int (Int32.ofNat (heardN c std rst br win V fl lev ap))), some (.int (Int32.ofNat (heardN c std rst br win V fl lev (1 - ap)))), l6, l7, l8, some (.int (Int32.ofNat s)), some (.int (Int32.ofNat (wrk c std rst br win V fl lev ap pg (s &&& errS c std rst br win V fl lev ap)))), some (.int (Int32.ofNat (ansN c std rst br win V fl lev ap pg (s &&& errS c std rst br win V fl lev ap)))), some (.int (Int32.ofNat (2 ^ c))), l13'] [] (SH n, J, L, R, nc, ns, nx) ∧ onlyP P5 I J ∧ KN c std rst br win V fl lev ap J := by
  have hc8 := X.1
  have P8 := p2le hc8
  have P1 : 0 < 2 ^ c := Nat.two_pow_pos c
  have s8 : s < 256 := by omega
  have hr := X.2.2.2.1
  simp only [e253_161, e253_162, e253_164, e253_165, e253_167, e253_168, rk_n, rk_v, nl_n, nl_i, nl_r, cat_n, ip_cat_int, ip_cat_ref, ip_cat_long, ip_rf_some, Nat.reduceAdd, Nat.reduceLeDiff, Nat.reduceLT, Nat.le_refl, Nat.zero_le, n8, n10, n11, Bool.false_eq_true, Bool.true_eq_false, if_true, if_false, not_true_eq_false, not_false_eq_true, zle, eq_self]
  have z0 : Int32.ofNat 0 = 0 := rfl
  refine Exists.elim (for_ex (c := 2 ^ c) (fun k (x4 : Int32 × Nat × Option Value × (Nat → Nat → Int32)) => rf (d + 5) 253 170 [some (.ref 265), some (.int x), some (.int (Int32.ofNat pg)), some (.int what), some (.int (Int32.ofNat (heardN c std rst br win V fl lev ap))), some (.int (Int32.ofNat (heardN c std rst br win V fl lev (1 - ap)))), l6, l7, l8, some (.int (Int32.ofNat s)), some (.int x4.1), some (.int (Int32.ofNat x4.2.1)), some (.int (Int32.ofNat k)), x4.2.2.1] [] (SH n, x4.2.2.2, L, R, nc, ns, nx)) (fun k x4 => ip_nl x4.2.2.1 = true ∧ onlyP P5 I x4.2.2.2 ∧ KN c std rst br win V fl lev ap x4.2.2.2 ∧ ((k = 0 ∧ x4.1 = -1) ∨ (0 < k ∧ x4.1 = Int32.ofNat (r2N c std rst br win V fl lev ap (s &&& errS c std rst br win V fl lev ap) (x4.2.1 &&& errS c std rst br win V fl lev (1 - ap))) ∧ x4.2.1 < k ∧ pgM x4.2.1 rst c ≤ pg ∧ ∀ t, t < k → pgM t rst c ≤ pg → r2N c std rst br win V fl lev ap (s &&& errS c std rst br win V fl lev ap) (x4.2.1 &&& errS c std rst br win V fl lev (1 - ap)) * 256 + x4.2.1 ≤ r2N c std rst br win V fl lev ap (s &&& errS c std rst br win V fl lev ap) (t &&& errS c std rst br win V fl lev (1 - ap)) * 256 + t))) ?_ (-1, 0, l13, I) ?_) ?_
  · rintro k ⟨wv, f, l13, J⟩ hk ⟨n13, o1, K1, H⟩
    dsimp only at n13 o1 K1 H ⊢
    have X1 := MTx_5 o1 X
    have M1 := MNd_5 o1 M
    have Z1 := MSIT_5 o1 Z
    have k8 : k < 256 := by omega
    have lk : k < 2147483648 := by omega
    have lc : 2 ^ c - 1 < 2147483648 := by omega
    have AL := all_n (d := d + 4) (n := n) (L := L) (R := R) (nc := nc) (ns := ns) (nx := nx) hc8 X1.2.1
    have g1 : (Int32.ofNat (2 ^ c - 1) < Int32.ofNat k) = False := eq_false (fun e => by
      have := (nu_lt lc lk).mp e
      omega)
    have PG := c247 (d := d + 3) (n := n) (L := L) (nc := nc) (ns := ns) (nx := nx) hR X1 k8
    have pl := pgM_le (s := k) (c := c) (f := rst) (fun k hk => (hr k hk).2) c (Nat.le_refl c)
    have gp : (Int32.ofNat (pgM k rst c) ≤ Int32.ofNat pg) = (pgM k rst c ≤ pg) := nu_ge (by omega) hp
    obtain ⟨J1, E1, o2, K2⟩ := c254 (d := d) (n := n) (L := L) (nc := nc) (ns := ns) (nx := nx) hR X1 M1 hl Z1 a2 K1 s8 k8
    have o3 := onlyP_tr o1 o2
    have rl := rkN_le (outE c std rst br win V fl lev ap (s &&& errS c std rst br win V fl lev ap) ((s &&& errS c std rst br win V fl lev ap) ||| (k &&& errS c std rst br win V fl lev (1 - ap))))
    have rd : rkN (outE c std rst br win V fl lev ap (s &&& errS c std rst br win V fl lev ap) ((s &&& errS c std rst br win V fl lev ap) ||| (k &&& errS c std rst br win V fl lev (1 - ap)))) = r2N c std rst br win V fl lev ap (s &&& errS c std rst br win V fl lev ap) (k &&& errS c std rst br win V fl lev (1 - ap)) := rfl
    rw [rd] at rl
    by_cases q1 : pgM k rst c ≤ pg
    · rcases H with ⟨h1, h2⟩ | ⟨h1, h2, h3, h4, h5⟩
      · refine ⟨(Int32.ofNat (r2N c std rst br win V fl lev ap (s &&& errS c std rst br win V fl lev ap) (k &&& errS c std rst br win V fl lev (1 - ap))), k, some (.int (Int32.ofNat (r2N c std rst br win V fl lev ap (s &&& errS c std rst br win V fl lev ap) (k &&& errS c std rst br win V fl lev (1 - ap))))), J1), ⟨nl_i, o3, K2, Or.inr ⟨by omega, rfl, by show k < k + 1; omega, q1, ?_⟩⟩, ?_⟩
        · intro t ht hA
          have : t = k := by omega
          subst this
          exact Nat.le_refl _
        · rw [e253_170]
          simp only [e253_0, e253_1, e253_2, e253_3, e253_5, e253_8, e253_11, e253_12, e253_13, e253_15, e253_18, e253_21, e253_22, e253_25, e253_26, e253_29, e253_32, e253_33, e253_36, e253_37, e253_38, e253_39, e253_42, e253_45, e253_46, e253_49, e253_50, e253_53, e253_54, e253_57, e253_60, e253_61, e253_62, e253_63, e253_67, e253_70, e253_73, e253_74, e253_77, e253_79, e253_80, e253_81, e253_84, e253_87, e253_88, e253_91, e253_94, e253_95, e253_98, e253_101, e253_102, e253_105, e253_107, e253_108, e253_111, e253_114, e253_115, e253_118, e253_121, e253_122, e253_125, e253_127, e253_128, e253_130, e253_131, e253_133, e253_134, e253_136, e253_137, e253_141, e253_142, e253_145, e253_148, e253_149, e253_151, e253_154, e253_155, e253_158, e253_161, e253_162, e253_164, e253_165, e253_167, e253_168, e253_172, e253_173, e253_176, e253_179, e253_180, e253_182, e253_185, e253_186, e253_189, e253_192, e253_193, e253_195, e253_197, e253_198, e253_200, e253_202, e253_203, e253_206, e253_209, e253_211, e253_213, e253_214, e253_217, e253_219, e253_221, e253_224, e253_227, e253_229, e253_231, e253_233, e253_235, e253_238, e253_241, e253_243, e253_244, e253_247, e253_249, e253_251, e253_254, e253_256, e253_258, e253_261, e253_263, e253_266, e253_268, e253_271, e253_274, e253_277, e253_279, e253_281, e253_283, e253_285, e253_287, e253_289, e253_292, e253_295, e253_296, e253_299, e253_301, e253_304, e253_305, e253_306, e253_309, e253_311, e253_314, e253_316, e253_317, e253_320, e253_321, e253_324, e253_326, e253_327, e253_330, e253_331, e253_334, e253_335, rk_n, rk_v, nl_n, nl_i, nl_r, cat_n, ip_cat_int, ip_cat_ref, ip_cat_long, ip_rf_some, Nat.reduceAdd, Nat.reduceLeDiff, Nat.reduceLT, Nat.le_refl, Nat.zero_le, AL, g1, PG, gp, q1, of_and, E1, c250, rd, h2, nu_1, n6, n7, n8, n10, n11, n12, n13, Bool.false_eq_true, Bool.true_eq_false, if_true, if_false, not_true_eq_false, not_false_eq_true, zle, eq_self]
      · have rl2 := rkN_le (outE c std rst br win V fl lev ap (s &&& errS c std rst br win V fl lev ap) ((s &&& errS c std rst br win V fl lev ap) ||| (f &&& errS c std rst br win V fl lev (1 - ap))))
        have rd2 : rkN (outE c std rst br win V fl lev ap (s &&& errS c std rst br win V fl lev ap) ((s &&& errS c std rst br win V fl lev ap) ||| (f &&& errS c std rst br win V fl lev (1 - ap)))) = r2N c std rst br win V fl lev ap (s &&& errS c std rst br win V fl lev ap) (f &&& errS c std rst br win V fl lev (1 - ap)) := rfl
        rw [rd2] at rl2
        have m1 : (Int32.ofNat (r2N c std rst br win V fl lev ap (s &&& errS c std rst br win V fl lev ap) (f &&& errS c std rst br win V fl lev (1 - ap))) = -1) = False := eq_false (nu_m1 (by omega))
        have lr : (Int32.ofNat (r2N c std rst br win V fl lev ap (s &&& errS c std rst br win V fl lev ap) (k &&& errS c std rst br win V fl lev (1 - ap))) < Int32.ofNat (r2N c std rst br win V fl lev ap (s &&& errS c std rst br win V fl lev ap) (f &&& errS c std rst br win V fl lev (1 - ap)))) = (r2N c std rst br win V fl lev ap (s &&& errS c std rst br win V fl lev ap) (k &&& errS c std rst br win V fl lev (1 - ap)) < r2N c std rst br win V fl lev ap (s &&& errS c std rst br win V fl lev ap) (f &&& errS c std rst br win V fl lev (1 - ap))) := propext (nu_lt (by omega) (by omega))
        by_cases q2 : r2N c std rst br win V fl lev ap (s &&& errS c std rst br win V fl lev ap) (k &&& errS c std rst br win V fl lev (1 - ap)) < r2N c std rst br win V fl lev ap (s &&& errS c std rst br win V fl lev ap) (f &&& errS c std rst br win V fl lev (1 - ap))
        · refine ⟨(Int32.ofNat (r2N c std rst br win V fl lev ap (s &&& errS c std rst br win V fl lev ap) (k &&& errS c std rst br win V fl lev (1 - ap))), k, some (.int (Int32.ofNat (r2N c std rst br win V fl lev ap (s &&& errS c std rst br win V fl lev ap) (k &&& errS c std rst br win V fl lev (1 - ap))))), J1), ⟨nl_i, o3, K2, Or.inr ⟨by omega, rfl, by show k < k + 1; omega, q1, ?_⟩⟩, ?_⟩
          · intro t ht hA
            by_cases e : t = k
            · subst e; exact Nat.le_refl _
            · exact w_take q2 k8 (h5 t (by omega) hA)
          · rw [e253_170]
            simp only [e253_0, e253_1, e253_2, e253_3, e253_5, e253_8, e253_11, e253_12, e253_13, e253_15, e253_18, e253_21, e253_22, e253_25, e253_26, e253_29, e253_32, e253_33, e253_36, e253_37, e253_38, e253_39, e253_42, e253_45, e253_46, e253_49, e253_50, e253_53, e253_54, e253_57, e253_60, e253_61, e253_62, e253_63, e253_67, e253_70, e253_73, e253_74, e253_77, e253_79, e253_80, e253_81, e253_84, e253_87, e253_88, e253_91, e253_94, e253_95, e253_98, e253_101, e253_102, e253_105, e253_107, e253_108, e253_111, e253_114, e253_115, e253_118, e253_121, e253_122, e253_125, e253_127, e253_128, e253_130, e253_131, e253_133, e253_134, e253_136, e253_137, e253_141, e253_142, e253_145, e253_148, e253_149, e253_151, e253_154, e253_155, e253_158, e253_161, e253_162, e253_164, e253_165, e253_167, e253_168, e253_172, e253_173, e253_176, e253_179, e253_180, e253_182, e253_185, e253_186, e253_189, e253_192, e253_193, e253_195, e253_197, e253_198, e253_200, e253_202, e253_203, e253_206, e253_209, e253_211, e253_213, e253_214, e253_217, e253_219, e253_221, e253_224, e253_227, e253_229, e253_231, e253_233, e253_235, e253_238, e253_241, e253_243, e253_244, e253_247, e253_249, e253_251, e253_254, e253_256, e253_258, e253_261, e253_263, e253_266, e253_268, e253_271, e253_274, e253_277, e253_279, e253_281, e253_283, e253_285, e253_287, e253_289, e253_292, e253_295, e253_296, e253_299, e253_301, e253_304, e253_305, e253_306, e253_309, e253_311, e253_314, e253_316, e253_317, e253_320, e253_321, e253_324, e253_326, e253_327, e253_330, e253_331, e253_334, e253_335, rk_n, rk_v, nl_n, nl_i, nl_r, cat_n, ip_cat_int, ip_cat_ref, ip_cat_long, ip_rf_some, Nat.reduceAdd, Nat.reduceLeDiff, Nat.reduceLT, Nat.le_refl, Nat.zero_le, AL, g1, PG, gp, q1, of_and, E1, c250, rd, h2, m1, lr, q2, nu_1, n6, n7, n8, n10, n11, n12, n13, Bool.false_eq_true, Bool.true_eq_false, if_true, if_false, not_true_eq_false, not_false_eq_true, zle, eq_self]
        · refine ⟨(wv, f, some (.int (Int32.ofNat (r2N c std rst br win V fl lev ap (s &&& errS c std rst br win V fl lev ap) (k &&& errS c std rst br win V fl lev (1 - ap))))), J1), ⟨nl_i, o3, K2, Or.inr ⟨by omega, h2, by show f < k + 1; omega, h4, ?_⟩⟩, ?_⟩
          · intro t ht hA
            by_cases e : t = k
            · subst e; exact w_keep (Nat.le_of_not_lt q2) (Nat.le_of_lt h3)
            · exact h5 t (by omega) hA
          · rw [e253_170]
            simp only [e253_0, e253_1, e253_2, e253_3, e253_5, e253_8, e253_11, e253_12, e253_13, e253_15, e253_18, e253_21, e253_22, e253_25, e253_26, e253_29, e253_32, e253_33, e253_36, e253_37, e253_38, e253_39, e253_42, e253_45, e253_46, e253_49, e253_50, e253_53, e253_54, e253_57, e253_60, e253_61, e253_62, e253_63, e253_67, e253_70, e253_73, e253_74, e253_77, e253_79, e253_80, e253_81, e253_84, e253_87, e253_88, e253_91, e253_94, e253_95, e253_98, e253_101, e253_102, e253_105, e253_107, e253_108, e253_111, e253_114, e253_115, e253_118, e253_121, e253_122, e253_125, e253_127, e253_128, e253_130, e253_131, e253_133, e253_134, e253_136, e253_137, e253_141, e253_142, e253_145, e253_148, e253_149, e253_151, e253_154, e253_155, e253_158, e253_161, e253_162, e253_164, e253_165, e253_167, e253_168, e253_172, e253_173, e253_176, e253_179, e253_180, e253_182, e253_185, e253_186, e253_189, e253_192, e253_193, e253_195, e253_197, e253_198, e253_200, e253_202, e253_203, e253_206, e253_209, e253_211, e253_213, e253_214, e253_217, e253_219, e253_221, e253_224, e253_227, e253_229, e253_231, e253_233, e253_235, e253_238, e253_241, e253_243, e253_244, e253_247, e253_249, e253_251, e253_254, e253_256, e253_258, e253_261, e253_263, e253_266, e253_268, e253_271, e253_274, e253_277, e253_279, e253_281, e253_283, e253_285, e253_287, e253_289, e253_292, e253_295, e253_296, e253_299, e253_301, e253_304, e253_305, e253_306, e253_309, e253_311, e253_314, e253_316, e253_317, e253_320, e253_321, e253_324, e253_326, e253_327, e253_330, e253_331, e253_334, e253_335, rk_n, rk_v, nl_n, nl_i, nl_r, cat_n, ip_cat_int, ip_cat_ref, ip_cat_long, ip_rf_some, Nat.reduceAdd, Nat.reduceLeDiff, Nat.reduceLT, Nat.le_refl, Nat.zero_le, AL, g1, PG, gp, q1, of_and, E1, c250, rd, h2, m1, lr, q2, nu_1, n6, n7, n8, n10, n11, n12, n13, Bool.false_eq_true, Bool.true_eq_false, if_true, if_false, not_true_eq_false, not_false_eq_true, zle, eq_self]
    · refine ⟨(wv, f, l13, J), ⟨n13, o1, K1, Or.inr ?_⟩, ?_⟩
      · rcases H with ⟨h1, h2⟩ | ⟨h1, h2, h3, h4, h5⟩
        · subst h1
          rw [pgM_0] at q1
          omega
        · refine ⟨by omega, h2, by show f < k + 1; omega, h4, ?_⟩
          intro t ht hA
          by_cases e : t = k
          · subst e; exact absurd hA q1
          · exact h5 t (by omega) hA
      · rw [e253_170]
        simp only [e253_0, e253_1, e253_2, e253_3, e253_5, e253_8, e253_11, e253_12, e253_13, e253_15, e253_18, e253_21, e253_22, e253_25, e253_26, e253_29, e253_32, e253_33, e253_36, e253_37, e253_38, e253_39, e253_42, e253_45, e253_46, e253_49, e253_50, e253_53, e253_54, e253_57, e253_60, e253_61, e253_62, e253_63, e253_67, e253_70, e253_73, e253_74, e253_77, e253_79, e253_80, e253_81, e253_84, e253_87, e253_88, e253_91, e253_94, e253_95, e253_98, e253_101, e253_102, e253_105, e253_107, e253_108, e253_111, e253_114, e253_115, e253_118, e253_121, e253_122, e253_125, e253_127, e253_128, e253_130, e253_131, e253_133, e253_134, e253_136, e253_137, e253_141, e253_142, e253_145, e253_148, e253_149, e253_151, e253_154, e253_155, e253_158, e253_161, e253_162, e253_164, e253_165, e253_167, e253_168, e253_172, e253_173, e253_176, e253_179, e253_180, e253_182, e253_185, e253_186, e253_189, e253_192, e253_193, e253_195, e253_197, e253_198, e253_200, e253_202, e253_203, e253_206, e253_209, e253_211, e253_213, e253_214, e253_217, e253_219, e253_221, e253_224, e253_227, e253_229, e253_231, e253_233, e253_235, e253_238, e253_241, e253_243, e253_244, e253_247, e253_249, e253_251, e253_254, e253_256, e253_258, e253_261, e253_263, e253_266, e253_268, e253_271, e253_274, e253_277, e253_279, e253_281, e253_283, e253_285, e253_287, e253_289, e253_292, e253_295, e253_296, e253_299, e253_301, e253_304, e253_305, e253_306, e253_309, e253_311, e253_314, e253_316, e253_317, e253_320, e253_321, e253_324, e253_326, e253_327, e253_330, e253_331, e253_334, e253_335, rk_n, rk_v, nl_n, nl_i, nl_r, cat_n, ip_cat_int, ip_cat_ref, ip_cat_long, ip_rf_some, Nat.reduceAdd, Nat.reduceLeDiff, Nat.reduceLT, Nat.le_refl, Nat.zero_le, AL, g1, PG, gp, q1, nu_1, n6, n7, n8, n10, n11, n12, n13, Bool.false_eq_true, Bool.true_eq_false, if_true, if_false, not_true_eq_false, not_false_eq_true, zle, eq_self]
  · exact ⟨n13, onlyP_refl, N, Or.inl ⟨rfl, rfl⟩⟩
  · rintro ⟨wv, f, l13, J⟩ ⟨⟨n13, o1, K1, H⟩, e⟩
    dsimp only at n13 o1 K1 H
    rcases H with ⟨h1, h2⟩ | ⟨h1, h2, h3, h4, h5⟩
    · omega
    · have fA : f = ansN c std rst br win V fl lev ap pg (s &&& errS c std rst br win V fl lev ap) := worst_eq hc8 errS_lt ansN_ok ⟨⟨h3, h4⟩, by omega, fun t ht hA => h5 t hA.1 hA.2⟩
      have fG : f &&& errS c std rst br win V fl lev (1 - ap) = f := by
        have := (ansN_ok (c := c) (std := std) (rst := rst) (br := br) (win := win) (V := V) (fl := fl) (lev := lev) (ap := ap) (pg := pg) (s := s &&& errS c std rst br win V fl lev ap)).1.1
        rw [← fA] at this
        exact this
      refine ⟨J, l13, n13, ?_, o1, K1⟩
      refine Eq.trans e ?_
      dsimp only
      have X1 := MTx_5 o1 X
      have AL := all_n (d := d + 4) (n := n) (L := L) (R := R) (nc := nc) (ns := ns) (nx := nx) hc8 X1.2.1
      have g1 : (Int32.ofNat (2 ^ c - 1) < Int32.ofNat (2 ^ c)) = True := eq_true ((nu_lt (by omega) (by omega)).mpr (by omega))
      rw [e253_170, h2, fG]
      have wE : wrk c std rst br win V fl lev ap pg (s &&& errS c std rst br win V fl lev ap) = r2N c std rst br win V fl lev ap (s &&& errS c std rst br win V fl lev ap) f := by unfold wrk; rw [← fA]
      rw [wE, ← fA]
      simp only [e253_172, e253_173, e253_176, rk_n, rk_v, nl_n, nl_i, nl_r, cat_n, ip_cat_int, ip_cat_ref, ip_cat_long, ip_rf_some, Nat.reduceAdd, Nat.reduceLeDiff, Nat.reduceLT, Nat.le_refl, Nat.zero_le, AL, g1, Bool.false_eq_true, Bool.true_eq_false, if_true, if_false, not_true_eq_false, not_false_eq_true, zle, eq_self]
end SN
