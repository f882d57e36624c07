/-! CALL BY CALL: pivotal, both -/
section S27b
variable {n d a b T c s t z o w m p lev k side ap b0 b1 N q B C F A i D : Nat} {I J K M I1 I2 : Nat → Nat → Int32} {L L' : Nat → Nat → Int64} {R R' : Nat → Nat → Option Nat} {nc ns : Nat} {nx : Bool} {x y j v u code x1 x2 x3 : Int32} {P : Nat → Nat → Prop} {h' h : ip_H}
theorem S27 : SAMEB 22 270 [] := by
  intro n I L R nc ns nx T c N w t p X
  have X0 := X
  have hR := X.1
  obtain ⟨yC, hyC, CC⟩ := c22 X
  obtain ⟨tt, rT, v3, hc8, i6T, i17, v7, v8, v9, v10, v11, wn, v13⟩ := X.2.1
  have P8 := p2le hc8
  obtain ⟨⟨n1, n2, n3⟩, ⟨y1, y2⟩, ⟨y3, y4⟩, y5⟩ := X.2.2.1
  have lw : w < 2147483648 := by omega
  have w40 : w < 40 := by omega
  obtain ⟨q1, q2, q3, q4, q5, q6, q7, q8, -⟩ := y5 w n3
  obtain ⟨so, lo⟩ := inb_sN q6.2
  obtain ⟨sz, lz⟩ := inb_sN q5.2
  generalize ho : sN (I 293 w) = o at *
  generalize hzz : sN (I 296 w) = zz at *
  have o8 : o < 256 := by omega
  have zz8 : zz < 256 := by omega
  have lz1 : zz < 2147483648 := by omega
  have a38 : ip_up I 265 0 0 265 38 = Int32.ofNat w := (up_k (by decide)).trans y4
  have a17 : ip_up I 265 0 0 265 17 = Int32.ofNat c := (up_k (by decide)).trans i17
  have a293 : ip_up I 265 0 0 293 w = Int32.ofNat o := (up_a (by decide)).trans so
  have a296 : ip_up I 265 0 0 296 w = Int32.ofNat zz := (up_a (by decide)).trans sz
  have bz := of_andn zz zz8 o o8
  rw [and_dj8 zz8 q7] at bz
  have w287 : ∀ s, s < 256 → ip_up I 265 0 0 287 s = wb (winL L T) s := fun s hs => (up_a (by decide)).trans (wn s hs)
  have MM : ∀ d, cf (d + 14) 270 [.ref 265] (SH n, I, L, R, nc, ns, nx) = some (.inl (some (.int (Int32.ofNat yC))), (SH n, ip_up I 265 0 0, L, R, nc, ns, nx)) := by
    intro d
    simp only [en270, e270_0, e270_1, e270_2, e270_5, e270_6, e270_7, e270_8, e270_10, e270_11, e270_14, e270_17, e270_18, e270_21, e270_22, e270_25, e270_26, e270_27, e270_30, e270_33, e270_36, e270_37, e270_40, e270_41, e270_44, e270_45, e270_46, e270_47, e270_48, e270_49, e270_50, e270_51, e270_52, e270_53, e270_56, e270_57, e270_60, e270_61, e270_62, e270_65, e270_66, e270_69, e270_70, e270_71, e270_72, e270_73, e270_75, e270_76, e270_79, e270_81, e270_82, e270_83, e270_86, e270_88, e270_89, e270_90, e270_91, e270_92, e270_93, e270_96, e270_97, e270_100, e270_101, e270_103, e270_104, e270_108, e270_111, e270_113, e270_116, e270_117, e270_120, e270_122, e270_124, e270_125, e270_126, e270_127, e270_130, e270_132, e270_134, e270_135, e270_136, e270_137, e270_138, e270_139, e270_140, e270_143, e270_144, e270_147, e270_148, e270_150, e270_152, e270_153, e270_154, e270_155, e270_156, e270_158, e270_161, e270_162, e270_164, e270_167, e270_168, e270_169, e270_170, e270_173, e270_174, e270_175, e270_176, e270_179, e270_182, e270_183, rk_n, rk_v, nl_n, nl_i, nl_r, cat_n, ip_cat_int, ip_cat_ref, ip_cat_long, ip_rf_some, Nat.reduceAdd, Nat.reduceLeDiff, Nat.reduceLT, Nat.le_refl, Nat.zero_le, Bool.false_eq_true, Bool.true_eq_false, if_true, if_false, not_true_eq_false, not_false_eq_true, zle, eq_self]
    refine Exists.elim (for_ex (c := c) (fun i (x : Nat × Option Value × Option Value × Option Value × Option Value) => rf (d + 14) 270 9 [some (.ref 265), some (.int (Int32.ofNat x.1)), some (.int (Int32.ofNat i)), x.2.1, x.2.2.1, x.2.2.2.1, x.2.2.2.2] [] (SH n, ip_up I 265 0 0, L, R, nc, ns, nx)) (fun i x => ∀ j, x.1.testBit j = true ↔ j < i ∧ o.testBit j = true ∧ ∃ r, r < 256 ∧ r &&& o = r ∧ ¬ winL L T ((zz ||| r) ^^^ 2 ^ j) = winL L T (zz ||| r)) ?_ (0, none, none, none, none) ?_) ?_
    · rintro i ⟨y, l3, l4, l5, l6⟩ hi hy
      try dsimp only at hy
      have i8 : i < 8 := by omega
      have p8 : 2 ^ i < 256 := Nat.pow_lt_pow_right (n := 8) (by omega) i8
      have g : ((Int32.ofNat c : Int32) ≤ Int32.ofNat i) = (c ≤ i) := nu_lit (by omega) (by omega)
      have g1 : ¬ c ≤ i := by omega
      have hb := fun d h => hasB (d := d) (h := h) o8 i8
      by_cases gb : o.testBit i = true
      · have aO := of_andn o o8 _ p8
        have z2 : zz ||| 2 ^ i < 256 := Nat.or_lt_two_pow (n := 8) zz8 p8
        have z2' : zz ||| 2 ^ i < 2147483648 := by omega
        have w1 := w287 _ zz8
        have w2 := w287 _ z2
        have pvi := pv (win := winL L T) i8 zz8 o8 q7 gb
        obtain ⟨f0, hf0⟩ : ∃ f0 : Bool, f0 = !decide (winL L T zz = winL L T (zz ||| 2 ^ i)) := ⟨_, rfl⟩
        obtain ⟨f, hf, E⟩ := t270 (n := n) (I := ip_up I 265 0 0) (L := L) (nc := nc) (ns := ns) (nx := nx) (bs := Int32.ofNat y) hR w287 zz8 (Nat.lt_of_le_of_lt Nat.and_le_left o8 : o &&& (255 ^^^ 2 ^ i) < 256) i8 f0
        refine ⟨(if f = true then y ||| 2 ^ i else y, some (.int (Int32.ofNat (o &&& (255 ^^^ 2 ^ i)))), some (.int (Int32.ofNat zz)), some (.int (if f = true then 1 else 0)), some (.int (Int32.ofNat 0))), ?_, ?_⟩
        · have ff : f = true ↔ ∃ r, r < 256 ∧ r &&& o = r ∧ ¬ winL L T ((zz ||| r) ^^^ 2 ^ i) = winL L T (zz ||| r) := by
            rw [hf, pvi, hf0]; simp
          intro j
          try dsimp only
          by_cases e : j = i
          · subst e
            constructor
            · intro h
              refine ⟨by omega, gb, ff.mp ?_⟩
              cases ef : f with
              | true => rfl
              | false => rw [ef] at h; simp only [Bool.false_eq_true, if_false] at h; have := (hy j).mp h; omega
            · rintro ⟨-, -, h⟩
              rw [if_pos (ff.mpr h), Nat.testBit_or, tb2]; simp
          · have : (if f = true then y ||| 2 ^ i else y).testBit j = y.testBit j := by
              cases f with
              | true => rw [if_pos rfl, Nat.testBit_or, tb2, decide_eq_false (fun h => e h.symm), Bool.or_false]
              | false => rfl
            rw [this, hy j]
            constructor
            · rintro ⟨h1, h2⟩; exact ⟨by omega, h2⟩
            · rintro ⟨h1, h2⟩; exact ⟨by omega, h2⟩
        · try dsimp only
          have T0 : rf (d + 14) 270 9 [some (.ref 265), some (.int (Int32.ofNat y)), some (.int (Int32.ofNat i)), l3, l4, l5, l6] [] (SH n, ip_up I 265 0 0, L, R, nc, ns, nx) = rf (d + 14) 270 106 [some (.ref 265), some (.int (Int32.ofNat y)), some (.int (Int32.ofNat i)), some (.int (Int32.ofNat (o &&& (255 ^^^ 2 ^ i)))), some (.int (Int32.ofNat zz)), some (.int (if f0 = true then 1 else 0)), some (.int (Int32.ofNat (o &&& (255 ^^^ 2 ^ i))))] [] (SH n, ip_up I 265 0 0, L, R, nc, ns, nx) := by
            rw [e270_9, hf0]
            by_cases gw : winL L T zz = winL L T (zz ||| 2 ^ i)
            · simp only [e270_0, e270_1, e270_2, e270_5, e270_6, e270_7, e270_8, e270_10, e270_11, e270_14, e270_17, e270_18, e270_21, e270_22, e270_25, e270_26, e270_27, e270_30, e270_33, e270_36, e270_37, e270_40, e270_41, e270_44, e270_45, e270_46, e270_47, e270_48, e270_49, e270_50, e270_51, e270_52, e270_53, e270_56, e270_57, e270_60, e270_61, e270_62, e270_65, e270_66, e270_69, e270_70, e270_71, e270_72, e270_73, e270_75, e270_76, e270_79, e270_81, e270_82, e270_83, e270_86, e270_88, e270_89, e270_90, e270_91, e270_92, e270_93, e270_96, e270_97, e270_100, e270_101, e270_103, e270_104, e270_108, e270_111, e270_113, e270_116, e270_117, e270_120, e270_122, e270_124, e270_125, e270_126, e270_127, e270_130, e270_132, e270_134, e270_135, e270_136, e270_137, e270_138, e270_139, e270_140, e270_143, e270_144, e270_147, e270_148, e270_150, e270_152, e270_153, e270_154, e270_155, e270_156, e270_158, e270_161, e270_162, e270_164, e270_167, e270_168, e270_169, e270_170, e270_173, e270_174, e270_175, e270_176, e270_179, e270_182, e270_183, rk_n, rk_v, nl_n, nl_i, nl_r, cat_n, ip_cat_int, ip_cat_ref, ip_cat_long, ip_rf_some, Nat.reduceAdd, Nat.reduceLeDiff, Nat.reduceLT, Nat.le_refl, Nat.zero_le, hR, ia_lit, nu_i, nu_tn, lw, w40, lz1, zz8, z2, z2', a17, a38, a293, a296, g, g1, hb, gb, ite_0, i8, sh1, aO, bz, of_or, w1, w2, wb_eq, gw, decide_true, Bool.not_true, Bool.false_eq_true, Bool.false_eq_true, Bool.true_eq_false, if_true, if_false, not_true_eq_false, not_false_eq_true, zle, eq_self]
            · simp only [e270_0, e270_1, e270_2, e270_5, e270_6, e270_7, e270_8, e270_10, e270_11, e270_14, e270_17, e270_18, e270_21, e270_22, e270_25, e270_26, e270_27, e270_30, e270_33, e270_36, e270_37, e270_40, e270_41, e270_44, e270_45, e270_46, e270_47, e270_48, e270_49, e270_50, e270_51, e270_52, e270_53, e270_56, e270_57, e270_60, e270_61, e270_62, e270_65, e270_66, e270_69, e270_70, e270_71, e270_72, e270_73, e270_75, e270_76, e270_79, e270_81, e270_82, e270_83, e270_86, e270_88, e270_89, e270_90, e270_91, e270_92, e270_93, e270_96, e270_97, e270_100, e270_101, e270_103, e270_104, e270_108, e270_111, e270_113, e270_116, e270_117, e270_120, e270_122, e270_124, e270_125, e270_126, e270_127, e270_130, e270_132, e270_134, e270_135, e270_136, e270_137, e270_138, e270_139, e270_140, e270_143, e270_144, e270_147, e270_148, e270_150, e270_152, e270_153, e270_154, e270_155, e270_156, e270_158, e270_161, e270_162, e270_164, e270_167, e270_168, e270_169, e270_170, e270_173, e270_174, e270_175, e270_176, e270_179, e270_182, e270_183, rk_n, rk_v, nl_n, nl_i, nl_r, cat_n, ip_cat_int, ip_cat_ref, ip_cat_long, ip_rf_some, Nat.reduceAdd, Nat.reduceLeDiff, Nat.reduceLT, Nat.le_refl, Nat.zero_le, hR, ia_lit, nu_i, nu_tn, lw, w40, lz1, zz8, z2, z2', a17, a38, a293, a296, g, g1, hb, gb, ite_0, i8, sh1, aO, bz, of_or, w1, w2, wb_eq, gw, decide_false, Bool.not_false, Bool.false_eq_true, Bool.true_eq_false, if_true, if_false, not_true_eq_false, not_false_eq_true, zle, eq_self]
          rw [T0, E]
          have zo : Int32.ofNat y ||| 0 = Int32.ofNat y := by
            have := of_or y 0
            rw [Nat.or_zero] at this
            exact this
          cases f with
          | true => simp only [e270_0, e270_1, e270_2, e270_5, e270_6, e270_7, e270_8, e270_10, e270_11, e270_14, e270_17, e270_18, e270_21, e270_22, e270_25, e270_26, e270_27, e270_30, e270_33, e270_36, e270_37, e270_40, e270_41, e270_44, e270_45, e270_46, e270_47, e270_48, e270_49, e270_50, e270_51, e270_52, e270_53, e270_56, e270_57, e270_60, e270_61, e270_62, e270_65, e270_66, e270_69, e270_70, e270_71, e270_72, e270_73, e270_75, e270_76, e270_79, e270_81, e270_82, e270_83, e270_86, e270_88, e270_89, e270_90, e270_91, e270_92, e270_93, e270_96, e270_97, e270_100, e270_101, e270_103, e270_104, e270_108, e270_111, e270_113, e270_116, e270_117, e270_120, e270_122, e270_124, e270_125, e270_126, e270_127, e270_130, e270_132, e270_134, e270_135, e270_136, e270_137, e270_138, e270_139, e270_140, e270_143, e270_144, e270_147, e270_148, e270_150, e270_152, e270_153, e270_154, e270_155, e270_156, e270_158, e270_161, e270_162, e270_164, e270_167, e270_168, e270_169, e270_170, e270_173, e270_174, e270_175, e270_176, e270_179, e270_182, e270_183, rk_n, rk_v, nl_n, nl_i, nl_r, cat_n, ip_cat_int, ip_cat_ref, ip_cat_long, ip_rf_some, Nat.reduceAdd, Nat.reduceLeDiff, Nat.reduceLT, Nat.le_refl, Nat.zero_le, i8, sh1, of_or, nu_1, (by decide : ¬ (1 : Int32) = 0), Bool.false_eq_true, Bool.true_eq_false, if_true, if_false, not_true_eq_false, not_false_eq_true, zle, eq_self]
          | false => simp only [e270_0, e270_1, e270_2, e270_5, e270_6, e270_7, e270_8, e270_10, e270_11, e270_14, e270_17, e270_18, e270_21, e270_22, e270_25, e270_26, e270_27, e270_30, e270_33, e270_36, e270_37, e270_40, e270_41, e270_44, e270_45, e270_46, e270_47, e270_48, e270_49, e270_50, e270_51, e270_52, e270_53, e270_56, e270_57, e270_60, e270_61, e270_62, e270_65, e270_66, e270_69, e270_70, e270_71, e270_72, e270_73, e270_75, e270_76, e270_79, e270_81, e270_82, e270_83, e270_86, e270_88, e270_89, e270_90, e270_91, e270_92, e270_93, e270_96, e270_97, e270_100, e270_101, e270_103, e270_104, e270_108, e270_111, e270_113, e270_116, e270_117, e270_120, e270_122, e270_124, e270_125, e270_126, e270_127, e270_130, e270_132, e270_134, e270_135, e270_136, e270_137, e270_138, e270_139, e270_140, e270_143, e270_144, e270_147, e270_148, e270_150, e270_152, e270_153, e270_154, e270_155, e270_156, e270_158, e270_161, e270_162, e270_164, e270_167, e270_168, e270_169, e270_170, e270_173, e270_174, e270_175, e270_176, e270_179, e270_182, e270_183, rk_n, rk_v, nl_n, nl_i, nl_r, cat_n, ip_cat_int, ip_cat_ref, ip_cat_long, ip_rf_some, Nat.reduceAdd, Nat.reduceLeDiff, Nat.reduceLT, Nat.le_refl, Nat.zero_le, zo, nu_1, Bool.false_eq_true, Bool.false_eq_true, Bool.true_eq_false, if_true, if_false, not_true_eq_false, not_false_eq_true, zle, eq_self]
      · refine ⟨(y, l3, l4, l5, l6), ?_, ?_⟩
        · intro j
          try dsimp only
          rw [hy j]
          constructor
          · rintro ⟨h1, h2⟩; exact ⟨by omega, h2⟩
          · rintro ⟨h1, h2, h3⟩
            by_cases e : j = i
            · subst e; exact absurd h2 gb
            · exact ⟨by omega, h2, h3⟩
        · try dsimp only
          rw [e270_9]
          simp only [e270_0, e270_1, e270_2, e270_5, e270_6, e270_7, e270_8, e270_10, e270_11, e270_14, e270_17, e270_18, e270_21, e270_22, e270_25, e270_26, e270_27, e270_30, e270_33, e270_36, e270_37, e270_40, e270_41, e270_44, e270_45, e270_46, e270_47, e270_48, e270_49, e270_50, e270_51, e270_52, e270_53, e270_56, e270_57, e270_60, e270_61, e270_62, e270_65, e270_66, e270_69, e270_70, e270_71, e270_72, e270_73, e270_75, e270_76, e270_79, e270_81, e270_82, e270_83, e270_86, e270_88, e270_89, e270_90, e270_91, e270_92, e270_93, e270_96, e270_97, e270_100, e270_101, e270_103, e270_104, e270_108, e270_111, e270_113, e270_116, e270_117, e270_120, e270_122, e270_124, e270_125, e270_126, e270_127, e270_130, e270_132, e270_134, e270_135, e270_136, e270_137, e270_138, e270_139, e270_140, e270_143, e270_144, e270_147, e270_148, e270_150, e270_152, e270_153, e270_154, e270_155, e270_156, e270_158, e270_161, e270_162, e270_164, e270_167, e270_168, e270_169, e270_170, e270_173, e270_174, e270_175, e270_176, e270_179, e270_182, e270_183, rk_n, rk_v, nl_n, nl_i, nl_r, cat_n, ip_cat_int, ip_cat_ref, ip_cat_long, ip_rf_some, Nat.reduceAdd, Nat.reduceLeDiff, Nat.reduceLT, Nat.le_refl, Nat.zero_le, hR, ia_lit, nu_i, nu_tn, lw, w40, a17, a38, a293, g, g1, hb, gb, ite_0, nu_1, Bool.false_eq_true, Bool.true_eq_false, if_true, if_false, not_true_eq_false, not_false_eq_true, zle, eq_self]
    · intro j
      constructor
      · intro h
        have : (0 : Nat).testBit j = true := h
        rw [Nat.zero_testBit] at this
        exact absurd this (by decide)
      · rintro ⟨h, -⟩; omega
    · rintro ⟨y, l3, l4, l5, l6⟩ ⟨hy, e⟩
      refine Eq.trans e ?_
      try dsimp only at hy
      try dsimp only
      have ey : y = yC := set_ext fun j => Bool.eq_iff_iff.mpr ((hy j).trans (hyC j).symm)
      have g : ((Int32.ofNat c : Int32) ≤ Int32.ofNat c) = True := by simp
      rw [ey, e270_9]
      simp only [e270_0, e270_1, e270_2, e270_5, e270_6, e270_7, e270_8, e270_10, e270_11, e270_14, e270_17, e270_18, e270_21, e270_22, e270_25, e270_26, e270_27, e270_30, e270_33, e270_36, e270_37, e270_40, e270_41, e270_44, e270_45, e270_46, e270_47, e270_48, e270_49, e270_50, e270_51, e270_52, e270_53, e270_56, e270_57, e270_60, e270_61, e270_62, e270_65, e270_66, e270_69, e270_70, e270_71, e270_72, e270_73, e270_75, e270_76, e270_79, e270_81, e270_82, e270_83, e270_86, e270_88, e270_89, e270_90, e270_91, e270_92, e270_93, e270_96, e270_97, e270_100, e270_101, e270_103, e270_104, e270_108, e270_111, e270_113, e270_116, e270_117, e270_120, e270_122, e270_124, e270_125, e270_126, e270_127, e270_130, e270_132, e270_134, e270_135, e270_136, e270_137, e270_138, e270_139, e270_140, e270_143, e270_144, e270_147, e270_148, e270_150, e270_152, e270_153, e270_154, e270_155, e270_156, e270_158, e270_161, e270_162, e270_164, e270_167, e270_168, e270_169, e270_170, e270_173, e270_174, e270_175, e270_176, e270_179, e270_182, e270_183, rk_n, rk_v, nl_n, nl_i, nl_r, cat_n, ip_cat_int, ip_cat_ref, ip_cat_long, ip_rf_some, Nat.reduceAdd, Nat.reduceLeDiff, Nat.reduceLT, Nat.le_refl, Nat.zero_le, a17, g, Bool.false_eq_true, Bool.true_eq_false, if_true, if_false, not_true_eq_false, not_false_eq_true, zle, eq_self]
  exact ⟨Int32.ofNat yC, I, ip_up I 265 0 0, L, L, R, nc, ns, nx, T, c, N, w, t, p, fun d => CC d n nc ns nx, MM, REL_q X0 (onlyP_mono scM_0 (fun _ _ e => Or.inr e)) (fun _ _ _ => rfl) (fun _ _ _ => rfl), by omega, by omega, fun k => up_a (by decide)⟩
end S27b
