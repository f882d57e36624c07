/-! CALL BY CALL: ways -/
section S28
variable {n d a b T c s t z o w m p lev k side ap b0 b1 N q B C F A i : Nat} {I J K M I1 I2 : Nat → Nat → Int32} {L L' : Nat → Nat → Int64} {R R' : Nat → Nat → Option Nat} {nc ns : Nat} {nx : Bool} {x y j v u code x1 x2 x3 : Int32} {P : Nat → Nat → Prop} {h' h : ip_H}
theorem and_dj8 {zz : Nat} (z8 : zz < 256) (h : zz &&& o = 0) : zz &&& (255 ^^^ o) = zz := by
  refine set_ext fun j => ?_
  have D := congrArg (fun t => t.testBit j) h
  simp only [Nat.testBit_and, Nat.zero_testBit] at D
  rw [Nat.testBit_and, tbn]
  by_cases hj : j < 8
  · rw [decide_eq_true hj]
    revert D
    cases zz.testBit j <;> cases o.testBit j <;> decide
  · rw [tb_hi z8 (by omega)]; rfl
theorem S28 : SAMEX 162 271 [.int x1] Int32.toInt64 := by
  intro n I L R nc ns nx T c N w t p X
  have X0 := X
  have hR := X.1
  have hT : isT T := (REL_C X).1
  obtain ⟨tt, rT, v3, hc8, i6T, i17, v7, v8, v9, v10, v11, wn, v13⟩ := X.2.1
  have P8 := p2le hc8
  obtain ⟨⟨n1, n2, n3⟩, ⟨y1, y2⟩, ⟨y3, y4⟩, y5⟩ := X.2.2.1
  have b0 := (nu_inb (t := w) (k := 40) (by omega)).mpr (by omega)
  have e1 := nd_of (k := w) (by omega)
  have iw := isN_nd (k := w) (by omega)
  have lw : w < 2147483648 := by omega
  have w40 : w < 40 := by omega
  obtain ⟨q1, q2, q3, q4, q5, q6, q7, q8, -⟩ := y5 w n3
  obtain ⟨so, lo⟩ := inb_sN q6.2
  obtain ⟨sz, lz⟩ := inb_sN q5.2
  have i6 := q6.1.trans so
  have i4 := q5.1.trans sz
  generalize ho : sN (I 293 w) = o at *
  generalize hzz : sN (I 296 w) = zz at *
  have o8 : o < 256 := by omega
  have zz8 : zz < 256 := by omega
  have P2 := pow_pop o8
  have P3 := pow_pop_le o8
  have lp : 2 ^ pop o < 2147483648 := by omega
  have or8 : ∀ s, s < 256 → zz ||| s < 256 := fun s hs => Nat.or_lt_two_pow (n := 8) zz8 hs
  have a38 : ip_up I 265 0 0 265 38 = Int32.ofNat w := (up_k (by decide)).trans y4
  have a293 : ip_up I 265 0 0 293 w = Int32.ofNat o := (up_a (by decide)).trans so
  have a296 : ip_up I 265 0 0 296 w = Int32.ofNat zz := (up_a (by decide)).trans sz
  have bz := of_andn zz zz8 o o8
  rw [and_dj8 zz8 q7] at bz
  by_cases g2 : ¬ x1 < 0 ∧ x1 < 2
  · obtain ⟨side, hs, rfl⟩ := sd_k.mp g2
    have N2 := fun d h => c86 (d := d) (h := h) g2.1 g2.2
    have M2 := fun d h => c225 (d := d) (x := Int32.ofNat side) (h := h) g2.1 (by rw [one_lt]; exact fun e => e g2.2)
    have ys : (Int32.ofNat side = 0) = (side = 0) := propext (nu_inj (s := 0) (by omega) (by omega))
    obtain ⟨H, hH⟩ : ∃ H : Nat → Bool, H = fun s => isS o s && decide (wb (winL L T) (zz ||| s) = Int32.ofNat side) := ⟨_, rfl⟩
    have HS : ∀ s, s &&& o = s → H s = decide (wb (winL L T) (zz ||| s) = Int32.ofNat side) := by
      intro s h; rw [hH]; show (isS o s && _) = _; rw [isS_iff.mpr h, Bool.true_and]
    have HN : ∀ s, ¬ s &&& o = s → H s = false := by
      intro s h; rw [hH]
      show (isS o s && _) = _
      cases e : isS o s with
      | false => rfl
      | true => exact absurd (isS_iff.mp e) h
    refine same_ok (I1 := I) (I2 := ip_up I 265 0 0) (u := Int32.ofNat (cn H 256)) (R1 := R) (nx1 := nx) X0 _ rfl (fun d => w162 ?_) onlyP_refl (fun _ _ _ => rfl) (fun d => ?_) scM_0 up_eq
    · simp only [en163, e163_0, e163_1, e163_4, e163_5, e163_8, e163_9, e163_12, e163_13, e163_14, e163_15, e163_16, e163_17, e163_19, e163_20, e163_24, e163_25, e163_26, e163_29, e163_32, e163_33, e163_36, e163_37, e163_40, e163_41, e163_44, e163_46, e163_47, e163_50, e163_51, e163_54, e163_55, e163_58, e163_59, e163_62, e163_65, e163_67, e163_68, e163_71, e163_74, e163_76, e163_79, e163_82, e163_83, rk_n, rk_v, nl_n, nl_i, nl_r, cat_n, ip_cat_int, ip_cat_ref, ip_cat_long, ip_rf_some, Nat.reduceAdd, Nat.reduceLeDiff, Nat.reduceLT, Nat.le_refl, Nat.zero_le, hR, N2, y3, b0, e1, Bool.false_eq_true, Bool.true_eq_false, if_true, if_false, not_true_eq_false, not_false_eq_true, zle, eq_self]
      refine Exists.elim (sub_walk o8 (fun k s (y : Nat) => rf (d + 13) 163 22 [some (.ref 2), some (.int (Int32.ofNat side)), some (.ref (65 + 5 * w)), some (.int (Int32.ofNat y)), some (.int (Int32.ofNat s)), some (.int (Int32.ofNat k))] [] (SH n, I, L, R, nc, ns, nx)) (fun s y => y = cn H s) ?_ ?_ 0 rfl) ?_
      · intro k s y hk hs8 hso hy
        have lk : k < 2147483648 := by omega
        have g1 : ¬ 2 ^ pop o ≤ k := by omega
        have CW := fun d => c24 (d := d) (n := n) (I := I) (L := L) (nc := nc) (ns := ns) (nx := nx) hR hT (or8 s hs8)
        refine ⟨_, rfl, ?_⟩
        rw [e163_22, cn, HS s hso, ← hy]
        unfold wb
        by_cases gw : winL L T (zz ||| s) = true
        · by_cases g0 : side = 0
          · subst g0
            simp only [e163_0, e163_1, e163_4, e163_5, e163_8, e163_9, e163_12, e163_13, e163_14, e163_15, e163_16, e163_17, e163_19, e163_20, e163_24, e163_25, e163_26, e163_29, e163_32, e163_33, e163_36, e163_37, e163_40, e163_41, e163_44, e163_46, e163_47, e163_50, e163_51, e163_54, e163_55, e163_58, e163_59, e163_62, e163_65, e163_67, e163_68, e163_71, e163_74, e163_76, e163_79, e163_82, e163_83, rk_n, rk_v, nl_n, nl_i, nl_r, cat_n, ip_cat_int, ip_cat_ref, ip_cat_long, ip_rf_some, Nat.reduceAdd, Nat.reduceLeDiff, Nat.reduceLT, Nat.le_refl, Nat.zero_le, hR, iw, rT, hT, i4, i6, c19s o8, P2, nu_ge, lk, lp, g1, of_or, CW, gw, c20s o8 hs8, nu_1, ys, (by decide : decide ((0 : Int32) = Int32.ofNat 0) = true), Bool.false_eq_true, Bool.true_eq_false, if_true, if_false, not_true_eq_false, not_false_eq_true, zle, eq_self]
          · have g0' : ¬ (0 : Int32) = Int32.ofNat side := fun e => g0 ((nu_inj (s := 0) (by omega) (by omega)).mp e.symm)
            simp only [e163_0, e163_1, e163_4, e163_5, e163_8, e163_9, e163_12, e163_13, e163_14, e163_15, e163_16, e163_17, e163_19, e163_20, e163_24, e163_25, e163_26, e163_29, e163_32, e163_33, e163_36, e163_37, e163_40, e163_41, e163_44, e163_46, e163_47, e163_50, e163_51, e163_54, e163_55, e163_58, e163_59, e163_62, e163_65, e163_67, e163_68, e163_71, e163_74, e163_76, e163_79, e163_82, e163_83, rk_n, rk_v, nl_n, nl_i, nl_r, cat_n, ip_cat_int, ip_cat_ref, ip_cat_long, ip_rf_some, Nat.reduceAdd, Nat.reduceLeDiff, Nat.reduceLT, Nat.le_refl, Nat.zero_le, hR, iw, rT, hT, i4, i6, c19s o8, P2, nu_ge, lk, lp, g1, of_or, CW, gw, c20s o8 hs8, nu_1, ys, g0, g0', (by decide : ¬ (1 : Int32) = 0), decide_false, Nat.add_zero, Bool.false_eq_true, Bool.true_eq_false, if_true, if_false, not_true_eq_false, not_false_eq_true, zle, eq_self]
        · by_cases g0 : side = 0
          · subst g0
            simp only [e163_0, e163_1, e163_4, e163_5, e163_8, e163_9, e163_12, e163_13, e163_14, e163_15, e163_16, e163_17, e163_19, e163_20, e163_24, e163_25, e163_26, e163_29, e163_32, e163_33, e163_36, e163_37, e163_40, e163_41, e163_44, e163_46, e163_47, e163_50, e163_51, e163_54, e163_55, e163_58, e163_59, e163_62, e163_65, e163_67, e163_68, e163_71, e163_74, e163_76, e163_79, e163_82, e163_83, rk_n, rk_v, nl_n, nl_i, nl_r, cat_n, ip_cat_int, ip_cat_ref, ip_cat_long, ip_rf_some, Nat.reduceAdd, Nat.reduceLeDiff, Nat.reduceLT, Nat.le_refl, Nat.zero_le, hR, iw, rT, hT, i4, i6, c19s o8, P2, nu_ge, lk, lp, g1, of_or, CW, gw, c20s o8 hs8, nu_1, ys, (by decide : ¬ (1 : Int32) = Int32.ofNat 0), (by decide : ¬ (0 : Int32) = 1), decide_false, Nat.add_zero, Bool.false_eq_true, Bool.true_eq_false, if_true, if_false, not_true_eq_false, not_false_eq_true, zle, eq_self]
          · have g0' : (1 : Int32) = Int32.ofNat side := by rw [show side = 1 by omega]; rfl
            simp only [e163_0, e163_1, e163_4, e163_5, e163_8, e163_9, e163_12, e163_13, e163_14, e163_15, e163_16, e163_17, e163_19, e163_20, e163_24, e163_25, e163_26, e163_29, e163_32, e163_33, e163_36, e163_37, e163_40, e163_41, e163_44, e163_46, e163_47, e163_50, e163_51, e163_54, e163_55, e163_58, e163_59, e163_62, e163_65, e163_67, e163_68, e163_71, e163_74, e163_76, e163_79, e163_82, e163_83, rk_n, rk_v, nl_n, nl_i, nl_r, cat_n, ip_cat_int, ip_cat_ref, ip_cat_long, ip_rf_some, Nat.reduceAdd, Nat.reduceLeDiff, Nat.reduceLT, Nat.le_refl, Nat.zero_le, hR, iw, rT, hT, i4, i6, c19s o8, P2, nu_ge, lk, lp, g1, of_or, CW, gw, c20s o8 hs8, nu_1, ys, g0, ← g0', decide_true, Bool.false_eq_true, Bool.true_eq_false, if_true, if_false, not_true_eq_false, not_false_eq_true, zle, eq_self]
      · intro s y hs8 hso hy
        rw [hy, cn, HN s hso]; rfl
      · rintro s ⟨y, hy, e⟩
        refine Eq.trans e ?_
        rw [← hy, e163_22]
        simp only [e163_0, e163_1, e163_4, e163_5, e163_8, e163_9, e163_12, e163_13, e163_14, e163_15, e163_16, e163_17, e163_19, e163_20, e163_24, e163_25, e163_26, e163_29, e163_32, e163_33, e163_36, e163_37, e163_40, e163_41, e163_44, e163_46, e163_47, e163_50, e163_51, e163_54, e163_55, e163_58, e163_59, e163_62, e163_65, e163_67, e163_68, e163_71, e163_74, e163_76, e163_79, e163_82, e163_83, rk_n, rk_v, nl_n, nl_i, nl_r, cat_n, ip_cat_int, ip_cat_ref, ip_cat_long, ip_rf_some, Nat.reduceAdd, Nat.reduceLeDiff, Nat.reduceLT, Nat.le_refl, Nat.zero_le, iw, i6, c19s o8, P2, Int32.le_refl, Bool.false_eq_true, Bool.true_eq_false, if_true, if_false, not_true_eq_false, not_false_eq_true, zle, eq_self]
    · have w287 : ∀ s, s < 256 → ip_up I 265 0 0 287 s = wb (winL L T) s := fun s hs => (up_a (by decide)).trans (wn s hs)
      have h0 : (if wb (winL L T) zz = Int32.ofNat side then (1 : Int32) else 0) = Int32.ofNat (cn H 1) := by
        rw [cn, cn, HS 0 (Nat.zero_and o), Nat.or_zero]
        by_cases g : wb (winL L T) zz = Int32.ofNat side
        · rw [if_pos g, decide_eq_true g]; rfl
        · rw [if_neg g, decide_eq_false g]; rfl
      have lz1 : zz < 2147483648 := by omega
      have E0 : rf (d + 14) 271 74 [some (.ref 265), some (.int (Int32.ofNat side)), some (.int (Int32.ofNat zz)), some (.int (Int32.ofNat (cn H 1))), some (.int (Int32.ofNat o))] [] (SH n, ip_up I 265 0 0, ip_up L 307 0 (Int32.ofNat (cn H 256)).toInt64, R, nc, ns, nx) = some (.inl (some (.int (Int32.ofNat (cn H 256)))), (SH n, ip_up I 265 0 0, ip_up L 307 0 (Int32.ofNat (cn H 256)).toInt64, R, nc, ns, nx)) := by
        refine Exists.elim (sub_down o8 (fun s (y : Nat) => rf (d + 14) 271 74 [some (.ref 265), some (.int (Int32.ofNat side)), some (.int (Int32.ofNat zz)), some (.int (Int32.ofNat y)), some (.int (Int32.ofNat s))] [] (SH n, ip_up I 265 0 0, ip_up L 307 0 (Int32.ofNat (cn H 256)).toInt64, R, nc, ns, nx)) (fun s y => y + cn H (s + 1) = cn H 256 + cn H 1) ?_ ?_ (cn H 1) (Nat.add_comm (cn H 1) (cn H 256))) ?_
        · intro s y h1 h2 h3 hy
          rw [cn, HS s h3] at hy
          have l0 : (Int32.ofNat s ≤ 0) = (s ≤ 0) := propext (nu_le (s := 0) (by omega) (by omega))
          have l1 : ¬ s ≤ 0 := by omega
          have ls : zz ||| s < 2147483648 := by have := or8 s h2; omega
          have o2 := or8 s h2
          have sb : Int32.ofNat s - 1 = Int32.ofNat (s - 1) := (Int32.ofNat_sub s 1 (by omega)).symm
          have wv := w287 _ o2
          rw [show s - 1 + 1 = s by omega]
          by_cases g : wb (winL L T) (zz ||| s) = Int32.ofNat side
          · rw [decide_eq_true g] at hy
            refine ⟨y + 1, by simp only [if_true] at hy; omega, ?_⟩
            try dsimp only
            rw [e271_74]
            simp only [e271_0, e271_1, e271_2, e271_5, e271_8, e271_9, e271_12, e271_13, e271_16, e271_17, e271_20, e271_23, e271_24, e271_25, e271_26, e271_29, e271_30, e271_33, e271_34, e271_35, e271_38, e271_39, e271_42, e271_43, e271_44, e271_45, e271_46, e271_47, e271_48, e271_51, e271_52, e271_53, e271_54, e271_57, e271_58, e271_61, e271_62, e271_63, e271_64, e271_67, e271_68, e271_71, e271_72, e271_76, e271_79, e271_80, e271_81, e271_84, e271_85, e271_87, e271_88, e271_89, e271_90, e271_93, e271_94, e271_97, e271_98, e271_99, e271_100, e271_102, e271_103, e271_104, e271_105, e271_108, e271_109, e271_112, e271_113, e271_114, e271_116, e271_119, e271_120, rk_n, rk_v, nl_n, nl_i, nl_r, cat_n, ip_cat_int, ip_cat_ref, ip_cat_long, ip_rf_some, Nat.reduceAdd, Nat.reduceLeDiff, Nat.reduceLT, Nat.le_refl, Nat.zero_le, hR, ia_lit, nu_i, nu_tn, lw, w40, ls, o2, l0, l1, of_or, wv, g, a38, a293, sb, of_and, nu_1, Bool.false_eq_true, Bool.true_eq_false, if_true, if_false, not_true_eq_false, not_false_eq_true, zle, eq_self]
          · rw [decide_eq_false g] at hy
            refine ⟨y, by simp only [Bool.false_eq_true, if_false] at hy; omega, ?_⟩
            try dsimp only
            rw [e271_74]
            simp only [e271_0, e271_1, e271_2, e271_5, e271_8, e271_9, e271_12, e271_13, e271_16, e271_17, e271_20, e271_23, e271_24, e271_25, e271_26, e271_29, e271_30, e271_33, e271_34, e271_35, e271_38, e271_39, e271_42, e271_43, e271_44, e271_45, e271_46, e271_47, e271_48, e271_51, e271_52, e271_53, e271_54, e271_57, e271_58, e271_61, e271_62, e271_63, e271_64, e271_67, e271_68, e271_71, e271_72, e271_76, e271_79, e271_80, e271_81, e271_84, e271_85, e271_87, e271_88, e271_89, e271_90, e271_93, e271_94, e271_97, e271_98, e271_99, e271_100, e271_102, e271_103, e271_104, e271_105, e271_108, e271_109, e271_112, e271_113, e271_114, e271_116, e271_119, e271_120, rk_n, rk_v, nl_n, nl_i, nl_r, cat_n, ip_cat_int, ip_cat_ref, ip_cat_long, ip_rf_some, Nat.reduceAdd, Nat.reduceLeDiff, Nat.reduceLT, Nat.le_refl, Nat.zero_le, hR, ia_lit, nu_i, nu_tn, lw, w40, ls, o2, l0, l1, of_or, wv, g, a38, a293, sb, of_and, Int32.add_zero, Bool.false_eq_true, Bool.true_eq_false, if_true, if_false, not_true_eq_false, not_false_eq_true, zle, eq_self]
        · intro s y h1 h2 h3 hy
          rw [cn, HN s h3] at hy
          rw [show s - 1 + 1 = s by omega]
          simpa using hy
        · rintro y ⟨hy, e⟩
          refine Eq.trans e ?_
          have : y = cn H 256 := Nat.add_right_cancel hy
          rw [this, e271_74]
          simp only [e271_0, e271_1, e271_2, e271_5, e271_8, e271_9, e271_12, e271_13, e271_16, e271_17, e271_20, e271_23, e271_24, e271_25, e271_26, e271_29, e271_30, e271_33, e271_34, e271_35, e271_38, e271_39, e271_42, e271_43, e271_44, e271_45, e271_46, e271_47, e271_48, e271_51, e271_52, e271_53, e271_54, e271_57, e271_58, e271_61, e271_62, e271_63, e271_64, e271_67, e271_68, e271_71, e271_72, e271_76, e271_79, e271_80, e271_81, e271_84, e271_85, e271_87, e271_88, e271_89, e271_90, e271_93, e271_94, e271_97, e271_98, e271_99, e271_100, e271_102, e271_103, e271_104, e271_105, e271_108, e271_109, e271_112, e271_113, e271_114, e271_116, e271_119, e271_120, rk_n, rk_v, nl_n, nl_i, nl_r, cat_n, ip_cat_int, ip_cat_ref, ip_cat_long, ip_rf_some, Nat.reduceAdd, Nat.reduceLeDiff, Nat.reduceLT, Nat.le_refl, Nat.zero_le, (by decide : Int32.ofNat 0 ≤ 0), Bool.false_eq_true, Bool.true_eq_false, if_true, if_false, not_true_eq_false, not_false_eq_true, zle, eq_self]
      by_cases g : wb (winL L T) zz = Int32.ofNat side
      · rw [← h0, if_pos g] at E0
        simp only [en271, e271_0, e271_1, e271_2, e271_5, e271_8, e271_9, e271_12, e271_13, e271_16, e271_17, e271_20, e271_23, e271_24, e271_25, e271_26, e271_29, e271_30, e271_33, e271_34, e271_35, e271_38, e271_39, e271_42, e271_43, e271_44, e271_45, e271_46, e271_47, e271_48, e271_51, e271_52, e271_53, e271_54, e271_57, e271_58, e271_61, e271_62, e271_63, e271_64, e271_67, e271_68, e271_71, e271_72, e271_76, e271_79, e271_80, e271_81, e271_84, e271_85, e271_87, e271_88, e271_89, e271_90, e271_93, e271_94, e271_97, e271_98, e271_99, e271_100, e271_102, e271_103, e271_104, e271_105, e271_108, e271_109, e271_112, e271_113, e271_114, e271_116, e271_119, e271_120, rk_n, rk_v, nl_n, nl_i, nl_r, cat_n, ip_cat_int, ip_cat_ref, ip_cat_long, ip_rf_some, Nat.reduceAdd, Nat.reduceLeDiff, Nat.reduceLT, Nat.le_refl, Nat.zero_le, hR, ia_lit, nu_i, nu_tn, lw, w40, lz1, zz8, M2, a38, a293, a296, bz, w287 _ zz8, g, E0, up_eq, true_or, or_true, Bool.false_eq_true, Bool.true_eq_false, if_true, if_false, not_true_eq_false, not_false_eq_true, zle, eq_self]
      · rw [← h0, if_neg g] at E0
        simp only [en271, e271_0, e271_1, e271_2, e271_5, e271_8, e271_9, e271_12, e271_13, e271_16, e271_17, e271_20, e271_23, e271_24, e271_25, e271_26, e271_29, e271_30, e271_33, e271_34, e271_35, e271_38, e271_39, e271_42, e271_43, e271_44, e271_45, e271_46, e271_47, e271_48, e271_51, e271_52, e271_53, e271_54, e271_57, e271_58, e271_61, e271_62, e271_63, e271_64, e271_67, e271_68, e271_71, e271_72, e271_76, e271_79, e271_80, e271_81, e271_84, e271_85, e271_87, e271_88, e271_89, e271_90, e271_93, e271_94, e271_97, e271_98, e271_99, e271_100, e271_102, e271_103, e271_104, e271_105, e271_108, e271_109, e271_112, e271_113, e271_114, e271_116, e271_119, e271_120, rk_n, rk_v, nl_n, nl_i, nl_r, cat_n, ip_cat_int, ip_cat_ref, ip_cat_long, ip_rf_some, Nat.reduceAdd, Nat.reduceLeDiff, Nat.reduceLT, Nat.le_refl, Nat.zero_le, hR, ia_lit, nu_i, nu_tn, lw, w40, lz1, zz8, M2, a38, a293, a296, bz, w287 _ zz8, g, E0, up_eq, true_or, or_true, Bool.false_eq_true, Bool.true_eq_false, if_true, if_false, not_true_eq_false, not_false_eq_true, zle, eq_self]
  · have g2' := no_k (K := 2) g2
    refine same_x (I1 := I) (I2 := ip_up I 265 0 1) (u := 0) (R1 := R) (code := 1) X0 (by decide) (fun d => ?_) onlyP_refl (fun _ _ _ => rfl) (fun d => ?_) scM_0 up_eq
    · refine w162x1 (d := d + 13) ?_
      have N2 := fun d h => x86 (d := d) (h := h) g2'
      simp only [en163, e163_0, e163_1, e163_4, e163_5, e163_8, e163_9, e163_12, e163_13, e163_14, e163_15, e163_16, e163_17, e163_19, e163_20, e163_24, e163_25, e163_26, e163_29, e163_32, e163_33, e163_36, e163_37, e163_40, e163_41, e163_44, e163_46, e163_47, e163_50, e163_51, e163_54, e163_55, e163_58, e163_59, e163_62, e163_65, e163_67, e163_68, e163_71, e163_74, e163_76, e163_79, e163_82, e163_83, rk_n, rk_v, nl_n, nl_i, nl_r, cat_n, ip_cat_int, ip_cat_ref, ip_cat_long, ip_rf_some, Nat.reduceAdd, Nat.reduceLeDiff, Nat.reduceLT, Nat.le_refl, Nat.zero_le, N2, rk_x hh163, Bool.false_eq_true, Bool.true_eq_false, if_true, if_false, not_true_eq_false, not_false_eq_true, zle, eq_self]
      rfl
    · have M2 := fun d h => b225 (d := d) (x := x1) (h := h) (by rw [one_lt]; exact g2')
      simp only [en271, e271_0, e271_1, e271_2, e271_5, e271_8, e271_9, e271_12, e271_13, e271_16, e271_17, e271_20, e271_23, e271_24, e271_25, e271_26, e271_29, e271_30, e271_33, e271_34, e271_35, e271_38, e271_39, e271_42, e271_43, e271_44, e271_45, e271_46, e271_47, e271_48, e271_51, e271_52, e271_53, e271_54, e271_57, e271_58, e271_61, e271_62, e271_63, e271_64, e271_67, e271_68, e271_71, e271_72, e271_76, e271_79, e271_80, e271_81, e271_84, e271_85, e271_87, e271_88, e271_89, e271_90, e271_93, e271_94, e271_97, e271_98, e271_99, e271_100, e271_102, e271_103, e271_104, e271_105, e271_108, e271_109, e271_112, e271_113, e271_114, e271_116, e271_119, e271_120, rk_n, rk_v, nl_n, nl_i, nl_r, cat_n, ip_cat_int, ip_cat_ref, ip_cat_long, ip_rf_some, Nat.reduceAdd, Nat.reduceLeDiff, Nat.reduceLT, Nat.le_refl, Nat.zero_le, M2, up_eq, true_or, Bool.false_eq_true, Bool.true_eq_false, if_true, if_false, not_true_eq_false, not_false_eq_true, zle, eq_self]
end S28
