/-! CALL BY CALL: tally -/
section S31
variable {n d a b T c s t z o w m p lev k side ap b0 b1 N q B C F A i : Nat} {I J K M I1 I2 : Nat → Nat → Int32} {L L' : Nat → Nat → Int64} {R R' : Nat → Nat → Option Nat} {nc ns : Nat} {nx : Bool} {x y j v u code x1 x2 x3 : Int32} {P : Nat → Nat → Prop} {h' h : ip_H}
theorem m1_lt (h : x < 0) (h1 : ¬ x = -1) : x < -1 := by
  rw [Int32.lt_iff_toInt_lt] at h ⊢
  have e0 : (0 : Int32).toInt = 0 := by decide
  have e1 : (-1 : Int32).toInt = -1 := by decide
  have : ¬ x.toInt = -1 := fun e => h1 (by rw [← Int32.toInt_inj, e, e1])
  omega
theorem lt_m1 (h : ¬ x < 0) : ¬ x < -1 := by
  rw [Int32.lt_iff_toInt_lt] at h ⊢
  have e0 : (0 : Int32).toInt = 0 := by decide
  have e1 : (-1 : Int32).toInt = -1 := by decide
  omega
theorem S31 : SAMEX 169 276 [.int x1, .int x2, .int x3] Int32.toInt64 := by
  intro n I L R nc ns nx T c N w t p X
  have X0 := X
  have hR := X.1
  have hT : isT T := (REL_C X).1
  obtain ⟨tt, rT, v3, hc8, i6T, i17, v7, v8, v9, v10, v11, wn, v13⟩ := X.2.1
  have P8 := p2le hc8
  obtain ⟨⟨n1, n2, n3⟩, ⟨y1, y2⟩, ⟨y3, y4⟩, y5⟩ := X.2.2.1
  rcases nodC (x := x1) X with ⟨k, hk, rfl, C1, M1⟩ | ⟨C1, M1⟩
  · have b0 := (nu_inb (t := k) (k := 40) (by omega)).mpr (by omega)
    have e1 := nd_of (k := k) (by omega)
    have iw := isN_nd (k := k) (by omega)
    have lk : k < 2147483648 := by omega
    have k40 : k < 40 := by omega
    have g1x : ((1 : Int32) < x2) = ¬ x2 < 2 := one_lt
    have g2x : ((2 : Int32) < x3) = ¬ x3 < 3 := gt_of (K := 3) rfl (by decide)
    by_cases g2 : x2 = -1 ∨ (¬ x2 < 0 ∧ x2 < 2)
    · have M2 := fun d h => c217 (d := d) (x := x2) (y := -1) (z := 1) (h := h) (by rcases g2 with e | e; rw [e]; decide; exact lt_m1 e.1) (by rcases g2 with e | e; rw [e]; decide; rw [g1x]; exact fun h => h e.2)
      by_cases g3 : x3 = -1 ∨ (¬ x3 < 0 ∧ x3 < 3)
      · have M3 := fun d h => c217 (d := d) (x := x3) (y := -1) (z := 2) (h := h) (by rcases g3 with e | e; rw [e]; decide; exact lt_m1 e.1) (by rcases g3 with e | e; rw [e]; decide; rw [g2x]; exact fun h => h e.2)
        have h3a : ¬ x3 < -1 := by rcases g3 with e | e; rw [e]; decide; exact lt_m1 e.1
        have h3b : x3 < 3 := by rcases g3 with e | e; rw [e]; decide; exact e.2
        obtain ⟨q1, q2, q3, q4, q5, q6, q7, q8, -⟩ := y5 k hk
        obtain ⟨so, lo⟩ := inb_sN q6.2
        obtain ⟨sz, lz⟩ := inb_sN q5.2
        have i6 := q6.1.trans so
        have i4 := q5.1.trans sz
        generalize ho : sN (I 293 k) = o at *
        generalize hzz : sN (I 296 k) = zz at *
        have o8 : o < 256 := by omega
        have zz8 : zz < 256 := by omega
        have f8 : (2 ^ c - 1) &&& (255 ^^^ o) &&& (255 ^^^ zz) < 2 ^ c := Nat.lt_of_le_of_lt (Nat.le_trans Nat.and_le_left Nat.and_le_left) (Nat.sub_lt (Nat.two_pow_pos c) (by omega))
        have fb : ∀ i, i < c → ((2 ^ c - 1) &&& (255 ^^^ o) &&& (255 ^^^ zz)).testBit i = (!o.testBit i && !zz.testBit i) := by
          intro i hi
          rw [Nat.testBit_and, Nat.testBit_and, tbn, tbn, Nat.testBit_two_pow_sub_one, decide_eq_true hi, decide_eq_true (by omega : i < 8), Bool.true_xor, Bool.true_xor, Bool.true_and]
        have dj : ∀ i, (zz.testBit i && o.testBit i) = false := by
          intro i
          have := congrArg (fun t => t.testBit i) q7
          simpa only [Nat.testBit_and, Nat.zero_testBit] using this
        -- what is counted, ahead of the standards
        obtain ⟨S, S8, SC, SB⟩ : ∃ S, S < 2 ^ c ∧ ((x2 = -1 ∧ S = o) ∨ (¬ x2 = -1 ∧ (¬ x2 < 0 ∧ x2 < 2) ∧ ∀ d, cf d 92 [.ref (65 + 5 * k), .int x2] (SH n, I, L, R, nc, ns, nx) = some (.inl (some (.int (Int32.ofNat S))), (SH n, I, L, R, nc, ns, nx)))) ∧ ∀ i, i < c → (S.testBit i = true ↔ (if o.testBit i = true then (-1 : Int32) else if zz.testBit i = true then 0 else 1) = x2) := by
          by_cases e : x2 = -1
          · refine ⟨o, lo, Or.inl ⟨e, rfl⟩, fun i _ => ?_⟩
            rw [e]
            cases o.testBit i <;> cases zz.testBit i <;> decide
          · have gg : ¬ x2 < 0 ∧ x2 < 2 := by rcases g2 with h | h; exact absurd h e; exact h
            obtain ⟨side, hs, es⟩ := sd_k.mp gg
            rcases lt2 hs with rfl | rfl
            · have es : x2 = 0 := es
              subst es
              refine ⟨zz, lz, Or.inr ⟨e, gg, fun d => by rw [c92 iw, if_pos rfl, i4]⟩, fun i _ => ?_⟩
              have := dj i
              revert this
              cases o.testBit i <;> cases zz.testBit i <;> decide
            · have es : x2 = 1 := es
              subst es
              refine ⟨_, f8, Or.inr ⟨e, gg, fun d => by rw [c92 iw, if_neg (by decide), q8]⟩, fun i hi => ?_⟩
              rw [fb i hi]
              cases o.testBit i <;> cases zz.testBit i <;> decide
        obtain ⟨Q, Q8, QC, QB⟩ : ∃ Q, Q < 2 ^ c ∧ ((x3 = -1 ∧ Q = S) ∨ (¬ x3 = -1 ∧ Q = S &&& setN (fun i => decide (I (T + 2) i = x3)) c)) ∧ ∀ i, i < c → (Q.testBit i = true ↔ S.testBit i = true ∧ (x3 = -1 ∨ I 275 i = x3)) := by
          by_cases e : x3 = -1
          · exact ⟨S, S8, Or.inl ⟨e, rfl⟩, fun i _ => ⟨fun h => ⟨h, Or.inl e⟩, fun h => h.1⟩⟩
          · refine ⟨_, Nat.lt_of_le_of_lt Nat.and_le_left S8, Or.inr ⟨e, rfl⟩, fun i hi => ?_⟩
            rw [Nat.testBit_and, setN_bit, decide_eq_true hi, Bool.true_and, Bool.and_eq_true, decide_eq_true_eq, (v8 i hi).1]
            exact ⟨fun h => ⟨h.1, Or.inr h.2⟩, fun h => ⟨h.1, by rcases h.2 with h | h; exact absurd h e; exact h⟩⟩
        have BC := bcv_pop Q (by omega)
        rw [pop_c Q8 hc8] at BC
        refine same_ok (I1 := I) (I2 := ip_up I 265 0 0) (u := Int32.ofNat (cntB Q c)) (R1 := R) (nx1 := nx) X0 _ rfl (fun d => w169 ?_) onlyP_refl (fun _ _ _ => rfl) (fun d => ?_) scM_0 up_eq
        · have ST := fun d => c102 (d := d) (n := n) (L := L) (nc := nc) (ns := ns) (nx := nx) (x := x3) hR hT i6T hc8
          rcases SC with ⟨e, eS⟩ | ⟨e, gg, SC⟩
          · rw [← eS] at i6
            rcases QC with ⟨e3, eQ⟩ | ⟨e3, eQ⟩
            · subst e e3
              rw [← eQ] at i6
              simp only [en170, e170_0, e170_1, e170_2, e170_5, e170_6, e170_7, e170_10, e170_11, e170_14, e170_15, e170_16, e170_19, e170_20, e170_21, e170_24, e170_35, e170_36, e170_39, e170_40, e170_41, e170_43, e170_44, e170_45, e170_48, e170_50, e170_53, e170_56, e170_58, e170_59, e170_62, e170_64, e170_65, e170_66, e170_69, e170_71, e170_74, e170_76, e170_77, e170_80, e170_81, e170_84, e170_85, e170_88, rk_n, rk_v, nl_n, nl_i, nl_r, cat_n, ip_cat_int, ip_cat_ref, ip_cat_long, ip_rf_some, Nat.reduceAdd, Nat.reduceLeDiff, Nat.reduceLT, Nat.le_refl, Nat.zero_le, hR, C1, h3a, h3b, b0, e1, iw, i6, c19, BC, Bool.false_eq_true, Bool.true_eq_false, if_true, if_false, not_true_eq_false, not_false_eq_true, zle, eq_self]
            · subst e
              simp only [en170, e170_0, e170_1, e170_2, e170_5, e170_6, e170_7, e170_10, e170_11, e170_14, e170_15, e170_16, e170_19, e170_20, e170_21, e170_24, e170_35, e170_36, e170_39, e170_40, e170_41, e170_43, e170_44, e170_45, e170_48, e170_50, e170_53, e170_56, e170_58, e170_59, e170_62, e170_64, e170_65, e170_66, e170_69, e170_71, e170_74, e170_76, e170_77, e170_80, e170_81, e170_84, e170_85, e170_88, rk_n, rk_v, nl_n, nl_i, nl_r, cat_n, ip_cat_int, ip_cat_ref, ip_cat_long, ip_rf_some, Nat.reduceAdd, Nat.reduceLeDiff, Nat.reduceLT, Nat.le_refl, Nat.zero_le, hR, C1, h3a, h3b, b0, e1, iw, i6, e3, rT, hT, ST, of_and, ← eQ, c19, BC, Bool.false_eq_true, Bool.true_eq_false, if_true, if_false, not_true_eq_false, not_false_eq_true, zle, eq_self]
          · have N2 := fun d h => c86 (d := d) (h := h) gg.1 gg.2
            rcases QC with ⟨e3, eQ⟩ | ⟨e3, eQ⟩
            · subst e3
              rw [← eQ] at SC
              simp only [en170, e170_0, e170_1, e170_2, e170_5, e170_6, e170_7, e170_10, e170_11, e170_14, e170_15, e170_16, e170_19, e170_20, e170_21, e170_24, e170_35, e170_36, e170_39, e170_40, e170_41, e170_43, e170_44, e170_45, e170_48, e170_50, e170_53, e170_56, e170_58, e170_59, e170_62, e170_64, e170_65, e170_66, e170_69, e170_71, e170_74, e170_76, e170_77, e170_80, e170_81, e170_84, e170_85, e170_88, rk_n, rk_v, nl_n, nl_i, nl_r, cat_n, ip_cat_int, ip_cat_ref, ip_cat_long, ip_rf_some, Nat.reduceAdd, Nat.reduceLeDiff, Nat.reduceLT, Nat.le_refl, Nat.zero_le, hR, C1, h3a, h3b, b0, e1, iw, e, N2, SC, c19, BC, Bool.false_eq_true, Bool.true_eq_false, if_true, if_false, not_true_eq_false, not_false_eq_true, zle, eq_self]
            · simp only [en170, e170_0, e170_1, e170_2, e170_5, e170_6, e170_7, e170_10, e170_11, e170_14, e170_15, e170_16, e170_19, e170_20, e170_21, e170_24, e170_35, e170_36, e170_39, e170_40, e170_41, e170_43, e170_44, e170_45, e170_48, e170_50, e170_53, e170_56, e170_58, e170_59, e170_62, e170_64, e170_65, e170_66, e170_69, e170_71, e170_74, e170_76, e170_77, e170_80, e170_81, e170_84, e170_85, e170_88, rk_n, rk_v, nl_n, nl_i, nl_r, cat_n, ip_cat_int, ip_cat_ref, ip_cat_long, ip_rf_some, Nat.reduceAdd, Nat.reduceLeDiff, Nat.reduceLT, Nat.le_refl, Nat.zero_le, hR, C1, h3a, h3b, b0, e1, iw, e, N2, SC, e3, rT, hT, ST, of_and, ← eQ, c19, BC, Bool.false_eq_true, Bool.true_eq_false, if_true, if_false, not_true_eq_false, not_false_eq_true, zle, eq_self]
        · have a17 : ip_up I 265 0 0 265 17 = Int32.ofNat c := (up_k (by decide)).trans i17
          have a293 : ip_up I 265 0 0 293 k = Int32.ofNat o := (up_a (by decide)).trans so
          have a296 : ip_up I 265 0 0 296 k = Int32.ofNat zz := (up_a (by decide)).trans sz
          have M2' := M2
          simp only [en276, e276_0, e276_1, e276_2, e276_3, e276_6, e276_9, e276_10, e276_13, e276_14, e276_15, e276_16, e276_19, e276_22, e276_23, e276_24, e276_25, e276_28, e276_31, e276_32, e276_35, e276_36, e276_39, e276_40, e276_43, e276_46, e276_47, e276_48, e276_49, e276_51, e276_52, e276_56, e276_57, e276_60, e276_63, e276_64, e276_67, e276_68, e276_69, e276_71, e276_74, e276_77, e276_78, e276_81, e276_82, e276_85, e276_86, e276_87, e276_89, e276_92, e276_95, e276_96, e276_99, e276_100, e276_102, e276_104, e276_106, e276_107, e276_110, e276_111, e276_112, e276_115, e276_116, e276_119, e276_121, e276_122, e276_123, e276_126, e276_127, e276_130, e276_131, e276_132, e276_134, e276_137, e276_140, e276_142, rk_n, rk_v, nl_n, nl_i, nl_r, cat_n, ip_cat_int, ip_cat_ref, ip_cat_long, ip_rf_some, Nat.reduceAdd, Nat.reduceLeDiff, Nat.reduceLT, Nat.le_refl, Nat.zero_le, M1 _ _ _ _ _ _ _ _ rfl, M2, M3, up_eq, true_or, or_true, Bool.false_eq_true, Bool.true_eq_false, if_true, if_false, not_true_eq_false, not_false_eq_true, zle, eq_self]
          obtain ⟨yy, -, E⟩ := for_ex (c := c) (fun i (x : Option Value) => rf (d + 14) 276 54 [some (.ref 265), some (.int (Int32.ofNat k)), some (.int x2), some (.int x3), some (.int (Int32.ofNat (cntB Q i))), some (.int (Int32.ofNat i)), x] [] (SH n, ip_up I 265 0 0, ip_up L 307 0 (Int32.ofNat (cntB Q c)).toInt64, R, nc, ns, nx)) (fun _ _ => True) (fun i x hi _ => by
            have i8 : i < 8 := by omega
            have li : i < 2147483648 := by omega
            have g : ((Int32.ofNat c : Int32) ≤ Int32.ofNat i) = (c ≤ i) := nu_lit (by omega) (by omega)
            have g1 : ¬ c ≤ i := by omega
            have ho := fun d h => hasB (d := d) (h := h) o8 i8
            have hz := fun d h => hasB (d := d) (h := h) zz8 i8
            have a275 : ip_up I 265 0 0 275 i = I 275 i := up_a (by decide)
            have qb := QB i hi
            rw [SB i hi] at qb
            obtain ⟨vi, hvi⟩ : ∃ vi : Int32, vi = (if o.testBit i = true then (-1 : Int32) else if zz.testBit i = true then 0 else 1) := ⟨_, rfl⟩
            refine ⟨some (.int vi), trivial, ?_⟩
            try dsimp only
            have T1 : rf (d + 14) 276 54 [some (.ref 265), some (.int (Int32.ofNat k)), some (.int x2), some (.int x3), some (.int (Int32.ofNat (cntB Q i))), some (.int (Int32.ofNat i)), x] [] (SH n, ip_up I 265 0 0, ip_up L 307 0 (Int32.ofNat (cntB Q c)).toInt64, R, nc, ns, nx) = rf (d + 14) 276 102 [some (.ref 265), some (.int (Int32.ofNat k)), some (.int x2), some (.int x3), some (.int (Int32.ofNat (cntB Q i))), some (.int (Int32.ofNat i)), some (.int vi)] [] (SH n, ip_up I 265 0 0, ip_up L 307 0 (Int32.ofNat (cntB Q c)).toInt64, R, nc, ns, nx) := by
              rw [e276_54, hvi]
              by_cases go : o.testBit i = true
              · simp only [e276_56, e276_57, e276_60, e276_63, e276_64, e276_67, e276_68, e276_69, e276_71, e276_74, e276_77, e276_78, e276_81, e276_82, e276_85, e276_86, e276_87, e276_89, e276_92, e276_95, e276_96, e276_99, e276_100, rk_n, rk_v, nl_n, nl_i, nl_r, cat_n, ip_cat_int, ip_cat_ref, ip_cat_long, ip_rf_some, Nat.reduceAdd, Nat.reduceLeDiff, Nat.reduceLT, Nat.le_refl, Nat.zero_le, hR, ia_lit, nu_i, nu_tn, lk, k40, a17, a293, g, g1, ho, go, ite_0, Bool.false_eq_true, Bool.true_eq_false, if_true, if_false, not_true_eq_false, not_false_eq_true, zle, eq_self]
              · by_cases gz : zz.testBit i = true
                · simp only [e276_56, e276_57, e276_60, e276_63, e276_64, e276_67, e276_68, e276_69, e276_71, e276_74, e276_77, e276_78, e276_81, e276_82, e276_85, e276_86, e276_87, e276_89, e276_92, e276_95, e276_96, e276_99, e276_100, rk_n, rk_v, nl_n, nl_i, nl_r, cat_n, ip_cat_int, ip_cat_ref, ip_cat_long, ip_rf_some, Nat.reduceAdd, Nat.reduceLeDiff, Nat.reduceLT, Nat.le_refl, Nat.zero_le, hR, ia_lit, nu_i, nu_tn, lk, k40, a17, a293, a296, g, g1, ho, hz, go, gz, ite_0, Bool.false_eq_true, Bool.true_eq_false, if_true, if_false, not_true_eq_false, not_false_eq_true, zle, eq_self]
                · simp only [e276_56, e276_57, e276_60, e276_63, e276_64, e276_67, e276_68, e276_69, e276_71, e276_74, e276_77, e276_78, e276_81, e276_82, e276_85, e276_86, e276_87, e276_89, e276_92, e276_95, e276_96, e276_99, e276_100, rk_n, rk_v, nl_n, nl_i, nl_r, cat_n, ip_cat_int, ip_cat_ref, ip_cat_long, ip_rf_some, Nat.reduceAdd, Nat.reduceLeDiff, Nat.reduceLT, Nat.le_refl, Nat.zero_le, hR, ia_lit, nu_i, nu_tn, lk, k40, a17, a293, a296, g, g1, ho, hz, go, gz, ite_0, Bool.false_eq_true, Bool.true_eq_false, if_true, if_false, not_true_eq_false, not_false_eq_true, zle, eq_self]
            rw [T1, cntB]
            rw [← hvi] at qb
            by_cases gq : Q.testBit i = true
            · obtain ⟨z1, z2⟩ := qb.mp gq
              rw [if_pos gq]
              by_cases e3 : x3 = -1
              · simp only [e276_0, e276_1, e276_2, e276_3, e276_6, e276_9, e276_10, e276_13, e276_14, e276_15, e276_16, e276_19, e276_22, e276_23, e276_24, e276_25, e276_28, e276_31, e276_32, e276_35, e276_36, e276_39, e276_40, e276_43, e276_46, e276_47, e276_48, e276_49, e276_51, e276_52, e276_56, e276_57, e276_60, e276_63, e276_64, e276_67, e276_68, e276_69, e276_71, e276_74, e276_77, e276_78, e276_81, e276_82, e276_85, e276_86, e276_87, e276_89, e276_92, e276_95, e276_96, e276_99, e276_100, e276_102, e276_104, e276_106, e276_107, e276_110, e276_111, e276_112, e276_115, e276_116, e276_119, e276_121, e276_122, e276_123, e276_126, e276_127, e276_130, e276_131, e276_132, e276_134, e276_137, e276_140, e276_142, rk_n, rk_v, nl_n, nl_i, nl_r, cat_n, ip_cat_int, ip_cat_ref, ip_cat_long, ip_rf_some, Nat.reduceAdd, Nat.reduceLeDiff, Nat.reduceLT, Nat.le_refl, Nat.zero_le, hR, ia_lit, nu_i, nu_tn, li, i8, z1, e3, nu_1, Bool.false_eq_true, Bool.true_eq_false, if_true, if_false, not_true_eq_false, not_false_eq_true, zle, eq_self]
              · have z3 : I 275 i = x3 := by rcases z2 with h | h; exact absurd h e3; exact h
                simp only [e276_0, e276_1, e276_2, e276_3, e276_6, e276_9, e276_10, e276_13, e276_14, e276_15, e276_16, e276_19, e276_22, e276_23, e276_24, e276_25, e276_28, e276_31, e276_32, e276_35, e276_36, e276_39, e276_40, e276_43, e276_46, e276_47, e276_48, e276_49, e276_51, e276_52, e276_56, e276_57, e276_60, e276_63, e276_64, e276_67, e276_68, e276_69, e276_71, e276_74, e276_77, e276_78, e276_81, e276_82, e276_85, e276_86, e276_87, e276_89, e276_92, e276_95, e276_96, e276_99, e276_100, e276_102, e276_104, e276_106, e276_107, e276_110, e276_111, e276_112, e276_115, e276_116, e276_119, e276_121, e276_122, e276_123, e276_126, e276_127, e276_130, e276_131, e276_132, e276_134, e276_137, e276_140, e276_142, rk_n, rk_v, nl_n, nl_i, nl_r, cat_n, ip_cat_int, ip_cat_ref, ip_cat_long, ip_rf_some, Nat.reduceAdd, Nat.reduceLeDiff, Nat.reduceLT, Nat.le_refl, Nat.zero_le, hR, ia_lit, nu_i, nu_tn, li, i8, z1, e3, a275, z3, nu_1, Bool.false_eq_true, Bool.true_eq_false, if_true, if_false, not_true_eq_false, not_false_eq_true, zle, eq_self]
            · rw [if_neg gq]
              by_cases z1 : vi = x2
              · have z2 : ¬ (x3 = -1 ∨ I 275 i = x3) := fun h => gq (qb.mpr ⟨z1, h⟩)
                have e3 : ¬ x3 = -1 := fun h => z2 (Or.inl h)
                have z3 : ¬ I 275 i = x3 := fun h => z2 (Or.inr h)
                simp only [e276_0, e276_1, e276_2, e276_3, e276_6, e276_9, e276_10, e276_13, e276_14, e276_15, e276_16, e276_19, e276_22, e276_23, e276_24, e276_25, e276_28, e276_31, e276_32, e276_35, e276_36, e276_39, e276_40, e276_43, e276_46, e276_47, e276_48, e276_49, e276_51, e276_52, e276_56, e276_57, e276_60, e276_63, e276_64, e276_67, e276_68, e276_69, e276_71, e276_74, e276_77, e276_78, e276_81, e276_82, e276_85, e276_86, e276_87, e276_89, e276_92, e276_95, e276_96, e276_99, e276_100, e276_102, e276_104, e276_106, e276_107, e276_110, e276_111, e276_112, e276_115, e276_116, e276_119, e276_121, e276_122, e276_123, e276_126, e276_127, e276_130, e276_131, e276_132, e276_134, e276_137, e276_140, e276_142, rk_n, rk_v, nl_n, nl_i, nl_r, cat_n, ip_cat_int, ip_cat_ref, ip_cat_long, ip_rf_some, Nat.reduceAdd, Nat.reduceLeDiff, Nat.reduceLT, Nat.le_refl, Nat.zero_le, hR, ia_lit, nu_i, nu_tn, li, i8, z1, e3, a275, z3, nu_1, Int32.add_zero, Nat.add_zero, Bool.false_eq_true, Bool.true_eq_false, if_true, if_false, not_true_eq_false, not_false_eq_true, zle, eq_self]
              · simp only [e276_0, e276_1, e276_2, e276_3, e276_6, e276_9, e276_10, e276_13, e276_14, e276_15, e276_16, e276_19, e276_22, e276_23, e276_24, e276_25, e276_28, e276_31, e276_32, e276_35, e276_36, e276_39, e276_40, e276_43, e276_46, e276_47, e276_48, e276_49, e276_51, e276_52, e276_56, e276_57, e276_60, e276_63, e276_64, e276_67, e276_68, e276_69, e276_71, e276_74, e276_77, e276_78, e276_81, e276_82, e276_85, e276_86, e276_87, e276_89, e276_92, e276_95, e276_96, e276_99, e276_100, e276_102, e276_104, e276_106, e276_107, e276_110, e276_111, e276_112, e276_115, e276_116, e276_119, e276_121, e276_122, e276_123, e276_126, e276_127, e276_130, e276_131, e276_132, e276_134, e276_137, e276_140, e276_142, rk_n, rk_v, nl_n, nl_i, nl_r, cat_n, ip_cat_int, ip_cat_ref, ip_cat_long, ip_rf_some, Nat.reduceAdd, Nat.reduceLeDiff, Nat.reduceLT, Nat.le_refl, Nat.zero_le, hR, ia_lit, nu_i, nu_tn, li, i8, z1, nu_1, Int32.add_zero, Nat.add_zero, Bool.false_eq_true, Bool.true_eq_false, if_true, if_false, not_true_eq_false, not_false_eq_true, zle, eq_self]) none trivial
          refine E.trans ?_
          try dsimp only
          have g : ((Int32.ofNat c : Int32) ≤ Int32.ofNat c) = True := by simp
          rw [e276_54]
          simp only [e276_56, e276_57, e276_60, e276_140, e276_142, rk_n, rk_v, nl_n, nl_i, nl_r, cat_n, ip_cat_int, ip_cat_ref, ip_cat_long, ip_rf_some, Nat.reduceAdd, Nat.reduceLeDiff, Nat.reduceLT, Nat.le_refl, Nat.zero_le, a17, g, Bool.false_eq_true, Bool.true_eq_false, if_true, if_false, not_true_eq_false, not_false_eq_true, zle, eq_self]
      · have g3a : ¬ x3 = -1 := fun e => g3 (Or.inl e)
        have g3b : x3 < -1 ∨ ¬ x3 < 3 := by
          by_cases h : x3 < 0
          · exact Or.inl (m1_lt h g3a)
          · exact Or.inr (fun e => g3 (Or.inr ⟨h, e⟩))
        have M3 := fun d h => b217 (d := d) (x := x3) (y := -1) (z := 2) (h := h) (by rw [g2x]; exact g3b)
        refine same_x (I1 := I) (I2 := ip_up I 265 0 2) (u := 0) (R1 := R) (code := 2) X0 (by decide) (fun d => ?_) onlyP_refl (fun _ _ _ => rfl) (fun d => ?_) scM_0 up_eq
        · refine w169x2 (d := d + 13) ?_
          by_cases e : x2 = -1
          · subst e
            by_cases h : x3 < -1
            · simp only [en170, e170_0, e170_1, e170_2, e170_5, e170_6, e170_7, e170_10, e170_11, e170_14, e170_15, e170_16, e170_19, e170_20, e170_21, e170_24, e170_35, e170_36, e170_39, e170_40, e170_41, e170_43, e170_44, e170_45, e170_48, e170_50, e170_53, e170_56, e170_58, e170_59, e170_62, e170_64, e170_65, e170_66, e170_69, e170_71, e170_74, e170_76, e170_77, e170_80, e170_81, e170_84, e170_85, e170_88, rk_n, rk_v, nl_n, nl_i, nl_r, cat_n, ip_cat_int, ip_cat_ref, ip_cat_long, ip_rf_some, Nat.reduceAdd, Nat.reduceLeDiff, Nat.reduceLT, Nat.le_refl, Nat.zero_le, hR, C1, h, Bool.false_eq_true, Bool.true_eq_false, if_true, if_false, not_true_eq_false, not_false_eq_true, zle, eq_self]
              rfl
            · have h2 : ¬ x3 < 3 := by rcases g3b with h' | h'; exact absurd h' h; exact h'
              simp only [en170, e170_0, e170_1, e170_2, e170_5, e170_6, e170_7, e170_10, e170_11, e170_14, e170_15, e170_16, e170_19, e170_20, e170_21, e170_24, e170_35, e170_36, e170_39, e170_40, e170_41, e170_43, e170_44, e170_45, e170_48, e170_50, e170_53, e170_56, e170_58, e170_59, e170_62, e170_64, e170_65, e170_66, e170_69, e170_71, e170_74, e170_76, e170_77, e170_80, e170_81, e170_84, e170_85, e170_88, rk_n, rk_v, nl_n, nl_i, nl_r, cat_n, ip_cat_int, ip_cat_ref, ip_cat_long, ip_rf_some, Nat.reduceAdd, Nat.reduceLeDiff, Nat.reduceLT, Nat.le_refl, Nat.zero_le, hR, C1, h, h2, Bool.false_eq_true, Bool.true_eq_false, if_true, if_false, not_true_eq_false, not_false_eq_true, zle, eq_self]
              rfl
          · have gg : ¬ x2 < 0 ∧ x2 < 2 := by rcases g2 with h | h; exact absurd h e; exact h
            have N2 := fun d h => c86 (d := d) (h := h) gg.1 gg.2
            by_cases h : x3 < -1
            · simp only [en170, e170_0, e170_1, e170_2, e170_5, e170_6, e170_7, e170_10, e170_11, e170_14, e170_15, e170_16, e170_19, e170_20, e170_21, e170_24, e170_35, e170_36, e170_39, e170_40, e170_41, e170_43, e170_44, e170_45, e170_48, e170_50, e170_53, e170_56, e170_58, e170_59, e170_62, e170_64, e170_65, e170_66, e170_69, e170_71, e170_74, e170_76, e170_77, e170_80, e170_81, e170_84, e170_85, e170_88, rk_n, rk_v, nl_n, nl_i, nl_r, cat_n, ip_cat_int, ip_cat_ref, ip_cat_long, ip_rf_some, Nat.reduceAdd, Nat.reduceLeDiff, Nat.reduceLT, Nat.le_refl, Nat.zero_le, hR, C1, e, N2, h, Bool.false_eq_true, Bool.true_eq_false, if_true, if_false, not_true_eq_false, not_false_eq_true, zle, eq_self]
              rfl
            · have h2 : ¬ x3 < 3 := by rcases g3b with h' | h'; exact absurd h' h; exact h'
              simp only [en170, e170_0, e170_1, e170_2, e170_5, e170_6, e170_7, e170_10, e170_11, e170_14, e170_15, e170_16, e170_19, e170_20, e170_21, e170_24, e170_35, e170_36, e170_39, e170_40, e170_41, e170_43, e170_44, e170_45, e170_48, e170_50, e170_53, e170_56, e170_58, e170_59, e170_62, e170_64, e170_65, e170_66, e170_69, e170_71, e170_74, e170_76, e170_77, e170_80, e170_81, e170_84, e170_85, e170_88, rk_n, rk_v, nl_n, nl_i, nl_r, cat_n, ip_cat_int, ip_cat_ref, ip_cat_long, ip_rf_some, Nat.reduceAdd, Nat.reduceLeDiff, Nat.reduceLT, Nat.le_refl, Nat.zero_le, hR, C1, e, N2, h, h2, Bool.false_eq_true, Bool.true_eq_false, if_true, if_false, not_true_eq_false, not_false_eq_true, zle, eq_self]
              rfl
        · simp only [en276, e276_0, e276_1, e276_2, e276_3, e276_6, e276_9, e276_10, e276_13, e276_14, e276_15, e276_16, e276_19, e276_22, e276_23, e276_24, e276_25, e276_28, e276_31, e276_32, e276_35, e276_36, e276_39, e276_40, e276_43, e276_46, e276_47, e276_48, e276_49, e276_51, e276_52, e276_56, e276_57, e276_60, e276_63, e276_64, e276_67, e276_68, e276_69, e276_71, e276_74, e276_77, e276_78, e276_81, e276_82, e276_85, e276_86, e276_87, e276_89, e276_92, e276_95, e276_96, e276_99, e276_100, e276_102, e276_104, e276_106, e276_107, e276_110, e276_111, e276_112, e276_115, e276_116, e276_119, e276_121, e276_122, e276_123, e276_126, e276_127, e276_130, e276_131, e276_132, e276_134, e276_137, e276_140, e276_142, rk_n, rk_v, nl_n, nl_i, nl_r, cat_n, ip_cat_int, ip_cat_ref, ip_cat_long, ip_rf_some, Nat.reduceAdd, Nat.reduceLeDiff, Nat.reduceLT, Nat.le_refl, Nat.zero_le, M1 _ _ _ _ _ _ _ _ rfl, M2, M3, up_eq, true_or, Bool.false_eq_true, Bool.true_eq_false, if_true, if_false, not_true_eq_false, not_false_eq_true, zle, eq_self]
    · have g2a : ¬ x2 = -1 := fun e => g2 (Or.inl e)
      have g2b : x2 < 0 ∨ ¬ x2 < 2 := by
        by_cases h : x2 < 0
        · exact Or.inl h
        · exact Or.inr (fun e => g2 (Or.inr ⟨h, e⟩))
      have M2 := fun d h => b217 (d := d) (x := x2) (y := -1) (z := 1) (h := h) (by
        rw [g1x]
        rcases g2b with h | h
        · exact Or.inl (m1_lt h g2a)
        · exact Or.inr h)
      refine same_x (I1 := I) (I2 := ip_up I 265 0 2) (u := 0) (R1 := R) (code := 2) X0 (by decide) (fun d => ?_) onlyP_refl (fun _ _ _ => rfl) (fun d => ?_) scM_0 up_eq
      · refine w169x2 (d := d + 13) ?_
        have N2 := fun d h => x86 (d := d) (h := h) g2b
        simp only [en170, e170_0, e170_1, e170_2, e170_5, e170_6, e170_7, e170_10, e170_11, e170_14, e170_15, e170_16, e170_19, e170_20, e170_21, e170_24, e170_35, e170_36, e170_39, e170_40, e170_41, e170_43, e170_44, e170_45, e170_48, e170_50, e170_53, e170_56, e170_58, e170_59, e170_62, e170_64, e170_65, e170_66, e170_69, e170_71, e170_74, e170_76, e170_77, e170_80, e170_81, e170_84, e170_85, e170_88, rk_n, rk_v, nl_n, nl_i, nl_r, cat_n, ip_cat_int, ip_cat_ref, ip_cat_long, ip_rf_some, Nat.reduceAdd, Nat.reduceLeDiff, Nat.reduceLT, Nat.le_refl, Nat.zero_le, hR, C1, g2a, N2, rk_x hh170, Bool.false_eq_true, Bool.true_eq_false, if_true, if_false, not_true_eq_false, not_false_eq_true, zle, eq_self]
        rfl
      · simp only [en276, e276_0, e276_1, e276_2, e276_3, e276_6, e276_9, e276_10, e276_13, e276_14, e276_15, e276_16, e276_19, e276_22, e276_23, e276_24, e276_25, e276_28, e276_31, e276_32, e276_35, e276_36, e276_39, e276_40, e276_43, e276_46, e276_47, e276_48, e276_49, e276_51, e276_52, e276_56, e276_57, e276_60, e276_63, e276_64, e276_67, e276_68, e276_69, e276_71, e276_74, e276_77, e276_78, e276_81, e276_82, e276_85, e276_86, e276_87, e276_89, e276_92, e276_95, e276_96, e276_99, e276_100, e276_102, e276_104, e276_106, e276_107, e276_110, e276_111, e276_112, e276_115, e276_116, e276_119, e276_121, e276_122, e276_123, e276_126, e276_127, e276_130, e276_131, e276_132, e276_134, e276_137, e276_140, e276_142, rk_n, rk_v, nl_n, nl_i, nl_r, cat_n, ip_cat_int, ip_cat_ref, ip_cat_long, ip_rf_some, Nat.reduceAdd, Nat.reduceLeDiff, Nat.reduceLT, Nat.le_refl, Nat.zero_le, M1 _ _ _ _ _ _ _ _ rfl, M2, up_eq, true_or, Bool.false_eq_true, Bool.true_eq_false, if_true, if_false, not_true_eq_false, not_false_eq_true, zle, eq_self]
  · refine same_x (I1 := I) (I2 := ip_up I 265 0 1) (u := 0) (R1 := R) (code := 1) X0 (by decide) (fun d => ?_) onlyP_refl (fun _ _ _ => rfl) (fun d => ?_) scM_0 up_eq
    · refine w169x1 (d := d + 13) ?_
      simp only [en170, e170_0, e170_1, e170_2, e170_5, e170_6, e170_7, e170_10, e170_11, e170_14, e170_15, e170_16, e170_19, e170_20, e170_21, e170_24, e170_35, e170_36, e170_39, e170_40, e170_41, e170_43, e170_44, e170_45, e170_48, e170_50, e170_53, e170_56, e170_58, e170_59, e170_62, e170_64, e170_65, e170_66, e170_69, e170_71, e170_74, e170_76, e170_77, e170_80, e170_81, e170_84, e170_85, e170_88, rk_n, rk_v, nl_n, nl_i, nl_r, cat_n, ip_cat_int, ip_cat_ref, ip_cat_long, ip_rf_some, Nat.reduceAdd, Nat.reduceLeDiff, Nat.reduceLT, Nat.le_refl, Nat.zero_le, C1, rk_x hh170, Bool.false_eq_true, Bool.true_eq_false, if_true, if_false, not_true_eq_false, not_false_eq_true, zle, eq_self]
      rfl
    · simp only [en276, e276_0, e276_1, e276_2, e276_3, e276_6, e276_9, e276_10, e276_13, e276_14, e276_15, e276_16, e276_19, e276_22, e276_23, e276_24, e276_25, e276_28, e276_31, e276_32, e276_35, e276_36, e276_39, e276_40, e276_43, e276_46, e276_47, e276_48, e276_49, e276_51, e276_52, e276_56, e276_57, e276_60, e276_63, e276_64, e276_67, e276_68, e276_69, e276_71, e276_74, e276_77, e276_78, e276_81, e276_82, e276_85, e276_86, e276_87, e276_89, e276_92, e276_95, e276_96, e276_99, e276_100, e276_102, e276_104, e276_106, e276_107, e276_110, e276_111, e276_112, e276_115, e276_116, e276_119, e276_121, e276_122, e276_123, e276_126, e276_127, e276_130, e276_131, e276_132, e276_134, e276_137, e276_140, e276_142, rk_n, rk_v, nl_n, nl_i, nl_r, cat_n, ip_cat_int, ip_cat_ref, ip_cat_long, ip_rf_some, Nat.reduceAdd, Nat.reduceLeDiff, Nat.reduceLT, Nat.le_refl, Nat.zero_le, M1 _ _ _ _ _ _ _ _ rfl, up_eq, true_or, Bool.false_eq_true, Bool.true_eq_false, if_true, if_false, not_true_eq_false, not_false_eq_true, zle, eq_self]
end S31
