/-! CALL BY CALL: keep -/
section S9
variable {n d a b T c s t z o w m p lev k side ap b0 b1 N q B C F A : Nat} {I J K M I1 I2 : Nat → Nat → Int32} {L L' : Nat → Nat → Int64} {R R' : Nat → Nat → Option Nat} {nc ns : Nat} {nx : Bool} {x y j v u code x1 x2 x3 : Int32} {P : Nat → Nat → Prop} {h' h : ip_H}
theorem S9_ : SAMEX 89 227 [.int x1, .int x2] zb := by
  intro n I L R nc ns nx T c N w t p X
  have X0 := X
  have hR := X.1
  have hc8 : c ≤ 8 := X.2.1.2.2.2.1
  have P8 := p2le hc8
  obtain ⟨⟨n1, n2, n3⟩, ⟨y1, y2⟩, ⟨y3, y4⟩, y5⟩ := X.2.2.1
  have W := y5 w n3
  have b0 := (nu_inb (t := w) (k := 40) (by omega)).mpr (by omega)
  have e1 := nd_of (k := w) (by omega)
  have iw := isN_nd (k := w) (by omega)
  have lw : w < 2147483648 := by omega
  have w40 : w < 40 := by omega
  have vlt := VI_lt hc8 W W
  have v8 : ∀ j, VI I w w j < 256 := fun j => Nat.lt_of_lt_of_le (vlt j) P8
  have CN := (ND_C (lev := 1) hc8 w40 w40 iw W W (fun e => by omega))
  have MN := (ND_M (lev := 1) hc8 w40 w40 W W y4 (fun e => by omega))
  obtain ⟨q1, q2, q3, q4, q5, q6, q7, q8, q9, q10, q11, q12, q13, q14, q15⟩ := W
  obtain ⟨sm, lm⟩ := inb_sN q4.2.1
  obtain ⟨so, lo⟩ := inb_sN q6.2
  have i3 : I (65 + 5 * w) 3 = Int32.ofNat (sN (I 292 w)) := q4.1.trans sm
  have lm' := lm
  have i6 : I (65 + 5 * w) 6 = Int32.ofNat (VI I w w 6) := q6.1.trans so
  have q13v : I 299 w = if I 289 w = 0 then Int32.ofNat (sN (I 292 w) &&& (255 ^^^ VI I w w 6)) else 0 := q13
  clear so sm lo
  generalize hmd : sN (I 292 w) = md at *
  have i4 := CN.2.2.2.1
  have i5 := CN.2.2.2.2.1
  have w5 := CN.2.2.2.2.2.2.2.2.2.2.2.2.1
  have w4 := CN.2.2.2.2.2.2.2.2.2.2.2.2.2
  have kpC := CN.2.2.2.2.2.2.2.2.2.1
  have kpM := MN.2.2.2.2.2.2.2.2.1
  have m6 := MN.2.2.2.1
  have m4 := MN.2.2.2.2.1
  generalize hV : VI I w w = V at *
  rcases issC (x := x1) X with ⟨k, hk, rfl, C1, M1⟩ | ⟨C1, M1⟩
  · by_cases g2 : ¬ x2 < 0 ∧ x2 < 2
    · obtain ⟨side, hs, rfl⟩ := sd_k.mp g2
      have N2 := fun d h => c86 (d := d) (h := h) g2.1 g2.2
      have M2 := fun d h => c225 (d := d) (x := Int32.ofNat side) (h := h) g2.1 (by rw [one_lt]; exact fun e => e g2.2)
      have k8 : k < 8 := by omega
      have ls : side < 2147483648 := by omega
      have md8 : md < 256 := by omega
      -- what was ruled against the side
      have AG := fun d => c228 (d := d) (n := n) (L := L) (nc := nc) (ns := ns) (nx := nx) hR w40 m6 m4 v8 k8 hs
      obtain ⟨dc, hdc, hdcE, hdb⟩ : ∃ dc, dc < 256 ∧ (∀ d nc ns nx, cf d 92 [.ref (65 + 5 * w), .int (Int32.ofNat (1 - side))] (SH n, I, L, R, nc, ns, nx) = some (.inl (some (.int (Int32.ofNat dc))), (SH n, I, L, R, nc, ns, nx))) ∧ ((V 6).testBit k = false → dc.testBit k = agN V k side) := by
        rcases lt2 hs with rfl | rfl
        · refine ⟨V 5, v8 5, fun d nc ns nx => ?_, fun h6 => ?_⟩
          · rw [c92 iw, i5, i4]; rfl
          · rw [w5 k hk, h6]; unfold agN; rw [h6]; cases (V 4).testBit k <;> rfl
        · refine ⟨V 4, v8 4, fun d nc ns nx => ?_, fun h6 => ?_⟩
          · rw [c92 iw, i5, i4]; rfl
          · unfold agN; rw [h6]; cases (V 4).testBit k <;> rfl
      have a1 := of_andn md md8 (V 6) (v8 6)
      have ra8 : md &&& (255 ^^^ V 6) &&& dc < 256 := Nat.lt_of_le_of_lt Nat.and_le_right hdc
      have bt := bit_3 (s := md &&& (255 ^^^ V 6) &&& dc) (k := k) ra8 k8
      have bq : (md &&& (255 ^^^ V 6) &&& dc).testBit k = (md.testBit k && !(V 6).testBit k && dc.testBit k) := by rw [Nat.testBit_and, Nat.testBit_and, tbn, decide_eq_true k8, Bool.true_xor]
      obtain ⟨kp1, kp2⟩ := kpC side hs
      obtain ⟨-, km2⟩ := kpM side hs
      have ks8 := v8 (14 + side)
      have DH := fun d => c91 (d := d) (n := n) (I := I) (L := L) (R := R) (nc := nc) (ns := ns) (nx := nx) iw
      by_cases g : I 289 w = 0 ∧ (md.testBit k && !(V 6).testBit k && agN V k side) = true
      · obtain ⟨g1, gB⟩ := g
        have h6 : (V 6).testBit k = false := by
          cases e : (V 6).testBit k with
          | false => rfl
          | true => rw [e] at gB; simp at gB
        have gA : agN V k side = true := by
          cases e : agN V k side with
          | true => rfl
          | false => rw [e] at gB; simp at gB
        have gM : md.testBit k = true := by
          cases e : md.testBit k with
          | true => rfl
          | false => rw [e] at gB; simp at gB
        have dk : dc.testBit k = true := (hdb h6).trans gA
        have p2k : 2 ^ k < 2 ^ c := Nat.pow_lt_pow_right (by omega) hk
        have sd : (Int32.ofNat side &&& 1).toNatClampNeg = side := by rcases lt2 hs with rfl | rfl; exact sdl.1; exact sdl.2
        have bk := bit_2 (s := V (14 + side)) (k := k) ks8 k8
        have hbk := fun d h => hasB (d := d) (h := h) (s := V (14 + side)) (k := k) ks8 k8
        have l2 : 2 * w + side < 2147483648 := by omega
        have b2 : 2 * w + side < 80 := by omega
        generalize hI1 : ip_up I (65 + 5 * w + 2) side (Int32.ofNat (V (14 + side) ||| 2 ^ k)) = I1
        generalize hI2 : ip_up (ip_up I1 265 0 0) 301 (2 * w + side) (Int32.ofNat (V (14 + side) ||| 2 ^ k)) = I2
        have ag : ∀ a j, 265 ≤ a → I1 a j = I a j := by intro a j h; rw [← hI1, up_a (by omega)]
        have FIN : onlyP (atW w) I I2 := by
          rw [← hI2, ← hI1]
          exact onlyP_up (onlyP_up (onlyP_up onlyP_refl (by unfold atW; omega)) (by unfold atW; omega)) (by unfold atW atQ; omega)
        have cl : ∀ a j, ¬ (a = 65 + 5 * w + 2 ∧ j = side) → ¬ (a = 301 ∧ j = 2 * w + side) → ¬ (a = 265 ∧ j = 0) → I2 a j = I a j := by
          intro a j h1 h2 h3
          have u1 : I2 a j = ip_up I1 265 0 0 a j := by
            rw [← hI2]
            by_cases e : a = 301
            · subst e; exact up_k (fun e => h2 ⟨rfl, e⟩)
            · exact up_a e
          have u2 : ip_up I1 265 0 0 a j = I1 a j := by
            by_cases e : a = 265
            · subst e; exact up_k (fun e => h3 ⟨rfl, e⟩)
            · exact up_a e
          rw [u1, u2, ← hI1]
          by_cases e : a = 65 + 5 * w + 2
          · subst e; exact up_k (fun e => h1 ⟨rfl, e⟩)
          · exact up_a e
        have v2 : I2 (65 + 5 * w + 2) side = Int32.ofNat (V (14 + side) ||| 2 ^ k) := by rw [← hI2, up_a (by omega), up_a (by omega), ← hI1, up_eq]
        have m2' : I2 301 (2 * w + side) = Int32.ofNat (V (14 + side) ||| 2 ^ k) := by rw [← hI2, up_eq]
        have NEW : ND c w I2 := by
          have W2 := y5 w n3
          obtain ⟨q1, q2, q3, q4, q5, q6, q7, q8, q9, q10, q11, q12, q13, q14, q15⟩ := W2
          have C := fun a (h1 : 289 ≤ a) (h2 : a ≤ 299) => cl a w (by omega) (by omega) (by omega)
          have D := fun j => cl (65 + 5 * w) j (by omega) (by omega) (by omega)
          unfold ND
          rw [C 289 (by omega) (by omega), D 0, D 1, D 2, D 3, D 4, D 5, D 6, D 7, D 8, D 9, D 10, D 11, C 290 (by omega) (by omega), C 291 (by omega) (by omega), C 292 (by omega) (by omega), C 293 (by omega) (by omega), C 294 (by omega) (by omega), C 295 (by omega) (by omega), C 296 (by omega) (by omega), C 297 (by omega) (by omega), C 298 (by omega) (by omega), C 299 (by omega) (by omega)]
          have R0 : ∀ s, s < 2 → I2 (65 + 5 * w + 1) s = I (65 + 5 * w + 1) s ∧ I2 300 (2 * w + s) = I 300 (2 * w + s) := fun s hs' => ⟨cl _ _ (by omega) (by omega) (by omega), cl _ _ (by omega) (by omega) (by omega)⟩
          have R2 : ∀ s, s < 2 → ¬ s = side → I2 (65 + 5 * w + 2) s = I (65 + 5 * w + 2) s ∧ I2 301 (2 * w + s) = I 301 (2 * w + s) := fun s hs' hn => ⟨cl _ _ (by omega) (by omega) (by omega), cl _ _ (by omega) (by omega) (by omega)⟩
          refine ⟨q1, ⟨q2.1, q2.2.1, ?_⟩, q3, q4, q5, q6, q7, q8, q9, q10, q11, q12, q13, ?_, ?_⟩
          · intro h0
            obtain ⟨q, h1, h2, h3⟩ := q2.2.2 h0
            exact ⟨q, h1, h2, by rw [cl (65 + 5 * q) 11 (by omega) (by omega) (by omega)]; exact h3⟩
          · intro s hs'
            rw [(R0 s hs').1, (R0 s hs').2]
            refine ⟨(q14 s hs').1, ?_⟩
            by_cases e : s = side
            · subst e
              rw [v2, m2']
              exact ⟨rfl, inb_of (Nat.or_lt_two_pow (vlt _) p2k) P8⟩
            · rw [(R2 s hs' e).1, (R2 s hs' e).2]
              exact (q14 s hs').2
          · intro i hi
            rw [cl 302 _ (by omega) (by omega) (by omega), cl 303 _ (by omega) (by omega) (by omega), cl 304 _ (by omega) (by omega) (by omega), cl (65 + 5 * w + 3) _ (by omega) (by omega) (by omega), cl (65 + 5 * w + 4) _ (by omega) (by omega) (by omega)]
            refine ⟨(q15 i hi).1, fun h => ?_⟩
            obtain ⟨h1, q, h2, h3, h4, h5⟩ := (q15 i hi).2 h
            exact ⟨h1, q, h2, h3, h4, by rw [cl 289 q (by omega) (by omega) (by omega)]; exact h5⟩
        obtain ⟨u0, hu⟩ : ∃ u0 : Int32, u0 = (if (V (14 + side)).testBit k = true then 0 else 1) := ⟨_, rfl⟩
        have AK := fun d => c93 (d := d) (n := n) (I := I) (L := L) (nc := nc) (ns := ns) (nx := nx) (x := Int32.ofNat side) (y := Int32.ofNat (2 ^ k)) hR iw
        simp only [sd, kp2, bk, of_or, hI1] at AK
        refine ⟨0, u0, I1, I2, ip_up L 307 0 (zb u0), ip_up L 307 0 (zb u0), R, nc, ns, nx, T, c, N, w, t, p, fun d => ?_, fun d => ?_, ?_, fun _ => by rw [up_eq], REL_N X0 FIN (cl _ _ (by omega) (by omega) (by omega)) (cl _ _ (by omega) (by omega) (by omega)) NEW L307, by omega, by omega, fun i => cl 0 i (by omega) (by omega) (by omega)⟩
        · refine w89 (d := d + 13) ?_
          rw [hu]
          by_cases g3 : (V (14 + side)).testBit k = true
          · simp only [en90, e90_0, e90_1, e90_2, e90_5, e90_6, e90_9, e90_10, e90_13, e90_14, e90_17, e90_18, e90_19, e90_20, e90_23, e90_24, e90_25, e90_26, e90_27, e90_30, e90_31, e90_33, e90_34, e90_37, e90_40, e90_42, e90_43, e90_44, e90_45, e90_46, e90_49, e90_59, e90_60, e90_61, e90_62, e90_63, e90_64, e90_67, rk_n, rk_v, nl_n, nl_i, nl_r, cat_n, ip_cat_int, ip_cat_ref, ip_cat_long, ip_rf_some, Nat.reduceAdd, Nat.reduceLeDiff, Nat.reduceLT, Nat.le_refl, Nat.zero_le, hR, C1, N2, y3, b0, e1, iw, DH, q1.1, g1, i3, i6, a1, one_sub hs, hdcE, of_and, k8, sh1, bt, bq, gM, h6, dk, AK, g3, true_or, or_true, Bool.not_false, Bool.and_true, Bool.false_eq_true, Bool.true_eq_false, if_true, if_false, not_true_eq_false, not_false_eq_true, zle, eq_self]
          · simp only [en90, e90_0, e90_1, e90_2, e90_5, e90_6, e90_9, e90_10, e90_13, e90_14, e90_17, e90_18, e90_19, e90_20, e90_23, e90_24, e90_25, e90_26, e90_27, e90_30, e90_31, e90_33, e90_34, e90_37, e90_40, e90_42, e90_43, e90_44, e90_45, e90_46, e90_49, e90_59, e90_60, e90_61, e90_62, e90_63, e90_64, e90_67, rk_n, rk_v, nl_n, nl_i, nl_r, cat_n, ip_cat_int, ip_cat_ref, ip_cat_long, ip_rf_some, Nat.reduceAdd, Nat.reduceLeDiff, Nat.reduceLT, Nat.le_refl, Nat.zero_le, hR, C1, N2, y3, b0, e1, iw, DH, q1.1, g1, i3, i6, a1, one_sub hs, hdcE, of_and, k8, sh1, bt, bq, gM, h6, dk, AK, g3, true_or, or_true, Bool.not_false, Bool.and_true, Bool.false_eq_true, Bool.true_eq_false, if_true, if_false, not_true_eq_false, not_false_eq_true, zle, eq_self]
        · have a38 : I1 265 38 = Int32.ofNat w := (ag _ _ (by omega)).trans y4
          have a289 : I1 289 w = 0 := (ag _ _ (by omega)).trans g1
          have r8 : md &&& (255 ^^^ V 6) < 256 := Nat.lt_of_le_of_lt Nat.and_le_left md8
          have a299 : I1 299 w = Int32.ofNat (md &&& (255 ^^^ V 6)) := by
            rw [ag _ _ (by omega), q13v, if_pos g1]
          have a301 : I1 301 (2 * w + side) = Int32.ofNat (V (14 + side)) := (ag _ _ (by omega)).trans km2
          have rb : (md &&& (255 ^^^ V 6)).testBit k = true := by rw [Nat.testBit_and, tbn, decide_eq_true k8, gM, h6]; rfl
          have k17 : I1 265 17 = I 265 17 := ag _ _ (by omega)
          have AG1 := fun d => c228 (d := d) (n := n) (I := I1) (L := ip_up L 307 0 (zb u0)) (nc := nc) (ns := ns) (nx := nx) hR w40 ((ag _ _ (by omega)).trans m6) ((ag _ _ (by omega)).trans m4) v8 k8 hs
          have hr := fun d h => hasB (d := d) (h := h) r8 k8
          by_cases g3 : (V (14 + side)).testBit k = true
          · simp only [en227, e227_0, e227_1, e227_2, e227_3, e227_6, e227_9, e227_10, e227_13, e227_14, e227_17, e227_20, e227_21, e227_24, e227_25, e227_28, e227_29, e227_32, e227_33, e227_36, e227_37, e227_40, e227_41, e227_44, e227_45, e227_46, e227_49, e227_52, e227_53, e227_54, e227_57, e227_58, e227_59, e227_62, e227_65, e227_66, e227_69, e227_70, e227_73, e227_74, e227_77, e227_80, e227_81, e227_82, e227_83, e227_86, e227_87, e227_88, e227_91, e227_92, e227_93, e227_94, e227_95, e227_96, e227_99, e227_102, e227_103, e227_106, e227_107, e227_108, e227_109, e227_112, e227_113, e227_114, e227_117, e227_118, e227_119, e227_120, e227_121, e227_122, e227_123, e227_124, e227_125, e227_126, e227_127, e227_128, rk_n, rk_v, nl_n, nl_i, nl_r, cat_n, ip_cat_int, ip_cat_ref, ip_cat_long, ip_rf_some, Nat.reduceAdd, Nat.reduceLeDiff, Nat.reduceLT, Nat.le_refl, Nat.zero_le, hR, ia_lit, nu_i, nu_tn, lw, w40, l2, b2, M1 _ _ _ _ _ _ _ _ k17, M2, a38, a289, a299, hr, rb, AG1, gA, a301, hbk, ite_0, g3, mu2, nu_add, up_eq, up_a, up_k, Nat.reduceEqDiff, k8, sh1, of_or, true_or, or_true, Bool.false_eq_true, Bool.true_eq_false, if_true, if_false, not_true_eq_false, not_false_eq_true, zle, eq_self]
            rw [← hI2, hu, if_pos g3]
          · simp only [en227, e227_0, e227_1, e227_2, e227_3, e227_6, e227_9, e227_10, e227_13, e227_14, e227_17, e227_20, e227_21, e227_24, e227_25, e227_28, e227_29, e227_32, e227_33, e227_36, e227_37, e227_40, e227_41, e227_44, e227_45, e227_46, e227_49, e227_52, e227_53, e227_54, e227_57, e227_58, e227_59, e227_62, e227_65, e227_66, e227_69, e227_70, e227_73, e227_74, e227_77, e227_80, e227_81, e227_82, e227_83, e227_86, e227_87, e227_88, e227_91, e227_92, e227_93, e227_94, e227_95, e227_96, e227_99, e227_102, e227_103, e227_106, e227_107, e227_108, e227_109, e227_112, e227_113, e227_114, e227_117, e227_118, e227_119, e227_120, e227_121, e227_122, e227_123, e227_124, e227_125, e227_126, e227_127, e227_128, rk_n, rk_v, nl_n, nl_i, nl_r, cat_n, ip_cat_int, ip_cat_ref, ip_cat_long, ip_rf_some, Nat.reduceAdd, Nat.reduceLeDiff, Nat.reduceLT, Nat.le_refl, Nat.zero_le, hR, ia_lit, nu_i, nu_tn, lw, w40, l2, b2, M1 _ _ _ _ _ _ _ _ k17, M2, a38, a289, a299, hr, rb, AG1, gA, a301, hbk, ite_0, g3, mu2, nu_add, up_eq, up_a, up_k, Nat.reduceEqDiff, k8, sh1, of_or, true_or, or_true, Bool.false_eq_true, Bool.true_eq_false, if_true, if_false, not_true_eq_false, not_false_eq_true, zle, eq_self]
            rw [← hI2, hu, if_neg g3]
        · rw [← hI2, up_a (by decide), up_eq]
      · refine same_x (I1 := I) (I2 := ip_up I 265 0 3) (u := 0) (R1 := R) (code := 3) X0 (by decide) (fun d => ?_) onlyP_refl (fun _ _ _ => rfl) (fun d => ?_) scM_0 up_eq
        · refine w89x3 (d := d + 13) ?_
          by_cases g1 : I 289 w = 0
          · have g2' : (md.testBit k && !(V 6).testBit k && dc.testBit k) = false := by
              cases e6 : (V 6).testBit k with
              | true => simp
              | false =>
                have := hdb e6
                rw [this]
                cases e : (md.testBit k && !false && agN V k side) with
                | false => rfl
                | true => exact absurd ⟨g1, by rw [e6]; exact e⟩ g
            simp only [en90, e90_0, e90_1, e90_2, e90_5, e90_6, e90_9, e90_10, e90_13, e90_14, e90_17, e90_18, e90_19, e90_20, e90_23, e90_24, e90_25, e90_26, e90_27, e90_30, e90_31, e90_33, e90_34, e90_37, e90_40, e90_42, e90_43, e90_44, e90_45, e90_46, e90_49, e90_59, e90_60, e90_61, e90_62, e90_63, e90_64, e90_67, rk_n, rk_v, nl_n, nl_i, nl_r, cat_n, ip_cat_int, ip_cat_ref, ip_cat_long, ip_rf_some, Nat.reduceAdd, Nat.reduceLeDiff, Nat.reduceLT, Nat.le_refl, Nat.zero_le, hR, C1, N2, y3, b0, e1, iw, DH, q1.1, g1, i3, i6, a1, one_sub hs, hdcE, of_and, k8, sh1, bt, bq, g2', Bool.false_eq_true, Bool.true_eq_false, if_true, if_false, not_true_eq_false, not_false_eq_true, zle, eq_self]
            rfl
          · have i10 : I (65 + 5 * w) 10 = Int32.ofNat (V 10) := CN.2.2.2.2.2.2.2.2.1
            simp only [en90, e90_0, e90_1, e90_2, e90_5, e90_6, e90_9, e90_10, e90_13, e90_14, e90_17, e90_18, e90_19, e90_20, e90_23, e90_24, e90_25, e90_26, e90_27, e90_30, e90_31, e90_33, e90_34, e90_37, e90_40, e90_42, e90_43, e90_44, e90_45, e90_46, e90_49, e90_59, e90_60, e90_61, e90_62, e90_63, e90_64, e90_67, rk_n, rk_v, nl_n, nl_i, nl_r, cat_n, ip_cat_int, ip_cat_ref, ip_cat_long, ip_rf_some, Nat.reduceAdd, Nat.reduceLeDiff, Nat.reduceLT, Nat.le_refl, Nat.zero_le, hR, C1, N2, y3, b0, e1, iw, DH, q1.1, g1, i10, one_sub hs, hdcE, of_and, Bool.false_eq_true, Bool.true_eq_false, if_true, if_false, not_true_eq_false, not_false_eq_true, zle, eq_self]
            rfl
        · by_cases g1 : I 289 w = 0
          · have r8 : md &&& (255 ^^^ V 6) < 256 := Nat.lt_of_le_of_lt Nat.and_le_left md8
            have a299 : I 299 w = Int32.ofNat (md &&& (255 ^^^ V 6)) := by rw [q13v, if_pos g1]
            have hr := fun d h => hasB (d := d) (h := h) r8 k8
            have AG1 := fun d => c228 (d := d) (n := n) (I := I) (L := L) (nc := nc + 1) (ns := ns + 6) (nx := true) hR w40 m6 m4 v8 k8 hs
            by_cases g3 : (md &&& (255 ^^^ V 6)).testBit k = true
            · have g4 : ¬ agN V k side = true := by
                intro e
                rw [Nat.testBit_and, tbn, decide_eq_true k8, Bool.true_xor] at g3
                exact g ⟨g1, by rw [g3, e]; rfl⟩
              simp only [en227, e227_0, e227_1, e227_2, e227_3, e227_6, e227_9, e227_10, e227_13, e227_14, e227_17, e227_20, e227_21, e227_24, e227_25, e227_28, e227_29, e227_32, e227_33, e227_36, e227_37, e227_40, e227_41, e227_44, e227_45, e227_46, e227_49, e227_52, e227_53, e227_54, e227_57, e227_58, e227_59, e227_62, e227_65, e227_66, e227_69, e227_70, e227_73, e227_74, e227_77, e227_80, e227_81, e227_82, e227_83, e227_86, e227_87, e227_88, e227_91, e227_92, e227_93, e227_94, e227_95, e227_96, e227_99, e227_102, e227_103, e227_106, e227_107, e227_108, e227_109, e227_112, e227_113, e227_114, e227_117, e227_118, e227_119, e227_120, e227_121, e227_122, e227_123, e227_124, e227_125, e227_126, e227_127, e227_128, rk_n, rk_v, nl_n, nl_i, nl_r, cat_n, ip_cat_int, ip_cat_ref, ip_cat_long, ip_rf_some, Nat.reduceAdd, Nat.reduceLeDiff, Nat.reduceLT, Nat.le_refl, Nat.zero_le, hR, ia_lit, nu_i, nu_tn, lw, w40, M1 _ _ _ _ _ _ _ _ rfl, M2, y4, g1, a299, hr, g3, AG1, g4, ite_0, up_eq, true_or, Bool.false_eq_true, Bool.true_eq_false, if_true, if_false, not_true_eq_false, not_false_eq_true, zle, eq_self]
            · simp only [en227, e227_0, e227_1, e227_2, e227_3, e227_6, e227_9, e227_10, e227_13, e227_14, e227_17, e227_20, e227_21, e227_24, e227_25, e227_28, e227_29, e227_32, e227_33, e227_36, e227_37, e227_40, e227_41, e227_44, e227_45, e227_46, e227_49, e227_52, e227_53, e227_54, e227_57, e227_58, e227_59, e227_62, e227_65, e227_66, e227_69, e227_70, e227_73, e227_74, e227_77, e227_80, e227_81, e227_82, e227_83, e227_86, e227_87, e227_88, e227_91, e227_92, e227_93, e227_94, e227_95, e227_96, e227_99, e227_102, e227_103, e227_106, e227_107, e227_108, e227_109, e227_112, e227_113, e227_114, e227_117, e227_118, e227_119, e227_120, e227_121, e227_122, e227_123, e227_124, e227_125, e227_126, e227_127, e227_128, rk_n, rk_v, nl_n, nl_i, nl_r, cat_n, ip_cat_int, ip_cat_ref, ip_cat_long, ip_rf_some, Nat.reduceAdd, Nat.reduceLeDiff, Nat.reduceLT, Nat.le_refl, Nat.zero_le, hR, ia_lit, nu_i, nu_tn, lw, w40, M1 _ _ _ _ _ _ _ _ rfl, M2, y4, g1, a299, hr, g3, ite_0, up_eq, true_or, Bool.false_eq_true, Bool.true_eq_false, if_true, if_false, not_true_eq_false, not_false_eq_true, zle, eq_self]
          · simp only [en227, e227_0, e227_1, e227_2, e227_3, e227_6, e227_9, e227_10, e227_13, e227_14, e227_17, e227_20, e227_21, e227_24, e227_25, e227_28, e227_29, e227_32, e227_33, e227_36, e227_37, e227_40, e227_41, e227_44, e227_45, e227_46, e227_49, e227_52, e227_53, e227_54, e227_57, e227_58, e227_59, e227_62, e227_65, e227_66, e227_69, e227_70, e227_73, e227_74, e227_77, e227_80, e227_81, e227_82, e227_83, e227_86, e227_87, e227_88, e227_91, e227_92, e227_93, e227_94, e227_95, e227_96, e227_99, e227_102, e227_103, e227_106, e227_107, e227_108, e227_109, e227_112, e227_113, e227_114, e227_117, e227_118, e227_119, e227_120, e227_121, e227_122, e227_123, e227_124, e227_125, e227_126, e227_127, e227_128, rk_n, rk_v, nl_n, nl_i, nl_r, cat_n, ip_cat_int, ip_cat_ref, ip_cat_long, ip_rf_some, Nat.reduceAdd, Nat.reduceLeDiff, Nat.reduceLT, Nat.le_refl, Nat.zero_le, hR, ia_lit, nu_i, nu_tn, lw, w40, M1 _ _ _ _ _ _ _ _ rfl, M2, y4, g1, up_eq, true_or, Bool.false_eq_true, Bool.true_eq_false, if_true, if_false, not_true_eq_false, not_false_eq_true, zle, eq_self]
    · have g2' := no_k (K := 2) g2
      refine same_x (I1 := I) (I2 := ip_up I 265 0 2) (u := 0) (R1 := R) (code := 2) X0 (by decide) (fun d => ?_) onlyP_refl (fun _ _ _ => rfl) (fun d => ?_) scM_0 up_eq
      · refine w89x2 (d := d + 13) ?_
        have N2 := fun d h => x86 (d := d) (h := h) g2'
        simp only [en90, e90_0, e90_1, e90_2, e90_5, e90_6, e90_9, e90_10, e90_13, e90_14, e90_17, e90_18, e90_19, e90_20, e90_23, e90_24, e90_25, e90_26, e90_27, e90_30, e90_31, e90_33, e90_34, e90_37, e90_40, e90_42, e90_43, e90_44, e90_45, e90_46, e90_49, e90_59, e90_60, e90_61, e90_62, e90_63, e90_64, e90_67, rk_n, rk_v, nl_n, nl_i, nl_r, cat_n, ip_cat_int, ip_cat_ref, ip_cat_long, ip_rf_some, Nat.reduceAdd, Nat.reduceLeDiff, Nat.reduceLT, Nat.le_refl, Nat.zero_le, hR, C1, N2, rk_x hh90, Bool.false_eq_true, Bool.true_eq_false, if_true, if_false, not_true_eq_false, not_false_eq_true, zle, eq_self]
        rfl
      · have M2 := fun d h => b225 (d := d) (x := x2) (h := h) (by rw [one_lt]; exact g2')
        simp only [en227, e227_0, e227_1, e227_2, e227_3, e227_6, e227_9, e227_10, e227_13, e227_14, e227_17, e227_20, e227_21, e227_24, e227_25, e227_28, e227_29, e227_32, e227_33, e227_36, e227_37, e227_40, e227_41, e227_44, e227_45, e227_46, e227_49, e227_52, e227_53, e227_54, e227_57, e227_58, e227_59, e227_62, e227_65, e227_66, e227_69, e227_70, e227_73, e227_74, e227_77, e227_80, e227_81, e227_82, e227_83, e227_86, e227_87, e227_88, e227_91, e227_92, e227_93, e227_94, e227_95, e227_96, e227_99, e227_102, e227_103, e227_106, e227_107, e227_108, e227_109, e227_112, e227_113, e227_114, e227_117, e227_118, e227_119, e227_120, e227_121, e227_122, e227_123, e227_124, e227_125, e227_126, e227_127, e227_128, rk_n, rk_v, nl_n, nl_i, nl_r, cat_n, ip_cat_int, ip_cat_ref, ip_cat_long, ip_rf_some, Nat.reduceAdd, Nat.reduceLeDiff, Nat.reduceLT, Nat.le_refl, Nat.zero_le, M1 _ _ _ _ _ _ _ _ rfl, M2, up_eq, true_or, Bool.false_eq_true, Bool.true_eq_false, if_true, if_false, not_true_eq_false, not_false_eq_true, zle, eq_self]
  · refine same_x (I1 := I) (I2 := ip_up I 265 0 1) (u := 0) (R1 := R) (code := 1) X0 (by decide) (fun d => ?_) onlyP_refl (fun _ _ _ => rfl) (fun d => ?_) scM_0 up_eq
    · refine w89x1 (d := d + 13) ?_
      simp only [en90, e90_0, e90_1, e90_2, e90_5, e90_6, e90_9, e90_10, e90_13, e90_14, e90_17, e90_18, e90_19, e90_20, e90_23, e90_24, e90_25, e90_26, e90_27, e90_30, e90_31, e90_33, e90_34, e90_37, e90_40, e90_42, e90_43, e90_44, e90_45, e90_46, e90_49, e90_59, e90_60, e90_61, e90_62, e90_63, e90_64, e90_67, rk_n, rk_v, nl_n, nl_i, nl_r, cat_n, ip_cat_int, ip_cat_ref, ip_cat_long, ip_rf_some, Nat.reduceAdd, Nat.reduceLeDiff, Nat.reduceLT, Nat.le_refl, Nat.zero_le, C1, rk_x hh90, Bool.false_eq_true, Bool.true_eq_false, if_true, if_false, not_true_eq_false, not_false_eq_true, zle, eq_self]
      rfl
    · simp only [en227, e227_0, e227_1, e227_2, e227_3, e227_6, e227_9, e227_10, e227_13, e227_14, e227_17, e227_20, e227_21, e227_24, e227_25, e227_28, e227_29, e227_32, e227_33, e227_36, e227_37, e227_40, e227_41, e227_44, e227_45, e227_46, e227_49, e227_52, e227_53, e227_54, e227_57, e227_58, e227_59, e227_62, e227_65, e227_66, e227_69, e227_70, e227_73, e227_74, e227_77, e227_80, e227_81, e227_82, e227_83, e227_86, e227_87, e227_88, e227_91, e227_92, e227_93, e227_94, e227_95, e227_96, e227_99, e227_102, e227_103, e227_106, e227_107, e227_108, e227_109, e227_112, e227_113, e227_114, e227_117, e227_118, e227_119, e227_120, e227_121, e227_122, e227_123, e227_124, e227_125, e227_126, e227_127, e227_128, rk_n, rk_v, nl_n, nl_i, nl_r, cat_n, ip_cat_int, ip_cat_ref, ip_cat_long, ip_rf_some, Nat.reduceAdd, Nat.reduceLeDiff, Nat.reduceLT, Nat.le_refl, Nat.zero_le, M1 _ _ _ _ _ _ _ _ rfl, up_eq, true_or, Bool.false_eq_true, Bool.true_eq_false, if_true, if_false, not_true_eq_false, not_false_eq_true, zle, eq_self]
end S9
