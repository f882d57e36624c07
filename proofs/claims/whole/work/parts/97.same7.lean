/-! CALL BY CALL: round -/
section S7
variable {n d a b T c s t z o w m p lev k side ap b0 b1 N q B C F A : Nat} {I J K M I1 I2 : Nat → Nat → Int32} {L L' : Nat → Nat → Int64} {R R' : Nat → Nat → Option Nat} {nc ns : Nat} {nx : Bool} {x y j v u code x1 x2 x3 : Int32} {P : Nat → Nat → Prop} {h' h : ip_H}
theorem round_get (hab : A + 5 ≤ F ∨ F + 5 ≤ A) : (∀ a j, ¬ inN A a → roundI I A F x a j = I a j) ∧ roundI I A F x A 0 = 0 ∧ roundI I A F x A 1 = x ∧ roundI I A F x A 2 = -1 ∧ roundI I A F x A 3 = I F 6 ∧ roundI I A F x A 9 = -1 ∧ roundI I A F x A 10 = 0 ∧ roundI I A F x A 11 = I F 11 + 1 ∧ (∀ j, (j = 4 ∨ j = 5 ∨ j = 6 ∨ j = 7 ∨ j = 8) → roundI I A F x A j = I F j) ∧ (∀ s, s < 2 → roundI I A F x (A + 1) s = 0 ∧ roundI I A F x (A + 2) s = I (F + 2) s) ∧ (∀ i, i < 8 → roundI I A F x (A + 3) i = I (F + 3) i ∧ roundI I A F x (A + 4) i = I (F + 4) i) := by
  obtain ⟨y0, y1, y2, y3⟩ := copy_get (I := I) hab
  have n01 : ¬ A = A + 1 := by omega
  have n10 : ¬ A + 1 = A := by omega
  have n20 : ¬ A + 2 = A := by omega
  have n21 : ¬ A + 2 = A + 1 := by omega
  have n30 : ¬ A + 3 = A := by omega
  have n31 : ¬ A + 3 = A + 1 := by omega
  have n40 : ¬ A + 4 = A := by omega
  have n41 : ¬ A + 4 = A + 1 := by omega
  unfold roundI becomeI
  refine ⟨?_, ?_, ?_, ?_, ?_, ?_, ?_, ?_, ?_, ?_, ?_⟩
  · intro a j h
    have g0 : ¬ a = A := fun e => h (by unfold inN; omega)
    have g1 : ¬ a = A + 1 := fun e => h (by unfold inN; omega)
    simp only [up_a, g0, g1, not_false_eq_true]
    exact y0 a j h
  · simp only [up_a, up_k, up_eq, n01, Nat.reduceEqDiff, not_false_eq_true]
  · simp only [up_a, up_k, up_eq, n01, Nat.reduceEqDiff, not_false_eq_true]
  · simp only [up_a, up_k, up_eq, n01, Nat.reduceEqDiff, not_false_eq_true]
  · simp only [up_a, up_k, up_eq, n01, Nat.reduceEqDiff, not_false_eq_true]
  · simp only [up_a, up_k, up_eq, n01, Nat.reduceEqDiff, not_false_eq_true]
  · simp only [up_a, up_k, up_eq, n01, Nat.reduceEqDiff, not_false_eq_true]
  · simp only [up_eq]
  · intro j hj
    rw [← y1 j (by omega)]
    rcases hj with rfl | rfl | rfl | rfl | rfl <;> simp only [up_a, up_k, up_eq, n01, Nat.reduceEqDiff, not_false_eq_true]
  · intro s hs
    refine ⟨?_, ?_⟩
    · rcases lt2 hs with rfl | rfl <;> simp only [up_a, up_k, up_eq, n10, Nat.reduceEqDiff, not_false_eq_true]
    · rw [← y2 s hs]
      simp only [up_a, n20, n21, not_false_eq_true]
  · intro i hi
    simp only [up_a, n30, n31, n40, n41, not_false_eq_true]
    exact y3 i hi
theorem S12 : SAMEX 119 242 [] Int32.toInt64 := by
  intro n I L R nc ns nx T c N w t p X
  have X0 := X
  have hR := X.1
  have hc8 : c ≤ 8 := X.2.1.2.2.2.1
  have P8 := p2le hc8
  obtain ⟨⟨n1, n2, n3⟩, ⟨y1, y2⟩, ⟨y3, y4⟩, y5⟩ := X.2.2.1
  have W := y5 w n3
  have b0 := (nu_inb (t := w) (k := 40) (by omega)).mpr (by omega)
  have e1 := nd_of (k := w) (by omega)
  have iw := isN_nd (k := w) (by omega)
  have lw : w < 2147483648 := by omega
  have w40 : w < 40 := by omega
  have l0 : I (65 + 5 * w) 0 = I 289 w := W.1.1
  have h0 : I (65 + 5 * w) 2 = I 291 w := W.2.2.1.1
  by_cases g1 : I 289 w = 0
  · refine same_x (I1 := I) (I2 := ip_up I 265 0 1) (u := 0) (R1 := R) (code := 1) X0 (by decide) (fun d => ?_) onlyP_refl (fun _ _ _ => rfl) (fun d => ?_) scM_0 up_eq
    · refine w119x1 (d := d + 13) ?_
      simp only [en120, e120_0, e120_1, e120_4, e120_5, e120_8, e120_9, e120_10, e120_11, e120_14, e120_17, e120_18, e120_21, e120_22, e120_25, e120_35, e120_36, e120_39, e120_40, e120_43, e120_44, e120_47, e120_48, e120_49, e120_50, e120_53, e120_56, e120_57, e120_60, rk_n, rk_v, nl_n, nl_i, nl_r, cat_n, ip_cat_int, ip_cat_ref, ip_cat_long, ip_rf_some, Nat.reduceAdd, Nat.reduceLeDiff, Nat.reduceLT, Nat.le_refl, Nat.zero_le, hR, y3, b0, e1, iw, l0, g1, Bool.false_eq_true, Bool.true_eq_false, if_true, if_false, not_true_eq_false, not_false_eq_true, zle, eq_self]
      rfl
    · show cf (d + 14) 242 [.ref 265] (SH n, I, L, R, nc + 1, ns + 6, true) = some (.inl (some (.int 0)), (SH n, ip_up I 265 0 1, L, R, nc + 1, ns + 6, true))
      simp only [en242, e242_0, e242_1, e242_2, e242_5, e242_6, e242_9, e242_10, e242_13, e242_14, e242_17, e242_18, e242_21, e242_22, e242_23, e242_26, e242_27, e242_30, e242_32, e242_35, e242_36, e242_39, e242_40, e242_43, e242_44, e242_47, e242_50, e242_51, e242_52, e242_53, e242_56, e242_57, e242_58, e242_59, e242_60, e242_63, e242_64, e242_67, e242_68, e242_69, e242_72, e242_73, e242_74, e242_75, e242_76, e242_76r, e242_77, e242_80, e242_81, e242_82, e242_85, e242_86, e242_87, e242_90, e242_91, rk_n, rk_v, nl_n, nl_i, nl_r, cat_n, ip_cat_int, ip_cat_ref, ip_cat_long, ip_rf_some, Nat.reduceAdd, Nat.reduceLeDiff, Nat.reduceLT, Nat.le_refl, Nat.zero_le, hR, ia_lit, nu_i, nu_tn, lw, w40, y4, g1, up_eq, Bool.false_eq_true, Bool.true_eq_false, if_true, if_false, not_true_eq_false, not_false_eq_true, zle, eq_self]
  · by_cases g2 : I 291 w = 3
    · by_cases hN : N < 40
      · have RM := fun d => c107 (d := d) (n := n) (I := I) (L := L) (R := R) (nc := nc) (ns := ns) (nx := nx) (by rw [y1]; exact (nu_lt (s := 40) (by omega) (by omega)).mpr hN)
        have nA0 : isN (65 + 5 * N) := isN_nd hN
        have hab : 65 + 5 * N + 5 ≤ 65 + 5 * w ∨ 65 + 5 * w + 5 ≤ 65 + 5 * N := by omega
        have BR := fun d => c121 (d := d) (n := n) (I := I) (L := L) (nc := nc) (ns := ns) (nx := nx) (x := Int32.ofNat w) hR nA0 iw hab
        obtain ⟨r0, k0, k1, k2, k3, k9, k10, k11, kj, kb, kfl⟩ := round_get (I := I) (x := Int32.ofNat w) hab
        generalize hKc : roundI I (65 + 5 * N) (65 + 5 * w) (Int32.ofNat w) = Kc at *
        have kc6 : Kc 2 6 = Int32.ofNat N := (r0 2 6 (by unfold inN; omega)).trans y1
        generalize hI1 : ip_up (ip_up Kc 2 7 (Int32.ofNat N)) 2 6 (Int32.ofNat (N + 1)) = I1
        have i1 : ∀ a k, ¬ a = 2 → I1 a k = Kc a k := by intro a k h; rw [← hI1, up_a h, up_a h]
        have TN := fun d => c118 (d := d) (n := n) (I := Kc) (L := L) (R := R) (nc := nc) (ns := ns) (nx := true)
        simp only [kc6, nu_1, hI1] at TN
        have ag : ∀ a k, 265 ≤ a → I1 a k = I a k := fun a k h => (i1 a k (by omega)).trans (r0 a k (by unfold inN; omega))
        -- the model
        have e38 : ip_up I1 265 0 0 265 38 = Int32.ofNat w := by rw [up_k (by decide), ag 265 38 (by omega)]; exact y4
        obtain ⟨J2, CP, o2, c289, c290, c291, c292, c293, c294, c295, c296, c297, c298, c299, ck, cf8⟩ := c240 (d := 0) (n := n) (I := ip_up I1 265 0 0) (L := ip_up L 307 0 (Int32.ofNat N).toInt64) (nc := nc) (ns := ns) (nx := true) (l := 0) hR e38 w40 hN (by omega)
        have CP' := fun d => cf_le CP (show 0 ≤ d + 12 by omega)
        have i0 : ∀ a k, ¬ (a = 265 ∧ k = 0) → ip_up I1 265 0 0 a k = I1 a k := by
          intro a k h
          by_cases e : a = 265
          · subst e; exact up_k (fun e => h ⟨rfl, e⟩)
          · exact up_a e
        have z293 : J2 293 N = I 293 w := c293.trans ((i0 293 w (by omega)).trans (ag 293 w (by omega)))
        have z37 : J2 265 37 = Int32.ofNat N := (o2 265 37 (by unfold atQ; omega)).trans ((i0 265 37 (by omega)).trans ((ag 265 37 (by omega)).trans y2))
        generalize hK : ip_up (ip_up (ip_up J2 292 N (I 293 w)) 265 37 (Int32.ofNat (N + 1))) 265 38 (Int32.ofNat N) = K
        have kJ : ∀ a k, ¬ a = 265 → ¬ (a = 292 ∧ k = N) → K a k = J2 a k := by
          intro a k h1 h2
          rw [← hK, up_a h1, up_a h1]
          by_cases e : a = 292
          · subst e; exact up_k (fun e => h2 ⟨rfl, e⟩)
          · exact up_a e
        have low : ∀ a k, a < 265 → K a k = I1 a k := by
          intro a k h
          rw [kJ a k (by omega) (by omega), o2 a k (by unfold atQ; omega)]
          exact i0 a k (by omega)
        have hi : ∀ a k, 265 < a → ¬ atQ N a k → K a k = I a k := by
          intro a k h hn
          rw [kJ a k (by omega) (fun e => hn (by unfold atQ; omega)), o2 a k hn, i0 a k (by omega)]
          exact ag a k (by omega)
        have h65 : ∀ k, ¬ k = 0 → ¬ k = 37 → ¬ k = 38 → K 265 k = I 265 k := by
          intro k h1 h2 h3
          rw [← hK, up_k h3, up_k h2, up_a (by decide), o2 265 k (by unfold atQ; omega), i0 265 k (by omega)]
          exact ag 265 k (by omega)
        have nodes : ∀ a j, 65 ≤ a → a < 65 + 5 * N → K a j = I a j := by
          intro a j h1 h2
          rw [low a j (by omega), i1 a j (by omega)]
          exact r0 a j (by unfold inN; omega)
        have KA : ∀ i j, i ≤ 4 → K (65 + 5 * N + i) j = Kc (65 + 5 * N + i) j := fun i j h => (low _ j (by omega)).trans (i1 _ j (by omega))
        have KA0 : ∀ j, K (65 + 5 * N) j = Kc (65 + 5 * N) j := fun j => KA 0 j (by omega)
        have m : ∀ a, 289 ≤ a → a ≤ 299 → ¬ a = 292 → K a N = J2 a N := fun a h1 h2 h3 => kJ a N (by omega) (by omega)
        have cp : ∀ a, 293 ≤ a → a ≤ 296 → J2 a N = ip_up I1 265 0 0 a w → K a N = I a w := by
          intro a h1 h2 e
          rw [m a (by omega) (by omega) (by omega), e, i0 a w (by omega)]
          exact ag a w (by omega)
        have m293 := cp 293 (by omega) (by omega) c293
        have m294 := cp 294 (by omega) (by omega) c294
        have m295 := cp 295 (by omega) (by omega) c295
        have m296 := cp 296 (by omega) (by omega) c296
        have m289 : K 289 N = 0 := (m 289 (by omega) (by omega) (by omega)).trans c289
        have m290 : K 290 N = Int32.ofNat w := (m 290 (by omega) (by omega) (by omega)).trans c290
        have m291 : K 291 N = -1 := (m 291 (by omega) (by omega) (by omega)).trans c291
        have m292 : K 292 N = I 293 w := by rw [← hK, up_a (by decide), up_a (by decide), up_eq]
        have m297 : K 297 N = -1 := (m 297 (by omega) (by omega) (by omega)).trans c297
        have m298 : K 298 N = 0 := (m 298 (by omega) (by omega) (by omega)).trans c298
        have m299 : K 299 N = 0 := (m 299 (by omega) (by omega) (by omega)).trans c299
        have NEW : ND c N K := by
          obtain ⟨q1, q2, q3, q4, q5, q6, q7, q8, q9, q10, q11, q12, q13, q14, q15⟩ := W
          refine ⟨⟨(KA0 0).trans (k0.trans m289.symm), Or.inl m289⟩, ⟨(KA0 1).trans (k1.trans m290.symm), fun e => by omega, fun _ => ⟨w, n3, m290, ?_⟩⟩, ⟨(KA0 2).trans (k2.trans m291.symm), fun _ => m291, fun e => absurd m289 e⟩, ⟨?_, by rw [m292]; exact q6.2, fun e => absurd m289 e⟩, ⟨?_, by rw [m296]; exact q5.2⟩, ⟨?_, by rw [m293]; exact q6.2⟩, by rw [m293, m296]; exact q7, ?_, ⟨?_, by rw [m294]; exact q9.2⟩, ⟨?_, by rw [m295]; exact q10.2⟩, ⟨?_, by rw [m298]; exact (nu_inb (t := 0) (by omega)).mpr (Nat.two_pow_pos c)⟩, ?_, ?_, ?_, ?_⟩
          · rw [KA0 11, k11, m289, if_pos rfl, nodes (65 + 5 * w) 11 (by omega) (by omega)]
          · rw [KA0 3, k3, m292]; exact q6.1
          · rw [KA0 4, kj 4 (by omega), m296]; exact q5.1
          · rw [KA0 6, kj 6 (by omega), m293]; exact q6.1
          · rw [KA0 5, kj 5 (by omega), m293, m296]; exact q8
          · rw [KA0 7, kj 7 (by omega), m294]; exact q9.1
          · rw [KA0 8, kj 8 (by omega), m295]; exact q10.1
          · rw [KA0 10, k10, m298]
          · rw [KA0 9, k9, m297]
          · rw [m299, m289, if_pos rfl, m292, m293]
            have : sN (I 293 w) &&& (255 ^^^ sN (I 293 w)) = 0 := by
              have l := (inb_sN q6.2).2
              apply Nat.eq_of_testBit_eq
              intro i
              rw [Nat.testBit_and, tbn, Nat.zero_testBit]
              by_cases h8 : i < 8
              · simp only [h8, decide_true]; cases (sN (I 293 w)).testBit i <;> rfl
              · rw [tb_hi (show sN (I 293 w) < 256 by omega) (by omega)]; rfl
            rw [this]; rfl
          · intro s hs
            have z0 : K 300 (2 * N + s) = 0 := (kJ _ _ (by omega) (by omega)).trans (ck s hs).1
            have z1 : K 301 (2 * N + s) = I 301 (2 * w + s) := (kJ _ _ (by omega) (by omega)).trans ((ck s hs).2.trans ((i0 _ _ (by omega)).trans (ag _ _ (by omega))))
            refine ⟨⟨by rw [KA 1 s (by omega), (kb s hs).1, z0], by rw [z0]; exact (nu_inb (t := 0) (by omega)).mpr (Nat.two_pow_pos c)⟩, ⟨by rw [KA 2 s (by omega), (kb s hs).2, z1]; exact (q14 s hs).2.1, by rw [z1]; exact (q14 s hs).2.2⟩⟩
          · intro i hi'
            obtain ⟨f1, f2, f3⟩ := cf8 i (by omega)
            have g : ∀ a, a = 302 ∨ a = 303 ∨ a = 304 → J2 a (8 * N + i) = ip_up I1 265 0 0 a (8 * w + i) → K a (8 * N + i) = I a (8 * w + i) := by
              intro a ha e
              rw [kJ a _ (by omega) (by omega), e, i0 a _ (by omega)]
              exact ag a _ (by omega)
            have g2' := g 302 (by omega) f1
            have g3' := g 303 (by omega) f2
            have g4' := g 304 (by omega) f3
            rw [m293, g2', g3', g4', KA 3 i (by omega), KA 4 i (by omega), (kfl i (by omega)).1, (kfl i (by omega)).2]
            refine ⟨(q15 i hi').1, fun h => ?_⟩
            obtain ⟨a1, q', b2, b3, b4, b5⟩ := (q15 i hi').2 h
            exact ⟨a1, q', by omega, b3, b4, by rw [hi 289 q' (by omega) (by unfold atQ; omega)]; exact b5⟩
        have FIN : onlyP (fun a k => inN (65 + 5 * N) a ∨ (a = 2 ∧ (k = 6 ∨ k = 7)) ∨ (a = 265 ∧ (k = 0 ∨ k = 37 ∨ k = 38)) ∨ atQ N a k) I K := by
          intro a k h
          by_cases h1 : a < 265
          · rw [low a k h1]
            by_cases h2 : a = 2
            · subst h2
              rw [← hI1, up_k (fun e => h (by omega)), up_k (fun e => h (by omega))]
              exact r0 2 k (by unfold inN; omega)
            · rw [i1 a k h2]
              exact r0 a k (fun e => h (Or.inl e))
          · by_cases h2 : a = 265
            · subst h2
              exact h65 k (fun e => h (by omega)) (fun e => h (by omega)) (fun e => h (by omega))
            · exact hi a k (by omega) (fun e => h (Or.inr (Or.inr (Or.inr e))))
        have FN : ∀ a k, ¬ (inN (65 + 5 * N) a ∨ (a = 2 ∧ (k = 6 ∨ k = 7)) ∨ (a = 265 ∧ (k = 0 ∨ k = 37 ∨ k = 38)) ∨ atQ N a k) → K a k = I a k := FIN
        have lN : N < 2147483648 := by omega
        refine ⟨0, Int32.ofNat N, I1, K, ip_up L 307 0 (Int32.ofNat N).toInt64, ip_up L 307 0 (Int32.ofNat N).toInt64, R, nc, ns, true, T, c, N + 1, N, t, p, fun d => ?_, fun d => ?_, ?_, fun _ => by rw [up_eq], ?_, by omega, by omega, fun i => FN 0 i (by unfold inN atQ; omega)⟩
        · refine w119 (d := d + 13) ?_
          have bN := (nu_inb (t := N) (k := 40) (by omega)).mpr hN
          have eN := nd_of (k := N) (by omega)
          simp only [en120, e120_0, e120_1, e120_4, e120_5, e120_8, e120_9, e120_10, e120_11, e120_14, e120_17, e120_18, e120_21, e120_22, e120_25, e120_35, e120_36, e120_39, e120_40, e120_43, e120_44, e120_47, e120_48, e120_49, e120_50, e120_53, e120_56, e120_57, e120_60, rk_n, rk_v, nl_n, nl_i, nl_r, cat_n, ip_cat_int, ip_cat_ref, ip_cat_long, ip_rf_some, Nat.reduceAdd, Nat.reduceLeDiff, Nat.reduceLT, Nat.le_refl, Nat.zero_le, hR, y3, b0, e1, iw, l0, h0, g1, g2, RM, y1, bN, eN, nA0, BR, hKc, TN, Bool.false_eq_true, Bool.true_eq_false, if_true, if_false, not_true_eq_false, not_false_eq_true, zle, eq_self]
        · have e40 : (Int32.ofNat N = 40) = False := (nu_eq (k := 40) (by omega) (by omega)).trans (eq_false (by omega))
          have a38 : I1 265 38 = Int32.ofNat w := (ag 265 38 (by omega)).trans y4
          have a37 : I1 265 37 = Int32.ofNat N := (ag 265 37 (by omega)).trans y2
          have a289 : ¬ I1 289 w = 0 := by rw [ag 289 w (by omega)]; exact g1
          have a291 : I1 291 w = 3 := (ag 291 w (by omega)).trans g2
          have b37 : ip_up I1 265 0 0 265 37 = Int32.ofNat N := (up_k (by decide)).trans a37
          show cf (d + 14) 242 [.ref 265] (SH n, I1, ip_up L 307 0 (Int32.ofNat N).toInt64, R, nc, ns, true) = _
          simp only [en242, e242_0, e242_1, e242_2, e242_5, e242_6, e242_9, e242_10, e242_13, e242_14, e242_17, e242_18, e242_21, e242_22, e242_23, e242_26, e242_27, e242_30, e242_32, e242_35, e242_36, e242_39, e242_40, e242_43, e242_44, e242_47, e242_50, e242_51, e242_52, e242_53, e242_56, e242_57, e242_58, e242_59, e242_60, e242_63, e242_64, e242_67, e242_68, e242_69, e242_72, e242_73, e242_74, e242_75, e242_76, e242_76r, e242_77, e242_80, e242_81, e242_82, e242_85, e242_86, e242_87, e242_90, e242_91, rk_n, rk_v, nl_n, nl_i, nl_r, cat_n, ip_cat_int, ip_cat_ref, ip_cat_long, ip_rf_some, Nat.reduceAdd, Nat.reduceLeDiff, Nat.reduceLT, Nat.le_refl, Nat.zero_le, hR, ia_lit, nu_i, nu_tn, lw, w40, lN, hN, a38, a37, a289, a291, e40, up_eq, b37, CP', z293, up_a, z37, nu_1, Nat.reduceEqDiff, Bool.false_eq_true, Bool.true_eq_false, if_true, if_false, not_true_eq_false, not_false_eq_true, zle, eq_self]
          rw [← hK]
        · rw [← hK, up_k (by decide), up_k (by decide), up_a (by decide), o2 265 0 (by unfold atQ; omega), up_eq]
        · have Lk : ∀ a k, ¬ a = 307 → ip_up L 307 0 (Int32.ofNat N).toInt64 a k = L a k := L307
          obtain ⟨x1', x2', x3', x4', x5', x6', x7'⟩ := X0
          have tt := x2'.1
          refine ⟨hR, RTx_P x2' FIN (fun a k h e => by unfold inN atQ at e; omega) (fun a k h => Lk a k (by omega)) rfl rfl, ⟨⟨by omega, by omega, by omega⟩, ⟨?_, ?_⟩, ⟨?_, ?_⟩, ?_⟩, RTa_P x4' FIN (fun a k h e => by unfold inN atQ at e; omega), RPa_P x5' FIN (fun a k h e => by unfold inN atQ at e; omega), ?_, fun k hk => by rw [Lk 1 k (by omega)]; exact x7' k hk⟩
          · rw [low 2 6 (by omega), ← hI1, up_eq]
          · rw [← hK, up_k (by decide), up_eq]
          · rw [low 2 7 (by omega), ← hI1, up_k (by decide), up_eq]
          · rw [← hK, up_eq]
          · intro k hk
            by_cases e : k = N
            · subst e; exact NEW
            · exact ND_old hc8 (by omega) (show k < N by omega) (y5 k (by omega)) nodes (fun a j h1 h2 h3 => hi a j (by omega) (by unfold atQ; omega)) (fun a j h1 h2 => hi a j (by omega) (by unfold atQ; omega)) (fun a j h1 h2 => hi a j (by omega) (by unfold atQ; omega))
          · rw [FN 2 2 (by unfold inN atQ; omega), FN 265 5 (by unfold inN atQ; omega)]; exact x6'
      · have n40 : N = 40 := by omega
        have RM := fun d => x107 (d := d) (n := n) (I := I) (L := L) (R := R) (nc := nc) (ns := ns) (nx := nx) (by rw [y1, n40]; decide)
        refine same_x (I1 := I) (I2 := ip_up I 265 0 1) (u := 0) (R1 := R) (code := 1) X0 (by decide) (fun d => ?_) onlyP_refl (fun _ _ _ => rfl) (fun d => ?_) scM_0 up_eq
        · refine w119x1 (d := d + 13) ?_
          simp only [en120, e120_0, e120_1, e120_4, e120_5, e120_8, e120_9, e120_10, e120_11, e120_14, e120_17, e120_18, e120_21, e120_22, e120_25, e120_35, e120_36, e120_39, e120_40, e120_43, e120_44, e120_47, e120_48, e120_49, e120_50, e120_53, e120_56, e120_57, e120_60, rk_n, rk_v, nl_n, nl_i, nl_r, cat_n, ip_cat_int, ip_cat_ref, ip_cat_long, ip_rf_some, Nat.reduceAdd, Nat.reduceLeDiff, Nat.reduceLT, Nat.le_refl, Nat.zero_le, hR, y3, b0, e1, iw, l0, h0, g1, g2, RM, rk_x hh120, Bool.false_eq_true, Bool.true_eq_false, if_true, if_false, not_true_eq_false, not_false_eq_true, zle, eq_self]
          rfl
        · have i37 : I 265 37 = Int32.ofNat 40 := by rw [y2, n40]
          have e40 : (Int32.ofNat 40 = 40) = True := eq_true rfl
          show cf (d + 14) 242 [.ref 265] (SH n, I, L, R, nc + 1, ns + 6, true) = some (.inl (some (.int 0)), (SH n, ip_up I 265 0 1, L, R, nc + 1, ns + 6, true))
          simp only [en242, e242_0, e242_1, e242_2, e242_5, e242_6, e242_9, e242_10, e242_13, e242_14, e242_17, e242_18, e242_21, e242_22, e242_23, e242_26, e242_27, e242_30, e242_32, e242_35, e242_36, e242_39, e242_40, e242_43, e242_44, e242_47, e242_50, e242_51, e242_52, e242_53, e242_56, e242_57, e242_58, e242_59, e242_60, e242_63, e242_64, e242_67, e242_68, e242_69, e242_72, e242_73, e242_74, e242_75, e242_76, e242_76r, e242_77, e242_80, e242_81, e242_82, e242_85, e242_86, e242_87, e242_90, e242_91, rk_n, rk_v, nl_n, nl_i, nl_r, cat_n, ip_cat_int, ip_cat_ref, ip_cat_long, ip_rf_some, Nat.reduceAdd, Nat.reduceLeDiff, Nat.reduceLT, Nat.le_refl, Nat.zero_le, hR, ia_lit, nu_i, nu_tn, lw, w40, y4, g1, g2, i37, e40, up_eq, Bool.false_eq_true, Bool.true_eq_false, if_true, if_false, not_true_eq_false, not_false_eq_true, zle, eq_self]
    · refine same_x (I1 := I) (I2 := ip_up I 265 0 1) (u := 0) (R1 := R) (code := 1) X0 (by decide) (fun d => ?_) onlyP_refl (fun _ _ _ => rfl) (fun d => ?_) scM_0 up_eq
      · refine w119x1 (d := d + 13) ?_
        simp only [en120, e120_0, e120_1, e120_4, e120_5, e120_8, e120_9, e120_10, e120_11, e120_14, e120_17, e120_18, e120_21, e120_22, e120_25, e120_35, e120_36, e120_39, e120_40, e120_43, e120_44, e120_47, e120_48, e120_49, e120_50, e120_53, e120_56, e120_57, e120_60, rk_n, rk_v, nl_n, nl_i, nl_r, cat_n, ip_cat_int, ip_cat_ref, ip_cat_long, ip_rf_some, Nat.reduceAdd, Nat.reduceLeDiff, Nat.reduceLT, Nat.le_refl, Nat.zero_le, hR, y3, b0, e1, iw, l0, h0, g1, g2, Bool.false_eq_true, Bool.true_eq_false, if_true, if_false, not_true_eq_false, not_false_eq_true, zle, eq_self]
        rfl
      · show cf (d + 14) 242 [.ref 265] (SH n, I, L, R, nc + 1, ns + 6, true) = some (.inl (some (.int 0)), (SH n, ip_up I 265 0 1, L, R, nc + 1, ns + 6, true))
        simp only [en242, e242_0, e242_1, e242_2, e242_5, e242_6, e242_9, e242_10, e242_13, e242_14, e242_17, e242_18, e242_21, e242_22, e242_23, e242_26, e242_27, e242_30, e242_32, e242_35, e242_36, e242_39, e242_40, e242_43, e242_44, e242_47, e242_50, e242_51, e242_52, e242_53, e242_56, e242_57, e242_58, e242_59, e242_60, e242_63, e242_64, e242_67, e242_68, e242_69, e242_72, e242_73, e242_74, e242_75, e242_76, e242_76r, e242_77, e242_80, e242_81, e242_82, e242_85, e242_86, e242_87, e242_90, e242_91, rk_n, rk_v, nl_n, nl_i, nl_r, cat_n, ip_cat_int, ip_cat_ref, ip_cat_long, ip_rf_some, Nat.reduceAdd, Nat.reduceLeDiff, Nat.reduceLT, Nat.le_refl, Nat.zero_le, hR, ia_lit, nu_i, nu_tn, lw, w40, y4, g1, g2, up_eq, Bool.false_eq_true, Bool.true_eq_false, if_true, if_false, not_true_eq_false, not_false_eq_true, zle, eq_self]
end S7
