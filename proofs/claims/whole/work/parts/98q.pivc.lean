/-! PIVOTAL: the class's -/
section PIV
variable {n d a b T c s t z o w m p lev k side ap b0 b1 N q B C F A i D : Nat} {I J K M I1 I2 : Nat → Nat → Int32} {L L' : Nat → Nat → Int64} {R R' : Nat → Nat → Option Nat} {nc ns : Nat} {nx : Bool} {x y j v u code x1 x2 x3 : Int32} {P : Nat → Nat → Prop} {h' h : ip_H}
theorem c22 (X : REL T c N w t p I L R) : ∃ y, (∀ i, y.testBit i = true ↔ i < c ∧ (sN (I 293 w)).testBit i = true ∧ ∃ r, r < 256 ∧ r &&& sN (I 293 w) = r ∧ ¬ winL L T ((sN (I 296 w) ||| r) ^^^ 2 ^ i) = winL L T (sN (I 296 w) ||| r)) ∧ ∀ d n nc ns nx, cf (d + 14) 22 [.ref 2] (SH n, I, L, R, nc, ns, nx) = some (.inl (some (.int (Int32.ofNat y))), (SH n, I, L, R, nc, ns, nx)) := by
  have X0 := X
  have hR := X.1
  have hT : isT T := (REL_C X).1
  obtain ⟨tt, rT, v3, hc8, i6T, i17, v7, v8, v9, v10, v11, wn, v13⟩ := X.2.1
  have P8 := p2le hc8
  obtain ⟨⟨n1, n2, n3⟩, ⟨y1, y2⟩, ⟨y3, y4⟩, y5⟩ := X.2.2.1
  have b0 := (nu_inb (t := w) (k := 40) (by omega)).mpr (by omega)
  have e1 := nd_of (k := w) (by omega)
  have iw := isN_nd (k := w) (by omega)
  obtain ⟨q1, q2, q3, q4, q5, q6, q7, q8, -⟩ := y5 w n3
  obtain ⟨so, lo⟩ := inb_sN q6.2
  obtain ⟨sz, lz⟩ := inb_sN q5.2
  have i6 := q6.1.trans so
  have i4 := q5.1.trans sz
  generalize ho : sN (I 293 w) = o at *
  generalize hzz : sN (I 296 w) = zz at *
  have o8 : o < 256 := by omega
  have zz8 : zz < 256 := by omega
  have P2 := pow_pop o8
  have P3 := pow_pop_le o8
  have lp : 2 ^ pop o < 2147483648 := by omega
  have or8 : ∀ s, s < 256 → zz ||| s < 256 := fun s hs => Nat.or_lt_two_pow (n := 8) zz8 hs
  let TT : Nat → Nat := fun s => setN (fun i => o.testBit i && (winL L T ((zz ||| s) ^^^ 2 ^ i) != winL L T (zz ||| s))) c
  let acc : Nat → Nat := fun a => Nat.rec 0 (fun s y => if s &&& o = s then y ||| TT s else y) a
  have ac : ∀ s, acc (s + 1) = if s &&& o = s then acc s ||| TT s else acc s := fun s => rfl
  refine ⟨acc 256, ?_, fun d n nc ns nx => ?_⟩
  · have H : ∀ a, a ≤ 256 → ∀ i, (acc a).testBit i = true ↔ i < c ∧ o.testBit i = true ∧ ∃ r, r < a ∧ r &&& o = r ∧ ¬ winL L T ((zz ||| r) ^^^ 2 ^ i) = winL L T (zz ||| r) := by
      intro a
      induction a with
      | zero =>
        intro _ i
        constructor
        · intro h
          have : (0 : Nat).testBit i = true := h
          rw [Nat.zero_testBit] at this
          exact absurd this (by decide)
        · rintro ⟨-, -, r, hr, -⟩; omega
      | succ a ih =>
        intro ha i
        rw [ac]
        by_cases g : a &&& o = a
        · rw [if_pos g, Nat.testBit_or, Bool.or_eq_true, ih (by omega) i]
          have tt1 : (TT a).testBit i = true ↔ i < c ∧ o.testBit i = true ∧ ¬ winL L T ((zz ||| a) ^^^ 2 ^ i) = winL L T (zz ||| a) := by
            show (setN _ c).testBit i = true ↔ _
            rw [setN_bit, Bool.and_eq_true, Bool.and_eq_true, decide_eq_true_eq, bne_iff_ne]
          rw [tt1]
          constructor
          · rintro (⟨h1, h2, r, h3, h4⟩ | ⟨h1, h2, h3⟩)
            · exact ⟨h1, h2, r, by omega, h4⟩
            · exact ⟨h1, h2, a, by omega, g, h3⟩
          · rintro ⟨h1, h2, r, h3, h4⟩
            by_cases e : r = a
            · subst e; exact Or.inr ⟨h1, h2, h4.2⟩
            · exact Or.inl ⟨h1, h2, r, by omega, h4⟩
        · rw [if_neg g, ih (by omega) i]
          constructor
          · rintro ⟨h1, h2, r, h3, h4⟩; exact ⟨h1, h2, r, by omega, h4⟩
          · rintro ⟨h1, h2, r, h3, h4⟩
            by_cases e : r = a
            · subst e; exact absurd h4.1 g
            · exact ⟨h1, h2, r, by omega, h4⟩
    exact H 256 (Nat.le_refl _)
  · simp only [en22, e22_0, e22_1, e22_4, e22_5, e22_8, e22_9, e22_10, e22_11, e22_12, e22_13, e22_14, e22_15, e22_19, e22_20, e22_21, e22_24, e22_27, e22_28, e22_31, e22_32, e22_33, e22_36, e22_37, e22_40, e22_41, e22_42, e22_43, e22_46, e22_49, e22_50, e22_51, e22_52, e22_53, e22_56, e22_59, e22_60, e22_63, e22_66, e22_67, rk_n, rk_v, nl_n, nl_i, nl_r, cat_n, ip_cat_int, ip_cat_ref, ip_cat_long, ip_rf_some, Nat.reduceAdd, Nat.reduceLeDiff, Nat.reduceLT, Nat.le_refl, Nat.zero_le, hR, y3, b0, e1, Bool.false_eq_true, Bool.true_eq_false, if_true, if_false, not_true_eq_false, not_false_eq_true, zle, eq_self]
    refine Exists.elim (sub_walk o8 (fun k s (y : Nat) => rf (d + 14) 22 17 [some (.ref 2), some (.ref (65 + 5 * w)), some (.int (Int32.ofNat y)), some (.int (Int32.ofNat s)), some (.int (Int32.ofNat k))] [] (SH n, I, L, R, nc, ns, nx)) (fun s y => y = acc s) ?_ ?_ 0 rfl) ?_
    · intro k s y hk hs8 hso hy
      have lk : k < 2147483648 := by omega
      have g1 : ¬ 2 ^ pop o ≤ k := by omega
      have CT := fun d => c23 (d := d) (n := n) (I := I) (L := L) (nc := nc) (ns := ns) (nx := nx) hR hT i6T hc8 (or8 s hs8) o8
      refine ⟨_, rfl, ?_⟩
      rw [ac, if_pos hso, e22_17, ← hy]
      simp only [e22_0, e22_1, e22_4, e22_5, e22_8, e22_9, e22_10, e22_11, e22_12, e22_13, e22_14, e22_15, e22_19, e22_20, e22_21, e22_24, e22_27, e22_28, e22_31, e22_32, e22_33, e22_36, e22_37, e22_40, e22_41, e22_42, e22_43, e22_46, e22_49, e22_50, e22_51, e22_52, e22_53, e22_56, e22_59, e22_60, e22_63, e22_66, e22_67, rk_n, rk_v, nl_n, nl_i, nl_r, cat_n, ip_cat_int, ip_cat_ref, ip_cat_long, ip_rf_some, Nat.reduceAdd, Nat.reduceLeDiff, Nat.reduceLT, Nat.le_refl, Nat.zero_le, hR, iw, rT, hT, i4, i6, c19s o8, P2, nu_ge, lk, lp, g1, of_or, CT, c20s o8 hs8, nu_1, Bool.false_eq_true, Bool.true_eq_false, if_true, if_false, not_true_eq_false, not_false_eq_true, zle, eq_self]
      rfl
    · intro s y hs8 hso hy
      rw [hy, ac, if_neg hso]
    · rintro s ⟨y, hy, e⟩
      refine Eq.trans e ?_
      rw [← hy, e22_17]
      simp only [e22_0, e22_1, e22_4, e22_5, e22_8, e22_9, e22_10, e22_11, e22_12, e22_13, e22_14, e22_15, e22_19, e22_20, e22_21, e22_24, e22_27, e22_28, e22_31, e22_32, e22_33, e22_36, e22_37, e22_40, e22_41, e22_42, e22_43, e22_46, e22_49, e22_50, e22_51, e22_52, e22_53, e22_56, e22_59, e22_60, e22_63, e22_66, e22_67, rk_n, rk_v, nl_n, nl_i, nl_r, cat_n, ip_cat_int, ip_cat_ref, ip_cat_long, ip_rf_some, Nat.reduceAdd, Nat.reduceLeDiff, Nat.reduceLT, Nat.le_refl, Nat.zero_le, iw, i6, c19s o8, P2, Int32.le_refl, Bool.false_eq_true, Bool.true_eq_false, if_true, if_false, not_true_eq_false, not_false_eq_true, zle, eq_self]
end PIV
