/-! CALL BY CALL: issue, bar, tell, octet -/
section S4
variable {n d a b T c s t z o w m p lev k side ap b0 b1 N q B C F A i tt : Nat} {I J K M I1 I2 : Nat → Nat → Int32} {L L' : Nat → Nat → Int64} {R R' : Nat → Nat → Option Nat} {nc ns : Nat} {nx : Bool} {x y j v u code x1 x2 x3 : Int32} {P : Nat → Nat → Prop} {h' h : ip_H} {f : Nat → Nat}
theorem S4 : SAMEX 73 215 [.int x1, .int x2] Int32.toInt64 := by
  intro n I L R nc ns nx T c N w t p X
  have X0 := X
  have hR := X.1
  have hT : isT T := (REL_C X).1
  have MT := REL_M X
  obtain ⟨-, rT, -, hc8, i6, i17, -, v8, v9, v10, -⟩ := X.2.1
  have g3x : ((2 : Int32) < x2) = ¬ x2 < 3 := gt_of (K := 3) rfl (by decide)
  rcases issC (x := x1) X with ⟨k, hk, rfl, C1, M1⟩ | ⟨C1, M1⟩
  · have k8 : k < 8 := by omega
    have lk : k < 2147483648 := by omega
    have li : inb (Int32.ofNat k) 8 := (nu_inb (by omega)).mpr k8
    have ti : (Int32.ofNat k).toNatClampNeg = k := nu_tn (by omega)
    by_cases g : ¬ x2 < 0 ∧ x2 < 3
    · have M3 := fun d h => c217 (d := d) (x := x2) (y := 0) (z := 2) (h := h) g.1 (by rw [g3x]; exact fun e => e g.2)
      obtain ⟨j, hj, e⟩ := (is_k (K := 3) (by omega)).mp g
      have hj3 : j = 0 ∨ j = 1 ∨ j = 2 := by omega
      rcases hj3 with rfl | rfl | rfl
      · have e : x2 = 0 := e
        subst e
        refine same_ok (I1 := I) (I2 := ip_up I 265 0 0) (u := I 275 k) (R1 := R) (nx1 := nx) X0 _ rfl (fun d => w73 ?_) onlyP_refl (fun _ _ _ => rfl) (fun d => ?_) scM_0 up_eq
        · simp only [en74, e74_0, e74_1, e74_2, e74_5, e74_32, e74_33, e74_36, e74_39, e74_40, e74_41, e74_42, e74_43, e74_46, e74_49, e74_50, e74_51, e74_52, e74_53, e74_56, e74_59, e74_60, e74_61, e74_62, rk_n, rk_v, nl_n, nl_i, nl_r, cat_n, ip_cat_int, ip_cat_ref, ip_cat_long, ip_rf_some, Nat.reduceAdd, Nat.reduceLeDiff, Nat.reduceLT, Nat.le_refl, Nat.zero_le, hR, C1, e74_6_0, rT, hT, ia_T2, li, ti, (v8 k hk).1, Bool.false_eq_true, Bool.true_eq_false, if_true, if_false, not_true_eq_false, not_false_eq_true, zle, eq_self]
        · simp only [en215, e215_0, e215_1, e215_2, e215_3, e215_6, e215_9, e215_10, e215_13, e215_14, e215_15, e215_16, e215_19, e215_22, e215_23, e215_26, e215_27, e215_30, e215_31, e215_34, e215_37, e215_38, e215_39, e215_40, e215_43, e215_44, e215_47, e215_48, e215_49, e215_52, e215_53, e215_54, e215_57, e215_58, e215_61, e215_62, e215_63, e215_66, e215_67, e215_68, e215_69, e215_70, e215_73, rk_n, rk_v, nl_n, nl_i, nl_r, cat_n, ip_cat_int, ip_cat_ref, ip_cat_long, ip_rf_some, Nat.reduceAdd, Nat.reduceLeDiff, Nat.reduceLT, Nat.le_refl, Nat.zero_le, hR, ia_lit, nu_i, nu_tn, lk, k8, M1 _ _ _ _ _ _ _ _ rfl, M3, up_eq, up_a, Nat.reduceEqDiff, true_or, or_true, Bool.false_eq_true, Bool.true_eq_false, if_true, if_false, not_true_eq_false, not_false_eq_true, zle, eq_self]
      · have e : x2 = 1 := e
        subst e
        refine same_ok (I1 := I) (I2 := ip_up I 265 0 0) (u := I 276 k) (R1 := R) (nx1 := nx) X0 _ rfl (fun d => w73 ?_) onlyP_refl (fun _ _ _ => rfl) (fun d => ?_) scM_0 up_eq
        · simp only [en74, e74_0, e74_1, e74_2, e74_5, e74_32, e74_33, e74_36, e74_39, e74_40, e74_41, e74_42, e74_43, e74_46, e74_49, e74_50, e74_51, e74_52, e74_53, e74_56, e74_59, e74_60, e74_61, e74_62, rk_n, rk_v, nl_n, nl_i, nl_r, cat_n, ip_cat_int, ip_cat_ref, ip_cat_long, ip_rf_some, Nat.reduceAdd, Nat.reduceLeDiff, Nat.reduceLT, Nat.le_refl, Nat.zero_le, hR, C1, e74_6_1, rT, hT, ia_T3, li, ti, (v9 k hk).1, Bool.false_eq_true, Bool.true_eq_false, if_true, if_false, not_true_eq_false, not_false_eq_true, zle, eq_self]
        · simp only [en215, e215_0, e215_1, e215_2, e215_3, e215_6, e215_9, e215_10, e215_13, e215_14, e215_15, e215_16, e215_19, e215_22, e215_23, e215_26, e215_27, e215_30, e215_31, e215_34, e215_37, e215_38, e215_39, e215_40, e215_43, e215_44, e215_47, e215_48, e215_49, e215_52, e215_53, e215_54, e215_57, e215_58, e215_61, e215_62, e215_63, e215_66, e215_67, e215_68, e215_69, e215_70, e215_73, rk_n, rk_v, nl_n, nl_i, nl_r, cat_n, ip_cat_int, ip_cat_ref, ip_cat_long, ip_rf_some, Nat.reduceAdd, Nat.reduceLeDiff, Nat.reduceLT, Nat.le_refl, Nat.zero_le, hR, ia_lit, nu_i, nu_tn, lk, k8, M1 _ _ _ _ _ _ _ _ rfl, M3, (by decide : ¬ (1 : Int32) = 0), up_eq, up_a, Nat.reduceEqDiff, true_or, or_true, Bool.false_eq_true, Bool.true_eq_false, if_true, if_false, not_true_eq_false, not_false_eq_true, zle, eq_self]
      · have e : x2 = 2 := e
        subst e
        have p2k : 2 ^ k < 256 := by
          have : ∀ k, k < 8 → 2 ^ k < 256 := by decide
          exact this k k8
        refine same_ok (I1 := I) (I2 := ip_up I 265 0 0) (u := Int32.ofNat (restOn (rstI I) (2 ^ k) c)) (R1 := R) (nx1 := nx) X0 _ rfl (fun d => w73 ?_) onlyP_refl (fun _ _ _ => rfl) (fun d => ?_) scM_0 up_eq
        · simp only [en74, e74_0, e74_1, e74_2, e74_5, e74_32, e74_33, e74_36, e74_39, e74_40, e74_41, e74_42, e74_43, e74_46, e74_49, e74_50, e74_51, e74_52, e74_53, e74_56, e74_59, e74_60, e74_61, e74_62, rk_n, rk_v, nl_n, nl_i, nl_r, cat_n, ip_cat_int, ip_cat_ref, ip_cat_long, ip_rf_some, Nat.reduceAdd, Nat.reduceLeDiff, Nat.reduceLT, Nat.le_refl, Nat.zero_le, hR, C1, e74_6_2, rT, hT, ia_T4, li, ti, v10 k hk, Bool.false_eq_true, Bool.true_eq_false, if_true, if_false, not_true_eq_false, not_false_eq_true, zle, eq_self]
        · have MT' : MTx c (stdI I) (rstI I) (I 277) (winL L T) (ip_up I 265 0 0) := REL_M (REL_q X0 (onlyP_mono scM_0 (fun _ _ e => Or.inr e)) (fun _ _ _ => rfl) (fun _ _ _ => rfl))
          have RO := fun d L' => c218 (d := d) (n := n) (L := L') (nc := nc) (ns := ns) (nx := nx) hR MT' p2k
          simp only [en215, e215_0, e215_1, e215_2, e215_3, e215_6, e215_9, e215_10, e215_13, e215_14, e215_15, e215_16, e215_19, e215_22, e215_23, e215_26, e215_27, e215_30, e215_31, e215_34, e215_37, e215_38, e215_39, e215_40, e215_43, e215_44, e215_47, e215_48, e215_49, e215_52, e215_53, e215_54, e215_57, e215_58, e215_61, e215_62, e215_63, e215_66, e215_67, e215_68, e215_69, e215_70, e215_73, rk_n, rk_v, nl_n, nl_i, nl_r, cat_n, ip_cat_int, ip_cat_ref, ip_cat_long, ip_rf_some, Nat.reduceAdd, Nat.reduceLeDiff, Nat.reduceLT, Nat.le_refl, Nat.zero_le, hR, ia_lit, nu_i, nu_tn, lk, k8, sh1, RO, M1 _ _ _ _ _ _ _ _ rfl, M3, (by decide : ¬ (2 : Int32) = 0 ∧ ¬ (2 : Int32) = 1), up_eq, up_a, Nat.reduceEqDiff, true_or, or_true, Bool.false_eq_true, Bool.true_eq_false, if_true, if_false, not_true_eq_false, not_false_eq_true, zle, eq_self]
    · have g' := no_k (K := 3) g
      have g2 : x2 < 0 ∨ 2 < x2 := by rw [g3x]; exact g'
      have M3 := fun d h => b217 (d := d) (x := x2) (y := 0) (z := 2) (h := h) g2
      have sw := fun d ls s h => e74_6_d (d := d) (ls := ls) (s := s) (h := h) g2
      refine same_x (I1 := I) (I2 := ip_up I 265 0 2) (u := 0) (R1 := R) (code := 2) X0 (by decide) (fun d => ?_) onlyP_refl (fun _ _ _ => rfl) (fun d => ?_) scM_0 up_eq
      · refine w73x2 (d := d + 13) ?_
        simp only [en74, e74_0, e74_1, e74_2, e74_5, e74_32, e74_33, e74_36, e74_39, e74_40, e74_41, e74_42, e74_43, e74_46, e74_49, e74_50, e74_51, e74_52, e74_53, e74_56, e74_59, e74_60, e74_61, e74_62, rk_n, rk_v, nl_n, nl_i, nl_r, cat_n, ip_cat_int, ip_cat_ref, ip_cat_long, ip_rf_some, Nat.reduceAdd, Nat.reduceLeDiff, Nat.reduceLT, Nat.le_refl, Nat.zero_le, hR, C1, sw, Bool.false_eq_true, Bool.true_eq_false, if_true, if_false, not_true_eq_false, not_false_eq_true, zle, eq_self]
        rfl
      · simp only [en215, e215_0, e215_1, e215_2, e215_3, e215_6, e215_9, e215_10, e215_13, e215_14, e215_15, e215_16, e215_19, e215_22, e215_23, e215_26, e215_27, e215_30, e215_31, e215_34, e215_37, e215_38, e215_39, e215_40, e215_43, e215_44, e215_47, e215_48, e215_49, e215_52, e215_53, e215_54, e215_57, e215_58, e215_61, e215_62, e215_63, e215_66, e215_67, e215_68, e215_69, e215_70, e215_73, rk_n, rk_v, nl_n, nl_i, nl_r, cat_n, ip_cat_int, ip_cat_ref, ip_cat_long, ip_rf_some, Nat.reduceAdd, Nat.reduceLeDiff, Nat.reduceLT, Nat.le_refl, Nat.zero_le, M1 _ _ _ _ _ _ _ _ rfl, M3, up_eq, true_or, Bool.false_eq_true, Bool.true_eq_false, if_true, if_false, not_true_eq_false, not_false_eq_true, zle, eq_self]
  · refine same_x (I1 := I) (I2 := ip_up I 265 0 1) (u := 0) (R1 := R) (code := 1) X0 (by decide) (fun d => ?_) onlyP_refl (fun _ _ _ => rfl) (fun d => ?_) scM_0 up_eq
    · refine w73x1 (d := d + 13) ?_
      simp only [en74, e74_0, e74_1, e74_2, e74_5, e74_32, e74_33, e74_36, e74_39, e74_40, e74_41, e74_42, e74_43, e74_46, e74_49, e74_50, e74_51, e74_52, e74_53, e74_56, e74_59, e74_60, e74_61, e74_62, rk_n, rk_v, nl_n, nl_i, nl_r, cat_n, ip_cat_int, ip_cat_ref, ip_cat_long, ip_rf_some, Nat.reduceAdd, Nat.reduceLeDiff, Nat.reduceLT, Nat.le_refl, Nat.zero_le, C1, rk_x hh74, Bool.false_eq_true, Bool.true_eq_false, if_true, if_false, not_true_eq_false, not_false_eq_true, zle, eq_self]
      rfl
    · simp only [en215, e215_0, e215_1, e215_2, e215_3, e215_6, e215_9, e215_10, e215_13, e215_14, e215_15, e215_16, e215_19, e215_22, e215_23, e215_26, e215_27, e215_30, e215_31, e215_34, e215_37, e215_38, e215_39, e215_40, e215_43, e215_44, e215_47, e215_48, e215_49, e215_52, e215_53, e215_54, e215_57, e215_58, e215_61, e215_62, e215_63, e215_66, e215_67, e215_68, e215_69, e215_70, e215_73, rk_n, rk_v, nl_n, nl_i, nl_r, cat_n, ip_cat_int, ip_cat_ref, ip_cat_long, ip_rf_some, Nat.reduceAdd, Nat.reduceLeDiff, Nat.reduceLT, Nat.le_refl, Nat.zero_le, M1 _ _ _ _ _ _ _ _ rfl, up_eq, true_or, Bool.false_eq_true, Bool.true_eq_false, if_true, if_false, not_true_eq_false, not_false_eq_true, zle, eq_self]
theorem no4 {A B C D : Prop} (h : ¬ (¬ A ∧ ¬ B ∧ ¬ C ∧ D)) : A ∨ B ∨ C ∨ ¬ D := by
  by_cases a : A
  · exact Or.inl a
  · by_cases b : B
    · exact Or.inr (Or.inl b)
    · by_cases c : C
      · exact Or.inr (Or.inr (Or.inl c))
      · exact Or.inr (Or.inr (Or.inr (fun d => h ⟨a, b, c, d⟩)))
theorem bp_lt (h1 : ¬ x < 1) (h2 : ¬ 2 < x) (h3 : ¬ y < 0) (h4 : y < 3) : ((x - 1) * 3 + y).toNatClampNeg < 6 := by
  have := (inb_sN (bp_in h1 h2 h3 h4)).2
  exact this
theorem S6 : SAMEX 78 222 [.int x1, .int x2] Int32.toInt64 := by
  intro n I L R nc ns nx T c N w t p X
  have X0 := X
  have hR := X.1
  have hT : isT T := (REL_C X).1
  obtain ⟨-, rT, -, hc8, i6, i17, -, v8, v9, v10, v11, -⟩ := X.2.1
  by_cases g : ¬ x1 < 1 ∧ ¬ 2 < x1 ∧ ¬ x2 < 0 ∧ x2 < 3
  · obtain ⟨g1, g2, g3, g4⟩ := g
    have bl := bp_lt g1 g2 g3 g4
    refine same_ok (I1 := I) (I2 := ip_up I 265 0 0) (u := I 277 ((x1 - 1) * 3 + x2).toNatClampNeg) (R1 := R) (nx1 := nx) X0 _ rfl (fun d => w78 ?_) onlyP_refl (fun _ _ _ => rfl) (fun d => ?_) scM_0 up_eq
    · rw [← v11 _ bl]; exact c79 (d := d + 12) hR rT hT g1 g2 g3 g4
    · exact c222 (d := d + 13) hR g1 g2 g3 g4
  · have g' := no4 g
    refine same_x (I1 := I) (I2 := ip_up I 265 0 1) (u := 0) (R1 := R) (code := 1) X0 (by decide) (fun d => ?_) onlyP_refl (fun _ _ _ => rfl) (fun d => ?_) scM_0 up_eq
    · exact w78x1 (x79 (d := d + 12) g')
    · exact b222 (d := d + 13) g'
theorem S7 : SAMEX 82 223 [.int x1, .int x2, .int x3] Int32.toInt64 := by
  intro n I L R nc ns nx T c N w t p X
  have X0 := X
  have hR := X.1
  have hT : isT T := (REL_C X).1
  obtain ⟨tt, rT, v3, hc8, i6, i17, v7, v8, v9, v10, v11, v12, v13⟩ := X.2.1
  by_cases g : (¬ x1 < 1 ∧ ¬ 2 < x1 ∧ ¬ x2 < 0 ∧ x2 < 3) ∧ ¬ x3 < 0 ∧ x3 ≤ 9
  · obtain ⟨⟨g1, g2, g3, g4⟩, g5, g6⟩ := g
    have bl := bp_lt g1 g2 g3 g4
    have CC := fun d => c83 (d := d) (n := n) (I := I) (L := L) (nc := nc) (ns := ns) (nx := nx) hR rT hT g1 g2 g3 g4 g5 g6
    have MM := fun d K L' => c223 (d := d) (n := n) (I := K) (L := L') (nc := nc) (ns := ns) (nx := nx) hR g1 g2 g3 g4 g5 g6
    generalize ((x1 - 1) * 3 + x2).toNatClampNeg = P at *
    generalize hJ : ip_up (ip_up (ip_up I (T + 5) P x3) 265 0 0) 277 P x3 = J
    have H : onlyP (fun a k => (a = T + 5 ∧ k = P) ∨ (a = 277 ∧ k = P) ∨ (a = 265 ∧ k = 0)) I J := by
      rw [← hJ]
      exact onlyP_up (onlyP_up (onlyP_up onlyP_refl (by omega)) (by omega)) (by omega)
    have G : ∀ a k, ¬ a = T + 5 → ¬ a = 277 → ¬ (a = 265 ∧ k = 0) → J a k = I a k := fun a k h1 h2 h3 => H a k (by omega)
    have e1 : J (T + 5) P = x3 := by rw [← hJ, up_a (by omega), up_a (by omega), up_eq]
    have e2 : J 277 P = x3 := by rw [← hJ, up_eq]
    have rs : rstI J = rstI I := by funext k; unfold rstI; rw [G 276 k (by omega) (by omega) (by omega)]
    have RL : REL T c N w t p J L R := by
      obtain ⟨z1, z2, ⟨n1, ⟨y1, y2⟩, ⟨y3, y4⟩, y5⟩, z4, z5, z6, z7⟩ := X
      refine ⟨z1, ⟨tt, rT, v3, hc8, by rw [G T 6 (by omega) (by omega) (by omega)]; exact i6, by rw [G 265 17 (by omega) (by omega) (by omega)]; exact i17, by rw [G T 7 (by omega) (by omega) (by omega), G 265 18 (by omega) (by omega) (by omega)]; exact v7, fun k hk => ?_, fun k hk => ?_, fun k hk => ?_, fun k hk => ?_, fun s hs => ?_, fun k hk => ?_⟩, ⟨n1, ⟨by rw [G 2 6 (by omega) (by omega) (by omega)]; exact y1, by rw [G 265 37 (by omega) (by omega) (by omega)]; exact y2⟩, ⟨by rw [G 2 7 (by omega) (by omega) (by omega)]; exact y3, by rw [G 265 38 (by omega) (by omega) (by omega)]; exact y4⟩, fun k hk => ND_P (by omega) (y5 k hk) (fun a j h => G a j (by omega) (by omega) (by omega))⟩, RTa_P z4 H (fun a k h => by omega), RPa_P z5 H (fun a k h => by omega), by rw [G 2 2 (by omega) (by omega) (by omega), G 265 5 (by omega) (by omega) (by omega)]; exact z6, z7⟩
      · rw [G (T + 2) k (by omega) (by omega) (by omega), G 275 k (by omega) (by omega) (by omega)]; exact v8 k hk
      · rw [G (T + 3) k (by omega) (by omega) (by omega), G 276 k (by omega) (by omega) (by omega)]; exact v9 k hk
      · rw [G (T + 4) k (by omega) (by omega) (by omega), rs]; exact v10 k hk
      · by_cases e : k = P
        · rw [e, e1, e2]
        · rw [H (T + 5) k (by omega), H 277 k (by omega)]; exact v11 k hk
      · rw [G 287 s (by omega) (by omega) (by omega)]; exact v12 s hs
      · obtain ⟨ls, w1, w2, w3, w4, w5⟩ := v13 k hk
        exact ⟨ls, w1, w2, w3, fun i hi => by rw [G (T + 1) _ (by omega) (by omega) (by omega)]; exact w4 i hi, w5⟩
    refine ⟨0, I 277 P, ip_up I (T + 5) P x3, J, ip_up L 307 0 (I 277 P).toInt64, ip_up L 307 0 (I 277 P).toInt64, R, nc, ns, nx, T, c, N, w, t, p, fun d => ?_, fun d => ?_, ?_, fun _ => by rw [up_eq], REL_q RL onlyP_refl L307 (fun _ _ _ => rfl), by omega, by omega, fun i => G 0 i (by omega) (by omega) (by omega)⟩
    · refine w82 (d := d + 13) ?_
      rw [← v11 _ bl]; exact CC (d + 12)
    · have := MM (d + 13) (ip_up I (T + 5) P x3) (ip_up L 307 0 (I 277 P).toInt64)
      rw [hJ, up_a (by omega)] at this
      exact this
    · rw [← hJ, up_a (by decide), up_eq]
  · have g' : (x1 < 1 ∨ 2 < x1 ∨ x2 < 0 ∨ ¬ x2 < 3) ∨ x3 < 0 ∨ ¬ x3 ≤ 9 := by
      by_cases a : ¬ x1 < 1 ∧ ¬ 2 < x1 ∧ ¬ x2 < 0 ∧ x2 < 3
      · right
        by_cases b : x3 < 0
        · exact Or.inl b
        · exact Or.inr (fun e => g ⟨a, b, e⟩)
      · exact Or.inl (no4 a)
    refine same_x (I1 := I) (I2 := ip_up I 265 0 1) (u := 0) (R1 := R) (code := 1) X0 (by decide) (fun d => ?_) onlyP_refl (fun _ _ _ => rfl) (fun d => ?_) scM_0 up_eq
    · exact w82x1 (x83 (d := d + 12) g')
    · exact b223 (d := d + 13) g'
theorem S30 : SAMEB 25 275 [.int x1] := by
  intro n I L R nc ns nx T c N w t p X
  have X0 := X
  have hR := X.1
  obtain ⟨p1, p2, p3, p4⟩ := X.2.2.2.2.1
  have AN : ∃ v : Int32, (∀ d, cf (d + 14) 25 [.ref 2, .int x1] (SH n, I, L, R, nc, ns, nx) = some (.inl (some (.int v)), (SH n, I, L, R, nc, ns, nx))) ∧ (∀ d, cf (d + 14) 275 [.ref 265, .int x1] (SH n, I, L, R, nc, ns, nx) = some (.inl (some (.int v)), (SH n, ip_up I 265 0 0, L, R, nc, ns, nx))) := by
    have p3' : ip_up I 265 0 0 265 70 = Int32.ofNat p := (up_k (by decide)).trans p3
    by_cases g : ¬ x1 < 0 ∧ x1 < Int32.ofNat p
    · have M := fun d h => c217 (d := d) (x := x1) (y := 0) (z := Int32.ofNat p - 1) (h := h) g.1 (by rw [pr_n (by omega)]; exact fun e => e g.2)
      obtain ⟨k, hk, rfl⟩ := (is_k (by omega)).mp g
      have lk : k < 2147483648 := by omega
      have k2 : k < 256 := by omega
      have k3 : k < 400 := by omega
      refine ⟨I 306 k, fun d => ?_, fun d => ?_⟩
      · simp only [en25, e25_0, e25_1, e25_4, e25_5, e25_6, e25_9, e25_12, e25_15, e25_16, e25_19, e25_20, e25_23, e25_26, e25_27, e25_28, rk_n, rk_v, nl_n, nl_i, nl_r, cat_n, ip_cat_int, ip_cat_ref, ip_cat_long, ip_rf_some, Nat.reduceAdd, Nat.reduceLeDiff, Nat.reduceLT, Nat.le_refl, Nat.zero_le, hR, ia_lit, nu_i, nu_tn, lk, k2, g.1, g.2, p2, p4 k hk, Bool.false_eq_true, Bool.true_eq_false, if_true, if_false, not_true_eq_false, not_false_eq_true, zle, eq_self]
      · simp only [en275, e275_0, e275_1, e275_2, e275_5, e275_6, e275_7, e275_8, e275_11, e275_12, e275_13, e275_16, e275_19, e275_20, e275_23, e275_24, e275_25, e275_28, e275_29, rk_n, rk_v, nl_n, nl_i, nl_r, cat_n, ip_cat_int, ip_cat_ref, ip_cat_long, ip_rf_some, Nat.reduceAdd, Nat.reduceLeDiff, Nat.reduceLT, Nat.le_refl, Nat.zero_le, hR, ia_lit, nu_i, nu_tn, lk, k3, p3', M, up_a, Nat.reduceEqDiff, Bool.false_eq_true, Bool.true_eq_false, if_true, if_false, not_true_eq_false, not_false_eq_true, zle, eq_self]
    · have g' := no_k g
      have M := fun d h => b217 (d := d) (x := x1) (y := 0) (z := Int32.ofNat p - 1) (h := h) (by rw [pr_n (by omega)]; exact g')
      refine ⟨-1, fun d => ?_, fun d => ?_⟩
      · by_cases g1 : x1 < 0
        · simp only [en25, e25_0, e25_1, e25_4, e25_5, e25_6, e25_9, e25_12, e25_15, e25_16, e25_19, e25_20, e25_23, e25_26, e25_27, e25_28, rk_n, rk_v, nl_n, nl_i, nl_r, cat_n, ip_cat_int, ip_cat_ref, ip_cat_long, ip_rf_some, Nat.reduceAdd, Nat.reduceLeDiff, Nat.reduceLT, Nat.le_refl, Nat.zero_le, g1, Bool.false_eq_true, Bool.true_eq_false, if_true, if_false, not_true_eq_false, not_false_eq_true, zle, eq_self]
        · have g2 : ¬ x1 < Int32.ofNat p := fun e => g ⟨g1, e⟩
          simp only [en25, e25_0, e25_1, e25_4, e25_5, e25_6, e25_9, e25_12, e25_15, e25_16, e25_19, e25_20, e25_23, e25_26, e25_27, e25_28, rk_n, rk_v, nl_n, nl_i, nl_r, cat_n, ip_cat_int, ip_cat_ref, ip_cat_long, ip_rf_some, Nat.reduceAdd, Nat.reduceLeDiff, Nat.reduceLT, Nat.le_refl, Nat.zero_le, hR, g1, g2, p2, Bool.false_eq_true, Bool.true_eq_false, if_true, if_false, not_true_eq_false, not_false_eq_true, zle, eq_self]
      · simp only [en275, e275_0, e275_1, e275_2, e275_5, e275_6, e275_7, e275_8, e275_11, e275_12, e275_13, e275_16, e275_19, e275_20, e275_23, e275_24, e275_25, e275_28, e275_29, rk_n, rk_v, nl_n, nl_i, nl_r, cat_n, ip_cat_int, ip_cat_ref, ip_cat_long, ip_rf_some, Nat.reduceAdd, Nat.reduceLeDiff, Nat.reduceLT, Nat.le_refl, Nat.zero_le, p3', M, Bool.false_eq_true, Bool.true_eq_false, if_true, if_false, not_true_eq_false, not_false_eq_true, zle, eq_self]
  obtain ⟨v, A1, A2⟩ := AN
  exact ⟨v, I, ip_up I 265 0 0, L, L, R, nc, ns, nx, T, c, N, w, t, p, A1, A2, REL_q X0 (onlyP_mono scM_0 (fun _ _ e => Or.inr e)) (fun _ _ _ => rfl) (fun _ _ _ => rfl), by omega, by omega, fun k => up_a (by decide)⟩
end S4
