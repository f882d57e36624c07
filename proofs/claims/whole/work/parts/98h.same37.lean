/-! CALL BY CALL: common -/
section S37
variable {n d a b T c s t z o w m p lev k side ap b0 b1 N q B C F A i tt : Nat} {I J K M I1 I2 : Nat → Nat → Int32} {L L' : Nat → Nat → Int64} {R R' : Nat → Nat → Option Nat} {nc ns : Nat} {nx : Bool} {x y j v u code x1 x2 x3 : Int32} {P : Nat → Nat → Prop} {h' h : ip_H} {f : Nat → Nat}
theorem l281 (hR : LYR R) (H : PF f N) (hN : N ≤ 40) (hp : ∀ k, 0 < k → k < N → I 290 k = Int32.ofNat (f k) ∧ f k < k) : ∀ m a b, a + b ≤ m → a < N → b < N → ∃ r, LC f a b r ∧ ∀ d n L nc ns nx x y, rf d 281 39 [some (.ref 265), some (.int x), some (.int y), some (.int (Int32.ofNat a)), some (.int (Int32.ofNat b))] [] (SH n, I, L, R, nc, ns, nx) = some (.inl (some (.int (Int32.ofNat r))), (SH n, I, L, R, nc, ns, nx)) := by
  intro m
  induction m with
  | zero =>
    intro a b h1 h2 h3
    have e1 : a = 0 := by omega
    have e2 : b = 0 := by omega
    subst e1 e2
    refine ⟨0, LC_aa H hN h2, fun d n L nc ns nx x y => ?_⟩
    rw [e281_39]
    simp only [e281_0, e281_1, e281_2, e281_3, e281_6, e281_9, e281_10, e281_11, e281_14, e281_17, e281_18, e281_21, e281_22, e281_25, e281_26, e281_29, e281_32, e281_33, e281_34, e281_35, e281_36, e281_37, e281_40, e281_42, e281_45, e281_46, e281_48, e281_51, e281_52, e281_55, e281_56, e281_57, e281_58, e281_61, e281_62, e281_65, e281_67, e281_68, e281_70, e281_73, e281_74, rk_n, rk_v, nl_n, nl_i, nl_r, cat_n, ip_cat_int, ip_cat_ref, ip_cat_long, ip_rf_some, Nat.reduceAdd, Nat.reduceLeDiff, Nat.reduceLT, Nat.le_refl, Nat.zero_le, Bool.false_eq_true, Bool.true_eq_false, if_true, if_false, not_true_eq_false, not_false_eq_true, zle, eq_self]
  | succ m ih =>
    intro a b h1 h2 h3
    have g1 : (Int32.ofNat a = Int32.ofNat b) = (a = b) := propext (nu_inj (by omega) (by omega))
    have g2 : (Int32.ofNat a ≤ Int32.ofNat b) = (a ≤ b) := propext (nu_le (by omega) (by omega))
    have la : a < 2147483648 := by omega
    have a40 : a < 40 := by omega
    have lb : b < 2147483648 := by omega
    have b40 : b < 40 := by omega
    by_cases e : a = b
    · subst e
      refine ⟨a, LC_aa H hN h2, fun d n L nc ns nx x y => ?_⟩
      rw [e281_39]
      simp only [e281_0, e281_1, e281_2, e281_3, e281_6, e281_9, e281_10, e281_11, e281_14, e281_17, e281_18, e281_21, e281_22, e281_25, e281_26, e281_29, e281_32, e281_33, e281_34, e281_35, e281_36, e281_37, e281_40, e281_42, e281_45, e281_46, e281_48, e281_51, e281_52, e281_55, e281_56, e281_57, e281_58, e281_61, e281_62, e281_65, e281_67, e281_68, e281_70, e281_73, e281_74, rk_n, rk_v, nl_n, nl_i, nl_r, cat_n, ip_cat_int, ip_cat_ref, ip_cat_long, ip_rf_some, Nat.reduceAdd, Nat.reduceLeDiff, Nat.reduceLT, Nat.le_refl, Nat.zero_le, Bool.false_eq_true, Bool.true_eq_false, if_true, if_false, not_true_eq_false, not_false_eq_true, zle, eq_self]
    · by_cases g : a ≤ b
      · obtain ⟨e1, e2⟩ := hp b (by omega) h3
        obtain ⟨r, z1, z2⟩ := ih a (f b) (by omega) h2 (by omega)
        refine ⟨r, LC_sy (LC_l (fun h => ?_) (LC_sy z1)), fun d n L nc ns nx x y => ?_⟩
        · rcases anc_d H hN a b h2 h with e | e <;> omega
        · rw [e281_39, ← z2 d n L nc ns nx x y]
          simp only [e281_0, e281_1, e281_2, e281_3, e281_6, e281_9, e281_10, e281_11, e281_14, e281_17, e281_18, e281_21, e281_22, e281_25, e281_26, e281_29, e281_32, e281_33, e281_34, e281_35, e281_36, e281_37, e281_40, e281_42, e281_45, e281_46, e281_48, e281_51, e281_52, e281_55, e281_56, e281_57, e281_58, e281_61, e281_62, e281_65, e281_67, e281_68, e281_70, e281_73, e281_74, rk_n, rk_v, nl_n, nl_i, nl_r, cat_n, ip_cat_int, ip_cat_ref, ip_cat_long, ip_rf_some, Nat.reduceAdd, Nat.reduceLeDiff, Nat.reduceLT, Nat.le_refl, Nat.zero_le, hR, ia_lit, nu_i, nu_tn, lb, b40, g1, g2, e, g, e1, Bool.false_eq_true, Bool.true_eq_false, if_true, if_false, not_true_eq_false, not_false_eq_true, zle, eq_self]
      · obtain ⟨e1, e2⟩ := hp a (by omega) h2
        obtain ⟨r, z1, z2⟩ := ih (f a) b (by omega) (by omega) h3
        refine ⟨r, LC_l (fun h => ?_) z1, fun d n L nc ns nx x y => ?_⟩
        · rcases anc_d H hN b a h3 h with e | e <;> omega
        · rw [e281_39, ← z2 d n L nc ns nx x y]
          simp only [e281_0, e281_1, e281_2, e281_3, e281_6, e281_9, e281_10, e281_11, e281_14, e281_17, e281_18, e281_21, e281_22, e281_25, e281_26, e281_29, e281_32, e281_33, e281_34, e281_35, e281_36, e281_37, e281_40, e281_42, e281_45, e281_46, e281_48, e281_51, e281_52, e281_55, e281_56, e281_57, e281_58, e281_61, e281_62, e281_65, e281_67, e281_68, e281_70, e281_73, e281_74, rk_n, rk_v, nl_n, nl_i, nl_r, cat_n, ip_cat_int, ip_cat_ref, ip_cat_long, ip_rf_some, Nat.reduceAdd, Nat.reduceLeDiff, Nat.reduceLT, Nat.le_refl, Nat.zero_le, hR, ia_lit, nu_i, nu_tn, la, a40, g1, g2, e, g, e1, Bool.false_eq_true, Bool.true_eq_false, if_true, if_false, not_true_eq_false, not_false_eq_true, zle, eq_self]
theorem l180 (hR : LYR R) (H : PF f N) (hN : N ≤ 40) (hp : ∀ k, 0 < k → k < N → I (65 + 5 * k) 1 = Int32.ofNat (f k) ∧ f k < k) : ∀ m a b, dpN f 41 a = m → dpN f 41 b = m → a < N → b < N → ∃ r, LC f a b r ∧ ∀ d n L nc ns nx x y z st, st + m < 40 → rf d 180 55 [some (.ref 2), some (.int x), some (.int y), some (.int z), some (.int (Int32.ofNat a)), some (.int (Int32.ofNat b)), some (.int (Int32.ofNat st))] [] (SH n, I, L, R, nc, ns, nx) = some (.inl (some (.int (Int32.ofNat r))), (SH n, I, L, R, nc, ns, nx)) := by
  intro m
  induction m with
  | zero =>
    intro a b h1 h2 h3 h4
    have e1 : a = 0 := Classical.byContradiction (fun e => by have := dN_s H hN (k := a) (by omega) h3; omega)
    have e2 : b = 0 := Classical.byContradiction (fun e => by have := dN_s H hN (k := b) (by omega) h4; omega)
    subst e1 e2
    refine ⟨0, LC_aa H hN h3, fun d n L nc ns nx x y z st hst => ?_⟩
    have g : ((40 : Int32) ≤ Int32.ofNat st) = (40 ≤ st) := nu_lit (c := 40) (by omega) (by omega)
    have g1 : ¬ 40 ≤ st := by omega
    rw [e180_55]
    simp only [e180_0, e180_1, e180_2, e180_5, e180_6, e180_7, e180_10, e180_11, e180_12, e180_15, e180_16, e180_17, e180_20, e180_23, e180_24, e180_25, e180_26, e180_27, e180_28, e180_31, e180_32, e180_33, e180_36, e180_38, e180_39, e180_40, e180_41, e180_42, e180_45, e180_46, e180_47, e180_50, e180_52, e180_53, e180_57, e180_59, e180_62, e180_64, e180_66, e180_69, e180_70, e180_73, e180_75, e180_76, e180_79, e180_81, e180_82, e180_85, e180_87, e180_88, e180_91, e180_93, e180_96, e180_99, e180_101, rk_n, rk_v, nl_n, nl_i, nl_r, cat_n, ip_cat_int, ip_cat_ref, ip_cat_long, ip_rf_some, Nat.reduceAdd, Nat.reduceLeDiff, Nat.reduceLT, Nat.le_refl, Nat.zero_le, g, g1, Bool.false_eq_true, Bool.true_eq_false, if_true, if_false, not_true_eq_false, not_false_eq_true, zle, eq_self]
  | succ m ih =>
    intro a b h1 h2 h3 h4
    have a0 : 0 < a := Nat.pos_of_ne_zero (fun e => by rw [e, dN_0] at h1; omega)
    have b0 : 0 < b := Nat.pos_of_ne_zero (fun e => by rw [e, dN_0] at h2; omega)
    have da := dN_s H hN a0 h3
    have db := dN_s H hN b0 h4
    obtain ⟨ea, fa⟩ := hp a a0 h3
    obtain ⟨eb, fb⟩ := hp b b0 h4
    have g1 : (Int32.ofNat a = Int32.ofNat b) = (a = b) := propext (nu_inj (by omega) (by omega))
    by_cases e : a = b
    · subst e
      refine ⟨a, LC_aa H hN h3, fun d n L nc ns nx x y z st hst => ?_⟩
      have g : ((40 : Int32) ≤ Int32.ofNat st) = (40 ≤ st) := nu_lit (c := 40) (by omega) (by omega)
      have g1 : ¬ 40 ≤ st := by omega
      rw [e180_55]
      simp only [e180_0, e180_1, e180_2, e180_5, e180_6, e180_7, e180_10, e180_11, e180_12, e180_15, e180_16, e180_17, e180_20, e180_23, e180_24, e180_25, e180_26, e180_27, e180_28, e180_31, e180_32, e180_33, e180_36, e180_38, e180_39, e180_40, e180_41, e180_42, e180_45, e180_46, e180_47, e180_50, e180_52, e180_53, e180_57, e180_59, e180_62, e180_64, e180_66, e180_69, e180_70, e180_73, e180_75, e180_76, e180_79, e180_81, e180_82, e180_85, e180_87, e180_88, e180_91, e180_93, e180_96, e180_99, e180_101, rk_n, rk_v, nl_n, nl_i, nl_r, cat_n, ip_cat_int, ip_cat_ref, ip_cat_long, ip_rf_some, Nat.reduceAdd, Nat.reduceLeDiff, Nat.reduceLT, Nat.le_refl, Nat.zero_le, g, g1, Bool.false_eq_true, Bool.true_eq_false, if_true, if_false, not_true_eq_false, not_false_eq_true, zle, eq_self]
    · obtain ⟨r, z1, z2⟩ := ih (f a) (f b) (by omega) (by omega) (by omega) (by omega)
      refine ⟨r, LC_l (fun h => ?_) (LC_sy (LC_l (fun h => ?_) (LC_sy z1))), fun d n L nc ns nx x y z st hst => ?_⟩
      · rcases anc_d H hN b a h4 h with e | e <;> omega
      · rcases anc_d H hN (f a) b (by omega) h with e | e
        · rw [e] at h2; omega
        · omega
      · have g : ((40 : Int32) ≤ Int32.ofNat st) = (40 ≤ st) := nu_lit (c := 40) (by omega) (by omega)
        have g2 : ¬ 40 ≤ st := by omega
        have ba := (nu_inb (t := a) (k := 40) (by omega)).mpr (by omega)
        have na := nd_of (k := a) (by omega)
        have ia := isN_nd (k := a) (by omega)
        have bb := (nu_inb (t := b) (k := 40) (by omega)).mpr (by omega)
        have nb := nd_of (k := b) (by omega)
        have ib := isN_nd (k := b) (by omega)
        have a1 : Int32.ofNat st + 1 = Int32.ofNat (st + 1) := nu_add (s := 1)
        rw [e180_55, ← z2 d n L nc ns nx x y z (st + 1) (by omega)]
        simp only [e180_0, e180_1, e180_2, e180_5, e180_6, e180_7, e180_10, e180_11, e180_12, e180_15, e180_16, e180_17, e180_20, e180_23, e180_24, e180_25, e180_26, e180_27, e180_28, e180_31, e180_32, e180_33, e180_36, e180_38, e180_39, e180_40, e180_41, e180_42, e180_45, e180_46, e180_47, e180_50, e180_52, e180_53, e180_57, e180_59, e180_62, e180_64, e180_66, e180_69, e180_70, e180_73, e180_75, e180_76, e180_79, e180_81, e180_82, e180_85, e180_87, e180_88, e180_91, e180_93, e180_96, e180_99, e180_101, rk_n, rk_v, nl_n, nl_i, nl_r, cat_n, ip_cat_int, ip_cat_ref, ip_cat_long, ip_rf_some, Nat.reduceAdd, Nat.reduceLeDiff, Nat.reduceLT, Nat.le_refl, Nat.zero_le, hR, g, g1, g2, e, ba, na, ia, bb, nb, ib, ea, eb, a1, Bool.false_eq_true, Bool.true_eq_false, if_true, if_false, not_true_eq_false, not_false_eq_true, zle, eq_self]
/-- going back as far as the shallower one -/
theorem LC_up (H : PF f N) (hN : N ≤ 40) {r : Nat} : ∀ s a, a < N → b < N → s + dpN f 41 b ≤ dpN f 41 a → LC f (upN f s a) b r → LC f a b r := by
  intro s
  induction s with
  | zero => intro a _ _ _ h; exact h
  | succ s ih =>
    intro a h1 h2 h3 h
    have a0 : 0 < a := Nat.pos_of_ne_zero (fun e => by rw [e, dN_0] at h3; omega)
    have da := dN_s H hN a0 h1
    have fa := H.2 a a0 h1
    refine LC_l (fun h => ?_) (ih (f a) (by omega) h2 (by omega) h)
    rcases anc_d H hN b a h2 h with e | e
    · rw [e] at h3; omega
    · omega
theorem up_d (H : PF f N) (hN : N ≤ 40) : ∀ s a, a < N → s ≤ dpN f 41 a → dpN f 41 (upN f s a) = dpN f 41 a - s ∧ upN f s a < N := by
  intro s
  induction s with
  | zero => intro a h _; exact ⟨rfl, h⟩
  | succ s ih =>
    intro a h1 h3
    have a0 : 0 < a := Nat.pos_of_ne_zero (fun e => by rw [e, dN_0] at h3; omega)
    have da := dN_s H hN a0 h1
    have fa := H.2 a a0 h1
    obtain ⟨z1, z2⟩ := ih (f a) (by omega) (by omega)
    rw [upN]
    exact ⟨by omega, z2⟩
theorem S37 : SAMEX 179 281 [.int x1, .int x2] Int32.toInt64 := by
  intro n I L R nc ns nx T c N w t p X
  have X0 := X
  have hR := X.1
  obtain ⟨H, n2, h0, h0', hp⟩ := REL_pp X
  rcases nodC (x := x1) X with ⟨a, ha, rfl, C1, M1⟩ | ⟨C1, M1⟩
  · rcases nodC (x := x2) X with ⟨b, hb, rfl, C2, M2⟩ | ⟨C2, M2⟩
    · have DA := fun d => c177 (d := d) (n := n) (L := L) (nc := nc) (ns := ns) (nx := nx) hR n2 h0' (fun k h1 h2 => (hp k h1 h2).2) ha
      have DB := fun d => c177 (d := d) (n := n) (L := L) (nc := nc) (ns := ns) (nx := nx) hR n2 h0' (fun k h1 h2 => (hp k h1 h2).2) hb
      simp only [dpI_N, Int32.zero_add] at DA DB
      generalize hf : (fun k => sN (I 290 k)) = f at *
      have hp' : ∀ k, 0 < k → k < N → (I 290 k = Int32.ofNat (f k) ∧ f k < k) ∧ (I (65 + 5 * k) 1 = Int32.ofNat (f k) ∧ f k < k) := by rw [← hf]; exact hp
      have la := dN_le H n2 a ha
      have lb := dN_le H n2 b hb
      obtain ⟨m, hm, hma, hmb, hmin⟩ : ∃ m, (if Int32.ofNat (dpN f 41 b) < Int32.ofNat (dpN f 41 a) then Int32.ofNat (dpN f 41 b) else Int32.ofNat (dpN f 41 a)) = Int32.ofNat m ∧ m ≤ dpN f 41 a ∧ m ≤ dpN f 41 b ∧ (m = dpN f 41 a ∨ m = dpN f 41 b) := by
        by_cases g : dpN f 41 b < dpN f 41 a
        · rw [if_pos ((nu_lt (by omega) (by omega)).mpr g)]; exact ⟨_, rfl, by omega, by omega, by omega⟩
        · rw [if_neg (fun e => g ((nu_lt (by omega) (by omega)).mp e))]; exact ⟨_, rfl, by omega, by omega, by omega⟩
      have sa : Int32.ofNat (dpN f 41 a) - Int32.ofNat m = Int32.ofNat (dpN f 41 a - m) := (Int32.ofNat_sub _ _ hma).symm
      have sb : Int32.ofNat (dpN f 41 b) - Int32.ofNat m = Int32.ofNat (dpN f 41 b - m) := (Int32.ofNat_sub _ _ hmb).symm
      have GA := fun d => c178 (d := d) (n := n) (L := L) (nc := nc) (ns := ns) (nx := nx) (s := dpN f 41 a - m) hR H n2 (fun k h1 h2 => (hp' k h1 h2).2) ha (by omega)
      have GB := fun d => c178 (d := d) (n := n) (L := L) (nc := nc) (ns := ns) (nx := nx) (s := dpN f 41 b - m) hR H n2 (fun k h1 h2 => (hp' k h1 h2).2) hb (by omega)
      obtain ⟨ua, va⟩ := up_d H n2 (dpN f 41 a - m) a ha (by omega)
      obtain ⟨ub, vb⟩ := up_d H n2 (dpN f 41 b - m) b hb (by omega)
      obtain ⟨r, z1, z2⟩ := l180 hR H n2 (fun k h1 h2 => (hp' k h1 h2).2) m _ _ (by omega) (by omega) va vb
      obtain ⟨r', z3, z4⟩ := l281 (I := ip_up I 265 0 0) hR H n2 (fun k h1 h2 => by rw [up_a (by decide)]; exact (hp' k h1 h2).1) (a + b) a b (Nat.le_refl _) ha hb
      have er : r = r' := by
        rcases hmin with e | e
        · have e0 : dpN f 41 a - m = 0 := by omega
          rw [e0] at z1
          exact LC_eq (LC_sy (LC_up H n2 (dpN f 41 b - m) b hb ha (by omega) (LC_sy z1))) z3
        · have e0 : dpN f 41 b - m = 0 := by omega
          rw [e0] at z1
          exact LC_eq (LC_up H n2 (dpN f 41 a - m) a ha hb (by omega) z1) z3
      subst er
      refine same_ok (I1 := I) (I2 := ip_up I 265 0 0) (u := Int32.ofNat r) (R1 := R) (nx1 := nx) X0 _ rfl (fun d => w179 ?_) onlyP_refl (fun _ _ _ => rfl) (fun d => ?_) scM_0 up_eq
      · simp only [en180, e180_0, e180_1, e180_2, e180_5, e180_6, e180_7, e180_10, e180_11, e180_12, e180_15, e180_16, e180_17, e180_20, e180_23, e180_24, e180_25, e180_26, e180_27, e180_28, e180_31, e180_32, e180_33, e180_36, e180_38, e180_39, e180_40, e180_41, e180_42, e180_45, e180_46, e180_47, e180_50, e180_52, e180_53, e180_57, e180_59, e180_62, e180_64, e180_66, e180_69, e180_70, e180_73, e180_75, e180_76, e180_79, e180_81, e180_82, e180_85, e180_87, e180_88, e180_91, e180_93, e180_96, e180_99, e180_101, rk_n, rk_v, nl_n, nl_i, nl_r, cat_n, ip_cat_int, ip_cat_ref, ip_cat_long, ip_rf_some, Nat.reduceAdd, Nat.reduceLeDiff, Nat.reduceLT, Nat.le_refl, Nat.zero_le, C1, C2, DA, DB, hm, sa, sb, GA, GB, Bool.false_eq_true, Bool.true_eq_false, if_true, if_false, not_true_eq_false, not_false_eq_true, zle, eq_self]
        exact z2 (d + 13) n L nc ns nx _ _ _ 0 (by omega)
      · simp only [en281, e281_0, e281_1, e281_2, e281_3, e281_6, e281_9, e281_10, e281_11, e281_14, e281_17, e281_18, e281_21, e281_22, e281_25, e281_26, e281_29, e281_32, e281_33, e281_34, e281_35, e281_36, e281_37, e281_40, e281_42, e281_45, e281_46, e281_48, e281_51, e281_52, e281_55, e281_56, e281_57, e281_58, e281_61, e281_62, e281_65, e281_67, e281_68, e281_70, e281_73, e281_74, rk_n, rk_v, nl_n, nl_i, nl_r, cat_n, ip_cat_int, ip_cat_ref, ip_cat_long, ip_rf_some, Nat.reduceAdd, Nat.reduceLeDiff, Nat.reduceLT, Nat.le_refl, Nat.zero_le, M1 _ _ _ _ _ _ _ _ rfl, M2 _ _ _ _ _ _ _ _ rfl, z4, up_eq, true_or, or_true, Bool.false_eq_true, Bool.true_eq_false, if_true, if_false, not_true_eq_false, not_false_eq_true, zle, eq_self]
    · refine same_x (I1 := I) (I2 := ip_up I 265 0 1) (u := 0) (R1 := R) (code := 1) X0 (by decide) (fun d => ?_) onlyP_refl (fun _ _ _ => rfl) (fun d => ?_) scM_0 up_eq
      · refine w179x1 (d := d + 13) ?_
        simp only [en180, e180_0, e180_1, e180_2, e180_5, e180_6, e180_7, e180_10, e180_11, e180_12, e180_15, e180_16, e180_17, e180_20, e180_23, e180_24, e180_25, e180_26, e180_27, e180_28, e180_31, e180_32, e180_33, e180_36, e180_38, e180_39, e180_40, e180_41, e180_42, e180_45, e180_46, e180_47, e180_50, e180_52, e180_53, e180_57, e180_59, e180_62, e180_64, e180_66, e180_69, e180_70, e180_73, e180_75, e180_76, e180_79, e180_81, e180_82, e180_85, e180_87, e180_88, e180_91, e180_93, e180_96, e180_99, e180_101, rk_n, rk_v, nl_n, nl_i, nl_r, cat_n, ip_cat_int, ip_cat_ref, ip_cat_long, ip_rf_some, Nat.reduceAdd, Nat.reduceLeDiff, Nat.reduceLT, Nat.le_refl, Nat.zero_le, C1, C2, rk_x hh180, Bool.false_eq_true, Bool.true_eq_false, if_true, if_false, not_true_eq_false, not_false_eq_true, zle, eq_self]
        rfl
      · simp only [en281, e281_0, e281_1, e281_2, e281_3, e281_6, e281_9, e281_10, e281_11, e281_14, e281_17, e281_18, e281_21, e281_22, e281_25, e281_26, e281_29, e281_32, e281_33, e281_34, e281_35, e281_36, e281_37, e281_40, e281_42, e281_45, e281_46, e281_48, e281_51, e281_52, e281_55, e281_56, e281_57, e281_58, e281_61, e281_62, e281_65, e281_67, e281_68, e281_70, e281_73, e281_74, rk_n, rk_v, nl_n, nl_i, nl_r, cat_n, ip_cat_int, ip_cat_ref, ip_cat_long, ip_rf_some, Nat.reduceAdd, Nat.reduceLeDiff, Nat.reduceLT, Nat.le_refl, Nat.zero_le, M1 _ _ _ _ _ _ _ _ rfl, M2 _ _ _ _ _ _ _ _ rfl, up_eq, true_or, Bool.false_eq_true, Bool.true_eq_false, if_true, if_false, not_true_eq_false, not_false_eq_true, zle, eq_self]
  · refine same_x (I1 := I) (I2 := ip_up I 265 0 1) (u := 0) (R1 := R) (code := 1) X0 (by decide) (fun d => ?_) onlyP_refl (fun _ _ _ => rfl) (fun d => ?_) scM_0 up_eq
    · refine w179x1 (d := d + 13) ?_
      simp only [en180, e180_0, e180_1, e180_2, e180_5, e180_6, e180_7, e180_10, e180_11, e180_12, e180_15, e180_16, e180_17, e180_20, e180_23, e180_24, e180_25, e180_26, e180_27, e180_28, e180_31, e180_32, e180_33, e180_36, e180_38, e180_39, e180_40, e180_41, e180_42, e180_45, e180_46, e180_47, e180_50, e180_52, e180_53, e180_57, e180_59, e180_62, e180_64, e180_66, e180_69, e180_70, e180_73, e180_75, e180_76, e180_79, e180_81, e180_82, e180_85, e180_87, e180_88, e180_91, e180_93, e180_96, e180_99, e180_101, rk_n, rk_v, nl_n, nl_i, nl_r, cat_n, ip_cat_int, ip_cat_ref, ip_cat_long, ip_rf_some, Nat.reduceAdd, Nat.reduceLeDiff, Nat.reduceLT, Nat.le_refl, Nat.zero_le, C1, rk_x hh180, Bool.false_eq_true, Bool.true_eq_false, if_true, if_false, not_true_eq_false, not_false_eq_true, zle, eq_self]
      rfl
    · simp only [en281, e281_0, e281_1, e281_2, e281_3, e281_6, e281_9, e281_10, e281_11, e281_14, e281_17, e281_18, e281_21, e281_22, e281_25, e281_26, e281_29, e281_32, e281_33, e281_34, e281_35, e281_36, e281_37, e281_40, e281_42, e281_45, e281_46, e281_48, e281_51, e281_52, e281_55, e281_56, e281_57, e281_58, e281_61, e281_62, e281_65, e281_67, e281_68, e281_70, e281_73, e281_74, rk_n, rk_v, nl_n, nl_i, nl_r, cat_n, ip_cat_int, ip_cat_ref, ip_cat_long, ip_rf_some, Nat.reduceAdd, Nat.reduceLeDiff, Nat.reduceLT, Nat.le_refl, Nat.zero_le, M1 _ _ _ _ _ _ _ _ rfl, up_eq, true_or, Bool.false_eq_true, Bool.true_eq_false, if_true, if_false, not_true_eq_false, not_false_eq_true, zle, eq_self]
end S37
