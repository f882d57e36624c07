/-! READ: the class goes on to the next token -/
def KW : List Nat := ip_tb.getD 0 []
def kwS (B : Nat → Int32) (t p : Nat) : Nat → Nat → Nat → Nat → Nat
  | 0, _, _, _ => if rnn lxL B t p - p ≤ 6 then 13 else 16
  | f + 1, k, w, b => if KW.getD k 0 = 32 then (if isW B t ((KW.drop b).take (k - b)) p = true then w else kwS B t p f (k + 1) (w + 1) (k + 1)) else kwS B t p f (k + 1) w b
theorem kw_eq {B : Nat → Int32} {t p : Nat} : kwS B t p 68 0 0 0 = wkF B t p kwl 0 := rfl
section AD
variable {n d a b c k t p T : Nat} {B : Nat → Int32} {I J K : Nat → Nat → Int32} {L L' : Nat → Nat → Int64} {R R' : Nat → Nat → Option Nat} {nc ns : Nat} {nx : Bool} {x y : Int32} {h : ip_H} {ws : List Nat}
theorem KW_len : KW.length = 68 := by decide
theorem kwt_len (h : b ≤ k) (hk : k ≤ 68) : ((KW.drop b).take (k - b)).length = k - b := by
  rw [List.length_take, List.length_drop, KW_len]; omega
theorem kwt_at (h : b ≤ k) (hk : k ≤ 68) {i : Nat} (hi : i < k - b) : (ip_tb.getD 0 []).getD (b + i) 0 = ((KW.drop b).take (k - b)).getD i 0 := by
  have l := KW_len
  rw [getD_in (show b + i < (ip_tb.getD 0 []).length by show b + i < KW.length; omega), getD_in (by rw [kwt_len h hk]; exact hi), List.getElem_take, List.getElem_drop]
  rfl
theorem t43 (ht : t ≤ 400) (hr : R 4 1 = some 3) (hb : ∀ i, i < t → J 3 i = B i) (h4 : J 4 4 = Int32.ofNat (rnn lxL B t p)) (h5 : J 4 5 = Int32.ofNat p) (pt : p ≤ t) : ∀ f k w b, f + k = 68 → b ≤ k → w ≤ k → rf (d + 1) 43 6 [some (.ref 4), some (.int (Int32.ofNat w)), some (.int (Int32.ofNat b)), some (.int (Int32.ofNat k))] [] (SH n, J, L, R, nc, ns, nx) = some (.inl (some (.int (Int32.ofNat (kwS B t p f k w b)))), (SH n, J, L, R, nc, ns, nx)) := by
  have kl : (ip_tb.getD 0 []).length = 68 := KW_len
  have rl := rnn_le (P := lxL) (B := B) (t := t) _ p (Nat.le_refl _) pt
  have ee : Int32.ofNat (rnn lxL B t p) - Int32.ofNat p = Int32.ofNat (rnn lxL B t p - p) := by
    rw [show rnn lxL B t p = p + (rnn lxL B t p - p) by omega, ← nu_add, Int32.add_comm, Int32.add_sub_cancel]
    congr 1; omega
  intro f
  induction f with
  | zero =>
    intro k w b h1 h2 h3
    have g : (Int32.ofNat 68 ≤ Int32.ofNat k) = True := eq_true ((nu_le (by omega) (by omega)).mpr (by omega))
    rw [e43_6, kwS]
    by_cases h6 : rnn lxL B t p - p ≤ 6
    · have g6 : ((6 : Int32) < Int32.ofNat (rnn lxL B t p - p)) = False := eq_false (fun e => by have := (nu_lt (t := 6) (by omega) (by omega)).mp e; omega)
      rw [if_pos h6]
      simp only [e43_0, e43_1, e43_2, e43_3, e43_4, e43_5, e43_7, e43_9, e43_12, e43_15, e43_17, e43_18, e43_21, e43_23, e43_26, e43_27, e43_28, e43_29, e43_32, e43_35, e43_36, e43_37, e43_40, e43_41, e43_42, e43_43, e43_44, e43_47, e43_50, e43_51, e43_54, e43_55, e43_58, e43_59, e43_61, e43_64, e43_66, e43_69, e43_71, rk_n, rk_v, nl_n, nl_i, nl_r, cat_n, ip_cat_int, ip_cat_ref, ip_cat_long, ip_rf_some, Nat.reduceAdd, Nat.reduceLeDiff, Nat.reduceLT, Nat.le_refl, Nat.zero_le, kl, g, h4, h5, ee, g6, (by decide : 0 < 39), true_or, or_true, Bool.false_eq_true, Bool.true_eq_false, if_true, if_false, not_true_eq_false, not_false_eq_true, zle, eq_self]
      rfl
    · have g6 : ((6 : Int32) < Int32.ofNat (rnn lxL B t p - p)) = True := eq_true ((nu_lt (t := 6) (by omega) (by omega)).mpr (by omega))
      rw [if_neg h6]
      simp only [e43_0, e43_1, e43_2, e43_3, e43_4, e43_5, e43_7, e43_9, e43_12, e43_15, e43_17, e43_18, e43_21, e43_23, e43_26, e43_27, e43_28, e43_29, e43_32, e43_35, e43_36, e43_37, e43_40, e43_41, e43_42, e43_43, e43_44, e43_47, e43_50, e43_51, e43_54, e43_55, e43_58, e43_59, e43_61, e43_64, e43_66, e43_69, e43_71, rk_n, rk_v, nl_n, nl_i, nl_r, cat_n, ip_cat_int, ip_cat_ref, ip_cat_long, ip_rf_some, Nat.reduceAdd, Nat.reduceLeDiff, Nat.reduceLT, Nat.le_refl, Nat.zero_le, kl, g, h4, h5, ee, g6, (by decide : 0 < 39), true_or, or_true, Bool.false_eq_true, Bool.true_eq_false, if_true, if_false, not_true_eq_false, not_false_eq_true, zle, eq_self]
      rfl
  | succ f ih =>
    intro k w b h1 h2 h3
    have g : (Int32.ofNat 68 ≤ Int32.ofNat k) = False := eq_false (fun e => by have := (nu_le (by omega) (by omega)).mp e; omega)
    have e1 : Int32.ofNat k + 1 = Int32.ofNat (k + 1) := nu_add (s := 1)
    have e2 : Int32.ofNat w + 1 = Int32.ofNat (w + 1) := nu_add (s := 1)
    have l1 : k < 2147483648 := by omega
    have l2 : k < 68 := by omega
    have c32' : (ip_tb.getD 0 []).getD k 0 = KW.getD k 0 := rfl
    have hd : KW.getD k 0 < 1000 := by
      have : ∀ k, k < 68 → KW.getD k 0 < 1000 := by decide
      exact this k l2
    rw [e43_6, kwS]
    by_cases h32 : KW.getD k 0 = 32
    · rw [if_pos h32]
      have e32 : (Int32.ofNat (KW.getD k 0) = 32) = True := eq_true (by rw [h32]; rfl)
      have C := fun d => c44 (d := d) (n := n) (L := L) (nc := nc) (ns := ns) (nx := nx) (b := b) (ws := (KW.drop b).take (k - b)) ht hr hb h4 h5 pt (fun i hi => kwt_at h2 (by omega) (by rw [kwt_len h2 (by omega)] at hi; exact hi)) (by rw [kwt_len h2 (by omega)]; omega)
      rw [kwt_len h2 (by omega), show b + (k - b) = k by omega] at C
      by_cases hw : isW B t ((KW.drop b).take (k - b)) p = true
      · rw [if_pos hw]
        simp only [e43_0, e43_1, e43_2, e43_3, e43_4, e43_5, e43_7, e43_9, e43_12, e43_15, e43_17, e43_18, e43_21, e43_23, e43_26, e43_27, e43_28, e43_29, e43_32, e43_35, e43_36, e43_37, e43_40, e43_41, e43_42, e43_43, e43_44, e43_47, e43_50, e43_51, e43_54, e43_55, e43_58, e43_59, e43_61, e43_64, e43_66, e43_69, e43_71, rk_n, rk_v, nl_n, nl_i, nl_r, cat_n, ip_cat_int, ip_cat_ref, ip_cat_long, ip_rf_some, Nat.reduceAdd, Nat.reduceLeDiff, Nat.reduceLT, Nat.le_refl, Nat.zero_le, kl, g, l1, l2, nu_i, nu_tn, c32', e32, C, hw, (by decide : 0 < 39), (by decide : ¬ (1 : Int32) = 0), true_or, or_true, Bool.false_eq_true, Bool.true_eq_false, if_true, if_false, not_true_eq_false, not_false_eq_true, zle, eq_self]
      · rw [if_neg hw]
        rw [← ih (k + 1) (w + 1) (k + 1) (by omega) (by omega) (by omega)]
        simp only [e43_0, e43_1, e43_2, e43_3, e43_4, e43_5, e43_7, e43_9, e43_12, e43_15, e43_17, e43_18, e43_21, e43_23, e43_26, e43_27, e43_28, e43_29, e43_32, e43_35, e43_36, e43_37, e43_40, e43_41, e43_42, e43_43, e43_44, e43_47, e43_50, e43_51, e43_54, e43_55, e43_58, e43_59, e43_61, e43_64, e43_66, e43_69, e43_71, rk_n, rk_v, nl_n, nl_i, nl_r, cat_n, ip_cat_int, ip_cat_ref, ip_cat_long, ip_rf_some, Nat.reduceAdd, Nat.reduceLeDiff, Nat.reduceLT, Nat.le_refl, Nat.zero_le, kl, g, l1, l2, nu_i, nu_tn, c32', e32, C, hw, e1, e2, (by decide : 0 < 39), true_or, or_true, Bool.false_eq_true, Bool.true_eq_false, if_true, if_false, not_true_eq_false, not_false_eq_true, zle, eq_self]
    · rw [if_neg h32]
      have e32 : (Int32.ofNat (KW.getD k 0) = 32) = False := eq_false (fun e => h32 ((nu_inj (s := 32) (by omega) (by omega)).mp e))
      rw [← ih (k + 1) w b (by omega) (by omega) (by omega)]
      simp only [e43_0, e43_1, e43_2, e43_3, e43_4, e43_5, e43_7, e43_9, e43_12, e43_15, e43_17, e43_18, e43_21, e43_23, e43_26, e43_27, e43_28, e43_29, e43_32, e43_35, e43_36, e43_37, e43_40, e43_41, e43_42, e43_43, e43_44, e43_47, e43_50, e43_51, e43_54, e43_55, e43_58, e43_59, e43_61, e43_64, e43_66, e43_69, e43_71, rk_n, rk_v, nl_n, nl_i, nl_r, cat_n, ip_cat_int, ip_cat_ref, ip_cat_long, ip_rf_some, Nat.reduceAdd, Nat.reduceLeDiff, Nat.reduceLT, Nat.le_refl, Nat.zero_le, kl, g, l1, l2, nu_i, nu_tn, c32', e32, e1, (by decide : 0 < 39), true_or, or_true, Bool.false_eq_true, Bool.true_eq_false, if_true, if_false, not_true_eq_false, not_false_eq_true, zle, eq_self]
theorem c43 (ht : t ≤ 400) (hr : R 4 1 = some 3) (hb : ∀ i, i < t → J 3 i = B i) (h4 : J 4 4 = Int32.ofNat (rnn lxL B t p)) (h5 : J 4 5 = Int32.ofNat p) (pt : p ≤ t) : cf (d + 1) 43 [.ref 4] (SH n, J, L, R, nc, ns, nx) = some (.inl (some (.int (Int32.ofNat (wkF B t p kwl 0)))), (SH n, J, L, R, nc, ns, nx)) := by
  have A := t43 (d := d) (n := n) (L := L) (nc := nc) (ns := ns) (nx := nx) ht hr hb h4 h5 pt 68 0 0 0 (by omega) (by omega) (by omega)
  rw [kw_eq] at A
  rw [← A]
  simp only [en43, e43_0, e43_1, e43_2, e43_3, e43_4, e43_5, e43_7, e43_9, e43_12, e43_15, e43_17, e43_18, e43_21, e43_23, e43_26, e43_27, e43_28, e43_29, e43_32, e43_35, e43_36, e43_37, e43_40, e43_41, e43_42, e43_43, e43_44, e43_47, e43_50, e43_51, e43_54, e43_55, e43_58, e43_59, e43_61, e43_64, e43_66, e43_69, e43_71, rk_n, rk_v, nl_n, nl_i, nl_r, cat_n, ip_cat_int, ip_cat_ref, ip_cat_long, ip_rf_some, Nat.reduceAdd, Nat.reduceLeDiff, Nat.reduceLT, Nat.le_refl, Nat.zero_le, Bool.false_eq_true, Bool.true_eq_false, if_true, if_false, not_true_eq_false, not_false_eq_true, zle, eq_self]
  rfl
theorem lxS_n (h : lxS x = true) : x = Int32.ofNat (sN x) ∧ lxL x = false ∧ lxD x = false := by
  have := of_decide_eq_true h
  rcases this with rfl | rfl | rfl | rfl <;> decide
theorem c40 (ht : t ≤ 400) (hr : R 4 1 = some 3) (hb : ∀ i, i < t → J 3 i = B i) (h3 : J 4 3 = Int32.ofNat t) (ha : a ≤ t) (h4 : J 4 4 = Int32.ofNat a) : ∃ J', (∀ d, cf (d + 3) 40 [.ref 4] (SH n, J, L, R, nc, ns, nx) = some (.inl none, (SH n, J', L, R, nc, ns, nx))) ∧ RC B t (skT B t a) J' ∧ onlyP (fun a k => a = 4 ∧ 4 ≤ k ∧ k ≤ 6) J J' := by
  obtain ⟨x1, A1⟩ := t40a (n := n) (L := L) (nc := nc) (ns := ns) (nx := nx) hb ht hr h3 (t - a) a 0 (Nat.le_refl _) ha (by omega)
  have sl := skT_le (B := B) ha
  unfold RC kdT enT
  generalize hp : skT B t a = p at *
  rw [show rnn lxB B t a = p from hp, up_self h4] at A1
  generalize hJ : ip_up (ip_up J 4 4 (Int32.ofNat p)) 4 5 (Int32.ofNat p) = J1
  have HJ : onlyP (fun a k => a = 4 ∧ 4 ≤ k ∧ k ≤ 6) J J1 := by rw [← hJ]; exact onlyP_up (onlyP_up onlyP_refl (by omega)) (by omega)
  have j3 : J1 4 3 = Int32.ofNat t := (HJ 4 3 (by omega)).trans h3
  have j4 : J1 4 4 = Int32.ofNat p := by rw [← hJ, up_k (by decide), up_eq]
  have j5 : J1 4 5 = Int32.ofNat p := by rw [← hJ, up_eq]
  have jb : ∀ i, i < t → J1 3 i = B i := fun i hi => (HJ 3 i (by omega)).trans (hb i hi)
  have A0 : ∀ d, cf (d + 3) 40 [.ref 4] (SH n, J, L, R, nc, ns, nx) = rf (d + 3) 40 59 [some (.ref 4), some (.int x1)] [] (SH n, J1, L, R, nc, ns, nx) := by
    intro d
    have A1 : rf (d + 2 + 1) 40 2 [some (.ref 4), some (.int 0)] [] (SH n, J, L, R, nc, ns, nx) = _ := A1 (d + 2)
    simp only [en40, e40_0, e40_1, rk_n, rk_v, nl_n, nl_i, nl_r, cat_n, ip_cat_int, ip_cat_ref, ip_cat_long, ip_rf_some, Nat.reduceAdd, Nat.reduceLeDiff, Nat.reduceLT, Nat.le_refl, Nat.zero_le]
    rw [A1]
    simp only [e40_51, e40_52, e40_53, e40_56, up_eq, hJ]
  have lp : p < 2147483648 := by omega
  by_cases pt : p < t
  · have p4 : p < 400 := by omega
    have gt : (Int32.ofNat p < Int32.ofNat t) = True := eq_true ((nu_lt (by omega) (by omega)).mpr pt)
    simp only [if_pos pt]
    by_cases hL : lxL (B p) = true
    · obtain ⟨x2, A2⟩ := t40b (n := n) (L := L) (nc := nc) (ns := ns) (nx := nx) jb ht hr j3 (t - p) p 0 (Nat.le_refl _) (by omega) (by omega)
      rw [up_self j4] at A2
      simp only [if_pos hL]
      have rl := rnn_le (P := lxL) (B := B) (t := t) _ p (Nat.le_refl _) (by omega)
      generalize hJ2 : ip_up J1 4 4 (Int32.ofNat (rnn lxL B t p)) = J2 at A2
      have HJ2 : onlyP (fun a k => a = 4 ∧ k = 4) J1 J2 := by rw [← hJ2]; exact onlyP_up onlyP_refl ⟨rfl, rfl⟩
      have C := fun d => c43 (d := d) (n := n) (J := J2) (L := L) (nc := nc) (ns := ns) (nx := nx) (B := B) (p := p) ht hr (fun i hi => (HJ2 3 i (by omega)).trans (jb i hi)) (by rw [← hJ2, up_eq]) ((HJ2 4 5 (by omega)).trans j5) (by omega)
      refine ⟨ip_up J2 4 6 (Int32.ofNat (wkF B t p kwl 0)), fun d => ?_, ⟨?_, ?_, ?_, ?_, ?_⟩, onlyP_up (onlyP_tr HJ (onlyP_mono HJ2 (fun a k e => by omega))) (by omega)⟩
      · rw [A0 d]
        have A2 : rf (d + 2 + 1) 40 96 [some (.ref 4), some (.int 0)] [] (SH n, J1, L, R, nc, ns, nx) = _ := A2 (d + 2)
        simp only [e40_59, e40_60, e40_63, e40_64, e40_67, e40_79, e40_80, e40_83, e40_84, e40_87, e40_88, e40_91, e40_94, e40_95, rk_n, rk_v, nl_n, nl_i, nl_r, cat_n, ip_cat_int, ip_cat_ref, ip_cat_long, ip_rf_some, Nat.reduceAdd, Nat.reduceLeDiff, Nat.reduceLT, Nat.le_refl, Nat.zero_le, j3, j4, gt, hr, ia_lit, nu_i, nu_tn, lp, p4, jb p pt, c42, hL, (by decide : ¬ (1 : Int32) = 0), Bool.false_eq_true, Bool.true_eq_false, if_true, if_false, not_true_eq_false, not_false_eq_true, zle, eq_self]
        rw [A2]
        simp only [e40_145, e40_146, e40_147, e40_150, e40_153, e40_292, rk_n, rk_v, nl_n, nl_i, nl_r, cat_n, ip_cat_int, ip_cat_ref, ip_cat_long, ip_rf_some, Nat.reduceAdd, Nat.reduceLeDiff, Nat.reduceLT, Nat.le_refl, Nat.zero_le, C, Bool.false_eq_true, Bool.true_eq_false, if_true, if_false, not_true_eq_false, not_false_eq_true, zle, eq_self]
      · rw [up_k (by decide), HJ2 4 3 (by omega)]; exact j3
      · rw [up_k (by decide), ← hJ2, up_eq]
      · rw [up_k (by decide), HJ2 4 5 (by omega)]; exact j5
      · rw [up_eq]
      · intro i hi; rw [up_a (by decide), HJ2 3 i (by omega)]; exact jb i hi
    · simp only [if_neg hL]
      by_cases hD : lxD (B p) = true
      · obtain ⟨x2, A2⟩ := t40c (n := n) (L := L) (nc := nc) (ns := ns) (nx := nx) jb ht hr j3 (t - p) p 0 (Nat.le_refl _) (by omega) (by omega)
        rw [up_self j4] at A2
        simp only [if_pos hD]
        have rl := rnn_le (P := lxD) (B := B) (t := t) _ p (Nat.le_refl _) (by omega)
        generalize hJ2 : ip_up J1 4 4 (Int32.ofNat (rnn lxD B t p)) = J2 at A2
        have HJ2 : onlyP (fun a k => a = 4 ∧ k = 4) J1 J2 := by rw [← hJ2]; exact onlyP_up onlyP_refl ⟨rfl, rfl⟩
        have ee : Int32.ofNat (rnn lxD B t p) - Int32.ofNat p = Int32.ofNat (rnn lxD B t p - p) := by
          rw [show rnn lxD B t p = p + (rnn lxD B t p - p) by omega, ← nu_add, Int32.add_comm, Int32.add_sub_cancel]
          congr 1; omega
        have k4 : J2 4 4 = Int32.ofNat (rnn lxD B t p) := by rw [← hJ2, up_eq]
        have k5 : J2 4 5 = Int32.ofNat p := (HJ2 4 5 (by omega)).trans j5
        have e1 : (Int32.ofNat (rnn lxD B t p - p) = 1) = (rnn lxD B t p = p + 1) := by
          apply propext
          constructor
          · intro e; have := (nu_inj (s := 1) (by omega) (by omega)).mp e; omega
          · intro e; rw [e, show p + 1 - p = 1 by omega]; rfl
        refine ⟨ip_up J2 4 6 (Int32.ofNat (if rnn lxD B t p = p + 1 then 14 else 16)), fun d => ?_, ⟨?_, ?_, ?_, ?_, ?_⟩, onlyP_up (onlyP_tr HJ (onlyP_mono HJ2 (fun a k e => by omega))) (by omega)⟩
        · rw [A0 d]
          have A2 : rf (d + 2 + 1) 40 173 [some (.ref 4), some (.int 0)] [] (SH n, J1, L, R, nc, ns, nx) = _ := A2 (d + 2)
          simp only [e40_59, e40_60, e40_63, e40_64, e40_67, e40_79, e40_80, e40_83, e40_84, e40_87, e40_88, e40_91, e40_156, e40_157, e40_160, e40_161, e40_164, e40_165, e40_168, e40_171, e40_172, rk_n, rk_v, nl_n, nl_i, nl_r, cat_n, ip_cat_int, ip_cat_ref, ip_cat_long, ip_rf_some, Nat.reduceAdd, Nat.reduceLeDiff, Nat.reduceLT, Nat.le_refl, Nat.zero_le, j3, j4, gt, hr, ia_lit, nu_i, nu_tn, lp, p4, jb p pt, c42, c45, hL, hD, (by decide : ¬ (1 : Int32) = 0), Bool.false_eq_true, Bool.true_eq_false, if_true, if_false, not_true_eq_false, not_false_eq_true, zle, eq_self]
          rw [A2]
          by_cases e : rnn lxD B t p = p + 1
          · have e : (rnn lxD B t p = p + 1) = True := eq_true e
            simp only [e40_222, e40_223, e40_224, e40_227, e40_228, e40_231, e40_232, e40_233, e40_236, e40_238, e40_243, e40_246, e40_292, k4, k5, ee, e1, e, Bool.false_eq_true, Bool.true_eq_false, if_true, if_false, not_true_eq_false, not_false_eq_true, zle, eq_self]
            rfl
          · simp only [e40_222, e40_223, e40_224, e40_227, e40_228, e40_231, e40_232, e40_233, e40_241, e40_243, e40_246, e40_292, k4, k5, ee, e1, e, Bool.false_eq_true, Bool.true_eq_false, if_true, if_false, not_true_eq_false, not_false_eq_true, zle, eq_self]
            rfl
        · rw [up_k (by decide), HJ2 4 3 (by omega)]; exact j3
        · rw [up_k (by decide)]; exact k4
        · rw [up_k (by decide)]; exact k5
        · rw [up_eq]
        · intro i hi; rw [up_a (by decide), HJ2 3 i (by omega)]; exact jb i hi
      · simp only [if_neg hD]
        have e1 : Int32.ofNat p + 1 = Int32.ofNat (p + 1) := nu_add (s := 1)
        refine ⟨ip_up (ip_up J1 4 6 (Int32.ofNat (if lxS (B p) = true then sN (B p) else 16))) 4 4 (Int32.ofNat (p + 1)), fun d => ?_, ⟨?_, ?_, ?_, ?_, ?_⟩, onlyP_up (onlyP_up HJ (by omega)) (by omega)⟩
        · rw [A0 d]
          by_cases hS : lxS (B p) = true
          · have sn := (lxS_n hS).1
            rw [if_pos hS, ← sn]
            simp only [e40_59, e40_60, e40_63, e40_64, e40_67, e40_79, e40_80, e40_83, e40_84, e40_87, e40_88, e40_91, e40_156, e40_157, e40_160, e40_161, e40_164, e40_165, e40_168, e40_249, e40_250, e40_251, e40_254, e40_255, e40_258, e40_259, e40_262, e40_265, e40_266, e40_269, e40_270, e40_273, e40_274, e40_279, e40_282, e40_283, e40_283r, e40_284, e40_287, e40_288, e40_289, e40_292, rk_n, rk_v, nl_n, nl_i, nl_r, cat_n, ip_cat_int, ip_cat_ref, ip_cat_long, ip_rf_some, Nat.reduceAdd, Nat.reduceLeDiff, Nat.reduceLT, Nat.le_refl, Nat.zero_le, j3, j4, gt, hr, ia_lit, nu_i, nu_tn, lp, p4, jb p pt, c42, c45, c46, hL, hD, hS, e1, up_k, up_a, Nat.reduceEqDiff, (by decide : ¬ (1 : Int32) = 0), Bool.false_eq_true, Bool.true_eq_false, if_true, if_false, not_true_eq_false, not_false_eq_true, zle, eq_self]
          · rw [if_neg hS]
            simp only [e40_59, e40_60, e40_63, e40_64, e40_67, e40_79, e40_80, e40_83, e40_84, e40_87, e40_88, e40_91, e40_156, e40_157, e40_160, e40_161, e40_164, e40_165, e40_168, e40_249, e40_250, e40_251, e40_254, e40_255, e40_258, e40_259, e40_262, e40_277, e40_279, e40_282, e40_283, e40_283r, e40_284, e40_287, e40_288, e40_289, e40_292, rk_n, rk_v, nl_n, nl_i, nl_r, cat_n, ip_cat_int, ip_cat_ref, ip_cat_long, ip_rf_some, Nat.reduceAdd, Nat.reduceLeDiff, Nat.reduceLT, Nat.le_refl, Nat.zero_le, j3, j4, gt, hr, ia_lit, nu_i, nu_tn, lp, p4, jb p pt, c42, c45, c46, hL, hD, hS, e1, up_k, up_a, Nat.reduceEqDiff, (by decide : ¬ (1 : Int32) = 0), Bool.false_eq_true, Bool.true_eq_false, if_true, if_false, not_true_eq_false, not_false_eq_true, zle, eq_self]
            rfl
        · rw [up_k (by decide), up_k (by decide)]; exact j3
        · rw [up_eq]
        · rw [up_k (by decide), up_k (by decide)]; exact j5
        · rw [up_k (by decide), up_eq]
        · intro i hi; rw [up_a (by decide), up_a (by decide)]; exact jb i hi
  · have gt : (Int32.ofNat p < Int32.ofNat t) = False := eq_false (fun e => pt ((nu_lt (by omega) (by omega)).mp e))
    simp only [if_neg pt]
    refine ⟨ip_up J1 4 6 15, fun d => ?_, ⟨?_, ?_, ?_, ?_, ?_⟩, onlyP_up HJ (by omega)⟩
    · rw [A0 d]
      simp only [e40_59, e40_60, e40_63, e40_64, e40_67, e40_70, e40_71, e40_73, e40_76, e40_292, j3, j4, gt, Bool.false_eq_true, Bool.true_eq_false, if_true, if_false, not_true_eq_false, not_false_eq_true, zle, eq_self]
    · rw [up_k (by decide)]; exact j3
    · rw [up_k (by decide)]; exact j4
    · rw [up_k (by decide)]; exact j5
    · rw [up_eq]; rfl
    · intro i hi; rw [up_a (by decide)]; exact jb i hi
/-- on from the token at p -/
theorem adv (ht : t ≤ 400) (hr : R 4 1 = some 3) (hp : p ≤ t) (X : RC B t p J) : ∃ J', (∀ d, cf (d + 3) 40 [.ref 4] (SH n, J, L, R, nc, ns, nx) = some (.inl none, (SH n, J', L, R, nc, ns, nx))) ∧ RC B t (nxT B t p) J' ∧ onlyP (fun a k => a = 4 ∧ 4 ≤ k ∧ k ≤ 6) J J' :=
  c40 ht hr X.2.2.2.2 X.1 (enT_le hp).2.1 X.2.1
/-- pass: on, if it is this one -/
theorem c53 (ht : t ≤ 400) (hr : R 4 1 = some 3) (hp : p ≤ t) (X : RC B t p J) (k : Nat) (hk : k < 1000) (hkd : kdT B t p < 1000) : (kdT B t p = k → ∃ J', (∀ d, cf (d + 4) 53 [.ref 4, .int (Int32.ofNat k)] (SH n, J, L, R, nc, ns, nx) = some (.inl (some (.int 1)), (SH n, J', L, R, nc, ns, nx))) ∧ RC B t (nxT B t p) J' ∧ onlyP (fun a k => a = 4 ∧ 4 ≤ k ∧ k ≤ 6) J J') ∧ (¬ kdT B t p = k → ∀ d, cf d 53 [.ref 4, .int (Int32.ofNat k)] (SH n, J, L, R, nc, ns, nx) = some (.inl (some (.int 0)), (SH n, J, L, R, nc, ns, nx))) := by
  constructor
  · intro e
    obtain ⟨J', A, X', O⟩ := adv (n := n) (L := L) (nc := nc) (ns := ns) (nx := nx) ht hr hp X
    refine ⟨J', fun d => ?_, X', O⟩
    simp only [en53, e53_0, e53_1, e53_4, e53_5, e53_8, e53_9, e53_10, e53_11, e53_14, e53_15, rk_n, rk_v, nl_n, nl_i, nl_r, cat_n, ip_cat_int, ip_cat_ref, ip_cat_long, ip_rf_some, Nat.reduceAdd, Nat.reduceLeDiff, Nat.reduceLT, Nat.le_refl, Nat.zero_le, X.2.2.2.1, e, A, true_or, or_true, Bool.false_eq_true, Bool.true_eq_false, if_true, if_false, not_true_eq_false, not_false_eq_true, zle, eq_self]
  · intro e d
    have g : (Int32.ofNat (kdT B t p) = Int32.ofNat k) = False := eq_false (fun q => e ((nu_inj (by omega) (by omega)).mp q))
    simp only [en53, e53_0, e53_1, e53_4, e53_5, e53_8, e53_9, e53_10, e53_11, e53_14, e53_15, rk_n, rk_v, nl_n, nl_i, nl_r, cat_n, ip_cat_int, ip_cat_ref, ip_cat_long, ip_rf_some, Nat.reduceAdd, Nat.reduceLeDiff, Nat.reduceLT, Nat.le_refl, Nat.zero_le, X.2.2.2.1, g, true_or, or_true, Bool.false_eq_true, Bool.true_eq_false, if_true, if_false, not_true_eq_false, not_false_eq_true, zle, eq_self]
end AD
