/-! CALL BY CALL: tree, the model; both -/
section TRM
variable {n d a b T c s t z o w m p k N q i e v : Nat} {I J K M I1 I2 I0 : Nat → Nat → Int32} {L L' : Nat → Nat → Int64} {R R' : Nat → Nat → Option Nat} {nc ns : Nat} {nx : Bool} {x y j u code x1 x2 x3 : Int32} {h' h : ip_H} {l0 l3 l4 : Option Value} {bs : List Int32}
def TRM (I : Nat → Nat → Int32) (N : Nat) : Prop := TRE I N ∧ I 265 37 = Int32.ofNat N ∧ (∀ k, k < N → (¬ I 289 k = 0 → I 291 k = 0 ∨ I 291 k = 1 ∨ I 291 k = 2 ∨ I 291 k = 3))
theorem c278 (hR : LYR R) (hk : k < 40) (h2 : ¬ I 289 k = 0 → I 291 k = 0 ∨ I 291 k = 1 ∨ I 291 k = 2 ∨ I 291 k = 3) (W : WM bs I J) (hb : bs.length + (hdT I k).length ≤ 256) : ∃ J', (∀ d, cf (d + 1) 278 [.ref 265, .int (Int32.ofNat k)] (SH n, J, L, R, nc, ns, nx) = some (.inl none, (SH n, J', L, R, nc, ns, nx))) ∧ WM (bs ++ hdT I k) I J' := by
  obtain ⟨m1, m2, m3, m4⟩ := n10 k hk
  have nz : ¬ (10 : Int32) = 0 := by decide
  have lk : k < 2147483648 := by omega
  have last : ∀ J1 bs1, WM bs1 I J1 → bs1.length + 2 ≤ 256 → ∃ J', (∀ d, rf (d + 1) 278 17 [some (.ref 265), some (.int (Int32.ofNat k))] [] (SH n, J1, L, R, nc, ns, nx) = some (.inl none, (SH n, J', L, R, nc, ns, nx))) ∧ WM (bs1 ++ [48 + (Int32.ofNat k - Int32.ofNat k / 10 * 10), mkT (I 289 k) (I 291 k)]) I J' := by
    intro J1 bs1 W1 h1
    obtain ⟨J2, A2, W2⟩ := mw (n := n) (L := L) (nc := nc) (ns := ns) (nx := nx) hR W1 (by omega) (48 + (Int32.ofNat k - Int32.ofNat k / 10 * 10))
    obtain ⟨J3, A3, W3⟩ := mw (n := n) (L := L) (nc := nc) (ns := ns) (nx := nx) hR W2 (by simp; omega) (mkT (I 289 k) (I 291 k))
    have j0 : J2 289 k = I 289 k := W2.1 289 k (by omega)
    have j2 : J2 291 k = I 291 k := W2.1 291 k (by omega)
    refine ⟨J3, fun d => ?_, by simpa using W3⟩
    unfold mkT at A3
    have nn : ¬ (1 : Int32) = 0 ∧ ¬ (2 : Int32) = 0 ∧ ¬ (2 : Int32) = 1 ∧ ¬ (3 : Int32) = 0 ∧ ¬ (3 : Int32) = 1 ∧ ¬ (3 : Int32) = 2 := by decide
    by_cases g : I 289 k = 0
    · rw [if_pos g] at A3
      simp only [e278_0, e278_1, e278_3, e278_6, e278_7, e278_9, e278_10, e278_12, e278_13, e278_14, e278_17, e278_18, e278_20, e278_21, e278_23, e278_24, e278_25, e278_28, e278_29, e278_30, e278_33, e278_34, e278_35, e278_38, e278_40, e278_43, e278_44, e278_47, e278_48, e278_49, e278_52, e278_54, e278_57, e278_58, e278_61, e278_62, e278_63, e278_64, e278_67, e278_69, e278_72, e278_73, e278_76, e278_77, e278_78, e278_79, e278_82, e278_84, e278_87, e278_89, e278_92, rk_n, rk_v, nl_n, nl_i, nl_r, cat_n, ip_cat_int, ip_cat_ref, ip_cat_long, ip_rf_some, Nat.reduceAdd, Nat.reduceLeDiff, Nat.reduceLT, Nat.le_refl, Nat.zero_le, hR, ia_lit, nu_i, nu_tn, lk, hk, nz, A2, j0, j2, g, A3, Bool.false_eq_true, Bool.true_eq_false, if_true, if_false, not_true_eq_false, not_false_eq_true, zle, eq_self]
    · rw [if_neg g] at A3
      rcases h2 g with e | e | e | e
      · simp only [e, nn, Bool.false_eq_true, Bool.true_eq_false, if_true, if_false, not_true_eq_false, not_false_eq_true, zle, eq_self] at A3
        simp only [e278_0, e278_1, e278_3, e278_6, e278_7, e278_9, e278_10, e278_12, e278_13, e278_14, e278_17, e278_18, e278_20, e278_21, e278_23, e278_24, e278_25, e278_28, e278_29, e278_30, e278_33, e278_34, e278_35, e278_38, e278_40, e278_43, e278_44, e278_47, e278_48, e278_49, e278_52, e278_54, e278_57, e278_58, e278_61, e278_62, e278_63, e278_64, e278_67, e278_69, e278_72, e278_73, e278_76, e278_77, e278_78, e278_79, e278_82, e278_84, e278_87, e278_89, e278_92, rk_n, rk_v, nl_n, nl_i, nl_r, cat_n, ip_cat_int, ip_cat_ref, ip_cat_long, ip_rf_some, Nat.reduceAdd, Nat.reduceLeDiff, Nat.reduceLT, Nat.le_refl, Nat.zero_le, hR, ia_lit, nu_i, nu_tn, lk, hk, nz, A2, j0, j2, g, e, nn, A3, Bool.false_eq_true, Bool.true_eq_false, if_true, if_false, not_true_eq_false, not_false_eq_true, zle, eq_self]
      · simp only [e, nn, Bool.false_eq_true, Bool.true_eq_false, if_true, if_false, not_true_eq_false, not_false_eq_true, zle, eq_self] at A3
        simp only [e278_0, e278_1, e278_3, e278_6, e278_7, e278_9, e278_10, e278_12, e278_13, e278_14, e278_17, e278_18, e278_20, e278_21, e278_23, e278_24, e278_25, e278_28, e278_29, e278_30, e278_33, e278_34, e278_35, e278_38, e278_40, e278_43, e278_44, e278_47, e278_48, e278_49, e278_52, e278_54, e278_57, e278_58, e278_61, e278_62, e278_63, e278_64, e278_67, e278_69, e278_72, e278_73, e278_76, e278_77, e278_78, e278_79, e278_82, e278_84, e278_87, e278_89, e278_92, rk_n, rk_v, nl_n, nl_i, nl_r, cat_n, ip_cat_int, ip_cat_ref, ip_cat_long, ip_rf_some, Nat.reduceAdd, Nat.reduceLeDiff, Nat.reduceLT, Nat.le_refl, Nat.zero_le, hR, ia_lit, nu_i, nu_tn, lk, hk, nz, A2, j0, j2, g, e, nn, A3, Bool.false_eq_true, Bool.true_eq_false, if_true, if_false, not_true_eq_false, not_false_eq_true, zle, eq_self]
      · simp only [e, nn, Bool.false_eq_true, Bool.true_eq_false, if_true, if_false, not_true_eq_false, not_false_eq_true, zle, eq_self] at A3
        simp only [e278_0, e278_1, e278_3, e278_6, e278_7, e278_9, e278_10, e278_12, e278_13, e278_14, e278_17, e278_18, e278_20, e278_21, e278_23, e278_24, e278_25, e278_28, e278_29, e278_30, e278_33, e278_34, e278_35, e278_38, e278_40, e278_43, e278_44, e278_47, e278_48, e278_49, e278_52, e278_54, e278_57, e278_58, e278_61, e278_62, e278_63, e278_64, e278_67, e278_69, e278_72, e278_73, e278_76, e278_77, e278_78, e278_79, e278_82, e278_84, e278_87, e278_89, e278_92, rk_n, rk_v, nl_n, nl_i, nl_r, cat_n, ip_cat_int, ip_cat_ref, ip_cat_long, ip_rf_some, Nat.reduceAdd, Nat.reduceLeDiff, Nat.reduceLT, Nat.le_refl, Nat.zero_le, hR, ia_lit, nu_i, nu_tn, lk, hk, nz, A2, j0, j2, g, e, nn, A3, Bool.false_eq_true, Bool.true_eq_false, if_true, if_false, not_true_eq_false, not_false_eq_true, zle, eq_self]
      · simp only [e, nn, Bool.false_eq_true, Bool.true_eq_false, if_true, if_false, not_true_eq_false, not_false_eq_true, zle, eq_self] at A3
        simp only [e278_0, e278_1, e278_3, e278_6, e278_7, e278_9, e278_10, e278_12, e278_13, e278_14, e278_17, e278_18, e278_20, e278_21, e278_23, e278_24, e278_25, e278_28, e278_29, e278_30, e278_33, e278_34, e278_35, e278_38, e278_40, e278_43, e278_44, e278_47, e278_48, e278_49, e278_52, e278_54, e278_57, e278_58, e278_61, e278_62, e278_63, e278_64, e278_67, e278_69, e278_72, e278_73, e278_76, e278_77, e278_78, e278_79, e278_82, e278_84, e278_87, e278_89, e278_92, rk_n, rk_v, nl_n, nl_i, nl_r, cat_n, ip_cat_int, ip_cat_ref, ip_cat_long, ip_rf_some, Nat.reduceAdd, Nat.reduceLeDiff, Nat.reduceLT, Nat.le_refl, Nat.zero_le, hR, ia_lit, nu_i, nu_tn, lk, hk, nz, A2, j0, j2, g, e, nn, A3, Bool.false_eq_true, Bool.true_eq_false, if_true, if_false, not_true_eq_false, not_false_eq_true, zle, eq_self]
  rw [hdT_eq] at hb
  unfold hdT
  unfold dgl at hb
  by_cases g : k < 10
  · rw [if_pos g] at hb
    rw [if_pos g, List.nil_append]
    obtain ⟨J2, A2, W2⟩ := last J bs W (by omega)
    refine ⟨J2, fun d => ?_, W2⟩
    rw [← A2 d]
    simp only [en278, e278_0, e278_1, e278_3, m3, g, Bool.false_eq_true, Bool.true_eq_false, if_true, if_false, not_true_eq_false, not_false_eq_true, zle, eq_self]
  · rw [if_neg g] at hb
    rw [if_neg g]
    obtain ⟨J1, A1, W1⟩ := mw (n := n) (L := L) (nc := nc) (ns := ns) (nx := nx) hR W (by omega) (48 + Int32.ofNat k / 10)
    obtain ⟨J2, A2, W2⟩ := last J1 _ W1 (by simp; omega)
    refine ⟨J2, fun d => ?_, by simpa using W2⟩
    rw [← A2 d]
    simp only [en278, e278_0, e278_1, e278_3, e278_6, e278_7, e278_9, e278_10, e278_12, e278_13, e278_14, rk_n, rk_v, nl_n, nl_i, nl_r, cat_n, ip_cat_int, ip_cat_ref, ip_cat_long, ip_rf_some, Nat.reduceAdd, Nat.reduceLeDiff, Nat.reduceLT, Nat.le_refl, Nat.zero_le, m3, g, nz, A1, Bool.false_eq_true, Bool.true_eq_false, if_true, if_false, not_true_eq_false, not_false_eq_true, zle, eq_self]
theorem k262 (hR : LYR R) (H : TRM I N) (W : WM bs I J) (hq : q ≤ 40) : cf d 262 [.ref 265, .int (Int32.ofNat k), .int (Int32.ofNat q)] (SH n, J, L, R, nc, ns, nx) = some (.inl (some (.int (nxK I N k q))), (SH n, J, L, R, nc, ns, nx)) := by
  have h1 : J 265 37 = Int32.ofNat N := by rw [W.1 265 37 (by omega)]; exact H.2.1
  rw [c262 hR h1 H.1.1 hq]
  unfold nxK
  rw [nxt_ext (g := fun i => I 290 i) _ _ (fun i hi => by
    show J 290 i = I 290 i
    rw [W.1 290 i (by omega)])]
theorem nxK_0 (H : TRE I N) (hk : k < N) : nxK I N k 0 = nxK I N k k := by
  obtain ⟨h1, h2, h3, h4⟩ := H
  unfold nxK
  rw [show k + 1 = (0 + 1) + k by omega]
  refine nxt_skip k (0 + 1) 42 42 (fun i h1 h2 h3 e => ?_) (by omega) (by omega)
  obtain ⟨q, z1, z2⟩ := h4 i (by omega) h3
  have e : I 290 i = Int32.ofNat k := e
  rw [z2] at e
  have := (nu_inj (by omega) (by omega)).mp e
  omega
/-- the first child comes first -/
theorem nxK_f (hN : N ≤ 40) (h0 : 0 < c) (hc : c < N) (p1 : I 290 c = Int32.ofNat k) : ∃ j, j ≤ c ∧ nxK I N k 0 = Int32.ofNat j := by
  rcases nxt_spec (f := fun i => I 290 i) (c := N) (x := Int32.ofNat k) 42 (0 + 1) (by omega) with ⟨h, h'⟩ | ⟨j, h1, h2, h3, h4, h5⟩
  · exact absurd p1 (h' c (by omega) hc)
  · refine ⟨j, Nat.le_of_not_lt (fun e => h5 c (by omega) e p1), h4⟩
theorem tr_m (hR : LYR R) (H : TRM I N) : ∀ g, (∀ k J bs (l3 l4 : Option Value), k < N → 2 * (N - k) ≤ g → WM bs I J → bs.length + (brR I N g k).length ≤ 256 → ∃ J' l3' l4', (∀ d, rf (d + 3) 277 19 [some (.ref 265), some (.int (Int32.ofNat k)), some (.int 0), l3, l4] [] (SH n, J, L, R, nc, ns, nx) = rf (d + 3) 277 19 [some (.ref 265), some (.int (I 290 k)), some (.int (Int32.ofNat k)), l3', l4'] [] (SH n, J', L, R, nc, ns, nx)) ∧ WM (bs ++ brR I N g k) I J') ∧
    (∀ k c J bs (l3 l4 : Option Value), k < c → c < N → I 290 c = Int32.ofNat k → 2 * (N - c) + 1 ≤ g → WM bs I J → bs.length + (kdR I N g k c).length ≤ 256 → ∃ J' l3' l4', (∀ d, rf (d + 3) 277 19 [some (.ref 265), some (.int (Int32.ofNat c)), some (.int 0), l3, l4] [] (SH n, J, L, R, nc, ns, nx) = rf (d + 3) 277 19 [some (.ref 265), some (.int (I 290 k)), some (.int (Int32.ofNat k)), l3', l4'] [] (SH n, J', L, R, nc, ns, nx)) ∧ WM (bs ++ kdR I N g k c) I J') := by
  have hN := H.1.1
  intro g
  induction g with
  | zero => exact ⟨fun k J bs l3 l4 h1 h2 => by omega, fun k c J bs l3 l4 h1 h2 h3 h4 => by omega⟩
  | succ g ih =>
    refine ⟨fun k J bs l3 l4 hk hg W hb => ?_, fun k c J bs l3 l4 h1 h2 h3 hg W hb => ?_⟩
    · have lk : k < 2147483648 := by omega
      have k40 : k < 40 := by omega
      have nk : (Int32.ofNat k = -1) = False := eq_false (fun e => nu_nn (t := k) (by omega) (by rw [e]; decide))
      have K0 := fun d => k262 (d := d) (n := n) (L := L) (nc := nc) (ns := ns) (nx := nx) (k := k) (q := 0) hR H W (by omega)
      rw [nxK_0 H.1 hk] at K0
      have K0 : ∀ d, cf d 262 [.ref 265, .int (Int32.ofNat k), .int 0] (SH n, J, L, R, nc, ns, nx) = _ := K0
      have j9 : J 290 k = I 290 k := W.1 290 k (by omega)
      rw [brR_s] at hb ⊢
      rcases nxK_is (I := I) hN k k with h | ⟨c, h4, h5, h6, h7, h8, h9⟩
      · rw [if_pos h]
        refine ⟨J, some (.int (-1)), some (.int 0), fun d => ?_, by rw [List.append_nil]; exact W⟩
        rw [e277_19]
        simp only [e277_0, e277_1, e277_2, e277_5, e277_6, e277_7, e277_10, e277_11, e277_12, e277_13, e277_14, e277_15, e277_16, e277_20, e277_21, e277_24, e277_25, e277_26, e277_27, e277_30, e277_31, e277_32, e277_33, e277_36, e277_37, e277_38, e277_39, e277_40, e277_43, e277_46, e277_47, e277_50, e277_51, e277_53, e277_54, e277_55, e277_58, e277_59, e277_61, e277_64, e277_66, e277_69, e277_71, e277_74, e277_75, e277_76, e277_79, e277_80, e277_81, e277_82, e277_83, e277_86, e277_87, e277_88, e277_89, e277_92, e277_93, e277_96, e277_97, e277_99, e277_102, e277_103, e277_104, e277_105, e277_108, e277_109, e277_110, e277_111, e277_114, e277_115, e277_118, rk_n, rk_v, nl_n, nl_i, nl_r, cat_n, ip_cat_int, ip_cat_ref, ip_cat_long, ip_rf_some, Nat.reduceAdd, Nat.reduceLeDiff, Nat.reduceLT, Nat.le_refl, Nat.zero_le, hR, ia_lit, nu_i, nu_tn, lk, k40, nk, K0, h, j9, Bool.false_eq_true, Bool.true_eq_false, if_true, if_false, not_true_eq_false, not_false_eq_true, zle, eq_self]
      · rw [if_neg h9, h8] at hb ⊢
        simp only [List.length_cons, List.length_append] at hb
        obtain ⟨J1, A1, W1⟩ := mw (n := n) (L := L) (nc := nc) (ns := ns) (nx := nx) hR W (by omega) 40
        obtain ⟨J2, A2, W2⟩ := c278 (n := n) (L := L) (nc := nc) (ns := ns) (nx := nx) (k := c) hR (by omega) (H.2.2 c h5) W1 (by simp; omega)
        obtain ⟨J3, l3', l4', A3, W3⟩ := ih.2 k c J2 _ (some (.int (Int32.ofNat c))) (some (.int 1)) h4 h5 h6 (by omega) W2 (by simp only [List.length_append, List.length_cons, List.length_nil]; omega)
        refine ⟨J3, l3', l4', fun d => ?_, ?_⟩
        · rw [← A3 d, e277_19]
          rw [h7] at K0
          have n1 : (Int32.ofNat c = -1) = False := eq_false (by rw [← h7]; exact h9)
          simp only [e277_0, e277_1, e277_2, e277_5, e277_6, e277_7, e277_10, e277_11, e277_12, e277_13, e277_14, e277_15, e277_16, e277_20, e277_21, e277_24, e277_25, e277_26, e277_27, e277_30, e277_31, e277_32, e277_33, e277_36, e277_37, e277_38, e277_39, e277_40, e277_43, e277_46, e277_47, e277_50, e277_51, e277_53, e277_54, e277_55, e277_58, e277_59, e277_61, e277_64, e277_66, e277_69, e277_71, e277_74, e277_75, e277_76, e277_79, e277_80, e277_81, e277_82, e277_83, e277_86, e277_87, e277_88, e277_89, e277_92, e277_93, e277_96, e277_97, e277_99, e277_102, e277_103, e277_104, e277_105, e277_108, e277_109, e277_110, e277_111, e277_114, e277_115, e277_118, rk_n, rk_v, nl_n, nl_i, nl_r, cat_n, ip_cat_int, ip_cat_ref, ip_cat_long, ip_rf_some, Nat.reduceAdd, Nat.reduceLeDiff, Nat.reduceLT, Nat.le_refl, Nat.zero_le, nk, n1, K0, A1, A2, (by decide : ¬ (1 : Int32) = 0), Bool.false_eq_true, Bool.true_eq_false, if_true, if_false, not_true_eq_false, not_false_eq_true, zle, eq_self]
        · have : bs ++ 40 :: (hdT I c ++ kdR I N g k c) = bs ++ [40] ++ hdT I c ++ kdR I N g k c := by simp
          rw [this]; exact W3
    · have lk : k < 2147483648 := by omega
      have k40 : k < 40 := by omega
      have nk : (Int32.ofNat k = -1) = False := eq_false (fun e => nu_nn (t := k) (by omega) (by rw [e]; decide))
      rw [kdR_s] at hb ⊢
      rw [List.length_append] at hb
      obtain ⟨J1, l3', l4', A1, W1⟩ := ih.1 c J bs l3 l4 h2 (by omega) W (by omega)
      rw [h3] at A1
      have K0 := fun d => k262 (d := d) (n := n) (L := L) (nc := nc) (ns := ns) (nx := nx) (k := k) (q := 0) hR H W1 (by omega)
      have K1 := fun d => k262 (d := d) (n := n) (L := L) (nc := nc) (ns := ns) (nx := nx) (k := k) (q := c) hR H W1 (by omega)
      obtain ⟨j, hj, ej⟩ := nxK_f (I := I) hN (by omega) h2 h3
      rw [ej] at K0
      have K0 : ∀ d, cf d 262 [.ref 265, .int (Int32.ofNat k), .int 0] (SH n, J1, L, R, nc, ns, nx) = _ := K0
      have nj : (Int32.ofNat j = -1) = False := eq_false (fun e => nu_nn (t := j) (by omega) (by rw [e]; decide))
      have j9 : J1 290 k = I 290 k := W1.1 290 k (by omega)
      rcases nxK_is (I := I) hN k c with h | ⟨c', h4, h5, h6, h7, h8, h9⟩
      · rw [if_pos h] at hb ⊢
        simp only [List.length_cons, List.length_nil] at hb
        obtain ⟨J2, A2, W2⟩ := mw (n := n) (L := L) (nc := nc) (ns := ns) (nx := nx) hR W1 (by simp only [List.length_append]; omega) 41
        have j9' : J2 290 k = I 290 k := W2.1 290 k (by omega)
        refine ⟨J2, some (.int (-1)), some (.int 0), fun d => ?_, by have := W2; simpa using this⟩
        rw [A1 d, e277_19]
        simp only [e277_0, e277_1, e277_2, e277_5, e277_6, e277_7, e277_10, e277_11, e277_12, e277_13, e277_14, e277_15, e277_16, e277_20, e277_21, e277_24, e277_25, e277_26, e277_27, e277_30, e277_31, e277_32, e277_33, e277_36, e277_37, e277_38, e277_39, e277_40, e277_43, e277_46, e277_47, e277_50, e277_51, e277_53, e277_54, e277_55, e277_58, e277_59, e277_61, e277_64, e277_66, e277_69, e277_71, e277_74, e277_75, e277_76, e277_79, e277_80, e277_81, e277_82, e277_83, e277_86, e277_87, e277_88, e277_89, e277_92, e277_93, e277_96, e277_97, e277_99, e277_102, e277_103, e277_104, e277_105, e277_108, e277_109, e277_110, e277_111, e277_114, e277_115, e277_118, rk_n, rk_v, nl_n, nl_i, nl_r, cat_n, ip_cat_int, ip_cat_ref, ip_cat_long, ip_rf_some, Nat.reduceAdd, Nat.reduceLeDiff, Nat.reduceLT, Nat.le_refl, Nat.zero_le, hR, ia_lit, nu_i, nu_tn, lk, k40, nk, K0, K1, nj, h, A2, j9', Bool.false_eq_true, Bool.true_eq_false, if_true, if_false, not_true_eq_false, not_false_eq_true, zle, eq_self]
      · rw [if_neg h9, h8] at hb ⊢
        simp only [List.length_cons, List.length_append] at hb
        have hl := hdT_len (I := I) (k := c')
        obtain ⟨J2, A2, W2⟩ := mw (n := n) (L := L) (nc := nc) (ns := ns) (nx := nx) hR W1 (by simp only [List.length_append]; omega) 44
        obtain ⟨J3, A3, W3⟩ := c278 (n := n) (L := L) (nc := nc) (ns := ns) (nx := nx) (k := c') hR (by omega) (H.2.2 c' h5) W2 (by simp only [List.length_append, List.length_cons, List.length_nil]; omega)
        obtain ⟨J4, m3, m4, A4, W4⟩ := ih.2 k c' J3 _ (some (.int (Int32.ofNat c'))) (some (.int 0)) (by omega) h5 h6 (by omega) W3 (by simp only [List.length_append, List.length_cons, List.length_nil]; omega)
        refine ⟨J4, m3, m4, fun d => ?_, ?_⟩
        · rw [A1 d, ← A4 d, e277_19]
          rw [h7] at K1
          have n1 : (Int32.ofNat c' = -1) = False := eq_false (by rw [← h7]; exact h9)
          have n2 : (Int32.ofNat c' = Int32.ofNat j) = False := eq_false (fun e => by have := (nu_inj (by omega) (by omega)).mp e; omega)
          simp only [e277_0, e277_1, e277_2, e277_5, e277_6, e277_7, e277_10, e277_11, e277_12, e277_13, e277_14, e277_15, e277_16, e277_20, e277_21, e277_24, e277_25, e277_26, e277_27, e277_30, e277_31, e277_32, e277_33, e277_36, e277_37, e277_38, e277_39, e277_40, e277_43, e277_46, e277_47, e277_50, e277_51, e277_53, e277_54, e277_55, e277_58, e277_59, e277_61, e277_64, e277_66, e277_69, e277_71, e277_74, e277_75, e277_76, e277_79, e277_80, e277_81, e277_82, e277_83, e277_86, e277_87, e277_88, e277_89, e277_92, e277_93, e277_96, e277_97, e277_99, e277_102, e277_103, e277_104, e277_105, e277_108, e277_109, e277_110, e277_111, e277_114, e277_115, e277_118, rk_n, rk_v, nl_n, nl_i, nl_r, cat_n, ip_cat_int, ip_cat_ref, ip_cat_long, ip_rf_some, Nat.reduceAdd, Nat.reduceLeDiff, Nat.reduceLT, Nat.le_refl, Nat.zero_le, nk, n1, n2, K0, K1, A2, A3, Bool.false_eq_true, Bool.true_eq_false, if_true, if_false, not_true_eq_false, not_false_eq_true, zle, eq_self]
        · have : bs ++ (brR I N g c ++ 44 :: (hdT I c' ++ kdR I N g k c')) = bs ++ brR I N g c ++ [44] ++ hdT I c' ++ kdR I N g k c' := by simp
          rw [this]; exact W4
/-- compared at once, deeper -/
def SAMED (mc mm : Nat) (as : List Value) : Prop := ∀ (n : Nat) (I : Nat → Nat → Int32) (L : Nat → Nat → Int64) (R : Nat → Nat → Option Nat) (nc ns : Nat) (nx : Bool) (T c N w t p : Nat), REL T c N w t p I L R →
  ∃ (b : Int32) (I1 I2 : Nat → Nat → Int32) (L1 L2 : Nat → Nat → Int64) (R1 : Nat → Nat → Option Nat) (nc1 ns1 : Nat) (nx1 : Bool) (T' c' N' w' t' p' : Nat),
    (∀ d, cf (d + 60) mc (.ref 2 :: as) (SH n, I, L, R, nc, ns, nx) = some (.inl (some (.int b)), (SH n, I1, L1, R1, nc1, ns1, nx1))) ∧
    (∀ d, cf (d + 60) mm (.ref 265 :: as) (SH n, I1, L1, R1, nc1, ns1, nx1) = some (.inl (some (.int b)), (SH n, I2, L2, R1, nc1, ns1, nx1))) ∧
    REL T' c' N' w' t' p' I2 L2 R1 ∧ nc1 ≤ nc + 1 ∧ ns1 ≤ ns + 6 ∧ (∀ k, I2 0 k = I 0 k)
theorem S35 : SAMED 28 277 [] := by
  intro n I L R nc ns nx T c N w t p X
  have X0 := X
  have hR := X.1
  obtain ⟨⟨n1, n2, n3⟩, ⟨y1, y2⟩, ⟨y3, y4⟩, y5⟩ := X.2.2.1
  have up := REL_up X
  have TE : ∀ K : Nat → Nat → Int32, (∀ k, K 290 k = I 290 k) → TRE K N := fun K h => ⟨n2, n1, by rw [h]; exact up.1.1, fun k h1 h2 => by
    obtain ⟨q, a, b, -⟩ := up.2 k h1 h2
    exact ⟨q, a, by rw [h]; exact b⟩⟩
  have TC : TRC I N := ⟨TE I (fun _ => rfl), y1, fun k hk => ⟨(y5 k hk).2.1.1, (y5 k hk).2.2.1.1, (y5 k hk).2.2.1.2.1, (y5 k hk).2.2.1.2.2⟩⟩
  have bl := (br_len (TE I (fun _ => rfl)) (2 * N)).1 0 (by omega)
  have cl := cn_le (fun v => bA (AncP I N 0 v)) N
  have hl := hdT_len (I := I) (k := 0)
  have bl2 : (brR I N (2 * N) 0).length ≤ 200 := by unfold cA at bl; omega
  obtain ⟨J1, A1, W1⟩ := (tr_c (n := n) (L := L) (nc := nc) (ns := ns) (nx := nx) hR TC (2 * N)).1 0 (ip_up I 63 1 0) [] 0 (by omega) (by omega) (by omega) WC_0 (by simp only [List.length_nil]; omega)
  rw [List.nil_append] at W1
  generalize hbs : hdT I 0 ++ brR I N (2 * N) 0 = bs at *
  have bl3 : bs.length ≤ 203 := by rw [← hbs, List.length_append]; omega
  generalize hK : ip_up J1 265 0 0 = K
  have G1 : ∀ a j, ¬ a = 64 → ¬ (a = 63 ∧ j = 1) → J1 a j = I a j := fun a j h1 h2 => W1.1 a j (by omega)
  have GK : ∀ a j, ¬ (a = 265 ∧ j = 0) → K a j = J1 a j := by
    intro a j h
    rw [← hK]
    by_cases e : a = 265
    · subst e; exact up_k (fun e => h ⟨rfl, e⟩)
    · exact up_a e
  have GI : ∀ a j, 66 ≤ a → ¬ (a = 265 ∧ j = 0) → K a j = I a j := fun a j h1 h2 => (GK a j h2).trans (G1 a j (by omega) (by omega))
  have nk : ∀ k q, nxK K N k q = nxK I N k q := fun k q => by unfold nxK; exact nxt_ext _ _ (fun i _ => GI 290 i (by omega) (by omega))
  have hk : ∀ k, hdT K k = hdT I k := fun k => by unfold hdT; rw [GI 289 k (by omega) (by omega), GI 291 k (by omega) (by omega)]
  have be : ∀ g, (∀ k, brR K N g k = brR I N g k) ∧ (∀ k c, kdR K N g k c = kdR I N g k c) := by
    intro g
    induction g with
    | zero => exact ⟨fun k => rfl, fun k c => rfl⟩
    | succ g ih => exact ⟨fun k => by rw [brR_s, brR_s, nk, hk, ih.2], fun k c => by rw [kdR_s, kdR_s, nk, hk, ih.1, ih.2]⟩
  have TM : TRM K N := ⟨TE K (fun k => GI 290 k (by omega) (by omega)), by rw [GI 265 37 (by omega) (by omega)]; exact y2, fun k hk => by rw [GI 289 k (by omega) (by omega), GI 291 k (by omega) (by omega)]; exact (y5 k hk).2.2.1.2.2⟩
  obtain ⟨K1, B1, V1⟩ := c278 (n := n) (L := L) (nc := nc) (ns := ns) (nx := nx) (k := 0) (I := K) (bs := []) hR (by omega) (TM.2.2 0 (by omega)) WM_0 (by have := hdT_len (I := K) (k := 0); simp only [List.length_nil]; omega)
  rw [List.nil_append, hk] at V1
  obtain ⟨K2, l3', l4', B2, V2⟩ := (tr_m (n := n) (L := L) (nc := nc) (ns := ns) (nx := nx) hR TM (2 * N)).1 0 K1 _ none none (by omega) (by omega) V1 (by rw [(be _).1]; omega)
  rw [(be _).1, hbs] at V2
  have p0 : K 290 0 = -1 := TM.1.2.2.1
  rw [p0] at B2
  have H : onlyP (fun a j => a = 64 ∨ (a = 63 ∧ j = 1) ∨ a = 306 ∨ (a = 265 ∧ (j = 0 ∨ j = 70))) I K2 := by
    intro a j h
    rw [V2.1 a j (by omega), GK a j (by omega), G1 a j (by omega) (by omega)]
  refine ⟨Int32.ofNat bs.length, J1, K2, L, L, R, nc, ns, nx, T, c, N, w, t, bs.length, fun d => ?_, fun d => ?_, ?_, by omega, by omega, fun i => H 0 i (by omega)⟩
  · have A1 : cf (d + 56 - N + (N - 0) + 3) 30 [.ref 2, .int 0, .int 0] (SH n, ip_up I 63 1 0, L, R, nc, ns, nx) = _ := A1 (d + 56 - N)
    rw [show d + 56 - N + (N - 0) + 3 = d + 59 by omega] at A1
    simp only [en28, e28_0, e28_1, e28_4, e28_7, e28_8, e28_9, e28_10, e28_13, e28_14, e28_17, e28_20, rk_n, rk_v, nl_n, nl_i, nl_r, cat_n, ip_cat_int, ip_cat_ref, ip_cat_long, ip_rf_some, Nat.reduceAdd, Nat.reduceLeDiff, Nat.reduceLT, Nat.le_refl, Nat.zero_le, hR, c29, A1, W1.2.1, Bool.false_eq_true, Bool.true_eq_false, if_true, if_false, not_true_eq_false, not_false_eq_true, zle, eq_self]
  · have B2 : rf (d + 57 + 3) 277 19 [some (.ref 265), some (.int 0), some (.int 0), none, none] [] (SH n, K1, L, R, nc, ns, nx) = _ := B2 (d + 57)
    have B1 : cf (d + 58 + 1) 278 [.ref 265, .int 0] (SH n, ip_up K 265 70 0, L, R, nc, ns, nx) = _ := B1 (d + 58)
    simp only [en277, e277_0, e277_1, e277_2, e277_5, e277_6, e277_7, e277_10, e277_11, e277_12, e277_13, e277_14, e277_15, e277_16, rk_n, rk_v, nl_n, nl_i, nl_r, cat_n, ip_cat_int, ip_cat_ref, ip_cat_long, ip_rf_some, Nat.reduceAdd, Nat.reduceLeDiff, Nat.reduceLT, Nat.le_refl, Nat.zero_le, hK, B1, Bool.false_eq_true, Bool.true_eq_false, if_true, if_false, not_true_eq_false, not_false_eq_true, zle, eq_self]
    rw [B2, e277_19]
    simp only [e277_0, e277_1, e277_2, e277_5, e277_6, e277_7, e277_10, e277_11, e277_12, e277_13, e277_14, e277_15, e277_16, e277_20, e277_21, e277_24, e277_25, e277_26, e277_27, e277_30, e277_31, e277_32, e277_33, e277_36, e277_37, e277_38, e277_39, e277_40, e277_43, e277_46, e277_47, e277_50, e277_51, e277_53, e277_54, e277_55, e277_58, e277_59, e277_61, e277_64, e277_66, e277_69, e277_71, e277_74, e277_75, e277_76, e277_79, e277_80, e277_81, e277_82, e277_83, e277_86, e277_87, e277_88, e277_89, e277_92, e277_93, e277_96, e277_97, e277_99, e277_102, e277_103, e277_104, e277_105, e277_108, e277_109, e277_110, e277_111, e277_114, e277_115, e277_118, rk_n, rk_v, nl_n, nl_i, nl_r, cat_n, ip_cat_int, ip_cat_ref, ip_cat_long, ip_rf_some, Nat.reduceAdd, Nat.reduceLeDiff, Nat.reduceLT, Nat.le_refl, Nat.zero_le, V2.2.1, Bool.false_eq_true, Bool.true_eq_false, if_true, if_false, not_true_eq_false, not_false_eq_true, zle, eq_self]
  · refine REL_P X0 H (fun a j e => by unfold scr; omega) ⟨n3, by rw [H 2 7 (by omega)]; exact y3, by rw [H 265 38 (by omega)]; exact y4⟩ (RTa_P X.2.2.2.1 H (fun a j e => by omega)) ⟨by omega, ?_, V2.2.1, fun i hi => ?_⟩
    · rw [V2.1 63 1 (by omega), GK 63 1 (by omega)]; exact W1.2.1
    · rw [V2.2.2 i hi, V2.1 64 i (by omega), GK 64 i (by omega)]; exact W1.2.2 i hi
end TRM
