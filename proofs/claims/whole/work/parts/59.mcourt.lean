/-! THE MODEL: what is heard, errors, what comes of them -/
theorem or_0 (x : Int32) : x ||| 0 = x := Int32.or_zero
section MC
variable {n d a b T c s t z o w m p lev k side ap : Nat} {I J K : Nat → Nat → Int32} {L : Nat → Nat → Int64} {R : Nat → Nat → Option Nat} {nc ns : Nat} {nx : Bool} {x y j v : Int32} {h : ip_H} {f g std rst V : Nat → Nat} {win : Nat → Bool} {br fl : Nat → Int32}
def heardN (c : Nat) (std rst : Nat → Nat) (br : Nat → Int32) (win : Nat → Bool) (V : Nat → Nat) (fl : Nat → Int32) (lev side : Nat) : Nat := setN (fun k => decide (whyI V fl lev k side = 0)) c
theorem c235 (hR : LYR R) (X : MTx c std rst br win I) (M : MNd w p lev V fl I) (hl : lev = 1 ∨ lev = 2) (hs : side < 2) : cf (d + 3) 235 [.ref 265, .int (Int32.ofNat side), .int (Int32.ofNat lev)] (SH n, I, L, R, nc, ns, nx) = some (.inl (some (.int (Int32.ofNat (heardN c std rst br win V fl lev side)))), (SH n, I, L, R, nc, ns, nx)) := by
  obtain ⟨hc8, hc, -, -, -, -⟩ := X
  have lc := lt8 hc8
  simp only [en235, e235_0, e235_1, e235_2, e235_3, e235_7, e235_8, e235_11, e235_14, e235_15, e235_16, e235_18, e235_19, e235_20, e235_23, e235_26, e235_27, e235_29, e235_30, e235_33, e235_34, e235_35, e235_36, e235_39, e235_42, e235_43, rk_n, rk_v, nl_n, nl_i, nl_r, cat_n, ip_cat_int, ip_cat_ref, ip_cat_long, ip_rf_some, Nat.reduceAdd, Nat.reduceLeDiff, Nat.reduceLT, Nat.le_refl, Nat.zero_le]
  refine (for_eq (c := c) (fun k => rf (d + 3) 235 5 [some (.ref 265), some (.int (Int32.ofNat side)), some (.int (Int32.ofNat lev)), some (.int (Int32.ofNat (setN (fun k => decide (whyI V fl lev k side = 0)) k))), some (.int (Int32.ofNat k))] [] (SH n, I, L, R, nc, ns, nx)) ?_).trans ?_
  · intro k hk
    try dsimp only
    have lk : k < 2147483648 := by omega
    have g1 : ¬ c ≤ k := by omega
    have k8 : k < 8 := by omega
    have C := c236 (d := d) (n := n) (L := L) (nc := nc) (ns := ns) (nx := nx) hR M hl k8 hs
    rw [e235_5, setN]
    by_cases g3 : whyI V fl lev k side = 0
    · simp only [e235_0, e235_1, e235_2, e235_3, e235_7, e235_8, e235_11, e235_14, e235_15, e235_16, e235_18, e235_19, e235_20, e235_23, e235_26, e235_27, e235_29, e235_30, e235_33, e235_34, e235_35, e235_36, e235_39, e235_42, e235_43, rk_n, rk_v, nl_n, nl_i, nl_r, cat_n, ip_cat_int, ip_cat_ref, ip_cat_long, ip_rf_some, Nat.reduceAdd, Nat.reduceLeDiff, Nat.reduceLT, Nat.le_refl, Nat.zero_le, hR, hc, nu_ge, lk, lc, g1, C, g3, k8, sh1, of_or, nu_1, decide_true, Bool.false_eq_true, Bool.true_eq_false, if_true, if_false, not_true_eq_false, not_false_eq_true, zle, eq_self]
    · simp only [e235_0, e235_1, e235_2, e235_3, e235_7, e235_8, e235_11, e235_14, e235_15, e235_16, e235_18, e235_19, e235_20, e235_23, e235_26, e235_27, e235_29, e235_30, e235_33, e235_34, e235_35, e235_36, e235_39, e235_42, e235_43, rk_n, rk_v, nl_n, nl_i, nl_r, cat_n, ip_cat_int, ip_cat_ref, ip_cat_long, ip_rf_some, Nat.reduceAdd, Nat.reduceLeDiff, Nat.reduceLT, Nat.le_refl, Nat.zero_le, hR, hc, nu_ge, lk, lc, g1, C, g3, k8, or_0, nu_1, decide_false, Bool.false_eq_true, Bool.true_eq_false, if_true, if_false, not_true_eq_false, not_false_eq_true, zle, eq_self]
  · rw [e235_5]
    simp only [e235_0, e235_1, e235_2, e235_3, e235_7, e235_8, e235_11, e235_14, e235_15, e235_16, e235_18, e235_19, e235_20, e235_23, e235_26, e235_27, e235_29, e235_30, e235_33, e235_34, e235_35, e235_36, e235_39, e235_42, e235_43, rk_n, rk_v, nl_n, nl_i, nl_r, cat_n, ip_cat_int, ip_cat_ref, ip_cat_long, ip_rf_some, Nat.reduceAdd, Nat.reduceLeDiff, Nat.reduceLT, Nat.le_refl, Nat.zero_le, hc, Int32.le_refl, heardN, Bool.false_eq_true, Bool.true_eq_false, if_true, if_false, not_true_eq_false, not_false_eq_true, zle, eq_self]
def agsN (V : Nat → Nat) (side c : Nat) : Nat := setN (fun k => agN V k side) c
theorem c241 (hR : LYR R) (X : MTx c std rst br win I) (M : MNd w p lev V fl I) (hs : side < 2) : cf (d + 2) 241 [.ref 265, .int (Int32.ofNat side)] (SH n, I, L, R, nc, ns, nx) = some (.inl (some (.int (Int32.ofNat (agsN V side c)))), (SH n, I, L, R, nc, ns, nx)) := by
  obtain ⟨hc8, hc, -, -, -, -⟩ := X
  obtain ⟨hw, m1, v8, m6, m4, -⟩ := M
  have lc := lt8 hc8
  simp only [en241, e241_0, e241_1, e241_2, e241_3, e241_5, e241_6, e241_9, e241_12, e241_13, e241_14, e241_15, e241_18, e241_19, e241_20, e241_23, e241_26, e241_27, e241_28, e241_29, e241_32, e241_33, e241_34, e241_35, e241_38, e241_41, e241_42, rk_n, rk_v, nl_n, nl_i, nl_r, cat_n, ip_cat_int, ip_cat_ref, ip_cat_long, ip_rf_some, Nat.reduceAdd, Nat.reduceLeDiff, Nat.reduceLT, Nat.le_refl, Nat.zero_le]
  refine (for_eq (c := c) (fun k => rf (d + 2) 241 4 [some (.ref 265), some (.int (Int32.ofNat side)), some (.int (Int32.ofNat (setN (fun k => agN V k side) k))), some (.int (Int32.ofNat k))] [] (SH n, I, L, R, nc, ns, nx)) ?_).trans ?_
  · intro k hk
    try dsimp only
    have lk : k < 2147483648 := by omega
    have g1 : ¬ c ≤ k := by omega
    have k8 : k < 8 := by omega
    have C := c228 (d := d) (n := n) (L := L) (nc := nc) (ns := ns) (nx := nx) hR hw m6 m4 v8 k8 hs
    rw [e241_4, setN]
    by_cases g3 : agN V k side = true
    · simp only [e241_0, e241_1, e241_2, e241_3, e241_5, e241_6, e241_9, e241_12, e241_13, e241_14, e241_15, e241_18, e241_19, e241_20, e241_23, e241_26, e241_27, e241_28, e241_29, e241_32, e241_33, e241_34, e241_35, e241_38, e241_41, e241_42, rk_n, rk_v, nl_n, nl_i, nl_r, cat_n, ip_cat_int, ip_cat_ref, ip_cat_long, ip_rf_some, Nat.reduceAdd, Nat.reduceLeDiff, Nat.reduceLT, Nat.le_refl, Nat.zero_le, hR, hc, m1, nu_ge, lk, lc, g1, C, g3, k8, sh1, of_or, nu_1, Bool.false_eq_true, Bool.true_eq_false, if_true, if_false, not_true_eq_false, not_false_eq_true, zle, eq_self]
    · simp only [e241_0, e241_1, e241_2, e241_3, e241_5, e241_6, e241_9, e241_12, e241_13, e241_14, e241_15, e241_18, e241_19, e241_20, e241_23, e241_26, e241_27, e241_28, e241_29, e241_32, e241_33, e241_34, e241_35, e241_38, e241_41, e241_42, rk_n, rk_v, nl_n, nl_i, nl_r, cat_n, ip_cat_int, ip_cat_ref, ip_cat_long, ip_rf_some, Nat.reduceAdd, Nat.reduceLeDiff, Nat.reduceLT, Nat.le_refl, Nat.zero_le, hR, hc, m1, nu_ge, lk, lc, g1, C, g3, k8, or_0, nu_1, Bool.false_eq_true, Bool.true_eq_false, if_true, if_false, not_true_eq_false, not_false_eq_true, zle, eq_self]
  · rw [e241_4]
    simp only [e241_0, e241_1, e241_2, e241_3, e241_5, e241_6, e241_9, e241_12, e241_13, e241_14, e241_15, e241_18, e241_19, e241_20, e241_23, e241_26, e241_27, e241_28, e241_29, e241_32, e241_33, e241_34, e241_35, e241_38, e241_41, e241_42, rk_n, rk_v, nl_n, nl_i, nl_r, cat_n, ip_cat_int, ip_cat_ref, ip_cat_long, ip_rf_some, Nat.reduceAdd, Nat.reduceLeDiff, Nat.reduceLT, Nat.le_refl, Nat.zero_le, hc, Int32.le_refl, agsN, Bool.false_eq_true, Bool.true_eq_false, if_true, if_false, not_true_eq_false, not_false_eq_true, zle, eq_self]
def errN (c : Nat) (std rst : Nat → Nat) (br : Nat → Int32) (win : Nat → Bool) (V : Nat → Nat) (fl : Nat → Int32) (lev s : Nat) : Nat := setN (fun k => s.testBit k && !decide (fl k < br (3 * lev - 3 + std k))) c
theorem c238 (hR : LYR R) (X : MTx c std rst br win I) (M : MNd w p lev V fl I) (hl : lev = 1 ∨ lev = 2) (hs : s < 256) : cf (d + 1) 238 [.ref 265, .int (Int32.ofNat s), .int (Int32.ofNat lev)] (SH n, I, L, R, nc, ns, nx) = some (.inl (some (.int (Int32.ofNat (errN c std rst br win V fl lev s)))), (SH n, I, L, R, nc, ns, nx)) := by
  obtain ⟨hc8, hc, hst, -, hbr, -⟩ := X
  obtain ⟨hw, m1, v8, -, -, -, -, -, -, mf, -⟩ := M
  have lc := lt8 hc8
  simp only [en238, e238_0, e238_1, e238_2, e238_3, e238_7, e238_8, e238_11, e238_14, e238_15, e238_17, e238_20, e238_23, e238_24, e238_27, e238_29, e238_30, e238_33, e238_34, e238_36, e238_37, e238_38, e238_39, e238_42, e238_43, e238_44, e238_45, e238_46, e238_47, e238_48, e238_51, e238_53, e238_54, e238_55, e238_56, e238_59, e238_60, e238_61, e238_63, e238_64, e238_65, e238_66, e238_69, e238_72, e238_73, rk_n, rk_v, nl_n, nl_i, nl_r, cat_n, ip_cat_int, ip_cat_ref, ip_cat_long, ip_rf_some, Nat.reduceAdd, Nat.reduceLeDiff, Nat.reduceLT, Nat.le_refl, Nat.zero_le]
  refine (for_eq (c := c) (fun k => rf (d + 1) 238 5 [some (.ref 265), some (.int (Int32.ofNat s)), some (.int (Int32.ofNat lev)), some (.int (Int32.ofNat (setN (fun k => s.testBit k && !decide (fl k < br (3 * lev - 3 + std k))) k))), some (.int (Int32.ofNat k))] [] (SH n, I, L, R, nc, ns, nx)) ?_).trans ?_
  · intro k hk
    try dsimp only
    have lk : k < 2147483648 := by omega
    have g1 : ¬ c ≤ k := by omega
    have k8 : k < 8 := by omega
    obtain ⟨s1, s2⟩ := hst k hk
    have b6 : 3 * lev - 3 + std k < 6 := by omega
    have lb : 3 * lev - 3 + std k < 2147483648 := by omega
    have l0 : 0 < lev := by omega
    have lf : 8 * w + k < 2147483648 := by omega
    have bf : 8 * w + k < 320 := by omega
    have f1 := mf k k8
    have r1 := hbr _ b6
    rw [e238_5, setN]
    by_cases g2 : s.testBit k = true
    · by_cases g3 : fl k < br (3 * lev - 3 + std k)
      · simp only [e238_0, e238_1, e238_2, e238_3, e238_7, e238_8, e238_11, e238_14, e238_15, e238_17, e238_20, e238_23, e238_24, e238_27, e238_29, e238_30, e238_33, e238_34, e238_36, e238_37, e238_38, e238_39, e238_42, e238_43, e238_44, e238_45, e238_46, e238_47, e238_48, e238_51, e238_53, e238_54, e238_55, e238_56, e238_59, e238_60, e238_61, e238_63, e238_64, e238_65, e238_66, e238_69, e238_72, e238_73, rk_n, rk_v, nl_n, nl_i, nl_r, cat_n, ip_cat_int, ip_cat_ref, ip_cat_long, ip_rf_some, Nat.reduceAdd, Nat.reduceLeDiff, Nat.reduceLT, Nat.le_refl, Nat.zero_le, hR, hc, m1, ia_lit, nu_i, nu_tn, nu_ge, lk, lc, g1, k8, hs, hasB, lb, b6, lf, bf, f1, r1, s1, mu8, mu3 l0, nu_add, g2, g3, nu_1, decide_true, Bool.not_true, Bool.and_false, ite_0, Bool.false_eq_true, Bool.true_eq_false, if_true, if_false, not_true_eq_false, not_false_eq_true, zle, eq_self]
      · simp only [e238_0, e238_1, e238_2, e238_3, e238_7, e238_8, e238_11, e238_14, e238_15, e238_17, e238_20, e238_23, e238_24, e238_27, e238_29, e238_30, e238_33, e238_34, e238_36, e238_37, e238_38, e238_39, e238_42, e238_43, e238_44, e238_45, e238_46, e238_47, e238_48, e238_51, e238_53, e238_54, e238_55, e238_56, e238_59, e238_60, e238_61, e238_63, e238_64, e238_65, e238_66, e238_69, e238_72, e238_73, rk_n, rk_v, nl_n, nl_i, nl_r, cat_n, ip_cat_int, ip_cat_ref, ip_cat_long, ip_rf_some, Nat.reduceAdd, Nat.reduceLeDiff, Nat.reduceLT, Nat.le_refl, Nat.zero_le, hR, hc, m1, ia_lit, nu_i, nu_tn, nu_ge, lk, lc, g1, k8, hs, hasB, lb, b6, lf, bf, f1, r1, s1, mu8, mu3 l0, nu_add, g2, g3, sh1, of_or, nu_1, decide_false, Bool.not_false, Bool.and_true, ite_0, Bool.false_eq_true, Bool.true_eq_false, if_true, if_false, not_true_eq_false, not_false_eq_true, zle, eq_self]
    · simp only [e238_0, e238_1, e238_2, e238_3, e238_7, e238_8, e238_11, e238_14, e238_15, e238_17, e238_20, e238_23, e238_24, e238_27, e238_29, e238_30, e238_33, e238_34, e238_36, e238_37, e238_38, e238_39, e238_42, e238_43, e238_44, e238_45, e238_46, e238_47, e238_48, e238_51, e238_53, e238_54, e238_55, e238_56, e238_59, e238_60, e238_61, e238_63, e238_64, e238_65, e238_66, e238_69, e238_72, e238_73, rk_n, rk_v, nl_n, nl_i, nl_r, cat_n, ip_cat_int, ip_cat_ref, ip_cat_long, ip_rf_some, Nat.reduceAdd, Nat.reduceLeDiff, Nat.reduceLT, Nat.le_refl, Nat.zero_le, hR, hc, nu_ge, lk, lc, g1, k8, hs, hasB, g2, nu_1, Bool.false_and, ite_0, Bool.false_eq_true, Bool.true_eq_false, if_true, if_false, not_true_eq_false, not_false_eq_true, zle, eq_self]
  · rw [e238_5]
    simp only [e238_0, e238_1, e238_2, e238_3, e238_7, e238_8, e238_11, e238_14, e238_15, e238_17, e238_20, e238_23, e238_24, e238_27, e238_29, e238_30, e238_33, e238_34, e238_36, e238_37, e238_38, e238_39, e238_42, e238_43, e238_44, e238_45, e238_46, e238_47, e238_48, e238_51, e238_53, e238_54, e238_55, e238_56, e238_59, e238_60, e238_61, e238_63, e238_64, e238_65, e238_66, e238_69, e238_72, e238_73, rk_n, rk_v, nl_n, nl_i, nl_r, cat_n, ip_cat_int, ip_cat_ref, ip_cat_long, ip_rf_some, Nat.reduceAdd, Nat.reduceLeDiff, Nat.reduceLT, Nat.le_refl, Nat.zero_le, hc, Int32.le_refl, errN, Bool.false_eq_true, Bool.true_eq_false, if_true, if_false, not_true_eq_false, not_false_eq_true, zle, eq_self]
/-! THEN -/
def anwN (std : Nat → Nat) (c m : Nat) : Nat := setN (fun k => m.testBit k && decide (std k = 0)) c
def opnN (c : Nat) (std rst : Nat → Nat) (br : Nat → Int32) (win : Nat → Bool) (V : Nat → Nat) (fl : Nat → Int32) (lev m : Nat) : Nat := V 6 ||| (m &&& (255 ^^^ anwN std c m)) ||| restOn rst m c
def trnN (c : Nat) (std rst : Nat → Nat) (br : Nat → Int32) (win : Nat → Bool) (V : Nat → Nat) (fl : Nat → Int32) (lev m : Nat) : Nat := anwN std c m &&& (255 ^^^ opnN c std rst br win V fl lev m)
def zrnN (c : Nat) (std rst : Nat → Nat) (br : Nat → Int32) (win : Nat → Bool) (V : Nat → Nat) (fl : Nat → Int32) (lev m : Nat) : Nat := (V 4 ^^^ trnN c std rst br win V fl lev m) &&& (255 ^^^ opnN c std rst br win V fl lev m)
theorem anwN_lt {m : Nat} (h : c ≤ 8) : anwN std c m < 256 := setN_256 _ h
theorem opnN_lt {m : Nat} (h : c ≤ 8) (hv : ∀ j, V j < 256) (hm : m < 256) : opnN c std rst br win V fl lev m < 256 :=
  Nat.or_lt_two_pow (n := 8) (Nat.or_lt_two_pow (n := 8) (hv 6) (Nat.lt_of_le_of_lt Nat.and_le_left hm)) (Nat.lt_of_lt_of_le (restOn_lt rst m c) (p2le h))
theorem trnN_lt {m : Nat} (h : c ≤ 8) : trnN c std rst br win V fl lev m < 256 := Nat.lt_of_le_of_lt Nat.and_le_left (anwN_lt h)
theorem zrnN_lt {m : Nat} (h : c ≤ 8) (hv : ∀ j, V j < 256) : zrnN c std rst br win V fl lev m < 256 := Nat.lt_of_le_of_lt Nat.and_le_left (Nat.xor_lt_two_pow (n := 8) (hv 4) (trnN_lt h))
def thenI (I : Nat → Nat → Int32) (o t z : Nat) : Nat → Nat → Int32 := ip_up (ip_up (ip_up I 265 55 (Int32.ofNat o)) 265 56 (Int32.ofNat t)) 265 57 (Int32.ofNat z)
theorem c239 (hR : LYR R) (X : MTx c std rst br win I) (M : MNd w p lev V fl I) (hm : m < 256) : cf (d + 1) 239 [.ref 265, .int (Int32.ofNat m)] (SH n, I, L, R, nc, ns, nx) = some (.inl none, (SH n, thenI I (opnN c std rst br win V fl lev m) (trnN c std rst br win V fl lev m) (zrnN c std rst br win V fl lev m), L, R, nc, ns, nx)) := by
  have X0 := X
  obtain ⟨hc8, hc, hst, -, -, -⟩ := X
  obtain ⟨hw, m1, v8, m6, m4, -⟩ := M
  have lc := lt8 hc8
  have lw : w < 2147483648 := by omega
  have l2 := anwN_lt (std := std) (m := m) hc8
  have e1 := of_andn m hm _ l2
  have e2 := of_andn _ l2 _ (opnN_lt (std := std) (rst := rst) (br := br) (win := win) (fl := fl) (lev := lev) hc8 v8 hm)
  have e3 := of_andn _ (Nat.xor_lt_two_pow (n := 8) (v8 4) (trnN_lt (std := std) (rst := rst) (br := br) (win := win) (V := V) (fl := fl) (lev := lev) (m := m) hc8)) _ (opnN_lt (std := std) (rst := rst) (br := br) (win := win) (fl := fl) (lev := lev) hc8 v8 hm)
  simp only [en239, e239_0, e239_1, e239_2, e239_3, e239_5, e239_6, e239_9, e239_12, e239_13, e239_14, e239_15, e239_18, e239_21, e239_22, e239_25, e239_26, e239_27, e239_30, e239_31, e239_32, e239_33, e239_36, e239_37, e239_38, e239_39, e239_42, e239_45, e239_46, e239_47, e239_50, e239_51, e239_54, e239_55, e239_56, e239_57, e239_58, e239_59, e239_60, e239_61, e239_62, e239_63, e239_66, e239_67, e239_70, e239_71, e239_72, e239_73, e239_76, e239_77, e239_78, e239_79, e239_82, e239_83, e239_84, e239_87, e239_88, e239_91, e239_92, e239_93, e239_96, e239_97, e239_98, e239_101, e239_102, e239_103, e239_104, e239_107, rk_n, rk_v, nl_n, nl_i, nl_r, cat_n, ip_cat_int, ip_cat_ref, ip_cat_long, ip_rf_some, Nat.reduceAdd, Nat.reduceLeDiff, Nat.reduceLT, Nat.le_refl, Nat.zero_le]
  refine (for_eq (c := c) (fun k => rf (d + 1) 239 4 [some (.ref 265), some (.int (Int32.ofNat m)), some (.int (Int32.ofNat (setN (fun k => m.testBit k && decide (std k = 0)) k))), some (.int (Int32.ofNat k))] [] (SH n, I, L, R, nc, ns, nx)) ?_).trans ?_
  · intro k hk
    try dsimp only
    have lk : k < 2147483648 := by omega
    have g1 : ¬ c ≤ k := by omega
    have k8 : k < 8 := by omega
    obtain ⟨s1, s2⟩ := hst k hk
    have s3 : std k < 2147483648 := by omega
    rw [e239_4, setN]
    by_cases g2 : m.testBit k = true
    · by_cases g3 : std k = 0
      · simp only [e239_0, e239_1, e239_2, e239_3, e239_5, e239_6, e239_9, e239_12, e239_13, e239_14, e239_15, e239_18, e239_21, e239_22, e239_25, e239_26, e239_27, e239_30, e239_31, e239_32, e239_33, e239_36, e239_37, e239_38, e239_39, e239_42, e239_45, e239_46, e239_47, e239_50, e239_51, e239_54, e239_55, e239_56, e239_57, e239_58, e239_59, e239_60, e239_61, e239_62, e239_63, e239_66, e239_67, e239_70, e239_71, e239_72, e239_73, e239_76, e239_77, e239_78, e239_79, e239_82, e239_83, e239_84, e239_87, e239_88, e239_91, e239_92, e239_93, e239_96, e239_97, e239_98, e239_101, e239_102, e239_103, e239_104, e239_107, rk_n, rk_v, nl_n, nl_i, nl_r, cat_n, ip_cat_int, ip_cat_ref, ip_cat_long, ip_rf_some, Nat.reduceAdd, Nat.reduceLeDiff, Nat.reduceLT, Nat.le_refl, Nat.zero_le, hR, hc, ia_lit, nu_i, nu_tn, nu_ge, lk, lc, g1, k8, hm, hasB, s1, ofn_0, s3, g2, g3, sh1, of_or, nu_1, decide_true, Bool.and_true, ite_0, Bool.false_eq_true, Bool.true_eq_false, if_true, if_false, not_true_eq_false, not_false_eq_true, zle, eq_self]
      · simp only [e239_0, e239_1, e239_2, e239_3, e239_5, e239_6, e239_9, e239_12, e239_13, e239_14, e239_15, e239_18, e239_21, e239_22, e239_25, e239_26, e239_27, e239_30, e239_31, e239_32, e239_33, e239_36, e239_37, e239_38, e239_39, e239_42, e239_45, e239_46, e239_47, e239_50, e239_51, e239_54, e239_55, e239_56, e239_57, e239_58, e239_59, e239_60, e239_61, e239_62, e239_63, e239_66, e239_67, e239_70, e239_71, e239_72, e239_73, e239_76, e239_77, e239_78, e239_79, e239_82, e239_83, e239_84, e239_87, e239_88, e239_91, e239_92, e239_93, e239_96, e239_97, e239_98, e239_101, e239_102, e239_103, e239_104, e239_107, rk_n, rk_v, nl_n, nl_i, nl_r, cat_n, ip_cat_int, ip_cat_ref, ip_cat_long, ip_rf_some, Nat.reduceAdd, Nat.reduceLeDiff, Nat.reduceLT, Nat.le_refl, Nat.zero_le, hR, hc, ia_lit, nu_i, nu_tn, nu_ge, lk, lc, g1, k8, hm, hasB, s1, ofn_0, s3, g2, g3, or_0, nu_1, decide_false, Bool.and_false, ite_0, Bool.false_eq_true, Bool.true_eq_false, if_true, if_false, not_true_eq_false, not_false_eq_true, zle, eq_self]
    · simp only [e239_0, e239_1, e239_2, e239_3, e239_5, e239_6, e239_9, e239_12, e239_13, e239_14, e239_15, e239_18, e239_21, e239_22, e239_25, e239_26, e239_27, e239_30, e239_31, e239_32, e239_33, e239_36, e239_37, e239_38, e239_39, e239_42, e239_45, e239_46, e239_47, e239_50, e239_51, e239_54, e239_55, e239_56, e239_57, e239_58, e239_59, e239_60, e239_61, e239_62, e239_63, e239_66, e239_67, e239_70, e239_71, e239_72, e239_73, e239_76, e239_77, e239_78, e239_79, e239_82, e239_83, e239_84, e239_87, e239_88, e239_91, e239_92, e239_93, e239_96, e239_97, e239_98, e239_101, e239_102, e239_103, e239_104, e239_107, rk_n, rk_v, nl_n, nl_i, nl_r, cat_n, ip_cat_int, ip_cat_ref, ip_cat_long, ip_rf_some, Nat.reduceAdd, Nat.reduceLeDiff, Nat.reduceLT, Nat.le_refl, Nat.zero_le, hR, hc, nu_ge, lk, lc, g1, k8, hm, hasB, g2, or_0, nu_1, Bool.false_and, ite_0, Bool.false_eq_true, Bool.true_eq_false, if_true, if_false, not_true_eq_false, not_false_eq_true, zle, eq_self]
  · rw [e239_4]
    have C := c218 (d := d) (n := n) (L := L) (nc := nc) (ns := ns) (nx := nx) hR X0 hm
    have f1 : setN (fun k => m.testBit k && decide (std k = 0)) c = anwN std c m := rfl
    have f2 : V 6 ||| (m &&& (255 ^^^ anwN std c m)) ||| restOn rst m c = opnN c std rst br win V fl lev m := rfl
    have f3 : anwN std c m &&& (255 ^^^ opnN c std rst br win V fl lev m) = trnN c std rst br win V fl lev m := rfl
    have f4 : (V 4 ^^^ trnN c std rst br win V fl lev m) &&& (255 ^^^ opnN c std rst br win V fl lev m) = zrnN c std rst br win V fl lev m := rfl
    simp only [e239_0, e239_1, e239_2, e239_3, e239_5, e239_6, e239_9, e239_12, e239_13, e239_14, e239_15, e239_18, e239_21, e239_22, e239_25, e239_26, e239_27, e239_30, e239_31, e239_32, e239_33, e239_36, e239_37, e239_38, e239_39, e239_42, e239_45, e239_46, e239_47, e239_50, e239_51, e239_54, e239_55, e239_56, e239_57, e239_58, e239_59, e239_60, e239_61, e239_62, e239_63, e239_66, e239_67, e239_70, e239_71, e239_72, e239_73, e239_76, e239_77, e239_78, e239_79, e239_82, e239_83, e239_84, e239_87, e239_88, e239_91, e239_92, e239_93, e239_96, e239_97, e239_98, e239_101, e239_102, e239_103, e239_104, e239_107, rk_n, rk_v, nl_n, nl_i, nl_r, cat_n, ip_cat_int, ip_cat_ref, ip_cat_long, ip_rf_some, Nat.reduceAdd, Nat.reduceLeDiff, Nat.reduceLT, Nat.le_refl, Nat.zero_le, hR, hc, m1, m6, m4, ia_lit, nu_i, nu_tn, lw, hw, C, f1, e1, of_or, f2, up_eq, up_k, up_a, Nat.reduceEqDiff, e2, f3, of_xor, e3, f4, Int32.le_refl, Bool.false_eq_true, Bool.true_eq_false, if_true, if_false, not_true_eq_false, not_false_eq_true, zle, eq_self]
    rfl
end MC
