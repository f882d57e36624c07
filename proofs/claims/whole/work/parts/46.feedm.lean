/-! FEED: the model's -/
section FM
variable {n d t k s : Nat} {I : Nat → Nat → Int32} {L : Nat → Nat → Int64} {R : Nat → Nat → Option Nat} {nc ns : Nat} {nx : Bool} {x0 x1 x2 x3 x4 : Int32} {l7 : Option Value}
def wd (x0 x1 x2 x3 x4 : Int32) (k : Nat) : Int32 := if 4 ≤ k then (if 8 ≤ k then (if 12 ≤ k then (if 16 ≤ k then x4 else x3) else x2) else x1) else x0
/-- the byte as the model takes it -/
def byM (x k : Int32) : Int32 := x >>> (24 - 8 * (k - k / 4 * 4) &&& 31) &&& 255
theorem nu_lit {c k : Nat} (hc : c < 2147483648) (hk : k < 2147483648) : (Int32.ofNat c ≤ Int32.ofNat k) = (c ≤ k) := propext (nu_le hc hk)
theorem s190 (hR : LYR R) (hk : k < 20) (hs : I 265 2 = Int32.ofNat s) (hs4 : s < 400) :
    rf d 190 23 [some (.ref 265), some (.int x0), some (.int x1), some (.int x2), some (.int x3), some (.int x4), some (.int (Int32.ofNat k)), l7] [] (SH n, I, L, R, nc, ns, nx) =
    rf d 190 23 [some (.ref 265), some (.int x0), some (.int x1), some (.int x2), some (.int x3), some (.int x4), some (.int (Int32.ofNat (k + 1))), some (.int (wd x0 x1 x2 x3 x4 k))] [] (SH n, ip_up (ip_up I 266 s (byM (wd x0 x1 x2 x3 x4 k) (Int32.ofNat k))) 265 2 (Int32.ofNat (s + 1)), L, R, nc, ns, nx) := by
  have q20 : ((20 : Int32) ≤ Int32.ofNat k) = (20 ≤ k) := nu_lit (c := 20) (by omega) (by omega)
  have q4 : ((4 : Int32) ≤ Int32.ofNat k) = (4 ≤ k) := nu_lit (c := 4) (by omega) (by omega)
  have q8 : ((8 : Int32) ≤ Int32.ofNat k) = (8 ≤ k) := nu_lit (c := 8) (by omega) (by omega)
  have q12 : ((12 : Int32) ≤ Int32.ofNat k) = (12 ≤ k) := nu_lit (c := 12) (by omega) (by omega)
  have q16 : ((16 : Int32) ≤ Int32.ofNat k) = (16 ≤ k) := nu_lit (c := 16) (by omega) (by omega)
  have g20 : ¬ 20 ≤ k := by omega
  have z4 : ¬ (4 : Int32) = 0 := by decide
  have a1 : Int32.ofNat s + 1 = Int32.ofNat (s + 1) := nu_add (s := 1)
  have a2 : Int32.ofNat k + 1 = Int32.ofNat (k + 1) := nu_add (s := 1)
  have n0 := nu_tn (t := s) (by omega)
  have b0 := (nu_inb (t := s) (k := 400) (by omega)).mpr (by omega)
  rw [e190_23]
  by_cases h4 : 4 ≤ k
  · by_cases h8 : 8 ≤ k
    · by_cases h12 : 12 ≤ k
      · by_cases h16 : 16 ≤ k
        · simp only [e190_0, e190_1, e190_2, e190_5, e190_6, e190_9, e190_11, e190_12, e190_15, e190_18, e190_19, e190_20, e190_21, e190_25, e190_27, e190_30, e190_32, e190_33, e190_36, e190_37, e190_40, e190_42, e190_44, e190_47, e190_48, e190_51, e190_53, e190_55, e190_58, e190_59, e190_62, e190_64, e190_66, e190_69, e190_71, e190_74, e190_76, e190_78, e190_79, e190_82, e190_83, e190_86, e190_88, e190_90, e190_92, e190_94, e190_95, e190_96, e190_97, e190_98, e190_99, e190_102, e190_103, e190_104, e190_105, e190_105r, e190_106, e190_109, e190_110, e190_111, e190_114, e190_117, e190_120, e190_121, e190_124, rk_n, rk_v, nl_n, nl_i, nl_r, cat_n, ip_cat_int, ip_cat_ref, ip_cat_long, ip_rf_some, Nat.reduceAdd, Nat.reduceLeDiff, Nat.reduceLT, Nat.le_refl, Nat.zero_le, wd, byM, q20, q4, q8, q12, q16, g20, h4, h8, h12, h16, z4, hR, hs, a1, a2, n0, b0, ia_lit, up_eq, up_a, Nat.reduceEqDiff, not_false_eq_true, if_true, if_false]
        · simp only [e190_0, e190_1, e190_2, e190_5, e190_6, e190_9, e190_11, e190_12, e190_15, e190_18, e190_19, e190_20, e190_21, e190_25, e190_27, e190_30, e190_32, e190_33, e190_36, e190_37, e190_40, e190_42, e190_44, e190_47, e190_48, e190_51, e190_53, e190_55, e190_58, e190_59, e190_62, e190_64, e190_66, e190_69, e190_71, e190_74, e190_76, e190_78, e190_79, e190_82, e190_83, e190_86, e190_88, e190_90, e190_92, e190_94, e190_95, e190_96, e190_97, e190_98, e190_99, e190_102, e190_103, e190_104, e190_105, e190_105r, e190_106, e190_109, e190_110, e190_111, e190_114, e190_117, e190_120, e190_121, e190_124, rk_n, rk_v, nl_n, nl_i, nl_r, cat_n, ip_cat_int, ip_cat_ref, ip_cat_long, ip_rf_some, Nat.reduceAdd, Nat.reduceLeDiff, Nat.reduceLT, Nat.le_refl, Nat.zero_le, wd, byM, q20, q4, q8, q12, q16, g20, h4, h8, h12, h16, z4, hR, hs, a1, a2, n0, b0, ia_lit, up_eq, up_a, Nat.reduceEqDiff, not_false_eq_true, if_true, if_false]
      · simp only [e190_0, e190_1, e190_2, e190_5, e190_6, e190_9, e190_11, e190_12, e190_15, e190_18, e190_19, e190_20, e190_21, e190_25, e190_27, e190_30, e190_32, e190_33, e190_36, e190_37, e190_40, e190_42, e190_44, e190_47, e190_48, e190_51, e190_53, e190_55, e190_58, e190_59, e190_62, e190_64, e190_66, e190_69, e190_71, e190_74, e190_76, e190_78, e190_79, e190_82, e190_83, e190_86, e190_88, e190_90, e190_92, e190_94, e190_95, e190_96, e190_97, e190_98, e190_99, e190_102, e190_103, e190_104, e190_105, e190_105r, e190_106, e190_109, e190_110, e190_111, e190_114, e190_117, e190_120, e190_121, e190_124, rk_n, rk_v, nl_n, nl_i, nl_r, cat_n, ip_cat_int, ip_cat_ref, ip_cat_long, ip_rf_some, Nat.reduceAdd, Nat.reduceLeDiff, Nat.reduceLT, Nat.le_refl, Nat.zero_le, wd, byM, q20, q4, q8, q12, g20, h4, h8, h12, z4, hR, hs, a1, a2, n0, b0, ia_lit, up_eq, up_a, Nat.reduceEqDiff, not_false_eq_true, if_true, if_false]
    · simp only [e190_0, e190_1, e190_2, e190_5, e190_6, e190_9, e190_11, e190_12, e190_15, e190_18, e190_19, e190_20, e190_21, e190_25, e190_27, e190_30, e190_32, e190_33, e190_36, e190_37, e190_40, e190_42, e190_44, e190_47, e190_48, e190_51, e190_53, e190_55, e190_58, e190_59, e190_62, e190_64, e190_66, e190_69, e190_71, e190_74, e190_76, e190_78, e190_79, e190_82, e190_83, e190_86, e190_88, e190_90, e190_92, e190_94, e190_95, e190_96, e190_97, e190_98, e190_99, e190_102, e190_103, e190_104, e190_105, e190_105r, e190_106, e190_109, e190_110, e190_111, e190_114, e190_117, e190_120, e190_121, e190_124, rk_n, rk_v, nl_n, nl_i, nl_r, cat_n, ip_cat_int, ip_cat_ref, ip_cat_long, ip_rf_some, Nat.reduceAdd, Nat.reduceLeDiff, Nat.reduceLT, Nat.le_refl, Nat.zero_le, wd, byM, q20, q4, q8, g20, h4, h8, z4, hR, hs, a1, a2, n0, b0, ia_lit, up_eq, up_a, Nat.reduceEqDiff, not_false_eq_true, if_true, if_false]
  · simp only [e190_0, e190_1, e190_2, e190_5, e190_6, e190_9, e190_11, e190_12, e190_15, e190_18, e190_19, e190_20, e190_21, e190_25, e190_27, e190_30, e190_32, e190_33, e190_36, e190_37, e190_40, e190_42, e190_44, e190_47, e190_48, e190_51, e190_53, e190_55, e190_58, e190_59, e190_62, e190_64, e190_66, e190_69, e190_71, e190_74, e190_76, e190_78, e190_79, e190_82, e190_83, e190_86, e190_88, e190_90, e190_92, e190_94, e190_95, e190_96, e190_97, e190_98, e190_99, e190_102, e190_103, e190_104, e190_105, e190_105r, e190_106, e190_109, e190_110, e190_111, e190_114, e190_117, e190_120, e190_121, e190_124, rk_n, rk_v, nl_n, nl_i, nl_r, cat_n, ip_cat_int, ip_cat_ref, ip_cat_long, ip_rf_some, Nat.reduceAdd, Nat.reduceLeDiff, Nat.reduceLT, Nat.le_refl, Nat.zero_le, wd, byM, q20, q4, g20, h4, z4, hR, hs, a1, a2, n0, b0, ia_lit, up_eq, up_a, Nat.reduceEqDiff, not_false_eq_true, if_true, if_false]
/-- the model's memory behind k bytes -/
def feedM (I : Nat → Nat → Int32) (t : Nat) (x0 x1 x2 x3 x4 : Int32) : Nat → Nat → Nat → Int32
  | 0 => I
  | k + 1 => ip_up (ip_up (feedM I t x0 x1 x2 x3 x4 k) 266 (t + k) (byM (wd x0 x1 x2 x3 x4 k) (Int32.ofNat k))) 265 2 (Int32.ofNat (t + k + 1))
theorem feedM_len (ht : I 265 2 = Int32.ofNat t) : ∀ k, feedM I t x0 x1 x2 x3 x4 k 265 2 = Int32.ofNat (t + k)
  | 0 => ht
  | _ + 1 => up_eq
theorem feedM_run (hR : LYR R) (ht : I 265 2 = Int32.ofNat t) (h20 : t + 20 ≤ 400) : ∀ k, k ≤ 20 → ∃ l7 : Option Value, rf d 190 23 [some (.ref 265), some (.int x0), some (.int x1), some (.int x2), some (.int x3), some (.int x4), some (.int 0), none] [] (SH n, I, L, R, nc, ns, nx) = rf d 190 23 [some (.ref 265), some (.int x0), some (.int x1), some (.int x2), some (.int x3), some (.int x4), some (.int (Int32.ofNat k)), l7] [] (SH n, feedM I t x0 x1 x2 x3 x4 k, L, R, nc, ns, nx)
  | 0, _ => ⟨none, rfl⟩
  | k + 1, hk => by
    obtain ⟨l7, e⟩ := feedM_run hR ht h20 k (by omega)
    exact ⟨_, e.trans (s190 hR (by omega) (feedM_len ht k) (by omega))⟩
theorem c190 (hR : LYR R) (ht : I 265 2 = Int32.ofNat t) (h20 : t + 20 ≤ 400) : cf d 190 [.ref 265, .int x0, .int x1, .int x2, .int x3, .int x4] (SH n, I, L, R, nc, ns, nx) = some (.inl (some (.int (Int32.ofNat (t + 20)))), (SH n, feedM (ip_up I 265 0 0) t x0 x1 x2 x3 x4 20, L, R, nc, ns, nx)) := by
  have g : Int32.ofNat t + 20 ≤ 400 := by
    have e : Int32.ofNat t + 20 = Int32.ofNat (t + 20) := nu_add (s := 20)
    rw [e]
    exact (nu_le (t := t + 20) (s := 400) (by omega) (by omega)).mpr h20
  have ht2 : ip_up I 265 0 0 265 2 = Int32.ofNat t := (up_k (by decide)).trans ht
  obtain ⟨l7, e⟩ := feedM_run (n := n) (d := d) (L := L) (nc := nc) (ns := ns) (nx := nx) (x0 := x0) (x1 := x1) (x2 := x2) (x3 := x3) (x4 := x4) hR ht2 h20 20 (Nat.le_refl 20)
  have q20 : (20 : Int32) ≤ Int32.ofNat 20 := by decide
  have e3 := feedM_len (x0 := x0) (x1 := x1) (x2 := x2) (x3 := x3) (x4 := x4) ht2 20
  simp only [en190, e190_0, e190_1, e190_2, e190_5, e190_6, e190_9, e190_11, e190_12, e190_15, e190_18, e190_19, e190_20, e190_21, e190_25, e190_27, e190_30, e190_32, e190_33, e190_36, e190_37, e190_40, e190_42, e190_44, e190_47, e190_48, e190_51, e190_53, e190_55, e190_58, e190_59, e190_62, e190_64, e190_66, e190_69, e190_71, e190_74, e190_76, e190_78, e190_79, e190_82, e190_83, e190_86, e190_88, e190_90, e190_92, e190_94, e190_95, e190_96, e190_97, e190_98, e190_99, e190_102, e190_103, e190_104, e190_105, e190_105r, e190_106, e190_109, e190_110, e190_111, e190_114, e190_117, e190_120, e190_121, e190_124, rk_n, rk_v, nl_n, nl_i, nl_r, cat_n, ip_cat_int, ip_cat_ref, ip_cat_long, ip_rf_some, Nat.reduceAdd, Nat.reduceLeDiff, Nat.reduceLT, Nat.le_refl, Nat.zero_le, ht2, g, if_true]
  rw [e, e190_23]
  simp only [e190_0, e190_1, e190_2, e190_5, e190_6, e190_9, e190_11, e190_12, e190_15, e190_18, e190_19, e190_20, e190_21, e190_25, e190_27, e190_30, e190_32, e190_33, e190_36, e190_37, e190_40, e190_42, e190_44, e190_47, e190_48, e190_51, e190_53, e190_55, e190_58, e190_59, e190_62, e190_64, e190_66, e190_69, e190_71, e190_74, e190_76, e190_78, e190_79, e190_82, e190_83, e190_86, e190_88, e190_90, e190_92, e190_94, e190_95, e190_96, e190_97, e190_98, e190_99, e190_102, e190_103, e190_104, e190_105, e190_105r, e190_106, e190_109, e190_110, e190_111, e190_114, e190_117, e190_120, e190_121, e190_124, rk_n, rk_v, nl_n, nl_i, nl_r, cat_n, ip_cat_int, ip_cat_ref, ip_cat_long, ip_rf_some, Nat.reduceAdd, Nat.reduceLeDiff, Nat.reduceLT, Nat.le_refl, Nat.zero_le, q20, if_true, e3]
theorem b190 (ht : I 265 2 = Int32.ofNat t) (h3 : t ≤ 400) (h20 : ¬ t + 20 ≤ 400) : cf d 190 [.ref 265, .int x0, .int x1, .int x2, .int x3, .int x4] (SH n, I, L, R, nc, ns, nx) = some (.inl (some (.int (-1))), (SH n, ip_up I 265 0 0, L, R, nc, ns, nx)) := by
  have g : ¬ Int32.ofNat t + 20 ≤ 400 := by
    have e : Int32.ofNat t + 20 = Int32.ofNat (t + 20) := nu_add (s := 20)
    rw [e]
    intro q
    exact h20 ((nu_le (t := t + 20) (s := 400) (by omega) (by omega)).mp q)
  have ht2 : ip_up I 265 0 0 265 2 = Int32.ofNat t := (up_k (by decide)).trans ht
  simp only [en190, e190_0, e190_1, e190_2, e190_5, e190_6, e190_9, e190_11, e190_12, e190_15, e190_18, e190_19, e190_20, e190_21, e190_25, e190_27, e190_30, e190_32, e190_33, e190_36, e190_37, e190_40, e190_42, e190_44, e190_47, e190_48, e190_51, e190_53, e190_55, e190_58, e190_59, e190_62, e190_64, e190_66, e190_69, e190_71, e190_74, e190_76, e190_78, e190_79, e190_82, e190_83, e190_86, e190_88, e190_90, e190_92, e190_94, e190_95, e190_96, e190_97, e190_98, e190_99, e190_102, e190_103, e190_104, e190_105, e190_105r, e190_106, e190_109, e190_110, e190_111, e190_114, e190_117, e190_120, e190_121, e190_124, rk_n, rk_v, nl_n, nl_i, nl_r, cat_n, ip_cat_int, ip_cat_ref, ip_cat_long, ip_rf_some, Nat.reduceAdd, Nat.reduceLeDiff, Nat.reduceLT, Nat.le_refl, Nat.zero_le, ht2, g, if_false]
end FM
