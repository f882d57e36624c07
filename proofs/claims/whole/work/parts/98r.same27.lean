/-! CALL BY CALL: pivotal -/
section S27
variable {n d a b T c s t z o w m p lev k side ap b0 b1 N q B C F A i D : Nat} {I J K M I1 I2 : Nat → Nat → Int32} {L L' : Nat → Nat → Int64} {R R' : Nat → Nat → Option Nat} {nc ns : Nat} {nx : Bool} {x y j v u code x1 x2 x3 : Int32} {P : Nat → Nat → Prop} {h' h : ip_H}
/-- one issue, down the subsets of the others -/
theorem t270 {zz O : Nat} {win : Nat → Bool} (hR : LYR R) (hw : ∀ s, s < 256 → I 287 s = wb win s) (zz8 : zz < 256) (O8 : O < 256) (hk : k < 8) (f0 : Bool) {bs : Int32} :
    ∃ f : Bool, (f = true ↔ f0 = true ∨ ∃ r, 0 < r ∧ r < 256 ∧ r &&& O = r ∧ ¬ win (zz ||| r) = win (zz ||| r ||| 2 ^ k)) ∧ ∀ d, rf d 270 106 [some (.ref 265), some (.int bs), some (.int (Int32.ofNat k)), some (.int (Int32.ofNat O)), some (.int (Int32.ofNat zz)), some (.int (if f0 = true then 1 else 0)), some (.int (Int32.ofNat O))] [] (SH n, I, L, R, nc, ns, nx) = rf d 270 161 [some (.ref 265), some (.int bs), some (.int (Int32.ofNat k)), some (.int (Int32.ofNat O)), some (.int (Int32.ofNat zz)), some (.int (if f = true then 1 else 0)), some (.int (Int32.ofNat 0))] [] (SH n, I, L, R, nc, ns, nx) := by
  have p8 : 2 ^ k < 256 := Nat.pow_lt_pow_right (n := 8) (by omega) hk
  have T1 : ∀ s (f1 : Bool), 0 < s → s < 256 → ∃ f2 : Bool, (f2 = true ↔ f1 = true ∨ ¬ win (zz ||| s) = win (zz ||| s ||| 2 ^ k)) ∧ ∀ d, rf d 270 106 [some (.ref 265), some (.int bs), some (.int (Int32.ofNat k)), some (.int (Int32.ofNat O)), some (.int (Int32.ofNat zz)), some (.int (if f1 = true then 1 else 0)), some (.int (Int32.ofNat s))] [] (SH n, I, L, R, nc, ns, nx) = rf d 270 106 [some (.ref 265), some (.int bs), some (.int (Int32.ofNat k)), some (.int (Int32.ofNat O)), some (.int (Int32.ofNat zz)), some (.int (if f2 = true then 1 else 0)), some (.int (Int32.ofNat ((s - 1) &&& O)))] [] (SH n, I, L, R, nc, ns, nx) := by
    intro s f1 h1 h2
    have l0 : (Int32.ofNat s ≤ 0) = (s ≤ 0) := propext (nu_le (s := 0) (by omega) (by omega))
    have l1 : ¬ s ≤ 0 := by omega
    have o1 : zz ||| s < 256 := Nat.or_lt_two_pow (n := 8) zz8 h2
    have o2 : zz ||| s ||| 2 ^ k < 256 := Nat.or_lt_two_pow (n := 8) o1 p8
    have o1' : zz ||| s < 2147483648 := by omega
    have o2' : zz ||| s ||| 2 ^ k < 2147483648 := by omega
    have sb : Int32.ofNat s - 1 = Int32.ofNat (s - 1) := (Int32.ofNat_sub s 1 (by omega)).symm
    have w1 := hw _ o1
    have w2 := hw _ o2
    cases f1 with
    | true =>
      refine ⟨true, by simp, fun d => ?_⟩
      rw [e270_106]
      simp only [e270_0, e270_1, e270_2, e270_5, e270_6, e270_7, e270_8, e270_10, e270_11, e270_14, e270_17, e270_18, e270_21, e270_22, e270_25, e270_26, e270_27, e270_30, e270_33, e270_36, e270_37, e270_40, e270_41, e270_44, e270_45, e270_46, e270_47, e270_48, e270_49, e270_50, e270_51, e270_52, e270_53, e270_56, e270_57, e270_60, e270_61, e270_62, e270_65, e270_66, e270_69, e270_70, e270_71, e270_72, e270_73, e270_75, e270_76, e270_79, e270_81, e270_82, e270_83, e270_86, e270_88, e270_89, e270_90, e270_91, e270_92, e270_93, e270_96, e270_97, e270_100, e270_101, e270_103, e270_104, e270_108, e270_111, e270_113, e270_116, e270_117, e270_120, e270_122, e270_124, e270_125, e270_126, e270_127, e270_130, e270_132, e270_134, e270_135, e270_136, e270_137, e270_138, e270_139, e270_140, e270_143, e270_144, e270_147, e270_148, e270_150, e270_152, e270_153, e270_154, e270_155, e270_156, e270_158, e270_161, e270_162, e270_164, e270_167, e270_168, e270_169, e270_170, e270_173, e270_174, e270_175, e270_176, e270_179, e270_182, e270_183, rk_n, rk_v, nl_n, nl_i, nl_r, cat_n, ip_cat_int, ip_cat_ref, ip_cat_long, ip_rf_some, Nat.reduceAdd, Nat.reduceLeDiff, Nat.reduceLT, Nat.le_refl, Nat.zero_le, l0, l1, sb, of_and, (by decide : ¬ (1 : Int32) = 0), Bool.false_eq_true, Bool.true_eq_false, if_true, if_false, not_true_eq_false, not_false_eq_true, zle, eq_self]
    | false =>
      by_cases g : win (zz ||| s) = win (zz ||| s ||| 2 ^ k)
      · refine ⟨false, by simp [g], fun d => ?_⟩
        rw [e270_106]
        simp only [e270_0, e270_1, e270_2, e270_5, e270_6, e270_7, e270_8, e270_10, e270_11, e270_14, e270_17, e270_18, e270_21, e270_22, e270_25, e270_26, e270_27, e270_30, e270_33, e270_36, e270_37, e270_40, e270_41, e270_44, e270_45, e270_46, e270_47, e270_48, e270_49, e270_50, e270_51, e270_52, e270_53, e270_56, e270_57, e270_60, e270_61, e270_62, e270_65, e270_66, e270_69, e270_70, e270_71, e270_72, e270_73, e270_75, e270_76, e270_79, e270_81, e270_82, e270_83, e270_86, e270_88, e270_89, e270_90, e270_91, e270_92, e270_93, e270_96, e270_97, e270_100, e270_101, e270_103, e270_104, e270_108, e270_111, e270_113, e270_116, e270_117, e270_120, e270_122, e270_124, e270_125, e270_126, e270_127, e270_130, e270_132, e270_134, e270_135, e270_136, e270_137, e270_138, e270_139, e270_140, e270_143, e270_144, e270_147, e270_148, e270_150, e270_152, e270_153, e270_154, e270_155, e270_156, e270_158, e270_161, e270_162, e270_164, e270_167, e270_168, e270_169, e270_170, e270_173, e270_174, e270_175, e270_176, e270_179, e270_182, e270_183, rk_n, rk_v, nl_n, nl_i, nl_r, cat_n, ip_cat_int, ip_cat_ref, ip_cat_long, ip_rf_some, Nat.reduceAdd, Nat.reduceLeDiff, Nat.reduceLT, Nat.le_refl, Nat.zero_le, hR, ia_lit, nu_i, nu_tn, hk, sh1, l0, l1, o1, o2, o1', o2', of_or, w1, w2, wb_eq, g, sb, of_and, Bool.false_eq_true, Bool.false_eq_true, Bool.true_eq_false, if_true, if_false, not_true_eq_false, not_false_eq_true, zle, eq_self]
      · refine ⟨true, by simp [g], fun d => ?_⟩
        rw [e270_106]
        simp only [e270_0, e270_1, e270_2, e270_5, e270_6, e270_7, e270_8, e270_10, e270_11, e270_14, e270_17, e270_18, e270_21, e270_22, e270_25, e270_26, e270_27, e270_30, e270_33, e270_36, e270_37, e270_40, e270_41, e270_44, e270_45, e270_46, e270_47, e270_48, e270_49, e270_50, e270_51, e270_52, e270_53, e270_56, e270_57, e270_60, e270_61, e270_62, e270_65, e270_66, e270_69, e270_70, e270_71, e270_72, e270_73, e270_75, e270_76, e270_79, e270_81, e270_82, e270_83, e270_86, e270_88, e270_89, e270_90, e270_91, e270_92, e270_93, e270_96, e270_97, e270_100, e270_101, e270_103, e270_104, e270_108, e270_111, e270_113, e270_116, e270_117, e270_120, e270_122, e270_124, e270_125, e270_126, e270_127, e270_130, e270_132, e270_134, e270_135, e270_136, e270_137, e270_138, e270_139, e270_140, e270_143, e270_144, e270_147, e270_148, e270_150, e270_152, e270_153, e270_154, e270_155, e270_156, e270_158, e270_161, e270_162, e270_164, e270_167, e270_168, e270_169, e270_170, e270_173, e270_174, e270_175, e270_176, e270_179, e270_182, e270_183, rk_n, rk_v, nl_n, nl_i, nl_r, cat_n, ip_cat_int, ip_cat_ref, ip_cat_long, ip_rf_some, Nat.reduceAdd, Nat.reduceLeDiff, Nat.reduceLT, Nat.le_refl, Nat.zero_le, hR, ia_lit, nu_i, nu_tn, hk, sh1, l0, l1, o1, o2, o1', o2', of_or, w1, w2, wb_eq, g, sb, of_and, Bool.false_eq_true, Bool.false_eq_true, Bool.true_eq_false, if_true, if_false, not_true_eq_false, not_false_eq_true, zle, eq_self]
  obtain ⟨G, hG⟩ : ∃ G : Bool, (G = true ↔ f0 = true ∨ ∃ r, 0 < r ∧ r < 256 ∧ r &&& O = r ∧ ¬ win (zz ||| r) = win (zz ||| r ||| 2 ^ k)) := by
    by_cases h : f0 = true ∨ ∃ r, 0 < r ∧ r < 256 ∧ r &&& O = r ∧ ¬ win (zz ||| r) = win (zz ||| r ||| 2 ^ k)
    · exact ⟨true, fun _ => h, fun _ => rfl⟩
    · exact ⟨false, fun e => absurd e (by decide), fun e => absurd e h⟩
  refine ⟨G, hG, fun d => ?_⟩
  refine Exists.elim (sub_down O8 (fun s (f : Bool) => rf d 270 106 [some (.ref 265), some (.int bs), some (.int (Int32.ofNat k)), some (.int (Int32.ofNat O)), some (.int (Int32.ofNat zz)), some (.int (if f = true then 1 else 0)), some (.int (Int32.ofNat s))] [] (SH n, I, L, R, nc, ns, nx)) (fun s f => f = true ↔ f0 = true ∨ ∃ r, s < r ∧ r < 256 ∧ r &&& O = r ∧ ¬ win (zz ||| r) = win (zz ||| r ||| 2 ^ k)) ?_ ?_ f0 ?_) ?_
  · intro s f h1 h2 h3 hf
    obtain ⟨f2, g1, g2⟩ := T1 s f h1 h2
    refine ⟨f2, ?_, g2 d⟩
    rw [g1, hf]
    constructor
    · rintro ((h | ⟨r, a1, a2, a3⟩) | h)
      · exact Or.inl h
      · exact Or.inr ⟨r, by omega, a2, a3⟩
      · exact Or.inr ⟨s, by omega, h2, h3, h⟩
    · rintro (h | ⟨r, a1, a2, a3⟩)
      · exact Or.inl (Or.inl h)
      · by_cases e : r = s
        · subst e; exact Or.inr a3.2
        · exact Or.inl (Or.inr ⟨r, by omega, a2, a3⟩)
  · intro s f h1 h2 h3 hf
    rw [hf]
    constructor
    · rintro (h | ⟨r, a1, a2, a3⟩)
      · exact Or.inl h
      · exact Or.inr ⟨r, by omega, a2, a3⟩
    · rintro (h | ⟨r, a1, a2, a3⟩)
      · exact Or.inl h
      · by_cases e : r = s
        · subst e; exact absurd a3.1 h3
        · exact Or.inr ⟨r, by omega, a2, a3⟩
  · constructor
    · exact Or.inl
    · rintro (h | ⟨r, a1, a2, a3⟩)
      · exact h
      · omega
  · rintro f ⟨hf, e⟩
    refine Eq.trans e ?_
    have fG : f = G := Bool.eq_iff_iff.mpr (hf.trans hG.symm)
    rw [fG, e270_106]
    simp only [e270_108, rk_n, rk_v, nl_n, nl_i, nl_r, cat_n, ip_cat_int, ip_cat_ref, ip_cat_long, ip_rf_some, Nat.reduceAdd, Nat.reduceLeDiff, Nat.reduceLT, Nat.le_refl, Nat.zero_le, (by decide : Int32.ofNat 0 ≤ 0), Bool.false_eq_true, Bool.true_eq_false, if_true, if_false, not_true_eq_false, not_false_eq_true, zle, eq_self]
end S27
