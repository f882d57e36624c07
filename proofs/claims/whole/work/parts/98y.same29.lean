/-! CALL BY CALL: write, the model; both -/
theorem WM_0 {I : Nat → Nat → Int32} : WM [] I (ip_up I 265 70 0) := ⟨onlyP_up onlyP_refl (Or.inr ⟨rfl, rfl⟩), by rw [up_eq]; rfl, fun i hi => absurd hi (by simp)⟩
theorem WC_0 {I : Nat → Nat → Int32} : WC [] I (ip_up I 63 1 0) := ⟨onlyP_up onlyP_refl (Or.inr ⟨rfl, rfl⟩), by rw [up_eq]; rfl, fun i hi => absurd hi (by simp)⟩
section S29b
variable {n d a b T c s t z o w m p k N q i s6 s4 s7 : Nat} {I J K M I1 I2 I0 : Nat → Nat → Int32} {L L' : Nat → Nat → Int64} {R R' : Nat → Nat → Option Nat} {nc ns : Nat} {nx : Bool} {x y j v u code x1 x2 x3 : Int32} {h' h : ip_H} {l0 l3 : Option Value} {bs : List Int32} {ls : List Nat} {f : Nat → List Nat}
theorem t272a (hR : LYR R) (k8 : i < 8) (z1 : ls.length ≤ 6) (z3 : okl ls) (z5 : L 274 i = Int64.ofNat (pck ls)) : ∀ m j J bs, j + m = ls.length → WM bs I J → bs.length + m ≤ 256 → ∃ J' y, (∀ d, rf (d + 2) 272 148 [some (.ref 265), some (.int x), some (.int (Int32.ofNat i)), some (.int (Int32.ofNat j))] [] (SH n, J, L, R, nc, ns, nx) = rf (d + 2) 272 181 [some (.ref 265), some (.int x), some (.int (Int32.ofNat i)), some (.int y)] [] (SH n, J', L, R, nc, ns, nx)) ∧ WM (bs ++ lt_ (ls.drop j)) I J' := by
  have o2 : okl ls.reverse := fun x hx => z3 x (List.mem_reverse.mp hx)
  have l2 : ls.reverse.length = ls.length := List.length_reverse
  have B0 := fun d h => c220 (d := d) (h := h) o2 (by omega)
  rw [l2, ← pck_pkl] at B0
  have li : i < 2147483648 := by omega
  intro m
  induction m with
  | zero =>
    intro j J bs h1 W hb
    have g : (Int32.ofNat ls.length ≤ Int32.ofNat j) = True := eq_true ((nu_le (by omega) (by omega)).mpr (by omega))
    refine ⟨J, Int32.ofNat j, fun d => ?_, ?_⟩
    · rw [e272_148]
      simp only [e272_149, e272_150, e272_153, e272_154, e272_155, e272_158, rk_n, rk_v, nl_n, nl_i, nl_r, cat_n, ip_cat_int, ip_cat_ref, ip_cat_long, ip_rf_some, Nat.reduceAdd, Nat.reduceLeDiff, Nat.reduceLT, Nat.le_refl, Nat.zero_le, hR, ia_lit, nu_i, nu_tn, li, k8, z5, B0, g, Bool.false_eq_true, Bool.true_eq_false, if_true, if_false, not_true_eq_false, not_false_eq_true, zle, eq_self]
    · rw [List.drop_eq_nil_of_le (by omega)]; unfold lt_; rw [List.map_nil, List.append_nil]; exact W
  | succ m ih =>
    intro j J bs h1 W hb
    have hj : j < ls.length := by omega
    have g : (Int32.ofNat ls.length ≤ Int32.ofNat j) = False := eq_false (fun e => by have := (nu_le (by omega) (by omega)).mp e; omega)
    have A := fun d h => c221 (d := d) (h := h) z3 z1 hj
    obtain ⟨J1, A1, W1⟩ := mw (n := n) (L := L) (nc := nc) (ns := ns) (nx := nx) hR W (by omega) (Int32.ofNat (96 + ls.getD j 0))
    obtain ⟨J2, y, A2, W2⟩ := ih (j + 1) J1 _ (by omega) W1 (by simp; omega)
    have e1 : Int32.ofNat j + 1 = Int32.ofNat (j + 1) := nu_add (s := 1)
    refine ⟨J2, y, fun d => ?_, ?_⟩
    · rw [e272_148, ← A2 d]
      simp only [e272_149, e272_150, e272_153, e272_154, e272_155, e272_158, e272_161, e272_162, e272_163, e272_166, e272_167, e272_168, e272_169, e272_172, e272_175, e272_178, rk_n, rk_v, nl_n, nl_i, nl_r, cat_n, ip_cat_int, ip_cat_ref, ip_cat_long, ip_rf_some, Nat.reduceAdd, Nat.reduceLeDiff, Nat.reduceLT, Nat.le_refl, Nat.zero_le, hR, ia_lit, nu_i, nu_tn, li, k8, z5, B0, g, A, A1, e1, Bool.false_eq_true, Bool.true_eq_false, if_true, if_false, not_true_eq_false, not_false_eq_true, zle, eq_self]
    · unfold lt_ at W2 ⊢
      rw [drop_map hj]
      have : bs ++ Int32.ofNat (96 + ls.getD j 0) :: (ls.drop (j + 1)).map (fun x => Int32.ofNat (96 + x)) = (bs ++ [Int32.ofNat (96 + ls.getD j 0)]) ++ (ls.drop (j + 1)).map (fun x => Int32.ofNat (96 + x)) := by simp
      rw [this]; exact W2
/-- an issue in the model -/
theorem t272b (hR : LYR R) (k8 : i < 8) (k40 : k < 40) (z1 : ls.length ≤ 6) (z3 : okl ls) (z5 : L 274 i = Int64.ofNat (pck ls)) (i6 : I 293 k = Int32.ofNat s6) (i4 : I 296 k = Int32.ofNat s4) (i7 : I 294 k = Int32.ofNat s7) (l6 : s6 < 256) (l4 : s4 < 256) (l7 : s7 < 256) (W : WM bs I J) (hb : bs.length + 10 ≤ 256) : ∃ J' y, (∀ d, rf (d + 2) 272 140 [some (.ref 265), some (.int (Int32.ofNat k)), some (.int (Int32.ofNat i)), l3] [] (SH n, J, L, R, nc, ns, nx) = rf (d + 2) 272 132 [some (.ref 265), some (.int (Int32.ofNat k)), some (.int (Int32.ofNat (i + 1))), some (.int y)] [] (SH n, J', L, R, nc, ns, nx)) ∧ WM (bs ++ isB ls (s6.testBit i) (s4.testBit i) (s7.testBit i)) I J' := by
  have lk : k < 2147483648 := by omega
  have li : i < 2147483648 := by omega
  obtain ⟨J1, A1, W1⟩ := mw (n := n) (L := L) (nc := nc) (ns := ns) (nx := nx) hR W (by omega) 32
  obtain ⟨J2, y, A2, W2⟩ := t272a (n := n) (nc := nc) (ns := ns) (nx := nx) (x := Int32.ofNat k) hR k8 z1 z3 z5 ls.length 0 J1 _ (by omega) W1 (by simp; omega)
  rw [List.drop_zero] at W2
  have len2 : (bs ++ [32] ++ lt_ ls).length ≤ bs.length + 7 := by unfold lt_; simp; omega
  have i6' : J2 293 k = Int32.ofNat s6 := by rw [W2.1 293 k (by omega)]; exact i6
  have h6 := fun d h => hasB (d := d) (h := h) (s := s6) (k := i) l6 k8
  have h4 := fun d h => hasB (d := d) (h := h) (s := s4) (k := i) l4 k8
  have h7 := fun d h => hasB (d := d) (h := h) (s := s7) (k := i) l7 k8
  have e1 : Int32.ofNat i + 1 = Int32.ofNat (i + 1) := nu_add (s := 1)
  have n10 : ¬ (1 : Int32) = 0 := by decide
  have last : ∀ J3 bs3, WM bs3 I J3 → bs3.length < 256 → ∃ J', (∀ d, rf (d + 2) 272 233 [some (.ref 265), some (.int (Int32.ofNat k)), some (.int (Int32.ofNat i)), some (.int y)] [] (SH n, J3, L, R, nc, ns, nx) = rf (d + 2) 272 132 [some (.ref 265), some (.int (Int32.ofNat k)), some (.int (Int32.ofNat (i + 1))), some (.int y)] [] (SH n, J', L, R, nc, ns, nx)) ∧ WM (bs3 ++ (if s7.testBit i = true then [33] else [])) I J' := by
    intro J3 bs3 W3 h3
    have i7' : J3 294 k = Int32.ofNat s7 := by rw [W3.1 294 k (by omega)]; exact i7
    cases e7 : s7.testBit i with
    | true =>
      obtain ⟨J4, A4, W4⟩ := mw (n := n) (L := L) (nc := nc) (ns := ns) (nx := nx) hR W3 h3 33
      refine ⟨J4, fun d => ?_, by simpa using W4⟩
      simp only [e272_0, e272_1, e272_2, e272_3, e272_6, e272_9, e272_10, e272_13, e272_14, e272_17, e272_18, e272_21, e272_24, e272_25, e272_26, e272_27, e272_28, e272_31, e272_32, e272_33, e272_36, e272_37, e272_38, e272_41, e272_44, e272_47, e272_48, e272_51, e272_52, e272_53, e272_54, e272_57, e272_59, e272_62, e272_64, e272_67, e272_68, e272_71, e272_72, e272_73, e272_76, e272_77, e272_78, e272_81, e272_82, e272_83, e272_86, e272_89, e272_92, e272_93, e272_96, e272_97, e272_98, e272_99, e272_102, e272_105, e272_108, e272_109, e272_112, e272_113, e272_114, e272_115, e272_118, e272_121, e272_124, e272_127, e272_130, e272_131, e272_133, e272_134, e272_137, e272_140, e272_141, e272_143, e272_146, e272_147, e272_149, e272_150, e272_153, e272_154, e272_155, e272_158, e272_161, e272_162, e272_163, e272_166, e272_167, e272_168, e272_169, e272_172, e272_175, e272_178, e272_181, e272_182, e272_185, e272_186, e272_187, e272_188, e272_191, e272_194, e272_195, e272_197, e272_200, e272_203, e272_204, e272_206, e272_209, e272_210, e272_211, e272_214, e272_215, e272_216, e272_217, e272_220, e272_223, e272_225, e272_228, e272_230, e272_233, e272_234, e272_237, e272_238, e272_239, e272_240, e272_243, e272_246, e272_247, e272_249, e272_252, e272_255, e272_258, e272_259, e272_262, rk_n, rk_v, nl_n, nl_i, nl_r, cat_n, ip_cat_int, ip_cat_ref, ip_cat_long, ip_rf_some, Nat.reduceAdd, Nat.reduceLeDiff, Nat.reduceLT, Nat.le_refl, Nat.zero_le, hR, ia_lit, nu_i, nu_tn, lk, k40, i7', h7, e7, A4, e1, n10, Bool.false_eq_true, Bool.true_eq_false, if_true, if_false, not_true_eq_false, not_false_eq_true, zle, eq_self]
    | false =>
      refine ⟨J3, fun d => ?_, by simpa using W3⟩
      simp only [e272_0, e272_1, e272_2, e272_3, e272_6, e272_9, e272_10, e272_13, e272_14, e272_17, e272_18, e272_21, e272_24, e272_25, e272_26, e272_27, e272_28, e272_31, e272_32, e272_33, e272_36, e272_37, e272_38, e272_41, e272_44, e272_47, e272_48, e272_51, e272_52, e272_53, e272_54, e272_57, e272_59, e272_62, e272_64, e272_67, e272_68, e272_71, e272_72, e272_73, e272_76, e272_77, e272_78, e272_81, e272_82, e272_83, e272_86, e272_89, e272_92, e272_93, e272_96, e272_97, e272_98, e272_99, e272_102, e272_105, e272_108, e272_109, e272_112, e272_113, e272_114, e272_115, e272_118, e272_121, e272_124, e272_127, e272_130, e272_131, e272_133, e272_134, e272_137, e272_140, e272_141, e272_143, e272_146, e272_147, e272_149, e272_150, e272_153, e272_154, e272_155, e272_158, e272_161, e272_162, e272_163, e272_166, e272_167, e272_168, e272_169, e272_172, e272_175, e272_178, e272_181, e272_182, e272_185, e272_186, e272_187, e272_188, e272_191, e272_194, e272_195, e272_197, e272_200, e272_203, e272_204, e272_206, e272_209, e272_210, e272_211, e272_214, e272_215, e272_216, e272_217, e272_220, e272_223, e272_225, e272_228, e272_230, e272_233, e272_234, e272_237, e272_238, e272_239, e272_240, e272_243, e272_246, e272_247, e272_249, e272_252, e272_255, e272_258, e272_259, e272_262, rk_n, rk_v, nl_n, nl_i, nl_r, cat_n, ip_cat_int, ip_cat_ref, ip_cat_long, ip_rf_some, Nat.reduceAdd, Nat.reduceLeDiff, Nat.reduceLT, Nat.le_refl, Nat.zero_le, hR, ia_lit, nu_i, nu_tn, lk, k40, i7', h7, e7, e1, Bool.false_eq_true, Bool.true_eq_false, if_true, if_false, not_true_eq_false, not_false_eq_true, zle, eq_self]
  cases e6 : s6.testBit i with
  | true =>
    obtain ⟨J3, A3, W3⟩ := mw (n := n) (L := L) (nc := nc) (ns := ns) (nx := nx) hR W2 (by omega) 63
    obtain ⟨J4, A4, W4⟩ := last J3 _ W3 (by simp at len2 ⊢; omega)
    refine ⟨J4, y, fun d => ?_, ?_⟩
    · have A4 := A4 d
      have A2 : rf (d + 2) 272 148 [some (.ref 265), some (.int (Int32.ofNat k)), some (.int (Int32.ofNat i)), some (.int 0)] [] (SH n, J1, L, R, nc, ns, nx) = _ := A2 d
      rw [← A4]
      simp only [e272_140, e272_141, e272_143, e272_146, e272_147, rk_n, rk_v, nl_n, nl_i, nl_r, cat_n, ip_cat_int, ip_cat_ref, ip_cat_long, ip_rf_some, Nat.reduceAdd, Nat.reduceLeDiff, Nat.reduceLT, Nat.le_refl, Nat.zero_le, A1, Bool.false_eq_true, Bool.true_eq_false, if_true, if_false, not_true_eq_false, not_false_eq_true, zle, eq_self]
      rw [A2]
      simp only [e272_181, e272_182, e272_185, e272_186, e272_187, e272_188, e272_191, e272_194, e272_195, e272_197, e272_200, rk_n, rk_v, nl_n, nl_i, nl_r, cat_n, ip_cat_int, ip_cat_ref, ip_cat_long, ip_rf_some, Nat.reduceAdd, Nat.reduceLeDiff, Nat.reduceLT, Nat.le_refl, Nat.zero_le, hR, ia_lit, nu_i, nu_tn, lk, k40, i6', h6, e6, A3, n10, Bool.false_eq_true, Bool.true_eq_false, if_true, if_false, not_true_eq_false, not_false_eq_true, zle, eq_self]
    · have : bs ++ isB ls true (s4.testBit i) (s7.testBit i) = bs ++ [32] ++ lt_ ls ++ [63] ++ (if s7.testBit i = true then [33] else []) := by unfold isB; simp
      rw [this]; exact W4
  | false =>
    obtain ⟨J3, A3, W3⟩ := mw (n := n) (L := L) (nc := nc) (ns := ns) (nx := nx) hR W2 (by omega) 61
    have i4' : J3 296 k = Int32.ofNat s4 := by rw [W3.1 296 k (by omega)]; exact i4
    obtain ⟨J4, A4, W4⟩ := mw (n := n) (L := L) (nc := nc) (ns := ns) (nx := nx) hR W3 (by simp at len2 ⊢; omega) (if s4.testBit i = true then 48 else 49)
    obtain ⟨J5, A5, W5⟩ := last J4 _ W4 (by simp at len2 ⊢; omega)
    refine ⟨J5, y, fun d => ?_, ?_⟩
    · have A5 := A5 d
      have A2 : rf (d + 2) 272 148 [some (.ref 265), some (.int (Int32.ofNat k)), some (.int (Int32.ofNat i)), some (.int 0)] [] (SH n, J1, L, R, nc, ns, nx) = _ := A2 d
      rw [← A5]
      simp only [e272_140, e272_141, e272_143, e272_146, e272_147, rk_n, rk_v, nl_n, nl_i, nl_r, cat_n, ip_cat_int, ip_cat_ref, ip_cat_long, ip_rf_some, Nat.reduceAdd, Nat.reduceLeDiff, Nat.reduceLT, Nat.le_refl, Nat.zero_le, A1, Bool.false_eq_true, Bool.true_eq_false, if_true, if_false, not_true_eq_false, not_false_eq_true, zle, eq_self]
      rw [A2]
      cases e4 : s4.testBit i with
      | true =>
        rw [e4, if_pos rfl] at A4
        simp only [e272_181, e272_182, e272_185, e272_186, e272_187, e272_188, e272_191, e272_203, e272_204, e272_206, e272_209, e272_210, e272_211, e272_214, e272_215, e272_216, e272_217, e272_220, e272_223, e272_225, e272_228, e272_230, rk_n, rk_v, nl_n, nl_i, nl_r, cat_n, ip_cat_int, ip_cat_ref, ip_cat_long, ip_rf_some, Nat.reduceAdd, Nat.reduceLeDiff, Nat.reduceLT, Nat.le_refl, Nat.zero_le, hR, ia_lit, nu_i, nu_tn, lk, k40, i6', i4', h6, h4, e6, e4, A3, A4, n10, Bool.false_eq_true, Bool.true_eq_false, if_true, if_false, not_true_eq_false, not_false_eq_true, zle, eq_self]
      | false =>
        rw [e4, if_neg (by decide)] at A4
        simp only [e272_181, e272_182, e272_185, e272_186, e272_187, e272_188, e272_191, e272_203, e272_204, e272_206, e272_209, e272_210, e272_211, e272_214, e272_215, e272_216, e272_217, e272_220, e272_223, e272_225, e272_228, e272_230, rk_n, rk_v, nl_n, nl_i, nl_r, cat_n, ip_cat_int, ip_cat_ref, ip_cat_long, ip_rf_some, Nat.reduceAdd, Nat.reduceLeDiff, Nat.reduceLT, Nat.le_refl, Nat.zero_le, hR, ia_lit, nu_i, nu_tn, lk, k40, i6', i4', h6, h4, e6, e4, A3, A4, n10, Bool.false_eq_true, Bool.true_eq_false, if_true, if_false, not_true_eq_false, not_false_eq_true, zle, eq_self]
    · have : bs ++ isB ls false (s4.testBit i) (s7.testBit i) = bs ++ [32] ++ lt_ ls ++ [61] ++ [if s4.testBit i = true then 48 else 49] ++ (if s7.testBit i = true then [33] else []) := by unfold isB; simp
      rw [this]; exact W5
theorem t272c (hR : LYR R) (hc8 : c ≤ 8) (i17 : I 265 17 = Int32.ofNat c) (k40 : k < 40) (F : NAMf f T c I0 L) (i6 : I 293 k = Int32.ofNat s6) (i4 : I 296 k = Int32.ofNat s4) (i7 : I 294 k = Int32.ofNat s7) (l6 : s6 < 256) (l4 : s4 < 256) (l7 : s7 < 256) : ∀ m i J bs (l3 : Option Value), i + m = c → WM bs I J → bs.length + 10 * m ≤ 256 → ∃ J', (∀ d, rf (d + 2) 272 132 [some (.ref 265), some (.int (Int32.ofNat k)), some (.int (Int32.ofNat i)), l3] [] (SH n, J, L, R, nc, ns, nx) = some (.inl (some (.int (J' 265 70))), (SH n, J', L, R, nc, ns, nx))) ∧ WM (bs ++ ibs f s6 s4 s7 m i) I J' := by
  intro m
  induction m with
  | zero =>
    intro i J bs l3 h1 W hb
    have i17' : J 265 17 = Int32.ofNat c := by rw [W.1 265 17 (by omega)]; exact i17
    have g : (Int32.ofNat c ≤ Int32.ofNat i) = True := eq_true ((nu_le (by omega) (by omega)).mpr (by omega))
    refine ⟨J, fun d => ?_, by rw [show ibs f s6 s4 s7 0 i = [] from rfl, List.append_nil]; exact W⟩
    rw [e272_132]
    simp only [e272_133, e272_134, e272_137, e272_258, e272_259, e272_262, i17', g, Bool.false_eq_true, Bool.true_eq_false, if_true, if_false, not_true_eq_false, not_false_eq_true, zle, eq_self]
  | succ m ih =>
    intro i J bs l3 h1 W hb
    have i17' : J 265 17 = Int32.ofNat c := by rw [W.1 265 17 (by omega)]; exact i17
    have g : (Int32.ofNat c ≤ Int32.ofNat i) = False := eq_false (fun e => by have := (nu_le (by omega) (by omega)).mp e; omega)
    obtain ⟨z1, z2, z3, z4, z5⟩ := F i (by omega)
    obtain ⟨J1, y, A1, W1⟩ := t272b (n := n) (nc := nc) (ns := ns) (nx := nx) (l3 := l3) hR (by omega) k40 z1 z3 z5 i6 i4 i7 l6 l4 l7 W (by omega)
    have := isB_len (b6 := s6.testBit i) (b4 := s4.testBit i) (b7 := s7.testBit i) z1
    obtain ⟨J2, A2, W2⟩ := ih (i + 1) J1 _ (some (.int y)) (by omega) W1 (by rw [List.length_append]; omega)
    refine ⟨J2, fun d => ?_, ?_⟩
    · rw [← A2 d, ← A1 d, e272_132]
      simp only [e272_133, e272_134, e272_137, i17', g, Bool.false_eq_true, Bool.true_eq_false, if_true, if_false, not_true_eq_false, not_false_eq_true, zle, eq_self]
    · rw [show ibs f s6 s4 s7 (m + 1) i = isB (f i) (s6.testBit i) (s4.testBit i) (s7.testBit i) ++ ibs f s6 s4 s7 m (i + 1) from rfl, ← List.append_assoc]; exact W2
theorem t165c (hR : LYR R) (rT : R 2 4 = some T) (hT : isT T) (hT2 : T < 20) (hc8 : c ≤ 8) (iT6 : I T 6 = Int32.ofNat c) (ha : isN a) (hr : a ≥ 65) (F : NAMf f T c I L) (i6 : I a 6 = Int32.ofNat s6) (i4 : I a 4 = Int32.ofNat s4) (i7 : I a 7 = Int32.ofNat s7) (l6 : s6 < 256) (l4 : s4 < 256) (l7 : s7 < 256) : ∀ m i J bs, i + m = c → WC bs I J → bs.length + 10 * m ≤ 256 → ∃ J', (∀ d, rf (d + 2) 165 79 [some (.ref 2), some (.int x), some (.ref a), some (.int (Int32.ofNat i))] [] (SH n, J, L, R, nc, ns, nx) = some (.inl (some (.int (J' 63 1))), (SH n, J', L, R, nc, ns, nx))) ∧ WC (bs ++ ibs f s6 s4 s7 m i) I J' := by
  intro m
  induction m with
  | zero =>
    intro i J bs h1 W hb
    have i17' : J T 6 = Int32.ofNat c := by rw [W.1 T 6 (by omega)]; exact iT6
    have g : (Int32.ofNat c ≤ Int32.ofNat i) = True := eq_true ((nu_le (by omega) (by omega)).mpr (by omega))
    refine ⟨J, fun d => ?_, by rw [show ibs f s6 s4 s7 0 i = [] from rfl, List.append_nil]; exact W⟩
    rw [e165_79]
    simp only [e165_0, e165_1, e165_2, e165_5, e165_6, e165_9, e165_10, e165_11, e165_12, e165_13, e165_16, e165_19, e165_20, e165_23, e165_24, e165_27, e165_30, e165_33, e165_36, e165_37, e165_40, e165_41, e165_44, e165_47, e165_50, e165_53, e165_56, e165_57, e165_60, e165_63, e165_64, e165_67, e165_68, e165_71, e165_74, e165_77, e165_78, e165_80, e165_81, e165_84, e165_87, e165_90, e165_91, e165_92, e165_93, e165_96, e165_99, e165_102, e165_103, e165_106, e165_109, rk_n, rk_v, nl_n, nl_i, nl_r, cat_n, ip_cat_int, ip_cat_ref, ip_cat_long, ip_rf_some, Nat.reduceAdd, Nat.reduceLeDiff, Nat.reduceLT, Nat.le_refl, Nat.zero_le, hR, rT, hT, i17', g, Bool.false_eq_true, Bool.true_eq_false, if_true, if_false, not_true_eq_false, not_false_eq_true, zle, eq_self]
  | succ m ih =>
    intro i J bs h1 W hb
    have i17' : J T 6 = Int32.ofNat c := by rw [W.1 T 6 (by omega)]; exact iT6
    have g : (Int32.ofNat c ≤ Int32.ofNat i) = False := eq_false (fun e => by have := (nu_le (by omega) (by omega)).mp e; omega)
    obtain ⟨z1, z2, z3, z4, z5⟩ := F i (by omega)
    obtain ⟨J1, A1, W1⟩ := c168 (n := n) (L := L) (nc := nc) (ns := ns) (nx := nx) hR rT hT hT2 (k := i) (by omega) z1 z3 z4 ha hr i6 i4 i7 l6 l4 l7 W (by omega)
    have := isB_len (b6 := s6.testBit i) (b4 := s4.testBit i) (b7 := s7.testBit i) z1
    obtain ⟨J2, A2, W2⟩ := ih (i + 1) J1 _ (by omega) W1 (by rw [List.length_append]; omega)
    have e1 : Int32.ofNat i + 1 = Int32.ofNat (i + 1) := nu_add (s := 1)
    refine ⟨J2, fun d => ?_, ?_⟩
    · rw [← A2 d, e165_79]
      simp only [e165_0, e165_1, e165_2, e165_5, e165_6, e165_9, e165_10, e165_11, e165_12, e165_13, e165_16, e165_19, e165_20, e165_23, e165_24, e165_27, e165_30, e165_33, e165_36, e165_37, e165_40, e165_41, e165_44, e165_47, e165_50, e165_53, e165_56, e165_57, e165_60, e165_63, e165_64, e165_67, e165_68, e165_71, e165_74, e165_77, e165_78, e165_80, e165_81, e165_84, e165_87, e165_90, e165_91, e165_92, e165_93, e165_96, e165_99, e165_102, e165_103, e165_106, e165_109, rk_n, rk_v, nl_n, nl_i, nl_r, cat_n, ip_cat_int, ip_cat_ref, ip_cat_long, ip_rf_some, Nat.reduceAdd, Nat.reduceLeDiff, Nat.reduceLT, Nat.le_refl, Nat.zero_le, hR, rT, hT, i17', g, A1, e1, Bool.false_eq_true, Bool.true_eq_false, if_true, if_false, not_true_eq_false, not_false_eq_true, zle, eq_self]
    · rw [show ibs f s6 s4 s7 (m + 1) i = isB (f i) (s6.testBit i) (s4.testBit i) (s7.testBit i) ++ ibs f s6 s4 s7 m (i + 1) from rfl, ← List.append_assoc]; exact W2
/-- the head: the kind, and how it ended -/
def hdB (kd en : Int32) : List Int32 := wrd (if kd = 0 then 20 else if kd = 1 then 21 else 22) ++ (if kd = 0 then [] else wrd (if en = 0 then 23 else if en = 1 then 24 else if en = 2 then 25 else 26))
theorem wrd_len : (wrd 20).length ≤ 40 ∧ (wrd 21).length ≤ 40 ∧ (wrd 22).length ≤ 40 ∧ (wrd 23).length ≤ 40 ∧ (wrd 24).length ≤ 40 ∧ (wrd 25).length ≤ 40 ∧ (wrd 26).length ≤ 40 := by decide
theorem c165h (hR : LYR R) (ha : isN a) (hr : a ≥ 65) (h0 : I a 0 = 0 ∨ I a 0 = 1 ∨ I a 0 = 2) (h2 : ¬ I a 0 = 0 → I a 2 = 0 ∨ I a 2 = 1 ∨ I a 2 = 2 ∨ I a 2 = 3) (W : WC [] I J) : ∃ J', (∀ d, rf (d + 2) 165 19 [some (.ref 2), some (.int x), some (.ref a), none] [] (SH n, J, L, R, nc, ns, nx) = rf (d + 2) 165 79 [some (.ref 2), some (.int x), some (.ref a), some (.int 0)] [] (SH n, J', L, R, nc, ns, nx)) ∧ WC (hdB (I a 0) (I a 2)) I J' := by
  have j0 : ∀ bs K, WC bs I K → K a 0 = I a 0 := fun bs K W => W.1 a 0 (by omega)
  have j2 : ∀ bs K, WC bs I K → K a 2 = I a 2 := fun bs K W => W.1 a 2 (by omega)
  have nn : (¬ (1 : Int32) = 0) ∧ (¬ (2 : Int32) = 0) ∧ (¬ (2 : Int32) = 1) ∧ ¬ (3 : Int32) = 0 ∧ ¬ (3 : Int32) = 1 ∧ ¬ (3 : Int32) = 2 := by decide
  obtain ⟨w0, w1, w2, w3, w4, w5, w6⟩ := wrd_len
  have en : ∀ e : Int32, (e = 0 ∨ e = 1 ∨ e = 2 ∨ e = 3) → ∀ d h, cf d 167 [.int e] h = some (.inl (some (.ref (tx (if e = 0 then 23 else if e = 1 then 24 else if e = 2 then 25 else 26)))), h) := by
    intro e he d h
    rcases he with rfl | rfl | rfl | rfl
    · simp only [en167, e167_0, e167_28, e167_31, e167_32, e167_35, e167_36, e167_39, e167_40, e167_43, e167_1_0, Bool.false_eq_true, Bool.true_eq_false, if_true, if_false, not_true_eq_false, not_false_eq_true, zle, eq_self]
    · simp only [en167, e167_0, e167_28, e167_31, e167_32, e167_35, e167_36, e167_39, e167_40, e167_43, e167_1_1, nn, Bool.false_eq_true, Bool.true_eq_false, if_true, if_false, not_true_eq_false, not_false_eq_true, zle, eq_self]
    · simp only [en167, e167_0, e167_28, e167_31, e167_32, e167_35, e167_36, e167_39, e167_40, e167_43, e167_1_2, nn, Bool.false_eq_true, Bool.true_eq_false, if_true, if_false, not_true_eq_false, not_false_eq_true, zle, eq_self]
    · have sw := fun d ls s h => e167_1_d (d := d) (ls := ls) (s := s) (h := h) (x := 3) (Or.inr (by decide))
      simp only [en167, e167_0, e167_28, e167_31, e167_32, e167_35, e167_36, e167_39, e167_40, e167_43, sw, nn, Bool.false_eq_true, Bool.true_eq_false, if_true, if_false, not_true_eq_false, not_false_eq_true, zle, eq_self]
  have ent : ∀ e : Int32, (if e = 0 then 23 else if e = 1 then 24 else if e = 2 then 25 else 26) < 39 ∧ (wrd (if e = 0 then 23 else if e = 1 then 24 else if e = 2 then 25 else 26)).length ≤ 40 := by
    intro e
    repeat' split
    · exact ⟨by decide, w3⟩
    · exact ⟨by decide, w4⟩
    · exact ⟨by decide, w5⟩
    · exact ⟨by decide, w6⟩
  have jj := j0 _ _ W
  unfold hdB
  rcases h0 with h0 | h0 | h0
  · rw [h0, if_pos rfl, if_pos rfl]
    rw [h0] at jj
    obtain ⟨J1, A1, W1⟩ := c166 (n := n) (L := L) (nc := nc) (ns := ns) (nx := nx) (t := 20) hR (by decide) (by omega) W (by simp; omega)
    have k0 := j0 _ _ W1
    rw [h0] at k0
    refine ⟨J1, fun d => ?_, by simpa using W1⟩
    simp only [e165_0, e165_1, e165_2, e165_5, e165_6, e165_9, e165_10, e165_11, e165_12, e165_13, e165_16, e165_19, e165_20, e165_23, e165_24, e165_27, e165_30, e165_33, e165_36, e165_37, e165_40, e165_41, e165_44, e165_47, e165_50, e165_53, e165_56, e165_57, e165_60, e165_63, e165_64, e165_67, e165_68, e165_71, e165_74, e165_77, e165_78, e165_80, e165_81, e165_84, e165_87, e165_90, e165_91, e165_92, e165_93, e165_96, e165_99, e165_102, e165_103, e165_106, e165_109, rk_n, rk_v, nl_n, nl_i, nl_r, cat_n, ip_cat_int, ip_cat_ref, ip_cat_long, ip_rf_some, Nat.reduceAdd, Nat.reduceLeDiff, Nat.reduceLT, Nat.le_refl, Nat.zero_le, hR, ha, jj, k0, A1, Bool.false_eq_true, Bool.true_eq_false, if_true, if_false, not_true_eq_false, not_false_eq_true, zle, eq_self]
  · have E := h2 (by rw [h0]; decide)
    rw [h0, if_neg nn.1, if_pos rfl, if_neg nn.1]
    rw [h0] at jj
    obtain ⟨J1, A1, W1⟩ := c166 (n := n) (L := L) (nc := nc) (ns := ns) (nx := nx) (t := 21) hR (by decide) (by omega) W (by simp; omega)
    obtain ⟨t1, t2⟩ := ent (I a 2)
    have EN := en (I a 2) E
    have k0 := j0 _ _ W1
    have k2 := j2 _ _ W1
    rw [h0] at k0
    generalize (if I a 2 = 0 then 23 else if I a 2 = 1 then 24 else if I a 2 = 2 then 25 else 26) = tt at *
    obtain ⟨J2, A2, W2⟩ := c166 (n := n) (L := L) (nc := nc) (ns := ns) (nx := nx) (t := tt) hR t1 (by omega) W1 (by simp; omega)
    refine ⟨J2, fun d => ?_, by simpa using W2⟩
    simp only [e165_0, e165_1, e165_2, e165_5, e165_6, e165_9, e165_10, e165_11, e165_12, e165_13, e165_16, e165_19, e165_20, e165_23, e165_24, e165_27, e165_30, e165_33, e165_36, e165_37, e165_40, e165_41, e165_44, e165_47, e165_50, e165_53, e165_56, e165_57, e165_60, e165_63, e165_64, e165_67, e165_68, e165_71, e165_74, e165_77, e165_78, e165_80, e165_81, e165_84, e165_87, e165_90, e165_91, e165_92, e165_93, e165_96, e165_99, e165_102, e165_103, e165_106, e165_109, rk_n, rk_v, nl_n, nl_i, nl_r, cat_n, ip_cat_int, ip_cat_ref, ip_cat_long, ip_rf_some, Nat.reduceAdd, Nat.reduceLeDiff, Nat.reduceLT, Nat.le_refl, Nat.zero_le, hR, ha, jj, k0, k2, A1, nn, EN, A2, Bool.false_eq_true, Bool.true_eq_false, if_true, if_false, not_true_eq_false, not_false_eq_true, zle, eq_self]
  · have E := h2 (by rw [h0]; decide)
    rw [h0, if_neg nn.2.1, if_neg nn.2.2.1, if_neg nn.2.1]
    rw [h0] at jj
    obtain ⟨J1, A1, W1⟩ := c166 (n := n) (L := L) (nc := nc) (ns := ns) (nx := nx) (t := 22) hR (by decide) (by omega) W (by simp; omega)
    obtain ⟨t1, t2⟩ := ent (I a 2)
    have EN := en (I a 2) E
    have k0 := j0 _ _ W1
    have k2 := j2 _ _ W1
    rw [h0] at k0
    generalize (if I a 2 = 0 then 23 else if I a 2 = 1 then 24 else if I a 2 = 2 then 25 else 26) = tt at *
    obtain ⟨J2, A2, W2⟩ := c166 (n := n) (L := L) (nc := nc) (ns := ns) (nx := nx) (t := tt) hR t1 (by omega) W1 (by simp; omega)
    refine ⟨J2, fun d => ?_, by simpa using W2⟩
    simp only [e165_0, e165_1, e165_2, e165_5, e165_6, e165_9, e165_10, e165_11, e165_12, e165_13, e165_16, e165_19, e165_20, e165_23, e165_24, e165_27, e165_30, e165_33, e165_36, e165_37, e165_40, e165_41, e165_44, e165_47, e165_50, e165_53, e165_56, e165_57, e165_60, e165_63, e165_64, e165_67, e165_68, e165_71, e165_74, e165_77, e165_78, e165_80, e165_81, e165_84, e165_87, e165_90, e165_91, e165_92, e165_93, e165_96, e165_99, e165_102, e165_103, e165_106, e165_109, rk_n, rk_v, nl_n, nl_i, nl_r, cat_n, ip_cat_int, ip_cat_ref, ip_cat_long, ip_rf_some, Nat.reduceAdd, Nat.reduceLeDiff, Nat.reduceLT, Nat.le_refl, Nat.zero_le, hR, ha, jj, k0, k2, A1, nn, EN, A2, Bool.false_eq_true, Bool.true_eq_false, if_true, if_false, not_true_eq_false, not_false_eq_true, zle, eq_self]
theorem c272h (hR : LYR R) (k40 : k < 40) (h0 : I 289 k = 0 ∨ I 289 k = 1 ∨ I 289 k = 2) (h2 : ¬ I 289 k = 0 → I 291 k = 0 ∨ I 291 k = 1 ∨ I 291 k = 2 ∨ I 291 k = 3) (W : WM [] I J) : ∃ J', (∀ d, rf (d + 2) 272 31 [some (.ref 265), some (.int (Int32.ofNat k)), none, none] [] (SH n, J, L, R, nc, ns, nx) = rf (d + 2) 272 132 [some (.ref 265), some (.int (Int32.ofNat k)), some (.int 0), none] [] (SH n, J', L, R, nc, ns, nx)) ∧ WM (hdB (I 289 k) (I 291 k)) I J' := by
  have lk : k < 2147483648 := by omega
  have j0 : ∀ bs K, WM bs I K → K 289 k = I 289 k := fun bs K W => W.1 289 k (by omega)
  have j2 : ∀ bs K, WM bs I K → K 291 k = I 291 k := fun bs K W => W.1 291 k (by omega)
  have nn : (¬ (1 : Int32) = 0) ∧ (¬ (2 : Int32) = 0) ∧ (¬ (2 : Int32) = 1) ∧ ¬ (3 : Int32) = 0 ∧ ¬ (3 : Int32) = 1 ∧ ¬ (3 : Int32) = 2 := by decide
  obtain ⟨w0, w1, w2, w3, w4, w5, w6⟩ := wrd_len
  have jj := j0 _ _ W
  unfold hdB
  rcases h0 with h0 | h0 | h0
  · rw [h0, if_pos rfl, if_pos rfl]
    rw [h0] at jj
    obtain ⟨J1, A1, W1⟩ := c273 (n := n) (L := L) (nc := nc) (ns := ns) (nx := nx) (t := 20) hR (by decide) (by omega) W (by simp; omega)
    have k0 := j0 _ _ W1
    rw [h0] at k0
    refine ⟨J1, fun d => ?_, by simpa using W1⟩
    simp only [e272_0, e272_1, e272_2, e272_3, e272_6, e272_9, e272_10, e272_13, e272_14, e272_17, e272_18, e272_21, e272_24, e272_25, e272_26, e272_27, e272_28, e272_31, e272_32, e272_33, e272_36, e272_37, e272_38, e272_41, e272_44, e272_47, e272_48, e272_51, e272_52, e272_53, e272_54, e272_57, e272_59, e272_62, e272_64, e272_67, e272_68, e272_71, e272_72, e272_73, e272_76, e272_77, e272_78, e272_81, e272_82, e272_83, e272_86, e272_89, e272_92, e272_93, e272_96, e272_97, e272_98, e272_99, e272_102, e272_105, e272_108, e272_109, e272_112, e272_113, e272_114, e272_115, e272_118, e272_121, e272_124, e272_127, e272_130, e272_131, e272_133, e272_134, e272_137, e272_140, e272_141, e272_143, e272_146, e272_147, e272_149, e272_150, e272_153, e272_154, e272_155, e272_158, e272_161, e272_162, e272_163, e272_166, e272_167, e272_168, e272_169, e272_172, e272_175, e272_178, e272_181, e272_182, e272_185, e272_186, e272_187, e272_188, e272_191, e272_194, e272_195, e272_197, e272_200, e272_203, e272_204, e272_206, e272_209, e272_210, e272_211, e272_214, e272_215, e272_216, e272_217, e272_220, e272_223, e272_225, e272_228, e272_230, e272_233, e272_234, e272_237, e272_238, e272_239, e272_240, e272_243, e272_246, e272_247, e272_249, e272_252, e272_255, e272_258, e272_259, e272_262, rk_n, rk_v, nl_n, nl_i, nl_r, cat_n, ip_cat_int, ip_cat_ref, ip_cat_long, ip_rf_some, Nat.reduceAdd, Nat.reduceLeDiff, Nat.reduceLT, Nat.le_refl, Nat.zero_le, hR, ia_lit, nu_i, nu_tn, lk, k40, jj, k0, A1, Bool.false_eq_true, Bool.true_eq_false, if_true, if_false, not_true_eq_false, not_false_eq_true, zle, eq_self]
  · have E := h2 (by rw [h0]; decide)
    rw [h0, if_neg nn.1, if_pos rfl, if_neg nn.1]
    rw [h0] at jj
    obtain ⟨J1, A1, W1⟩ := c273 (n := n) (L := L) (nc := nc) (ns := ns) (nx := nx) (t := 21) hR (by decide) (by omega) W (by simp; omega)
    have k0 := j0 _ _ W1
    have k2 := j2 _ _ W1
    rw [h0] at k0
    rcases E with E | E | E | E
    · rw [E] at k2 ⊢
      obtain ⟨J2, A2, W2⟩ := c273 (n := n) (L := L) (nc := nc) (ns := ns) (nx := nx) (t := 23) hR (by decide) (by omega) W1 (by simp; omega)
      refine ⟨J2, fun d => ?_, by simpa using W2⟩
      simp only [e272_0, e272_1, e272_2, e272_3, e272_6, e272_9, e272_10, e272_13, e272_14, e272_17, e272_18, e272_21, e272_24, e272_25, e272_26, e272_27, e272_28, e272_31, e272_32, e272_33, e272_36, e272_37, e272_38, e272_41, e272_44, e272_47, e272_48, e272_51, e272_52, e272_53, e272_54, e272_57, e272_59, e272_62, e272_64, e272_67, e272_68, e272_71, e272_72, e272_73, e272_76, e272_77, e272_78, e272_81, e272_82, e272_83, e272_86, e272_89, e272_92, e272_93, e272_96, e272_97, e272_98, e272_99, e272_102, e272_105, e272_108, e272_109, e272_112, e272_113, e272_114, e272_115, e272_118, e272_121, e272_124, e272_127, e272_130, e272_131, e272_133, e272_134, e272_137, e272_140, e272_141, e272_143, e272_146, e272_147, e272_149, e272_150, e272_153, e272_154, e272_155, e272_158, e272_161, e272_162, e272_163, e272_166, e272_167, e272_168, e272_169, e272_172, e272_175, e272_178, e272_181, e272_182, e272_185, e272_186, e272_187, e272_188, e272_191, e272_194, e272_195, e272_197, e272_200, e272_203, e272_204, e272_206, e272_209, e272_210, e272_211, e272_214, e272_215, e272_216, e272_217, e272_220, e272_223, e272_225, e272_228, e272_230, e272_233, e272_234, e272_237, e272_238, e272_239, e272_240, e272_243, e272_246, e272_247, e272_249, e272_252, e272_255, e272_258, e272_259, e272_262, rk_n, rk_v, nl_n, nl_i, nl_r, cat_n, ip_cat_int, ip_cat_ref, ip_cat_long, ip_rf_some, Nat.reduceAdd, Nat.reduceLeDiff, Nat.reduceLT, Nat.le_refl, Nat.zero_le, hR, ia_lit, nu_i, nu_tn, lk, k40, jj, k0, k2, A1, nn, A2, Bool.false_eq_true, Bool.true_eq_false, if_true, if_false, not_true_eq_false, not_false_eq_true, zle, eq_self]
    · rw [E] at k2 ⊢
      obtain ⟨J2, A2, W2⟩ := c273 (n := n) (L := L) (nc := nc) (ns := ns) (nx := nx) (t := 24) hR (by decide) (by omega) W1 (by simp; omega)
      refine ⟨J2, fun d => ?_, by simpa using W2⟩
      simp only [e272_0, e272_1, e272_2, e272_3, e272_6, e272_9, e272_10, e272_13, e272_14, e272_17, e272_18, e272_21, e272_24, e272_25, e272_26, e272_27, e272_28, e272_31, e272_32, e272_33, e272_36, e272_37, e272_38, e272_41, e272_44, e272_47, e272_48, e272_51, e272_52, e272_53, e272_54, e272_57, e272_59, e272_62, e272_64, e272_67, e272_68, e272_71, e272_72, e272_73, e272_76, e272_77, e272_78, e272_81, e272_82, e272_83, e272_86, e272_89, e272_92, e272_93, e272_96, e272_97, e272_98, e272_99, e272_102, e272_105, e272_108, e272_109, e272_112, e272_113, e272_114, e272_115, e272_118, e272_121, e272_124, e272_127, e272_130, e272_131, e272_133, e272_134, e272_137, e272_140, e272_141, e272_143, e272_146, e272_147, e272_149, e272_150, e272_153, e272_154, e272_155, e272_158, e272_161, e272_162, e272_163, e272_166, e272_167, e272_168, e272_169, e272_172, e272_175, e272_178, e272_181, e272_182, e272_185, e272_186, e272_187, e272_188, e272_191, e272_194, e272_195, e272_197, e272_200, e272_203, e272_204, e272_206, e272_209, e272_210, e272_211, e272_214, e272_215, e272_216, e272_217, e272_220, e272_223, e272_225, e272_228, e272_230, e272_233, e272_234, e272_237, e272_238, e272_239, e272_240, e272_243, e272_246, e272_247, e272_249, e272_252, e272_255, e272_258, e272_259, e272_262, rk_n, rk_v, nl_n, nl_i, nl_r, cat_n, ip_cat_int, ip_cat_ref, ip_cat_long, ip_rf_some, Nat.reduceAdd, Nat.reduceLeDiff, Nat.reduceLT, Nat.le_refl, Nat.zero_le, hR, ia_lit, nu_i, nu_tn, lk, k40, jj, k0, k2, A1, nn, A2, Bool.false_eq_true, Bool.true_eq_false, if_true, if_false, not_true_eq_false, not_false_eq_true, zle, eq_self]
    · rw [E] at k2 ⊢
      obtain ⟨J2, A2, W2⟩ := c273 (n := n) (L := L) (nc := nc) (ns := ns) (nx := nx) (t := 25) hR (by decide) (by omega) W1 (by simp; omega)
      refine ⟨J2, fun d => ?_, by simpa using W2⟩
      simp only [e272_0, e272_1, e272_2, e272_3, e272_6, e272_9, e272_10, e272_13, e272_14, e272_17, e272_18, e272_21, e272_24, e272_25, e272_26, e272_27, e272_28, e272_31, e272_32, e272_33, e272_36, e272_37, e272_38, e272_41, e272_44, e272_47, e272_48, e272_51, e272_52, e272_53, e272_54, e272_57, e272_59, e272_62, e272_64, e272_67, e272_68, e272_71, e272_72, e272_73, e272_76, e272_77, e272_78, e272_81, e272_82, e272_83, e272_86, e272_89, e272_92, e272_93, e272_96, e272_97, e272_98, e272_99, e272_102, e272_105, e272_108, e272_109, e272_112, e272_113, e272_114, e272_115, e272_118, e272_121, e272_124, e272_127, e272_130, e272_131, e272_133, e272_134, e272_137, e272_140, e272_141, e272_143, e272_146, e272_147, e272_149, e272_150, e272_153, e272_154, e272_155, e272_158, e272_161, e272_162, e272_163, e272_166, e272_167, e272_168, e272_169, e272_172, e272_175, e272_178, e272_181, e272_182, e272_185, e272_186, e272_187, e272_188, e272_191, e272_194, e272_195, e272_197, e272_200, e272_203, e272_204, e272_206, e272_209, e272_210, e272_211, e272_214, e272_215, e272_216, e272_217, e272_220, e272_223, e272_225, e272_228, e272_230, e272_233, e272_234, e272_237, e272_238, e272_239, e272_240, e272_243, e272_246, e272_247, e272_249, e272_252, e272_255, e272_258, e272_259, e272_262, rk_n, rk_v, nl_n, nl_i, nl_r, cat_n, ip_cat_int, ip_cat_ref, ip_cat_long, ip_rf_some, Nat.reduceAdd, Nat.reduceLeDiff, Nat.reduceLT, Nat.le_refl, Nat.zero_le, hR, ia_lit, nu_i, nu_tn, lk, k40, jj, k0, k2, A1, nn, A2, Bool.false_eq_true, Bool.true_eq_false, if_true, if_false, not_true_eq_false, not_false_eq_true, zle, eq_self]
    · rw [E] at k2 ⊢
      obtain ⟨J2, A2, W2⟩ := c273 (n := n) (L := L) (nc := nc) (ns := ns) (nx := nx) (t := 26) hR (by decide) (by omega) W1 (by simp; omega)
      refine ⟨J2, fun d => ?_, by simpa using W2⟩
      simp only [e272_0, e272_1, e272_2, e272_3, e272_6, e272_9, e272_10, e272_13, e272_14, e272_17, e272_18, e272_21, e272_24, e272_25, e272_26, e272_27, e272_28, e272_31, e272_32, e272_33, e272_36, e272_37, e272_38, e272_41, e272_44, e272_47, e272_48, e272_51, e272_52, e272_53, e272_54, e272_57, e272_59, e272_62, e272_64, e272_67, e272_68, e272_71, e272_72, e272_73, e272_76, e272_77, e272_78, e272_81, e272_82, e272_83, e272_86, e272_89, e272_92, e272_93, e272_96, e272_97, e272_98, e272_99, e272_102, e272_105, e272_108, e272_109, e272_112, e272_113, e272_114, e272_115, e272_118, e272_121, e272_124, e272_127, e272_130, e272_131, e272_133, e272_134, e272_137, e272_140, e272_141, e272_143, e272_146, e272_147, e272_149, e272_150, e272_153, e272_154, e272_155, e272_158, e272_161, e272_162, e272_163, e272_166, e272_167, e272_168, e272_169, e272_172, e272_175, e272_178, e272_181, e272_182, e272_185, e272_186, e272_187, e272_188, e272_191, e272_194, e272_195, e272_197, e272_200, e272_203, e272_204, e272_206, e272_209, e272_210, e272_211, e272_214, e272_215, e272_216, e272_217, e272_220, e272_223, e272_225, e272_228, e272_230, e272_233, e272_234, e272_237, e272_238, e272_239, e272_240, e272_243, e272_246, e272_247, e272_249, e272_252, e272_255, e272_258, e272_259, e272_262, rk_n, rk_v, nl_n, nl_i, nl_r, cat_n, ip_cat_int, ip_cat_ref, ip_cat_long, ip_rf_some, Nat.reduceAdd, Nat.reduceLeDiff, Nat.reduceLT, Nat.le_refl, Nat.zero_le, hR, ia_lit, nu_i, nu_tn, lk, k40, jj, k0, k2, A1, nn, A2, Bool.false_eq_true, Bool.true_eq_false, if_true, if_false, not_true_eq_false, not_false_eq_true, zle, eq_self]
  · have E := h2 (by rw [h0]; decide)
    rw [h0, if_neg nn.2.1, if_neg nn.2.2.1, if_neg nn.2.1]
    rw [h0] at jj
    obtain ⟨J1, A1, W1⟩ := c273 (n := n) (L := L) (nc := nc) (ns := ns) (nx := nx) (t := 22) hR (by decide) (by omega) W (by simp; omega)
    have k0 := j0 _ _ W1
    have k2 := j2 _ _ W1
    rw [h0] at k0
    rcases E with E | E | E | E
    · rw [E] at k2 ⊢
      obtain ⟨J2, A2, W2⟩ := c273 (n := n) (L := L) (nc := nc) (ns := ns) (nx := nx) (t := 23) hR (by decide) (by omega) W1 (by simp; omega)
      refine ⟨J2, fun d => ?_, by simpa using W2⟩
      simp only [e272_0, e272_1, e272_2, e272_3, e272_6, e272_9, e272_10, e272_13, e272_14, e272_17, e272_18, e272_21, e272_24, e272_25, e272_26, e272_27, e272_28, e272_31, e272_32, e272_33, e272_36, e272_37, e272_38, e272_41, e272_44, e272_47, e272_48, e272_51, e272_52, e272_53, e272_54, e272_57, e272_59, e272_62, e272_64, e272_67, e272_68, e272_71, e272_72, e272_73, e272_76, e272_77, e272_78, e272_81, e272_82, e272_83, e272_86, e272_89, e272_92, e272_93, e272_96, e272_97, e272_98, e272_99, e272_102, e272_105, e272_108, e272_109, e272_112, e272_113, e272_114, e272_115, e272_118, e272_121, e272_124, e272_127, e272_130, e272_131, e272_133, e272_134, e272_137, e272_140, e272_141, e272_143, e272_146, e272_147, e272_149, e272_150, e272_153, e272_154, e272_155, e272_158, e272_161, e272_162, e272_163, e272_166, e272_167, e272_168, e272_169, e272_172, e272_175, e272_178, e272_181, e272_182, e272_185, e272_186, e272_187, e272_188, e272_191, e272_194, e272_195, e272_197, e272_200, e272_203, e272_204, e272_206, e272_209, e272_210, e272_211, e272_214, e272_215, e272_216, e272_217, e272_220, e272_223, e272_225, e272_228, e272_230, e272_233, e272_234, e272_237, e272_238, e272_239, e272_240, e272_243, e272_246, e272_247, e272_249, e272_252, e272_255, e272_258, e272_259, e272_262, rk_n, rk_v, nl_n, nl_i, nl_r, cat_n, ip_cat_int, ip_cat_ref, ip_cat_long, ip_rf_some, Nat.reduceAdd, Nat.reduceLeDiff, Nat.reduceLT, Nat.le_refl, Nat.zero_le, hR, ia_lit, nu_i, nu_tn, lk, k40, jj, k0, k2, A1, nn, A2, Bool.false_eq_true, Bool.true_eq_false, if_true, if_false, not_true_eq_false, not_false_eq_true, zle, eq_self]
    · rw [E] at k2 ⊢
      obtain ⟨J2, A2, W2⟩ := c273 (n := n) (L := L) (nc := nc) (ns := ns) (nx := nx) (t := 24) hR (by decide) (by omega) W1 (by simp; omega)
      refine ⟨J2, fun d => ?_, by simpa using W2⟩
      simp only [e272_0, e272_1, e272_2, e272_3, e272_6, e272_9, e272_10, e272_13, e272_14, e272_17, e272_18, e272_21, e272_24, e272_25, e272_26, e272_27, e272_28, e272_31, e272_32, e272_33, e272_36, e272_37, e272_38, e272_41, e272_44, e272_47, e272_48, e272_51, e272_52, e272_53, e272_54, e272_57, e272_59, e272_62, e272_64, e272_67, e272_68, e272_71, e272_72, e272_73, e272_76, e272_77, e272_78, e272_81, e272_82, e272_83, e272_86, e272_89, e272_92, e272_93, e272_96, e272_97, e272_98, e272_99, e272_102, e272_105, e272_108, e272_109, e272_112, e272_113, e272_114, e272_115, e272_118, e272_121, e272_124, e272_127, e272_130, e272_131, e272_133, e272_134, e272_137, e272_140, e272_141, e272_143, e272_146, e272_147, e272_149, e272_150, e272_153, e272_154, e272_155, e272_158, e272_161, e272_162, e272_163, e272_166, e272_167, e272_168, e272_169, e272_172, e272_175, e272_178, e272_181, e272_182, e272_185, e272_186, e272_187, e272_188, e272_191, e272_194, e272_195, e272_197, e272_200, e272_203, e272_204, e272_206, e272_209, e272_210, e272_211, e272_214, e272_215, e272_216, e272_217, e272_220, e272_223, e272_225, e272_228, e272_230, e272_233, e272_234, e272_237, e272_238, e272_239, e272_240, e272_243, e272_246, e272_247, e272_249, e272_252, e272_255, e272_258, e272_259, e272_262, rk_n, rk_v, nl_n, nl_i, nl_r, cat_n, ip_cat_int, ip_cat_ref, ip_cat_long, ip_rf_some, Nat.reduceAdd, Nat.reduceLeDiff, Nat.reduceLT, Nat.le_refl, Nat.zero_le, hR, ia_lit, nu_i, nu_tn, lk, k40, jj, k0, k2, A1, nn, A2, Bool.false_eq_true, Bool.true_eq_false, if_true, if_false, not_true_eq_false, not_false_eq_true, zle, eq_self]
    · rw [E] at k2 ⊢
      obtain ⟨J2, A2, W2⟩ := c273 (n := n) (L := L) (nc := nc) (ns := ns) (nx := nx) (t := 25) hR (by decide) (by omega) W1 (by simp; omega)
      refine ⟨J2, fun d => ?_, by simpa using W2⟩
      simp only [e272_0, e272_1, e272_2, e272_3, e272_6, e272_9, e272_10, e272_13, e272_14, e272_17, e272_18, e272_21, e272_24, e272_25, e272_26, e272_27, e272_28, e272_31, e272_32, e272_33, e272_36, e272_37, e272_38, e272_41, e272_44, e272_47, e272_48, e272_51, e272_52, e272_53, e272_54, e272_57, e272_59, e272_62, e272_64, e272_67, e272_68, e272_71, e272_72, e272_73, e272_76, e272_77, e272_78, e272_81, e272_82, e272_83, e272_86, e272_89, e272_92, e272_93, e272_96, e272_97, e272_98, e272_99, e272_102, e272_105, e272_108, e272_109, e272_112, e272_113, e272_114, e272_115, e272_118, e272_121, e272_124, e272_127, e272_130, e272_131, e272_133, e272_134, e272_137, e272_140, e272_141, e272_143, e272_146, e272_147, e272_149, e272_150, e272_153, e272_154, e272_155, e272_158, e272_161, e272_162, e272_163, e272_166, e272_167, e272_168, e272_169, e272_172, e272_175, e272_178, e272_181, e272_182, e272_185, e272_186, e272_187, e272_188, e272_191, e272_194, e272_195, e272_197, e272_200, e272_203, e272_204, e272_206, e272_209, e272_210, e272_211, e272_214, e272_215, e272_216, e272_217, e272_220, e272_223, e272_225, e272_228, e272_230, e272_233, e272_234, e272_237, e272_238, e272_239, e272_240, e272_243, e272_246, e272_247, e272_249, e272_252, e272_255, e272_258, e272_259, e272_262, rk_n, rk_v, nl_n, nl_i, nl_r, cat_n, ip_cat_int, ip_cat_ref, ip_cat_long, ip_rf_some, Nat.reduceAdd, Nat.reduceLeDiff, Nat.reduceLT, Nat.le_refl, Nat.zero_le, hR, ia_lit, nu_i, nu_tn, lk, k40, jj, k0, k2, A1, nn, A2, Bool.false_eq_true, Bool.true_eq_false, if_true, if_false, not_true_eq_false, not_false_eq_true, zle, eq_self]
    · rw [E] at k2 ⊢
      obtain ⟨J2, A2, W2⟩ := c273 (n := n) (L := L) (nc := nc) (ns := ns) (nx := nx) (t := 26) hR (by decide) (by omega) W1 (by simp; omega)
      refine ⟨J2, fun d => ?_, by simpa using W2⟩
      simp only [e272_0, e272_1, e272_2, e272_3, e272_6, e272_9, e272_10, e272_13, e272_14, e272_17, e272_18, e272_21, e272_24, e272_25, e272_26, e272_27, e272_28, e272_31, e272_32, e272_33, e272_36, e272_37, e272_38, e272_41, e272_44, e272_47, e272_48, e272_51, e272_52, e272_53, e272_54, e272_57, e272_59, e272_62, e272_64, e272_67, e272_68, e272_71, e272_72, e272_73, e272_76, e272_77, e272_78, e272_81, e272_82, e272_83, e272_86, e272_89, e272_92, e272_93, e272_96, e272_97, e272_98, e272_99, e272_102, e272_105, e272_108, e272_109, e272_112, e272_113, e272_114, e272_115, e272_118, e272_121, e272_124, e272_127, e272_130, e272_131, e272_133, e272_134, e272_137, e272_140, e272_141, e272_143, e272_146, e272_147, e272_149, e272_150, e272_153, e272_154, e272_155, e272_158, e272_161, e272_162, e272_163, e272_166, e272_167, e272_168, e272_169, e272_172, e272_175, e272_178, e272_181, e272_182, e272_185, e272_186, e272_187, e272_188, e272_191, e272_194, e272_195, e272_197, e272_200, e272_203, e272_204, e272_206, e272_209, e272_210, e272_211, e272_214, e272_215, e272_216, e272_217, e272_220, e272_223, e272_225, e272_228, e272_230, e272_233, e272_234, e272_237, e272_238, e272_239, e272_240, e272_243, e272_246, e272_247, e272_249, e272_252, e272_255, e272_258, e272_259, e272_262, rk_n, rk_v, nl_n, nl_i, nl_r, cat_n, ip_cat_int, ip_cat_ref, ip_cat_long, ip_rf_some, Nat.reduceAdd, Nat.reduceLeDiff, Nat.reduceLT, Nat.le_refl, Nat.zero_le, hR, ia_lit, nu_i, nu_tn, lk, k40, jj, k0, k2, A1, nn, A2, Bool.false_eq_true, Bool.true_eq_false, if_true, if_false, not_true_eq_false, not_false_eq_true, zle, eq_self]
theorem c29 : cf d 29 [.ref 63] (SH n, I, L, R, nc, ns, nx) = some (.inl none, (SH n, ip_up I 63 1 0, L, R, nc, ns, nx)) := by
  simp only [en29, e29_0, e29_1, e29_2, e29_5, rk_n, rk_v, nl_n, nl_i, nl_r, cat_n, ip_cat_int, ip_cat_ref, ip_cat_long, ip_rf_some, Nat.reduceAdd, Nat.reduceLeDiff, Nat.reduceLT, Nat.le_refl, Nat.zero_le, Bool.false_eq_true, Bool.true_eq_false, if_true, if_false, not_true_eq_false, not_false_eq_true, zle, eq_self]
theorem hdB_len {kd en : Int32} : (hdB kd en).length ≤ 80 := by
  obtain ⟨w0, w1, w2, w3, w4, w5, w6⟩ := wrd_len
  unfold hdB
  rw [List.length_append]
  have a : (wrd (if kd = 0 then 20 else if kd = 1 then 21 else 22)).length ≤ 40 := by
    repeat' split
    · exact w0
    · exact w1
    · exact w2
  have b : (if kd = 0 then [] else wrd (if en = 0 then 23 else if en = 1 then 24 else if en = 2 then 25 else 26)).length ≤ 40 := by
    repeat' split
    · exact Nat.zero_le _
    · exact w3
    · exact w4
    · exact w5
    · exact w6
  omega
theorem ibs_len (h : ∀ i, i < c → (f i).length ≤ 6) : ∀ m i, i + m = c → (ibs f s6 s4 s7 m i).length ≤ 10 * m := by
  intro m
  induction m with
  | zero => intro i _; exact Nat.le_refl _
  | succ m ih =>
    intro i hi
    rw [show ibs f s6 s4 s7 (m + 1) i = isB (f i) (s6.testBit i) (s4.testBit i) (s7.testBit i) ++ ibs f s6 s4 s7 m (i + 1) from rfl, List.length_append]
    have := isB_len (b6 := s6.testBit i) (b4 := s4.testBit i) (b7 := s7.testBit i) (h i (by omega))
    have := ih (i + 1) (by omega)
    omega
theorem S29 : SAMEX 164 272 [.int x1] Int32.toInt64 := by
  intro n I L R nc ns nx T c N w t p X
  have X0 := X
  have hR := X.1
  have hT : isT T := (REL_C X).1
  obtain ⟨tt, rT, -, hc8, iT6, i17, -, -, -, -, -, -, v13⟩ := X.2.1
  have P8 := p2le hc8
  obtain ⟨f, F⟩ := NAM_f v13
  obtain ⟨⟨n1, n2, n3⟩, ⟨y1, y2⟩, ⟨y3, y4⟩, y5⟩ := X.2.2.1
  rcases nodC (x := x1) X with ⟨k, hk, rfl, C1, M1⟩ | ⟨C1, M1⟩
  · obtain ⟨q1, q2, q3, q4, q5, q6, q7, q8, q9, q10⟩ := y5 k hk
    have k40 : k < 40 := by omega
    have b0 := (nu_inb (t := k) (k := 40) (by omega)).mpr (by omega)
    have e1 := nd_of (k := k) (by omega)
    have iw := isN_nd (k := k) (by omega)
    obtain ⟨so, lo⟩ := inb_sN q6.2
    obtain ⟨sz, lz⟩ := inb_sN q5.2
    obtain ⟨se, le⟩ := inb_sN q9.2
    generalize sN (I 293 k) = s6 at *
    generalize sN (I 296 k) = s4 at *
    generalize sN (I 294 k) = s7 at *
    have HL := hdB_len (kd := I 289 k) (en := I 291 k)
    have IL := ibs_len (c := c) (f := f) (s6 := s6) (s4 := s4) (s7 := s7) (fun i hi => (F i hi).1) c 0 (by omega)
    obtain ⟨J1, A1, W1⟩ := c165h (n := n) (L := L) (nc := nc) (ns := ns) (nx := nx) (x := Int32.ofNat k) (I := I) hR iw (by omega) (by rw [q1.1]; exact q1.2) (by rw [q1.1, q3.1]; exact q3.2.2) WC_0
    rw [q1.1, q3.1] at W1
    obtain ⟨J2, A2, W2⟩ := t165c (n := n) (nc := nc) (ns := ns) (nx := nx) (x := Int32.ofNat k) (a := 65 + 5 * k) hR rT hT (by omega) hc8 iT6 iw (by omega) F (q6.1.trans so) (q5.1.trans sz) (q9.1.trans se) (by omega) (by omega) (by omega) c 0 J1 _ (by omega) W1 (by omega)
    generalize hbs : hdB (I 289 k) (I 291 k) ++ ibs f s6 s4 s7 c 0 = bs at *
    have bl : bs.length ≤ 160 := by rw [← hbs, List.length_append]; omega
    have G1 : ∀ a j, ¬ a = 64 → ¬ (a = 63 ∧ j = 1) → J2 a j = I a j := fun a j h1 h2 => W2.1 a j (by omega)
    generalize hK : ip_up J2 265 0 0 = K
    have GK : ∀ a j, ¬ (a = 265 ∧ j = 0) → K a j = J2 a j := by
      intro a j h
      rw [← hK]
      by_cases e : a = 265
      · subst e; exact up_k (fun e => h ⟨rfl, e⟩)
      · exact up_a e
    have GI : ∀ a j, 66 ≤ a → ¬ (a = 265 ∧ j = 0) → K a j = I a j := fun a j h1 h2 => (GK a j h2).trans (G1 a j (by omega) (by omega))
    have F' : NAMf f T c I (ip_up L 307 0 (J2 63 1).toInt64) := fun k hk => ⟨(F k hk).1, (F k hk).2.1, (F k hk).2.2.1, (F k hk).2.2.2.1, (up_a (by decide)).trans (F k hk).2.2.2.2⟩
    obtain ⟨K1, B1, V1⟩ := c272h (n := n) (L := ip_up L 307 0 (J2 63 1).toInt64) (nc := nc) (ns := ns) (nx := nx) (I := K) hR k40 (by rw [GI 289 k (by omega) (by omega)]; exact q1.2) (by rw [GI 289 k (by omega) (by omega), GI 291 k (by omega) (by omega)]; exact q3.2.2) WM_0
    rw [GI 289 k (by omega) (by omega), GI 291 k (by omega) (by omega)] at V1
    obtain ⟨K2, B2, V2⟩ := t272c (n := n) (nc := nc) (ns := ns) (nx := nx) hR hc8 (by rw [GI 265 17 (by omega) (by omega)]; exact i17) k40 F' (by rw [GI 293 k (by omega) (by omega)]; exact so) (by rw [GI 296 k (by omega) (by omega)]; exact sz) (by rw [GI 294 k (by omega) (by omega)]; exact se) (by omega) (by omega) (by omega) c 0 K1 _ none (by omega) V1 (by omega)
    rw [hbs] at V2
    have H : onlyP (fun a j => a = 64 ∨ (a = 63 ∧ j = 1) ∨ a = 306 ∨ (a = 265 ∧ (j = 0 ∨ j = 70))) I K2 := by
      intro a j h
      rw [V2.1 a j (by omega), GK a j (by omega), G1 a j (by omega) (by omega)]
    refine ⟨0, K2 265 70, J2, K2, ip_up L 307 0 (J2 63 1).toInt64, ip_up L 307 0 (J2 63 1).toInt64, R, nc, ns, nx, T, c, N, w, t, bs.length, fun d => w164 (d := d + 13) ?_, fun d => ?_, ?_, fun _ => by rw [up_eq, V2.2.1, W2.2.1], ?_, by omega, by omega, fun i => H 0 i (by omega)⟩
    · have A1 := A1 (d + 11)
      have A2 := A2 (d + 11)
      have A2 : rf (d + 11 + 2) 165 79 [some (.ref 2), some (.int (Int32.ofNat k)), some (.ref (65 + 5 * k)), some (.int 0)] [] (SH n, J1, L, R, nc, ns, nx) = _ := A2
      simp only [en165, e165_0, e165_1, e165_2, e165_5, e165_6, e165_9, e165_10, e165_11, e165_12, e165_13, e165_16, rk_n, rk_v, nl_n, nl_i, nl_r, cat_n, ip_cat_int, ip_cat_ref, ip_cat_long, ip_rf_some, Nat.reduceAdd, Nat.reduceLeDiff, Nat.reduceLT, Nat.le_refl, Nat.zero_le, hR, C1, b0, e1, iw, c29, Bool.false_eq_true, Bool.true_eq_false, if_true, if_false, not_true_eq_false, not_false_eq_true, zle, eq_self]
      exact A1.trans A2
    · have B1 := B1 (d + 12)
      have B2 := B2 (d + 12)
      have B2 : rf (d + 12 + 2) 272 132 [some (.ref 265), some (.int (Int32.ofNat k)), some (.int 0), none] [] (SH n, K1, ip_up L 307 0 (J2 63 1).toInt64, R, nc, ns, nx) = _ := B2
      have m1 : J2 265 37 = I 265 37 := G1 265 37 (by omega) (by omega)
      simp only [en272, e272_0, e272_1, e272_2, e272_3, e272_6, e272_9, e272_10, e272_13, e272_14, e272_17, e272_18, e272_21, e272_24, e272_26, e272_27, e272_28, rk_n, rk_v, nl_n, nl_i, nl_r, cat_n, ip_cat_int, ip_cat_ref, ip_cat_long, ip_rf_some, Nat.reduceAdd, Nat.reduceLeDiff, Nat.reduceLT, Nat.le_refl, Nat.zero_le, M1 _ _ _ _ _ _ _ _ m1, hK, up_eq, (by decide : ¬ (1 : Int32) = 0), Bool.false_eq_true, Bool.true_eq_false, if_true, if_false, not_true_eq_false, not_false_eq_true, zle, eq_self]
      rw [← hK] at B1 ⊢
      simp only [up_eq, Bool.false_eq_true, Bool.true_eq_false, if_true, if_false, not_true_eq_false, not_false_eq_true, zle, eq_self]
      exact B1.trans B2
    · rw [V2.1 265 0 (by omega), ← hK, up_eq]
    · refine REL_q (I := K2) (L := L) (R := R) ?_ onlyP_refl L307 (fun _ _ _ => rfl)
      refine REL_P X0 H (fun a j e => by unfold scr; omega) ⟨n3, by rw [H 2 7 (by omega)]; exact y3, by rw [H 265 38 (by omega)]; exact y4⟩ (RTa_P X.2.2.2.1 H (fun a j e => by omega)) ⟨by omega, ?_, V2.2.1, fun i hi => ?_⟩
      · rw [V2.1 63 1 (by omega), GK 63 1 (by omega)]; exact W2.2.1
      · rw [V2.2.2 i hi, V2.1 64 i (by omega), GK 64 i (by omega)]; exact W2.2.2 i hi
  · refine same_x (I1 := I) (I2 := ip_up I 265 0 1) (u := 0) (R1 := R) (code := 1) X0 (by decide) (fun d => ?_) onlyP_refl (fun _ _ _ => rfl) (fun d => ?_) scM_0 up_eq
    · refine w164x1 (d := d + 13) ?_
      simp only [en165, e165_0, e165_1, e165_2, e165_5, e165_6, e165_9, e165_10, e165_11, e165_12, e165_13, e165_16, e165_19, e165_20, e165_23, e165_24, e165_27, e165_30, e165_33, e165_36, e165_37, e165_40, e165_41, e165_44, e165_47, e165_50, e165_53, e165_56, e165_57, e165_60, e165_63, e165_64, e165_67, e165_68, e165_71, e165_74, e165_77, e165_78, e165_80, e165_81, e165_84, e165_87, e165_90, e165_91, e165_92, e165_93, e165_96, e165_99, e165_102, e165_103, e165_106, e165_109, rk_n, rk_v, nl_n, nl_i, nl_r, cat_n, ip_cat_int, ip_cat_ref, ip_cat_long, ip_rf_some, Nat.reduceAdd, Nat.reduceLeDiff, Nat.reduceLT, Nat.le_refl, Nat.zero_le, C1, rk_x hh165, Bool.false_eq_true, Bool.true_eq_false, if_true, if_false, not_true_eq_false, not_false_eq_true, zle, eq_self]
      rfl
    · simp only [en272, e272_0, e272_1, e272_2, e272_3, e272_6, e272_9, e272_10, e272_13, e272_14, e272_17, e272_18, e272_21, e272_24, e272_25, e272_26, e272_27, e272_28, e272_31, e272_32, e272_33, e272_36, e272_37, e272_38, e272_41, e272_44, e272_47, e272_48, e272_51, e272_52, e272_53, e272_54, e272_57, e272_59, e272_62, e272_64, e272_67, e272_68, e272_71, e272_72, e272_73, e272_76, e272_77, e272_78, e272_81, e272_82, e272_83, e272_86, e272_89, e272_92, e272_93, e272_96, e272_97, e272_98, e272_99, e272_102, e272_105, e272_108, e272_109, e272_112, e272_113, e272_114, e272_115, e272_118, e272_121, e272_124, e272_127, e272_130, e272_131, e272_133, e272_134, e272_137, e272_140, e272_141, e272_143, e272_146, e272_147, e272_149, e272_150, e272_153, e272_154, e272_155, e272_158, e272_161, e272_162, e272_163, e272_166, e272_167, e272_168, e272_169, e272_172, e272_175, e272_178, e272_181, e272_182, e272_185, e272_186, e272_187, e272_188, e272_191, e272_194, e272_195, e272_197, e272_200, e272_203, e272_204, e272_206, e272_209, e272_210, e272_211, e272_214, e272_215, e272_216, e272_217, e272_220, e272_223, e272_225, e272_228, e272_230, e272_233, e272_234, e272_237, e272_238, e272_239, e272_240, e272_243, e272_246, e272_247, e272_249, e272_252, e272_255, e272_258, e272_259, e272_262, rk_n, rk_v, nl_n, nl_i, nl_r, cat_n, ip_cat_int, ip_cat_ref, ip_cat_long, ip_rf_some, Nat.reduceAdd, Nat.reduceLeDiff, Nat.reduceLT, Nat.le_refl, Nat.zero_le, M1 _ _ _ _ _ _ _ _ rfl, up_eq, true_or, Bool.false_eq_true, Bool.true_eq_false, if_true, if_false, not_true_eq_false, not_false_eq_true, zle, eq_self]
end S29b
