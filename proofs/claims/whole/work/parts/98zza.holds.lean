/-! READ: what the codes of a claim say of a set -/
theorem dq_no : ∀ cs : List CD, cs.foldl dq none = none := by
  intro cs
  induction cs with
  | nil => rfl
  | cons q r ih => exact ih
/-- the codes as they lie in the model -/
def CDX (CS : List CD) (K : Nat → Nat → Int32) : Prop := K 265 19 = Int32.ofNat CS.length ∧ ∀ i, i < CS.length → K 278 i = Int32.ofNat (CS.getD i (0, 0, 0)).1 ∧ K 279 i = Int32.ofNat (CS.getD i (0, 0, 0)).2.1 ∧ K 280 i = Int32.ofNat (CS.getD i (0, 0, 0)).2.2
def PL (st : List Nat) (K : Nat → Nat → Int32) : Prop := ∀ i, i < st.length → K 288 (st.length - 1 - i) = Int32.ofNat (st.getD i 0)
section HO
variable {n d t c s : Nat} {K : Nat → Nat → Int32} {L : Nat → Nat → Int64} {R : Nat → Nat → Option Nat} {nc ns : Nat} {nx : Bool} {CS : List CD}
theorem sum_le : ∀ (l : List Nat), (∀ x, x ∈ l → x ≤ 1) → l.sum ≤ l.length := by
  intro l
  induction l with
  | nil => intro _; exact Nat.le_refl _
  | cons x r ih =>
    intro h
    have h1 := h x (List.mem_cons_self ..)
    have h2 := ih (fun y hy => h y (List.mem_cons_of_mem _ hy))
    rw [List.sum_cons, List.length_cons]; omega
/-- counting the last so many -/
theorem t185c (hR : LYR R) {st : List Nat} {x1 : Int32} {k : Nat} (P : PL st K) (h1 : ∀ x, x ∈ st → x ≤ 1) (hl : st.length ≤ 400) : ∀ j acc, j ≤ st.length → ∃ l5, ∀ D, rf D 185 103 [some (.ref 265), some (.int x1), some (.int (Int32.ofNat st.length)), some (.int (Int32.ofNat k)), some (.int (Int32.ofNat acc)), some (.int (Int32.ofNat (st.length - j)))] [] (SH n, K, L, R, nc, ns, nx) = rf D 185 135 [some (.ref 265), some (.int x1), some (.int (Int32.ofNat st.length)), some (.int (Int32.ofNat k)), some (.int (Int32.ofNat (acc + (st.take j).sum))), l5] [] (SH n, K, L, R, nc, ns, nx) := by
  intro j
  induction j with
  | zero =>
    intro acc hj
    refine ⟨some (.int (Int32.ofNat (st.length - 0))), fun D => ?_⟩
    have g : (Int32.ofNat st.length ≤ Int32.ofNat (st.length - 0)) = True := eq_true (by rw [Nat.sub_zero]; exact Int32.le_rfl)
    rw [e185_103, List.take_zero]
    simp only [e185_105, e185_106, g, List.sum_nil, Nat.add_zero, Bool.false_eq_true, Bool.true_eq_false, if_true, if_false, not_true_eq_false, not_false_eq_true, zle, eq_self]
  | succ j ih =>
    intro acc hj
    have g : (Int32.ofNat st.length ≤ Int32.ofNat (st.length - (j + 1))) = False := eq_false (fun e => by have := (nu_le (by omega) (by omega)).mp e; omega)
    have e1 : Int32.ofNat (st.length - (j + 1)) + 1 = Int32.ofNat (st.length - j) := by
      rw [show st.length - j = st.length - (j + 1) + 1 by omega]; exact nu_add (s := 1)
    have pj := P j (by omega)
    rw [show st.length - 1 - j = st.length - (j + 1) by omega] at pj
    have l1 : st.length - (j + 1) < 2147483648 := by omega
    have l2 : st.length - (j + 1) < 420 := by omega
    have xj : st.getD j 0 ≤ 1 := h1 _ (by rw [getD_in (by omega)]; exact List.getElem_mem (by omega))
    have tk : (st.take (j + 1)).sum = (st.take j).sum + st.getD j 0 := by
      rw [List.take_succ_eq_append_getElem (by omega), List.sum_append, ← getD_in (by omega)]
      simp
    have tl : (st.take j).sum ≤ j := by
      have := sum_le (st.take j) (fun x hx => h1 x (List.mem_of_mem_take hx))
      rw [List.length_take] at this
      omega
    have e4 : Int32.ofNat acc + 1 = Int32.ofNat (acc + 1) := nu_add (s := 1)
    have e5 : Int32.ofNat acc + 0 = Int32.ofNat (acc + 0) := by rw [Int32.add_zero]; rfl
    have hx : st.getD j 0 = 0 ∨ st.getD j 0 = 1 := by omega
    rcases hx with hx | hx
    · rw [hx] at pj tk
      have pj : K 288 (st.length - (j + 1)) = 0 := pj
      · obtain ⟨l5, A⟩ := ih (acc + 0) (by omega)
        refine ⟨l5, fun D => ?_⟩
        rw [tk, show acc + ((st.take j).sum + 0) = acc + 0 + (st.take j).sum by omega, ← A D, e185_103]
        simp only [e185_105, e185_106, e185_109, e185_111, e185_112, e185_115, e185_117, e185_118, e185_121, e185_122, e185_125, e185_126, e185_127, e185_129, e185_132, rk_n, rk_v, nl_n, nl_i, nl_r, cat_n, ip_cat_int, ip_cat_ref, ip_cat_long, ip_rf_some, Nat.reduceAdd, Nat.reduceLeDiff, Nat.reduceLT, Nat.le_refl, Nat.zero_le, hR, g, ia_lit, nu_i, nu_tn, l1, l2, pj, e5, e1, Bool.false_eq_true, Bool.true_eq_false, if_true, if_false, not_true_eq_false, not_false_eq_true, zle, eq_self]
    · rw [hx] at pj tk
      have pj : K 288 (st.length - (j + 1)) = 1 := pj
      · obtain ⟨l5, A⟩ := ih (acc + 1) (by omega)
        refine ⟨l5, fun D => ?_⟩
        rw [tk, show acc + ((st.take j).sum + 1) = acc + 1 + (st.take j).sum by omega, ← A D, e185_103]
        simp only [e185_105, e185_106, e185_109, e185_111, e185_112, e185_115, e185_117, e185_118, e185_121, e185_122, e185_125, e185_126, e185_127, e185_129, e185_132, rk_n, rk_v, nl_n, nl_i, nl_r, cat_n, ip_cat_int, ip_cat_ref, ip_cat_long, ip_rf_some, Nat.reduceAdd, Nat.reduceLeDiff, Nat.reduceLT, Nat.le_refl, Nat.zero_le, hR, g, ia_lit, nu_i, nu_tn, l1, l2, pj, e4, e1, (by decide : ¬ (1 : Int32) = 0), Bool.false_eq_true, Bool.true_eq_false, if_true, if_false, not_true_eq_false, not_false_eq_true, zle, eq_self]
/-- one code after another -/
theorem t185 (hR : LYR R) (hs : s < 256) (hc8 : c ≤ 8) (hok : okc c CS) (hl : CS.length ≤ 400) : ∀ m k st K (l4 l5 : Option Value), k + m = CS.length → CDX CS K → PL st K → (∀ x, x ∈ st → x ≤ 1) → st.length ≤ k → (∃ h, (CS.drop k).foldl dq (some st.length) = some h) → ∃ K' l4' l5', (∀ D, 1 ≤ D → rf D 185 4 [some (.ref 265), some (.int (Int32.ofNat s)), some (.int (Int32.ofNat st.length)), some (.int (Int32.ofNat k)), l4, l5] [] (SH n, K, L, R, nc, ns, nx) = rf D 185 4 [some (.ref 265), some (.int (Int32.ofNat s)), some (.int (Int32.ofNat ((CS.drop k).foldl (xq s) st).length)), some (.int (Int32.ofNat CS.length)), l4', l5'] [] (SH n, K', L, R, nc, ns, nx)) ∧ PL ((CS.drop k).foldl (xq s) st) K' ∧ onlyP (fun a _ => a = 288) K K' := by
  intro m
  induction m with
  | zero =>
    intro k st K l4 l5 hk C P h1 h2 hd
    have e : k = CS.length := by omega
    subst e
    rw [List.drop_length]
    exact ⟨K, l4, l5, fun D hD => rfl, P, onlyP_refl⟩
  | succ m ih =>
    intro k st K l4 l5 hk C P h1 h2 hd
    have hkl : k < CS.length := by omega
    obtain ⟨hd, hdd⟩ := hd
    have dr : CS.drop k = CS.getD k (0, 0, 0) :: CS.drop (k + 1) := by
      rw [List.drop_eq_getElem_cons hkl]; congr 1; simp [List.getD, hkl]
    obtain ⟨c1, c2, c3⟩ := C.2 k hkl
    have okk := hok (CS.getD k (0, 0, 0)) (by
      have : CS.getD k (0, 0, 0) = CS[k] := by simp [List.getD, hkl]
      rw [this]; exact List.getElem_mem hkl)
    rw [dr] at hdd ⊢
    rw [List.foldl_cons] at hdd ⊢
    generalize CS.getD k (0, 0, 0) = q at *
    obtain ⟨q1, q2, q3⟩ := q
    dsimp only at c1 c2 c3 okk
    have g : (Int32.ofNat CS.length ≤ Int32.ofNat k) = False := eq_false (fun e => by have := (nu_le (by omega) (by omega)).mp e; omega)
    have lk : k < 2147483648 := by omega
    have k4 : k < 420 := by omega
    have e1 : Int32.ofNat k + 1 = Int32.ofNat (k + 1) := nu_add (s := 1)
    have C0 := C.1
    have STEP : ∀ st' K' (l4' l5' : Option Value), dq (some st.length) (q1, q2, q3) = some st'.length → xq s st (q1, q2, q3) = st' → PL st' K' → (∀ x, x ∈ st' → x ≤ 1) → st'.length ≤ k + 1 → onlyP (fun a _ => a = 288) K K' → (∀ D, 1 ≤ D → rf D 185 4 [some (.ref 265), some (.int (Int32.ofNat s)), some (.int (Int32.ofNat st.length)), some (.int (Int32.ofNat k)), l4, l5] [] (SH n, K, L, R, nc, ns, nx) = rf D 185 4 [some (.ref 265), some (.int (Int32.ofNat s)), some (.int (Int32.ofNat st'.length)), some (.int (Int32.ofNat (k + 1))), l4', l5'] [] (SH n, K', L, R, nc, ns, nx)) → ∃ K'' l4'' l5'', (∀ D, 1 ≤ D → rf D 185 4 [some (.ref 265), some (.int (Int32.ofNat s)), some (.int (Int32.ofNat st.length)), some (.int (Int32.ofNat k)), l4, l5] [] (SH n, K, L, R, nc, ns, nx) = rf D 185 4 [some (.ref 265), some (.int (Int32.ofNat s)), some (.int (Int32.ofNat ((CS.drop (k + 1)).foldl (xq s) (xq s st (q1, q2, q3))).length)), some (.int (Int32.ofNat CS.length)), l4'', l5''] [] (SH n, K'', L, R, nc, ns, nx)) ∧ PL ((CS.drop (k + 1)).foldl (xq s) (xq s st (q1, q2, q3))) K'' ∧ onlyP (fun a _ => a = 288) K K'' := by
      intro st' K' l4' l5' d1 x1 P' h1' h2' O A
      rw [d1] at hdd
      rw [x1]
      have C' : CDX CS K' := ⟨by rw [O 265 19 (by omega)]; exact C.1, fun i hi => by rw [O 278 i (by omega), O 279 i (by omega), O 280 i (by omega)]; exact C.2 i hi⟩
      obtain ⟨K2, l42, l52, A2, P2, O2⟩ := ih (k + 1) st' K' l4' l5' (by omega) C' P' h1' h2' ⟨hd, hdd⟩
      exact ⟨K2, l42, l52, fun D hD => (A D hD).trans (A2 D hD), P2, onlyP_tr O O2⟩
    have ls : st.length < 2147483648 := by omega
    have l42 : st.length < 420 := by omega
    have hq : q1 = 0 ∨ q1 = 1 ∨ q1 = 2 ∨ q1 = 3 ∨ q1 = 4 := by omega
    rcases hq with rfl | rfl | rfl | rfl | rfl
    · have c1 : K 278 k = 0 := c1
      have q2c := okk.2.2.1 rfl
      have hb2 := fun d h => hasB (d := d) (h := h) (s := s) (k := q2) hs (by omega)
      have en : Int32.ofNat st.length + 1 = Int32.ofNat (st.length + 1) := nu_add (s := 1)
      have vb : (if s.testBit q2 = true then (1 : Int32) else 0) = Int32.ofNat (vBit q2 s) := by unfold vBit; split <;> rfl
      have vb01 : Int32.ofNat (vBit q2 s) = 0 ∨ Int32.ofNat (vBit q2 s) = 1 := by unfold vBit; split; exact Or.inr rfl; exact Or.inl rfl
      rw [vb] at hb2
      refine STEP (vBit q2 s :: st) (ip_up K 288 st.length (Int32.ofNat (vBit q2 s))) l4 l5 rfl rfl (fun i hi => ?_) (fun x hx => ?_) (by rw [List.length_cons]; omega) (onlyP_up onlyP_refl rfl) (fun D hD => ?_)
      · rw [List.length_cons]
        cases i with
        | zero => rw [show st.length + 1 - 1 - 0 = st.length by omega, up_eq, List.getD_cons_zero]
        | succ i =>
          rw [List.length_cons] at hi
          rw [show st.length + 1 - 1 - (i + 1) = st.length - 1 - i by omega, up_k (by omega), List.getD_cons_succ]; exact P i (by omega)
      · rcases List.mem_cons.mp hx with rfl | hx
        · exact le1_bit s
        · exact h1 x hx
      · obtain ⟨E, rfl⟩ : ∃ E, D = E + 1 := ⟨D - 1, by omega⟩
        rw [e185_4, List.length_cons]
        simp only [e185_0, e185_1, e185_2, e185_3, e185_5, e185_6, e185_9, e185_12, e185_13, e185_16, e185_17, e185_18, e185_21, e185_22, e185_25, e185_26, e185_27, e185_28, e185_31, e185_32, e185_33, e185_36, e185_37, e185_40, e185_43, e185_44, e185_47, e185_48, e185_49, e185_50, e185_53, e185_54, e185_57, e185_58, e185_59, e185_60, e185_61, e185_64, e185_65, e185_66, e185_67, e185_68, e185_71, e185_72, e185_75, e185_76, e185_77, e185_80, e185_81, e185_84, e185_85, e185_86, e185_87, e185_90, e185_91, e185_93, e185_94, e185_95, e185_98, e185_99, e185_100, e185_101, e185_105, e185_106, e185_109, e185_111, e185_112, e185_115, e185_117, e185_118, e185_121, e185_122, e185_125, e185_126, e185_127, e185_129, e185_132, e185_135, e185_136, e185_137, e185_140, e185_141, e185_142, e185_143, e185_144, e185_145, e185_148, e185_149, e185_151, e185_152, e185_155, e185_156, e185_157, e185_160, e185_161, e185_164, e185_165, e185_166, e185_169, e185_172, e185_175, e185_176, e185_179, e185_180, e185_181, e185_182, e185_183, e185_186, e185_187, e185_188, e185_189, e185_192, e185_193, e185_196, e185_197, e185_198, e185_199, e185_200, e185_203, e185_204, e185_207, e185_208, e185_209, e185_212, e185_213, e185_216, e185_217, e185_220, e185_221, e185_224, e185_225, e185_226, e185_227, e185_228, e185_231, e185_232, e185_235, e185_236, e185_237, e185_240, e185_241, e185_244, e185_245, e185_246, e185_249, e185_252, e185_253, e185_256, e185_259, e185_260, e185_263, e185_264, e185_265, e185_268, e185_269, e185_272, e185_273, rk_n, rk_v, nl_n, nl_i, nl_r, cat_n, ip_cat_int, ip_cat_ref, ip_cat_long, ip_rf_some, Nat.reduceAdd, Nat.reduceLeDiff, Nat.reduceLT, Nat.le_refl, Nat.zero_le, hR, C0, g, ia_lit, nu_i, nu_tn, lk, k4, ls, l42, c1, c2, hb2, vb01, en, e1, Bool.false_eq_true, Bool.true_eq_false, if_true, if_false, not_true_eq_false, not_false_eq_true, zle, eq_self]
    · have c1 : K 278 k = 1 := c1
      have d1 : (if 1 ≤ st.length then some st.length else none : Option Nat) = dq (some st.length) (1, q2, q3) := rfl
      have hn : 1 ≤ st.length := by
        refine Classical.byContradiction (fun e => ?_)
        rw [← d1, if_neg e, dq_no] at hdd
        cases hdd
      obtain ⟨x, r, rfl⟩ : ∃ x r, st = x :: r := by
        cases st with
        | nil => exact absurd hn (by simp)
        | cons x r => exact ⟨x, r, rfl⟩
      have x1 := h1 x (List.mem_cons_self ..)
      have p0 := P 0 (by simp)
      rw [List.length_cons, List.getD_cons_zero, show r.length + 1 - 1 - 0 = r.length by omega] at p0
      rw [List.length_cons] at ls l42 hn h2
      have en : Int32.ofNat (r.length + 1) - 1 = Int32.ofNat r.length := by
        rw [show Int32.ofNat (r.length + 1) = Int32.ofNat r.length + 1 from (nu_add (s := 1)).symm, Int32.add_sub_cancel]
      have lr : r.length < 2147483648 := by omega
      have lr4 : r.length < 420 := by omega
      refine STEP ((1 - x) :: r) (ip_up K 288 r.length (Int32.ofNat (1 - x))) l4 l5 (by rw [← d1, if_pos (by simp)]; rfl) rfl (fun i hi => ?_) (fun y hy => ?_) (by rw [List.length_cons]; omega) (onlyP_up onlyP_refl rfl) (fun D hD => ?_)
      · rw [List.length_cons]
        cases i with
        | zero => rw [show r.length + 1 - 1 - 0 = r.length by omega, up_eq, List.getD_cons_zero]
        | succ i =>
          rw [List.length_cons] at hi
          have := P (i + 1) (by rw [List.length_cons]; omega)
          rw [List.length_cons, show r.length + 1 - 1 - (i + 1) = r.length - 1 - i by omega, List.getD_cons_succ] at this
          rw [show r.length + 1 - 1 - (i + 1) = r.length - 1 - i by omega, up_k (by omega), List.getD_cons_succ]; exact this
      · rcases List.mem_cons.mp hy with rfl | hy
        · omega
        · exact h1 y (List.mem_cons_of_mem _ hy)
      · rw [e185_4, List.length_cons, List.length_cons]
        have hx : x = 0 ∨ x = 1 := by omega
        rcases hx with rfl | rfl
        · have p0 : K 288 r.length = 0 := p0
          have z1 : Int32.ofNat (1 - 0) = 1 := rfl
          simp only [e185_0, e185_1, e185_2, e185_3, e185_5, e185_6, e185_9, e185_12, e185_13, e185_16, e185_17, e185_18, e185_21, e185_22, e185_25, e185_26, e185_27, e185_28, e185_31, e185_32, e185_33, e185_36, e185_37, e185_40, e185_43, e185_44, e185_47, e185_48, e185_49, e185_50, e185_53, e185_54, e185_57, e185_58, e185_59, e185_60, e185_61, e185_64, e185_65, e185_66, e185_67, e185_68, e185_71, e185_72, e185_75, e185_76, e185_77, e185_80, e185_81, e185_84, e185_85, e185_86, e185_87, e185_90, e185_91, e185_93, e185_94, e185_95, e185_98, e185_99, e185_100, e185_101, e185_105, e185_106, e185_109, e185_111, e185_112, e185_115, e185_117, e185_118, e185_121, e185_122, e185_125, e185_126, e185_127, e185_129, e185_132, e185_135, e185_136, e185_137, e185_140, e185_141, e185_142, e185_143, e185_144, e185_145, e185_148, e185_149, e185_151, e185_152, e185_155, e185_156, e185_157, e185_160, e185_161, e185_164, e185_165, e185_166, e185_169, e185_172, e185_175, e185_176, e185_179, e185_180, e185_181, e185_182, e185_183, e185_186, e185_187, e185_188, e185_189, e185_192, e185_193, e185_196, e185_197, e185_198, e185_199, e185_200, e185_203, e185_204, e185_207, e185_208, e185_209, e185_212, e185_213, e185_216, e185_217, e185_220, e185_221, e185_224, e185_225, e185_226, e185_227, e185_228, e185_231, e185_232, e185_235, e185_236, e185_237, e185_240, e185_241, e185_244, e185_245, e185_246, e185_249, e185_252, e185_253, e185_256, e185_259, e185_260, e185_263, e185_264, e185_265, e185_268, e185_269, e185_272, e185_273, rk_n, rk_v, nl_n, nl_i, nl_r, cat_n, ip_cat_int, ip_cat_ref, ip_cat_long, ip_rf_some, Nat.reduceAdd, Nat.reduceLeDiff, Nat.reduceLT, Nat.le_refl, Nat.zero_le, hR, C0, g, ia_lit, nu_i, nu_tn, lk, k4, lr, lr4, c1, en, p0, z1, e1, (by decide : ¬ (1 : Int32) = 0), true_or, or_true, Bool.false_eq_true, Bool.true_eq_false, if_true, if_false, not_true_eq_false, not_false_eq_true, zle, eq_self]
        · have p0 : K 288 r.length = 1 := p0
          have z1 : Int32.ofNat (1 - 1) = 0 := rfl
          simp only [e185_0, e185_1, e185_2, e185_3, e185_5, e185_6, e185_9, e185_12, e185_13, e185_16, e185_17, e185_18, e185_21, e185_22, e185_25, e185_26, e185_27, e185_28, e185_31, e185_32, e185_33, e185_36, e185_37, e185_40, e185_43, e185_44, e185_47, e185_48, e185_49, e185_50, e185_53, e185_54, e185_57, e185_58, e185_59, e185_60, e185_61, e185_64, e185_65, e185_66, e185_67, e185_68, e185_71, e185_72, e185_75, e185_76, e185_77, e185_80, e185_81, e185_84, e185_85, e185_86, e185_87, e185_90, e185_91, e185_93, e185_94, e185_95, e185_98, e185_99, e185_100, e185_101, e185_105, e185_106, e185_109, e185_111, e185_112, e185_115, e185_117, e185_118, e185_121, e185_122, e185_125, e185_126, e185_127, e185_129, e185_132, e185_135, e185_136, e185_137, e185_140, e185_141, e185_142, e185_143, e185_144, e185_145, e185_148, e185_149, e185_151, e185_152, e185_155, e185_156, e185_157, e185_160, e185_161, e185_164, e185_165, e185_166, e185_169, e185_172, e185_175, e185_176, e185_179, e185_180, e185_181, e185_182, e185_183, e185_186, e185_187, e185_188, e185_189, e185_192, e185_193, e185_196, e185_197, e185_198, e185_199, e185_200, e185_203, e185_204, e185_207, e185_208, e185_209, e185_212, e185_213, e185_216, e185_217, e185_220, e185_221, e185_224, e185_225, e185_226, e185_227, e185_228, e185_231, e185_232, e185_235, e185_236, e185_237, e185_240, e185_241, e185_244, e185_245, e185_246, e185_249, e185_252, e185_253, e185_256, e185_259, e185_260, e185_263, e185_264, e185_265, e185_268, e185_269, e185_272, e185_273, rk_n, rk_v, nl_n, nl_i, nl_r, cat_n, ip_cat_int, ip_cat_ref, ip_cat_long, ip_rf_some, Nat.reduceAdd, Nat.reduceLeDiff, Nat.reduceLT, Nat.le_refl, Nat.zero_le, hR, C0, g, ia_lit, nu_i, nu_tn, lk, k4, lr, lr4, c1, en, p0, z1, e1, (by decide : ¬ (1 : Int32) = 0), true_or, or_true, Bool.false_eq_true, Bool.true_eq_false, if_true, if_false, not_true_eq_false, not_false_eq_true, zle, eq_self]
    · have c1 : K 278 k = 2 := c1
      have d1 : (if 2 ≤ st.length then some (st.length - 1) else none : Option Nat) = dq (some st.length) (2, q2, q3) := rfl
      have hn : 2 ≤ st.length := by
        refine Classical.byContradiction (fun e => ?_)
        rw [← d1, if_neg e, dq_no] at hdd
        cases hdd
      obtain ⟨x, y, r, rfl⟩ : ∃ x y r, st = x :: y :: r := by
        cases st with
        | nil => exact absurd hn (by simp)
        | cons x r =>
          cases r with
          | nil => exact absurd hn (by simp)
          | cons y r => exact ⟨x, y, r, rfl⟩
      have x1 := h1 x (List.mem_cons_self ..)
      have y1 := h1 y (List.mem_cons_of_mem _ (List.mem_cons_self ..))
      have p0 := P 0 (by simp)
      have p1 := P 1 (by simp)
      simp only [List.length_cons, List.getD_cons_zero, List.getD_cons_succ] at p0 p1
      rw [show r.length + 1 + 1 - 1 - 0 = r.length + 1 by omega] at p0
      rw [show r.length + 1 + 1 - 1 - 1 = r.length by omega] at p1
      simp only [List.length_cons] at ls l42 hn h2
      have en : Int32.ofNat (r.length + 1 + 1) + -1 = Int32.ofNat (r.length + 1) := by
        rw [show Int32.ofNat (r.length + 1 + 1) = Int32.ofNat (r.length + 1) + 1 from (nu_add (s := 1)).symm, Int32.add_assoc, show (1 : Int32) + -1 = 0 by decide, Int32.add_zero]
      have en2 : Int32.ofNat (r.length + 1) - 1 = Int32.ofNat r.length := by
        rw [show Int32.ofNat (r.length + 1) = Int32.ofNat r.length + 1 from (nu_add (s := 1)).symm, Int32.add_sub_cancel]
      have lr : r.length < 2147483648 := by omega
      have lr4 : r.length < 420 := by omega
      have lq : r.length + 1 < 2147483648 := by omega
      have lq4 : r.length + 1 < 420 := by omega
      refine STEP ((y * x) :: r) (ip_up K 288 r.length (Int32.ofNat (y * x))) l4 l5 (by rw [← d1, if_pos (by simp)]; rfl) rfl (fun i hi => ?_) (fun u hu => ?_) (by rw [List.length_cons]; omega) (onlyP_up onlyP_refl rfl) (fun D hD => ?_)
      · rw [List.length_cons]
        cases i with
        | zero => rw [show r.length + 1 - 1 - 0 = r.length by omega, up_eq, List.getD_cons_zero]
        | succ i =>
          rw [List.length_cons] at hi
          have := P (i + 2) (by simp only [List.length_cons]; omega)
          simp only [List.length_cons, List.getD_cons_succ] at this
          rw [show r.length + 1 + 1 - 1 - (i + 2) = r.length - 1 - i by omega] at this
          rw [show r.length + 1 - 1 - (i + 1) = r.length - 1 - i by omega, up_k (by omega), List.getD_cons_succ]; exact this
      · rcases List.mem_cons.mp hu with rfl | hu
        · have hx : x = 0 ∨ x = 1 := by omega
          rcases hx with rfl | rfl <;> omega
        · exact h1 u (List.mem_cons_of_mem _ (List.mem_cons_of_mem _ hu))
      · rw [e185_4]
        simp only [List.length_cons]
        have hx : x = 0 ∨ x = 1 := by omega
        have hy : y = 0 ∨ y = 1 := by omega
        rcases hx with rfl | rfl <;> rcases hy with rfl | rfl
        · have p0 : K 288 (r.length + 1) = 0 := p0
          have p1 : K 288 r.length = 0 := p1
          have z1 : Int32.ofNat (0 * 0) = 0 := rfl
          simp only [e185_0, e185_1, e185_2, e185_3, e185_5, e185_6, e185_9, e185_12, e185_13, e185_16, e185_17, e185_18, e185_21, e185_22, e185_25, e185_26, e185_27, e185_28, e185_31, e185_32, e185_33, e185_36, e185_37, e185_40, e185_43, e185_44, e185_47, e185_48, e185_49, e185_50, e185_53, e185_54, e185_57, e185_58, e185_59, e185_60, e185_61, e185_64, e185_65, e185_66, e185_67, e185_68, e185_71, e185_72, e185_75, e185_76, e185_77, e185_80, e185_81, e185_84, e185_85, e185_86, e185_87, e185_90, e185_91, e185_93, e185_94, e185_95, e185_98, e185_99, e185_100, e185_101, e185_105, e185_106, e185_109, e185_111, e185_112, e185_115, e185_117, e185_118, e185_121, e185_122, e185_125, e185_126, e185_127, e185_129, e185_132, e185_135, e185_136, e185_137, e185_140, e185_141, e185_142, e185_143, e185_144, e185_145, e185_148, e185_149, e185_151, e185_152, e185_155, e185_156, e185_157, e185_160, e185_161, e185_164, e185_165, e185_166, e185_169, e185_172, e185_175, e185_176, e185_179, e185_180, e185_181, e185_182, e185_183, e185_186, e185_187, e185_188, e185_189, e185_192, e185_193, e185_196, e185_197, e185_198, e185_199, e185_200, e185_203, e185_204, e185_207, e185_208, e185_209, e185_212, e185_213, e185_216, e185_217, e185_220, e185_221, e185_224, e185_225, e185_226, e185_227, e185_228, e185_231, e185_232, e185_235, e185_236, e185_237, e185_240, e185_241, e185_244, e185_245, e185_246, e185_249, e185_252, e185_253, e185_256, e185_259, e185_260, e185_263, e185_264, e185_265, e185_268, e185_269, e185_272, e185_273, rk_n, rk_v, nl_n, nl_i, nl_r, cat_n, ip_cat_int, ip_cat_ref, ip_cat_long, ip_rf_some, Nat.reduceAdd, Nat.reduceLeDiff, Nat.reduceLT, Nat.le_refl, Nat.zero_le, hR, C0, g, ia_lit, nu_i, nu_tn, lk, k4, lr, lr4, lq, lq4, c1, en, en2, p0, p1, z1, e1, (by decide : ¬ (2 : Int32) = 0 ∧ ¬ (2 : Int32) = 1 ∧ ¬ (2 : Int32) = 4 ∧ ¬ (1 : Int32) = 0), true_or, or_true, Bool.false_eq_true, Bool.true_eq_false, if_true, if_false, not_true_eq_false, not_false_eq_true, zle, eq_self]
        · have p0 : K 288 (r.length + 1) = 0 := p0
          have p1 : K 288 r.length = 1 := p1
          have z1 : Int32.ofNat (1 * 0) = 0 := rfl
          simp only [e185_0, e185_1, e185_2, e185_3, e185_5, e185_6, e185_9, e185_12, e185_13, e185_16, e185_17, e185_18, e185_21, e185_22, e185_25, e185_26, e185_27, e185_28, e185_31, e185_32, e185_33, e185_36, e185_37, e185_40, e185_43, e185_44, e185_47, e185_48, e185_49, e185_50, e185_53, e185_54, e185_57, e185_58, e185_59, e185_60, e185_61, e185_64, e185_65, e185_66, e185_67, e185_68, e185_71, e185_72, e185_75, e185_76, e185_77, e185_80, e185_81, e185_84, e185_85, e185_86, e185_87, e185_90, e185_91, e185_93, e185_94, e185_95, e185_98, e185_99, e185_100, e185_101, e185_105, e185_106, e185_109, e185_111, e185_112, e185_115, e185_117, e185_118, e185_121, e185_122, e185_125, e185_126, e185_127, e185_129, e185_132, e185_135, e185_136, e185_137, e185_140, e185_141, e185_142, e185_143, e185_144, e185_145, e185_148, e185_149, e185_151, e185_152, e185_155, e185_156, e185_157, e185_160, e185_161, e185_164, e185_165, e185_166, e185_169, e185_172, e185_175, e185_176, e185_179, e185_180, e185_181, e185_182, e185_183, e185_186, e185_187, e185_188, e185_189, e185_192, e185_193, e185_196, e185_197, e185_198, e185_199, e185_200, e185_203, e185_204, e185_207, e185_208, e185_209, e185_212, e185_213, e185_216, e185_217, e185_220, e185_221, e185_224, e185_225, e185_226, e185_227, e185_228, e185_231, e185_232, e185_235, e185_236, e185_237, e185_240, e185_241, e185_244, e185_245, e185_246, e185_249, e185_252, e185_253, e185_256, e185_259, e185_260, e185_263, e185_264, e185_265, e185_268, e185_269, e185_272, e185_273, rk_n, rk_v, nl_n, nl_i, nl_r, cat_n, ip_cat_int, ip_cat_ref, ip_cat_long, ip_rf_some, Nat.reduceAdd, Nat.reduceLeDiff, Nat.reduceLT, Nat.le_refl, Nat.zero_le, hR, C0, g, ia_lit, nu_i, nu_tn, lk, k4, lr, lr4, lq, lq4, c1, en, en2, p0, p1, z1, e1, (by decide : ¬ (2 : Int32) = 0 ∧ ¬ (2 : Int32) = 1 ∧ ¬ (2 : Int32) = 4 ∧ ¬ (1 : Int32) = 0), true_or, or_true, Bool.false_eq_true, Bool.true_eq_false, if_true, if_false, not_true_eq_false, not_false_eq_true, zle, eq_self]
        · have p0 : K 288 (r.length + 1) = 1 := p0
          have p1 : K 288 r.length = 0 := p1
          have z1 : Int32.ofNat (0 * 1) = 0 := rfl
          simp only [e185_0, e185_1, e185_2, e185_3, e185_5, e185_6, e185_9, e185_12, e185_13, e185_16, e185_17, e185_18, e185_21, e185_22, e185_25, e185_26, e185_27, e185_28, e185_31, e185_32, e185_33, e185_36, e185_37, e185_40, e185_43, e185_44, e185_47, e185_48, e185_49, e185_50, e185_53, e185_54, e185_57, e185_58, e185_59, e185_60, e185_61, e185_64, e185_65, e185_66, e185_67, e185_68, e185_71, e185_72, e185_75, e185_76, e185_77, e185_80, e185_81, e185_84, e185_85, e185_86, e185_87, e185_90, e185_91, e185_93, e185_94, e185_95, e185_98, e185_99, e185_100, e185_101, e185_105, e185_106, e185_109, e185_111, e185_112, e185_115, e185_117, e185_118, e185_121, e185_122, e185_125, e185_126, e185_127, e185_129, e185_132, e185_135, e185_136, e185_137, e185_140, e185_141, e185_142, e185_143, e185_144, e185_145, e185_148, e185_149, e185_151, e185_152, e185_155, e185_156, e185_157, e185_160, e185_161, e185_164, e185_165, e185_166, e185_169, e185_172, e185_175, e185_176, e185_179, e185_180, e185_181, e185_182, e185_183, e185_186, e185_187, e185_188, e185_189, e185_192, e185_193, e185_196, e185_197, e185_198, e185_199, e185_200, e185_203, e185_204, e185_207, e185_208, e185_209, e185_212, e185_213, e185_216, e185_217, e185_220, e185_221, e185_224, e185_225, e185_226, e185_227, e185_228, e185_231, e185_232, e185_235, e185_236, e185_237, e185_240, e185_241, e185_244, e185_245, e185_246, e185_249, e185_252, e185_253, e185_256, e185_259, e185_260, e185_263, e185_264, e185_265, e185_268, e185_269, e185_272, e185_273, rk_n, rk_v, nl_n, nl_i, nl_r, cat_n, ip_cat_int, ip_cat_ref, ip_cat_long, ip_rf_some, Nat.reduceAdd, Nat.reduceLeDiff, Nat.reduceLT, Nat.le_refl, Nat.zero_le, hR, C0, g, ia_lit, nu_i, nu_tn, lk, k4, lr, lr4, lq, lq4, c1, en, en2, p0, p1, z1, e1, (by decide : ¬ (2 : Int32) = 0 ∧ ¬ (2 : Int32) = 1 ∧ ¬ (2 : Int32) = 4 ∧ ¬ (1 : Int32) = 0), true_or, or_true, Bool.false_eq_true, Bool.true_eq_false, if_true, if_false, not_true_eq_false, not_false_eq_true, zle, eq_self]
        · have p0 : K 288 (r.length + 1) = 1 := p0
          have p1 : K 288 r.length = 1 := p1
          have z1 : Int32.ofNat (1 * 1) = 1 := rfl
          simp only [e185_0, e185_1, e185_2, e185_3, e185_5, e185_6, e185_9, e185_12, e185_13, e185_16, e185_17, e185_18, e185_21, e185_22, e185_25, e185_26, e185_27, e185_28, e185_31, e185_32, e185_33, e185_36, e185_37, e185_40, e185_43, e185_44, e185_47, e185_48, e185_49, e185_50, e185_53, e185_54, e185_57, e185_58, e185_59, e185_60, e185_61, e185_64, e185_65, e185_66, e185_67, e185_68, e185_71, e185_72, e185_75, e185_76, e185_77, e185_80, e185_81, e185_84, e185_85, e185_86, e185_87, e185_90, e185_91, e185_93, e185_94, e185_95, e185_98, e185_99, e185_100, e185_101, e185_105, e185_106, e185_109, e185_111, e185_112, e185_115, e185_117, e185_118, e185_121, e185_122, e185_125, e185_126, e185_127, e185_129, e185_132, e185_135, e185_136, e185_137, e185_140, e185_141, e185_142, e185_143, e185_144, e185_145, e185_148, e185_149, e185_151, e185_152, e185_155, e185_156, e185_157, e185_160, e185_161, e185_164, e185_165, e185_166, e185_169, e185_172, e185_175, e185_176, e185_179, e185_180, e185_181, e185_182, e185_183, e185_186, e185_187, e185_188, e185_189, e185_192, e185_193, e185_196, e185_197, e185_198, e185_199, e185_200, e185_203, e185_204, e185_207, e185_208, e185_209, e185_212, e185_213, e185_216, e185_217, e185_220, e185_221, e185_224, e185_225, e185_226, e185_227, e185_228, e185_231, e185_232, e185_235, e185_236, e185_237, e185_240, e185_241, e185_244, e185_245, e185_246, e185_249, e185_252, e185_253, e185_256, e185_259, e185_260, e185_263, e185_264, e185_265, e185_268, e185_269, e185_272, e185_273, rk_n, rk_v, nl_n, nl_i, nl_r, cat_n, ip_cat_int, ip_cat_ref, ip_cat_long, ip_rf_some, Nat.reduceAdd, Nat.reduceLeDiff, Nat.reduceLT, Nat.le_refl, Nat.zero_le, hR, C0, g, ia_lit, nu_i, nu_tn, lk, k4, lr, lr4, lq, lq4, c1, en, en2, p0, p1, z1, e1, (by decide : ¬ (2 : Int32) = 0 ∧ ¬ (2 : Int32) = 1 ∧ ¬ (2 : Int32) = 4 ∧ ¬ (1 : Int32) = 0), true_or, or_true, Bool.false_eq_true, Bool.true_eq_false, if_true, if_false, not_true_eq_false, not_false_eq_true, zle, eq_self]
    · have c1 : K 278 k = 3 := c1
      have d1 : (if 2 ≤ st.length then some (st.length - 1) else none : Option Nat) = dq (some st.length) (3, q2, q3) := rfl
      have hn : 2 ≤ st.length := by
        refine Classical.byContradiction (fun e => ?_)
        rw [← d1, if_neg e, dq_no] at hdd
        cases hdd
      obtain ⟨x, y, r, rfl⟩ : ∃ x y r, st = x :: y :: r := by
        cases st with
        | nil => exact absurd hn (by simp)
        | cons x r =>
          cases r with
          | nil => exact absurd hn (by simp)
          | cons y r => exact ⟨x, y, r, rfl⟩
      have x1 := h1 x (List.mem_cons_self ..)
      have y1 := h1 y (List.mem_cons_of_mem _ (List.mem_cons_self ..))
      have p0 := P 0 (by simp)
      have p1 := P 1 (by simp)
      simp only [List.length_cons, List.getD_cons_zero, List.getD_cons_succ] at p0 p1
      rw [show r.length + 1 + 1 - 1 - 0 = r.length + 1 by omega] at p0
      rw [show r.length + 1 + 1 - 1 - 1 = r.length by omega] at p1
      simp only [List.length_cons] at ls l42 hn h2
      have en : Int32.ofNat (r.length + 1 + 1) + -1 = Int32.ofNat (r.length + 1) := by
        rw [show Int32.ofNat (r.length + 1 + 1) = Int32.ofNat (r.length + 1) + 1 from (nu_add (s := 1)).symm, Int32.add_assoc, show (1 : Int32) + -1 = 0 by decide, Int32.add_zero]
      have en2 : Int32.ofNat (r.length + 1) - 1 = Int32.ofNat r.length := by
        rw [show Int32.ofNat (r.length + 1) = Int32.ofNat r.length + 1 from (nu_add (s := 1)).symm, Int32.add_sub_cancel]
      have lr : r.length < 2147483648 := by omega
      have lr4 : r.length < 420 := by omega
      have lq : r.length + 1 < 2147483648 := by omega
      have lq4 : r.length + 1 < 420 := by omega
      refine STEP ((y + x - y * x) :: r) (ip_up K 288 r.length (Int32.ofNat (y + x - y * x))) l4 l5 (by rw [← d1, if_pos (by simp)]; rfl) rfl (fun i hi => ?_) (fun u hu => ?_) (by rw [List.length_cons]; omega) (onlyP_up onlyP_refl rfl) (fun D hD => ?_)
      · rw [List.length_cons]
        cases i with
        | zero => rw [show r.length + 1 - 1 - 0 = r.length by omega, up_eq, List.getD_cons_zero]
        | succ i =>
          rw [List.length_cons] at hi
          have := P (i + 2) (by simp only [List.length_cons]; omega)
          simp only [List.length_cons, List.getD_cons_succ] at this
          rw [show r.length + 1 + 1 - 1 - (i + 2) = r.length - 1 - i by omega] at this
          rw [show r.length + 1 - 1 - (i + 1) = r.length - 1 - i by omega, up_k (by omega), List.getD_cons_succ]; exact this
      · rcases List.mem_cons.mp hu with rfl | hu
        · have hx : x = 0 ∨ x = 1 := by omega
          rcases hx with rfl | rfl <;> omega
        · exact h1 u (List.mem_cons_of_mem _ (List.mem_cons_of_mem _ hu))
      · rw [e185_4]
        simp only [List.length_cons]
        have hx : x = 0 ∨ x = 1 := by omega
        have hy : y = 0 ∨ y = 1 := by omega
        rcases hx with rfl | rfl <;> rcases hy with rfl | rfl
        · have p0 : K 288 (r.length + 1) = 0 := p0
          have p1 : K 288 r.length = 0 := p1
          have z1 : Int32.ofNat (0 + 0 - 0 * 0) = 0 := rfl
          simp only [e185_0, e185_1, e185_2, e185_3, e185_5, e185_6, e185_9, e185_12, e185_13, e185_16, e185_17, e185_18, e185_21, e185_22, e185_25, e185_26, e185_27, e185_28, e185_31, e185_32, e185_33, e185_36, e185_37, e185_40, e185_43, e185_44, e185_47, e185_48, e185_49, e185_50, e185_53, e185_54, e185_57, e185_58, e185_59, e185_60, e185_61, e185_64, e185_65, e185_66, e185_67, e185_68, e185_71, e185_72, e185_75, e185_76, e185_77, e185_80, e185_81, e185_84, e185_85, e185_86, e185_87, e185_90, e185_91, e185_93, e185_94, e185_95, e185_98, e185_99, e185_100, e185_101, e185_105, e185_106, e185_109, e185_111, e185_112, e185_115, e185_117, e185_118, e185_121, e185_122, e185_125, e185_126, e185_127, e185_129, e185_132, e185_135, e185_136, e185_137, e185_140, e185_141, e185_142, e185_143, e185_144, e185_145, e185_148, e185_149, e185_151, e185_152, e185_155, e185_156, e185_157, e185_160, e185_161, e185_164, e185_165, e185_166, e185_169, e185_172, e185_175, e185_176, e185_179, e185_180, e185_181, e185_182, e185_183, e185_186, e185_187, e185_188, e185_189, e185_192, e185_193, e185_196, e185_197, e185_198, e185_199, e185_200, e185_203, e185_204, e185_207, e185_208, e185_209, e185_212, e185_213, e185_216, e185_217, e185_220, e185_221, e185_224, e185_225, e185_226, e185_227, e185_228, e185_231, e185_232, e185_235, e185_236, e185_237, e185_240, e185_241, e185_244, e185_245, e185_246, e185_249, e185_252, e185_253, e185_256, e185_259, e185_260, e185_263, e185_264, e185_265, e185_268, e185_269, e185_272, e185_273, rk_n, rk_v, nl_n, nl_i, nl_r, cat_n, ip_cat_int, ip_cat_ref, ip_cat_long, ip_rf_some, Nat.reduceAdd, Nat.reduceLeDiff, Nat.reduceLT, Nat.le_refl, Nat.zero_le, hR, C0, g, ia_lit, nu_i, nu_tn, lk, k4, lr, lr4, lq, lq4, c1, en, en2, p0, p1, z1, e1, (by decide : ¬ (3 : Int32) = 0 ∧ ¬ (3 : Int32) = 1 ∧ ¬ (3 : Int32) = 4 ∧ ¬ (3 : Int32) = 2 ∧ ¬ (1 : Int32) = 0), true_or, or_true, Bool.false_eq_true, Bool.true_eq_false, if_true, if_false, not_true_eq_false, not_false_eq_true, zle, eq_self]
        · have p0 : K 288 (r.length + 1) = 0 := p0
          have p1 : K 288 r.length = 1 := p1
          have z1 : Int32.ofNat (1 + 0 - 1 * 0) = 1 := rfl
          simp only [e185_0, e185_1, e185_2, e185_3, e185_5, e185_6, e185_9, e185_12, e185_13, e185_16, e185_17, e185_18, e185_21, e185_22, e185_25, e185_26, e185_27, e185_28, e185_31, e185_32, e185_33, e185_36, e185_37, e185_40, e185_43, e185_44, e185_47, e185_48, e185_49, e185_50, e185_53, e185_54, e185_57, e185_58, e185_59, e185_60, e185_61, e185_64, e185_65, e185_66, e185_67, e185_68, e185_71, e185_72, e185_75, e185_76, e185_77, e185_80, e185_81, e185_84, e185_85, e185_86, e185_87, e185_90, e185_91, e185_93, e185_94, e185_95, e185_98, e185_99, e185_100, e185_101, e185_105, e185_106, e185_109, e185_111, e185_112, e185_115, e185_117, e185_118, e185_121, e185_122, e185_125, e185_126, e185_127, e185_129, e185_132, e185_135, e185_136, e185_137, e185_140, e185_141, e185_142, e185_143, e185_144, e185_145, e185_148, e185_149, e185_151, e185_152, e185_155, e185_156, e185_157, e185_160, e185_161, e185_164, e185_165, e185_166, e185_169, e185_172, e185_175, e185_176, e185_179, e185_180, e185_181, e185_182, e185_183, e185_186, e185_187, e185_188, e185_189, e185_192, e185_193, e185_196, e185_197, e185_198, e185_199, e185_200, e185_203, e185_204, e185_207, e185_208, e185_209, e185_212, e185_213, e185_216, e185_217, e185_220, e185_221, e185_224, e185_225, e185_226, e185_227, e185_228, e185_231, e185_232, e185_235, e185_236, e185_237, e185_240, e185_241, e185_244, e185_245, e185_246, e185_249, e185_252, e185_253, e185_256, e185_259, e185_260, e185_263, e185_264, e185_265, e185_268, e185_269, e185_272, e185_273, rk_n, rk_v, nl_n, nl_i, nl_r, cat_n, ip_cat_int, ip_cat_ref, ip_cat_long, ip_rf_some, Nat.reduceAdd, Nat.reduceLeDiff, Nat.reduceLT, Nat.le_refl, Nat.zero_le, hR, C0, g, ia_lit, nu_i, nu_tn, lk, k4, lr, lr4, lq, lq4, c1, en, en2, p0, p1, z1, e1, (by decide : ¬ (3 : Int32) = 0 ∧ ¬ (3 : Int32) = 1 ∧ ¬ (3 : Int32) = 4 ∧ ¬ (3 : Int32) = 2 ∧ ¬ (1 : Int32) = 0), true_or, or_true, Bool.false_eq_true, Bool.true_eq_false, if_true, if_false, not_true_eq_false, not_false_eq_true, zle, eq_self]
        · have p0 : K 288 (r.length + 1) = 1 := p0
          have p1 : K 288 r.length = 0 := p1
          have z1 : Int32.ofNat (0 + 1 - 0 * 1) = 1 := rfl
          simp only [e185_0, e185_1, e185_2, e185_3, e185_5, e185_6, e185_9, e185_12, e185_13, e185_16, e185_17, e185_18, e185_21, e185_22, e185_25, e185_26, e185_27, e185_28, e185_31, e185_32, e185_33, e185_36, e185_37, e185_40, e185_43, e185_44, e185_47, e185_48, e185_49, e185_50, e185_53, e185_54, e185_57, e185_58, e185_59, e185_60, e185_61, e185_64, e185_65, e185_66, e185_67, e185_68, e185_71, e185_72, e185_75, e185_76, e185_77, e185_80, e185_81, e185_84, e185_85, e185_86, e185_87, e185_90, e185_91, e185_93, e185_94, e185_95, e185_98, e185_99, e185_100, e185_101, e185_105, e185_106, e185_109, e185_111, e185_112, e185_115, e185_117, e185_118, e185_121, e185_122, e185_125, e185_126, e185_127, e185_129, e185_132, e185_135, e185_136, e185_137, e185_140, e185_141, e185_142, e185_143, e185_144, e185_145, e185_148, e185_149, e185_151, e185_152, e185_155, e185_156, e185_157, e185_160, e185_161, e185_164, e185_165, e185_166, e185_169, e185_172, e185_175, e185_176, e185_179, e185_180, e185_181, e185_182, e185_183, e185_186, e185_187, e185_188, e185_189, e185_192, e185_193, e185_196, e185_197, e185_198, e185_199, e185_200, e185_203, e185_204, e185_207, e185_208, e185_209, e185_212, e185_213, e185_216, e185_217, e185_220, e185_221, e185_224, e185_225, e185_226, e185_227, e185_228, e185_231, e185_232, e185_235, e185_236, e185_237, e185_240, e185_241, e185_244, e185_245, e185_246, e185_249, e185_252, e185_253, e185_256, e185_259, e185_260, e185_263, e185_264, e185_265, e185_268, e185_269, e185_272, e185_273, rk_n, rk_v, nl_n, nl_i, nl_r, cat_n, ip_cat_int, ip_cat_ref, ip_cat_long, ip_rf_some, Nat.reduceAdd, Nat.reduceLeDiff, Nat.reduceLT, Nat.le_refl, Nat.zero_le, hR, C0, g, ia_lit, nu_i, nu_tn, lk, k4, lr, lr4, lq, lq4, c1, en, en2, p0, p1, z1, e1, (by decide : ¬ (3 : Int32) = 0 ∧ ¬ (3 : Int32) = 1 ∧ ¬ (3 : Int32) = 4 ∧ ¬ (3 : Int32) = 2 ∧ ¬ (1 : Int32) = 0), true_or, or_true, Bool.false_eq_true, Bool.true_eq_false, if_true, if_false, not_true_eq_false, not_false_eq_true, zle, eq_self]
        · have p0 : K 288 (r.length + 1) = 1 := p0
          have p1 : K 288 r.length = 1 := p1
          have z1 : Int32.ofNat (1 + 1 - 1 * 1) = 1 := rfl
          simp only [e185_0, e185_1, e185_2, e185_3, e185_5, e185_6, e185_9, e185_12, e185_13, e185_16, e185_17, e185_18, e185_21, e185_22, e185_25, e185_26, e185_27, e185_28, e185_31, e185_32, e185_33, e185_36, e185_37, e185_40, e185_43, e185_44, e185_47, e185_48, e185_49, e185_50, e185_53, e185_54, e185_57, e185_58, e185_59, e185_60, e185_61, e185_64, e185_65, e185_66, e185_67, e185_68, e185_71, e185_72, e185_75, e185_76, e185_77, e185_80, e185_81, e185_84, e185_85, e185_86, e185_87, e185_90, e185_91, e185_93, e185_94, e185_95, e185_98, e185_99, e185_100, e185_101, e185_105, e185_106, e185_109, e185_111, e185_112, e185_115, e185_117, e185_118, e185_121, e185_122, e185_125, e185_126, e185_127, e185_129, e185_132, e185_135, e185_136, e185_137, e185_140, e185_141, e185_142, e185_143, e185_144, e185_145, e185_148, e185_149, e185_151, e185_152, e185_155, e185_156, e185_157, e185_160, e185_161, e185_164, e185_165, e185_166, e185_169, e185_172, e185_175, e185_176, e185_179, e185_180, e185_181, e185_182, e185_183, e185_186, e185_187, e185_188, e185_189, e185_192, e185_193, e185_196, e185_197, e185_198, e185_199, e185_200, e185_203, e185_204, e185_207, e185_208, e185_209, e185_212, e185_213, e185_216, e185_217, e185_220, e185_221, e185_224, e185_225, e185_226, e185_227, e185_228, e185_231, e185_232, e185_235, e185_236, e185_237, e185_240, e185_241, e185_244, e185_245, e185_246, e185_249, e185_252, e185_253, e185_256, e185_259, e185_260, e185_263, e185_264, e185_265, e185_268, e185_269, e185_272, e185_273, rk_n, rk_v, nl_n, nl_i, nl_r, cat_n, ip_cat_int, ip_cat_ref, ip_cat_long, ip_rf_some, Nat.reduceAdd, Nat.reduceLeDiff, Nat.reduceLT, Nat.le_refl, Nat.zero_le, hR, C0, g, ia_lit, nu_i, nu_tn, lk, k4, lr, lr4, lq, lq4, c1, en, en2, p0, p1, z1, e1, (by decide : ¬ (3 : Int32) = 0 ∧ ¬ (3 : Int32) = 1 ∧ ¬ (3 : Int32) = 4 ∧ ¬ (3 : Int32) = 2 ∧ ¬ (1 : Int32) = 0), true_or, or_true, Bool.false_eq_true, Bool.true_eq_false, if_true, if_false, not_true_eq_false, not_false_eq_true, zle, eq_self]
    · have c1 : K 278 k = 4 := c1
      have d1 : (if q3 ≤ st.length then some (st.length - q3 + 1) else none : Option Nat) = dq (some st.length) (4, q2, q3) := rfl
      have hn : q3 ≤ st.length := by
        refine Classical.byContradiction (fun e => ?_)
        rw [← d1, if_neg e, dq_no] at hdd
        cases hdd
      obtain ⟨l5', A⟩ := t185c (n := n) (L := L) (nc := nc) (ns := ns) (nx := nx) (x1 := Int32.ofNat s) (k := k) hR P h1 (by omega) q3 0 hn
      have es : Int32.ofNat st.length - Int32.ofNat q3 = Int32.ofNat (st.length - q3) := by
        rw [show Int32.ofNat st.length = Int32.ofNat (st.length - q3) + Int32.ofNat q3 by rw [nu_add]; congr 1; omega, Int32.add_sub_cancel]
      have en : Int32.ofNat (st.length - q3) + 1 = Int32.ofNat (st.length - q3 + 1) := nu_add (s := 1)
      have sl : (st.take q3).sum ≤ 400 := by
        have := sum_le (st.take q3) (fun x hx => h1 x (List.mem_of_mem_take hx))
        rw [List.length_take] at this
        omega
      have g5 : (Int32.ofNat (0 + (st.take q3).sum) < Int32.ofNat q2) = ((st.take q3).sum < q2) := by rw [Nat.zero_add]; exact propext (nu_lt (by omega) (by omega))
      have lr : st.length - q3 < 2147483648 := by omega
      have lr4 : st.length - q3 < 420 := by omega
      have ln : ((if q2 ≤ (st.take q3).sum then 1 else 0) :: st.drop q3).length = st.length - q3 + 1 := by rw [List.length_cons, List.length_drop]
      refine STEP ((if q2 ≤ (st.take q3).sum then 1 else 0) :: st.drop q3) (ip_up K 288 (st.length - q3) (Int32.ofNat (if q2 ≤ (st.take q3).sum then 1 else 0))) (some (.int (Int32.ofNat (0 + (st.take q3).sum)))) l5' (by rw [← d1, if_pos hn, ln]) rfl (fun i hi => ?_) (fun u hu => ?_) (by rw [ln]; omega) (onlyP_up onlyP_refl rfl) (fun D hD => ?_)
      · rw [ln] at hi ⊢
        cases i with
        | zero => rw [show st.length - q3 + 1 - 1 - 0 = st.length - q3 by omega, up_eq, List.getD_cons_zero]
        | succ i =>
          have := P (q3 + i) (by omega)
          rw [show st.length - q3 + 1 - 1 - (i + 1) = st.length - 1 - (q3 + i) by omega, up_k (by omega), List.getD_cons_succ, this]
          congr 1
          rw [getD_in (by omega), getD_in (by rw [List.length_drop]; omega), List.getElem_drop]
      · rcases List.mem_cons.mp hu with rfl | hu
        · split <;> omega
        · exact h1 u (List.mem_of_mem_drop hu)
      · have A : rf D 185 103 [some (.ref 265), some (.int (Int32.ofNat s)), some (.int (Int32.ofNat st.length)), some (.int (Int32.ofNat k)), some (.int 0), some (.int (Int32.ofNat (st.length - q3)))] [] (SH n, K, L, R, nc, ns, nx) = _ := A D
        rw [e185_4, ln]
        simp only [e185_5, e185_6, e185_9, e185_12, e185_13, e185_16, e185_17, e185_18, e185_43, e185_44, e185_47, e185_48, e185_49, e185_50, e185_80, e185_81, e185_84, e185_85, e185_86, e185_87, e185_90, e185_91, e185_93, e185_94, e185_95, e185_98, e185_99, e185_100, e185_101, rk_n, rk_v, nl_n, nl_i, nl_r, cat_n, ip_cat_int, ip_cat_ref, ip_cat_long, ip_rf_some, Nat.reduceAdd, Nat.reduceLeDiff, Nat.reduceLT, Nat.le_refl, Nat.zero_le, hR, C0, g, ia_lit, nu_i, nu_tn, lk, k4, c1, c3, es, (by decide : ¬ (4 : Int32) = 0 ∧ ¬ (4 : Int32) = 1), Bool.false_eq_true, Bool.true_eq_false, if_true, if_false, not_true_eq_false, not_false_eq_true, zle, eq_self]
        rw [A]
        by_cases gg : q2 ≤ (st.take q3).sum
        · have gg2 : ¬ (st.take q3).sum < q2 := by omega
          rw [if_pos gg]
          have z1 : Int32.ofNat 1 = 1 := rfl
          simp only [e185_135, e185_136, e185_137, e185_140, e185_141, e185_142, e185_143, e185_144, e185_145, e185_148, e185_149, e185_151, e185_152, e185_155, e185_156, e185_157, e185_160, e185_161, e185_164, e185_165, e185_166, e185_169, e185_246, e185_249, rk_n, rk_v, nl_n, nl_i, nl_r, cat_n, ip_cat_int, ip_cat_ref, ip_cat_long, ip_rf_some, Nat.reduceAdd, Nat.reduceLeDiff, Nat.reduceLT, Nat.le_refl, Nat.zero_le, hR, ia_lit, nu_i, nu_tn, lk, k4, lr, lr4, c2, c3, es, g5, gg2, z1, en, e1, true_or, or_true, Bool.false_eq_true, Bool.true_eq_false, if_true, if_false, not_true_eq_false, not_false_eq_true, zle, eq_self]
        · have gg2 : (st.take q3).sum < q2 := by omega
          rw [if_neg gg]
          have z1 : Int32.ofNat 0 = 0 := rfl
          simp only [e185_135, e185_136, e185_137, e185_140, e185_141, e185_142, e185_143, e185_144, e185_145, e185_148, e185_149, e185_151, e185_152, e185_155, e185_156, e185_157, e185_160, e185_161, e185_164, e185_165, e185_166, e185_169, e185_246, e185_249, rk_n, rk_v, nl_n, nl_i, nl_r, cat_n, ip_cat_int, ip_cat_ref, ip_cat_long, ip_rf_some, Nat.reduceAdd, Nat.reduceLeDiff, Nat.reduceLT, Nat.le_refl, Nat.zero_le, hR, ia_lit, nu_i, nu_tn, lk, k4, lr, lr4, c2, c3, es, g5, gg2, z1, en, e1, true_or, or_true, Bool.false_eq_true, Bool.true_eq_false, if_true, if_false, not_true_eq_false, not_false_eq_true, zle, eq_self]
theorem c185 {v : Nat → Nat} (hR : LYR R) (hs : s < 256) (hc8 : c ≤ 8) (hok : okc c CS) (hl : CS.length ≤ 400) (hev : ev CS v) (hv : le1 v) (C : CDX CS K) : ∃ K', (∀ D, 1 ≤ D → cf D 185 [.ref 265, .int (Int32.ofNat s)] (SH n, K, L, R, nc, ns, nx) = some (.inl (some (.int (Int32.ofNat (v s)))), (SH n, K', L, R, nc, ns, nx))) ∧ onlyP (fun a _ => a = 288) K K' := by
  obtain ⟨K', l4', l5', A, P, O⟩ := t185 (n := n) (L := L) (nc := nc) (ns := ns) (nx := nx) hR hs hc8 hok hl CS.length 0 [] K none none (by omega) C (fun i hi => absurd hi (by simp)) (fun x hx => by cases hx) (by simp) ⟨1, by rw [List.drop_zero]; exact hev.2 0⟩
  rw [List.drop_zero, hev.1 s []] at A P
  refine ⟨K', fun D hD => ?_, O⟩
  have p0 := P 0 (by simp)
  have p0 : K' 288 0 = Int32.ofNat (v s) := p0
  have C' : K' 265 19 = Int32.ofNat CS.length := by rw [O 265 19 (by omega)]; exact C.1
  have ne : 0 < CS.length := by
    refine Nat.pos_of_ne_zero (fun e => ?_)
    have : CS = [] := List.length_eq_zero_iff.mp e
    have h := hev.2 0
    rw [this] at h
    cases h
  have g0 : (Int32.ofNat CS.length ≤ Int32.ofNat CS.length) = True := eq_true Int32.le_rfl
  have g1 : (Int32.ofNat CS.length ≤ 0) = False := eq_false (fun e => by have := (nu_le (s := 0) (by omega) (by omega)).mp e; omega)
  have A : rf D 185 4 [some (.ref 265), some (.int (Int32.ofNat s)), some (.int 0), some (.int 0), none, none] [] (SH n, K, L, R, nc, ns, nx) = _ := A D hD
  simp only [en185, e185_0, e185_1, e185_2, e185_3, rk_n, rk_v, nl_n, nl_i, nl_r, cat_n, ip_cat_int, ip_cat_ref, ip_cat_long, ip_rf_some, Nat.reduceAdd, Nat.reduceLeDiff, Nat.reduceLT, Nat.le_refl, Nat.zero_le]
  rw [A, e185_4]
  have v1 := hv s
  have hx : v s = 0 ∨ v s = 1 := by omega
  rcases hx with e | e
  · rw [e] at p0 ⊢
    have p0 : K' 288 0 = 0 := p0
    simp only [e185_5, e185_6, e185_9, e185_252, e185_253, e185_256, e185_259, e185_260, e185_263, e185_264, e185_265, e185_268, e185_269, e185_272, e185_273, rk_n, rk_v, nl_n, nl_i, nl_r, cat_n, ip_cat_int, ip_cat_ref, ip_cat_long, ip_rf_some, Nat.reduceAdd, Nat.reduceLeDiff, Nat.reduceLT, Nat.le_refl, Nat.zero_le, hR, C', g0, g1, ia_lit, inbL, tnL, p0, true_or, or_true, Bool.false_eq_true, Bool.true_eq_false, if_true, if_false, not_true_eq_false, not_false_eq_true, zle, eq_self]
    rfl
  · rw [e] at p0 ⊢
    have p0 : K' 288 0 = 1 := p0
    simp only [e185_5, e185_6, e185_9, e185_252, e185_253, e185_256, e185_259, e185_260, e185_263, e185_264, e185_265, e185_268, e185_269, e185_272, e185_273, rk_n, rk_v, nl_n, nl_i, nl_r, cat_n, ip_cat_int, ip_cat_ref, ip_cat_long, ip_rf_some, Nat.reduceAdd, Nat.reduceLeDiff, Nat.reduceLT, Nat.le_refl, Nat.zero_le, hR, C', g0, g1, ia_lit, inbL, tnL, p0, (by decide : ¬ (1 : Int32) = 0), true_or, or_true, Bool.false_eq_true, Bool.true_eq_false, if_true, if_false, not_true_eq_false, not_false_eq_true, zle, eq_self]
    rfl
end HO
