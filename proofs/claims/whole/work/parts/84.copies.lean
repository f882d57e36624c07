/-! COPIES, ROUND: the model -/
section MP
variable {n d a b T c s t z o w m p lev k side ap b0 b1 h0 h1 md C F B pg po u q : Nat} {I J K M : Nat → Nat → Int32} {L : Nat → Nat → Int64} {R : Nat → Nat → Option Nat} {nc ns : Nat} {nx : Bool} {x y j v lv hw0 what ah num hw l : Int32} {h : ip_H} {f g std rst V W : Nat → Nat} {win : Nat → Bool} {br fl : Nat → Int32}
/-- the rows of a node in the model -/
def atQ (q a k : Nat) : Prop := (289 ≤ a ∧ a ≤ 299 ∧ k = q) ∨ ((a = 300 ∨ a = 301) ∧ (k = 2 * q ∨ k = 2 * q + 1)) ∨ ((a = 302 ∨ a = 303 ∨ a = 304) ∧ 8 * q ≤ k ∧ k < 8 * q + 8)
theorem c240 (hR : LYR R) (e38 : I 265 38 = Int32.ofNat w) (hw : w < 40) (hq : q < 40) (hne : ¬ w = q) :
    ∃ J, cf d 240 [.ref 265, .int (Int32.ofNat q), .int l] (SH n, I, L, R, nc, ns, nx) = some (.inl none, (SH n, J, L, R, nc, ns, nx)) ∧ onlyP (atQ q) I J ∧ J 289 q = l ∧ J 290 q = Int32.ofNat w ∧ J 291 q = -1 ∧ J 292 q = 0 ∧ J 293 q = I 293 w ∧ J 294 q = I 294 w ∧ J 295 q = I 295 w ∧ J 296 q = I 296 w ∧ J 297 q = -1 ∧ J 298 q = 0 ∧ J 299 q = 0 ∧ (∀ s, s < 2 → J 300 (2 * q + s) = 0 ∧ J 301 (2 * q + s) = I 301 (2 * w + s)) ∧ (∀ k, k < 8 → J 302 (8 * q + k) = I 302 (8 * w + k) ∧ J 303 (8 * q + k) = I 303 (8 * w + k) ∧ J 304 (8 * q + k) = I 304 (8 * w + k)) := by
  have lw : w < 2147483648 := by omega
  have lq : q < 2147483648 := by omega
  generalize hM : ip_up (ip_up (ip_up (ip_up (ip_up (ip_up (ip_up (ip_up (ip_up (ip_up (ip_up I 289 q l) 290 q (Int32.ofNat w)) 291 q (-1)) 292 q 0) 293 q (I 293 w)) 294 q (I 294 w)) 295 q (I 295 w)) 296 q (I 296 w)) 297 q (-1)) 298 q 0) 299 q 0 = M
  have mo : ∀ a k, ¬ (289 ≤ a ∧ a ≤ 299) → M a k = I a k := by
    intro a k h
    rw [← hM]
    have g : ∀ b, 289 ≤ b → b ≤ 299 → ¬ a = b := fun b h1 h2 e => h ⟨by omega, by omega⟩
    rw [up_a (g 299 (by omega) (by omega)), up_a (g 298 (by omega) (by omega)), up_a (g 297 (by omega) (by omega)), up_a (g 296 (by omega) (by omega)), up_a (g 295 (by omega) (by omega)), up_a (g 294 (by omega) (by omega)), up_a (g 293 (by omega) (by omega)), up_a (g 292 (by omega) (by omega)), up_a (g 291 (by omega) (by omega)), up_a (g 290 (by omega) (by omega)), up_a (g 289 (by omega) (by omega))]
  have mq : onlyP (atQ q) I M := by
    rw [← hM]
    refine onlyP_up (onlyP_up (onlyP_up (onlyP_up (onlyP_up (onlyP_up (onlyP_up (onlyP_up (onlyP_up (onlyP_up (onlyP_up onlyP_refl ?_) ?_) ?_) ?_) ?_) ?_) ?_) ?_) ?_) ?_) ?_ <;> exact Or.inl ⟨by omega, by omega, rfl⟩
  have front : cf d 240 [.ref 265, .int (Int32.ofNat q), .int l] (SH n, I, L, R, nc, ns, nx) = rf d 240 114 [some (.ref 265), some (.int (Int32.ofNat q)), some (.int l), some (.int (Int32.ofNat 0))] [] (SH n, M, L, R, nc, ns, nx) := by
    rw [← hM]
    simp only [en240, e240_0, e240_1, e240_4, e240_5, e240_6, e240_7, e240_8, e240_11, e240_12, e240_13, e240_16, e240_17, e240_18, e240_21, e240_22, e240_23, e240_24, e240_25, e240_28, e240_29, e240_30, e240_31, e240_32, e240_35, e240_36, e240_37, e240_40, e240_41, e240_44, e240_45, e240_46, e240_47, e240_50, e240_51, e240_52, e240_55, e240_56, e240_59, e240_60, e240_61, e240_62, e240_65, e240_66, e240_67, e240_70, e240_71, e240_74, e240_75, e240_76, e240_77, e240_80, e240_81, e240_82, e240_85, e240_86, e240_89, e240_90, e240_91, e240_92, e240_95, e240_96, e240_97, e240_98, e240_99, e240_102, e240_103, e240_104, e240_105, e240_106, e240_109, e240_110, e240_111, e240_112, e240_113, e240_115, e240_116, e240_119, e240_120, e240_123, e240_124, e240_125, e240_126, e240_127, e240_128, e240_129, e240_130, e240_131, e240_134, e240_135, e240_136, e240_137, e240_138, e240_139, e240_140, e240_143, e240_144, e240_145, e240_148, e240_149, e240_150, e240_151, e240_152, e240_153, e240_156, e240_159, e240_160, e240_162, e240_164, e240_167, e240_168, e240_171, e240_173, e240_174, e240_175, e240_176, e240_177, e240_178, e240_181, e240_183, e240_184, e240_187, e240_188, e240_189, e240_190, e240_191, e240_192, e240_193, e240_196, e240_198, e240_199, e240_200, e240_201, e240_202, e240_203, e240_206, e240_208, e240_209, e240_212, e240_213, e240_214, e240_215, e240_216, e240_217, e240_218, e240_221, e240_223, e240_224, e240_225, e240_226, e240_227, e240_228, e240_231, e240_233, e240_234, e240_237, e240_238, e240_239, e240_240, e240_241, e240_242, e240_245, e240_248, rk_n, rk_v, nl_n, nl_i, nl_r, cat_n, ip_cat_int, ip_cat_ref, ip_cat_long, ip_rf_some, Nat.reduceAdd, Nat.reduceLeDiff, Nat.reduceLT, Nat.le_refl, Nat.zero_le, hR, ia_lit, nu_i, nu_tn, lq, lw, hq, hw, up_a, e38, Nat.reduceEqDiff, Bool.false_eq_true, Bool.true_eq_false, if_true, if_false, not_true_eq_false, not_false_eq_true, zle, eq_self]
    rfl
  have m38 : ∀ J, onlyP (fun a k => ¬ a = 265) M J → J 265 38 = Int32.ofNat w := fun J o => (o 265 38 (fun e => e rfl)).trans ((mo 265 38 (by omega)).trans e38)
  refine Exists.elim (for_ex (c := 2) (fun k (J : Nat → Nat → Int32) => rf d 240 114 [some (.ref 265), some (.int (Int32.ofNat q)), some (.int l), some (.int (Int32.ofNat k))] [] (SH n, J, L, R, nc, ns, nx)) (fun k J => onlyP (fun a j => (a = 300 ∨ a = 301) ∧ (j = 2 * q ∨ j = 2 * q + 1)) M J ∧ ∀ s, s < k → J 300 (2 * q + s) = 0 ∧ J 301 (2 * q + s) = I 301 (2 * w + s)) ?_ M ⟨onlyP_refl, fun s hs => by omega⟩) ?_
  · rintro k J hk ⟨o1, H⟩
    have lk : k < 2147483648 := by omega
    have g0 : ((2 : Int32) ≤ Int32.ofNat k) = (2 ≤ k) := nu_lit (c := 2) (by omega) lk
    have g1 : ¬ 2 ≤ k := by omega
    have l1 : 2 * q + k < 2147483648 := by omega
    have l2 : 2 * w + k < 2147483648 := by omega
    have b1 : 2 * q + k < 80 := by omega
    have b2 : 2 * w + k < 80 := by omega
    have e38' : J 265 38 = Int32.ofNat w := m38 J (onlyP_mono o1 (fun a k e => by omega))
    have rd : J 301 (2 * w + k) = I 301 (2 * w + k) := by
      rw [o1 301 (2 * w + k) (fun e => by have := e.2; omega)]
      exact mo 301 _ (by omega)
    refine ⟨ip_up (ip_up J 300 (2 * q + k) 0) 301 (2 * q + k) (I 301 (2 * w + k)), ⟨onlyP_up (onlyP_up o1 ⟨Or.inl rfl, by omega⟩) ⟨Or.inr rfl, by omega⟩, ?_⟩, ?_⟩
    · intro s hs
      by_cases e : s = k
      · subst e
        rw [up_a (by decide), up_eq, up_eq]
        exact ⟨rfl, rfl⟩
      · rw [up_a (by decide), up_k (by omega), up_k (by omega), up_a (by decide)]
        exact H s (by omega)
    · rw [e240_114]
      simp only [e240_0, e240_1, e240_4, e240_5, e240_6, e240_7, e240_8, e240_11, e240_12, e240_13, e240_16, e240_17, e240_18, e240_21, e240_22, e240_23, e240_24, e240_25, e240_28, e240_29, e240_30, e240_31, e240_32, e240_35, e240_36, e240_37, e240_40, e240_41, e240_44, e240_45, e240_46, e240_47, e240_50, e240_51, e240_52, e240_55, e240_56, e240_59, e240_60, e240_61, e240_62, e240_65, e240_66, e240_67, e240_70, e240_71, e240_74, e240_75, e240_76, e240_77, e240_80, e240_81, e240_82, e240_85, e240_86, e240_89, e240_90, e240_91, e240_92, e240_95, e240_96, e240_97, e240_98, e240_99, e240_102, e240_103, e240_104, e240_105, e240_106, e240_109, e240_110, e240_111, e240_112, e240_113, e240_115, e240_116, e240_119, e240_120, e240_123, e240_124, e240_125, e240_126, e240_127, e240_128, e240_129, e240_130, e240_131, e240_134, e240_135, e240_136, e240_137, e240_138, e240_139, e240_140, e240_143, e240_144, e240_145, e240_148, e240_149, e240_150, e240_151, e240_152, e240_153, e240_156, e240_159, e240_160, e240_162, e240_164, e240_167, e240_168, e240_171, e240_173, e240_174, e240_175, e240_176, e240_177, e240_178, e240_181, e240_183, e240_184, e240_187, e240_188, e240_189, e240_190, e240_191, e240_192, e240_193, e240_196, e240_198, e240_199, e240_200, e240_201, e240_202, e240_203, e240_206, e240_208, e240_209, e240_212, e240_213, e240_214, e240_215, e240_216, e240_217, e240_218, e240_221, e240_223, e240_224, e240_225, e240_226, e240_227, e240_228, e240_231, e240_233, e240_234, e240_237, e240_238, e240_239, e240_240, e240_241, e240_242, e240_245, e240_248, rk_n, rk_v, nl_n, nl_i, nl_r, cat_n, ip_cat_int, ip_cat_ref, ip_cat_long, ip_rf_some, Nat.reduceAdd, Nat.reduceLeDiff, Nat.reduceLT, Nat.le_refl, Nat.zero_le, hR, ia_lit, nu_i, nu_tn, lq, lk, g0, g1, l1, l2, b1, b2, mu2, nu_add, up_a, e38', rd, nu_1, Nat.reduceEqDiff, Bool.false_eq_true, Bool.true_eq_false, if_true, if_false, not_true_eq_false, not_false_eq_true, zle, eq_self]
  · rintro J1 ⟨⟨o1, H1⟩, e1⟩
    have q2 : ((2 : Int32) ≤ Int32.ofNat 2) = True := eq_true (by decide)
    have mid : rf d 240 114 [some (.ref 265), some (.int (Int32.ofNat q)), some (.int l), some (.int (Int32.ofNat 2))] [] (SH n, J1, L, R, nc, ns, nx) = rf d 240 161 [some (.ref 265), some (.int (Int32.ofNat q)), some (.int l), some (.int (Int32.ofNat 0))] [] (SH n, J1, L, R, nc, ns, nx) := by
      rw [e240_114]
      simp only [e240_115, e240_116, e240_159, e240_160, rk_n, rk_v, nl_n, nl_i, nl_r, cat_n, ip_cat_int, ip_cat_ref, ip_cat_long, ip_rf_some, Nat.reduceAdd, Nat.reduceLeDiff, Nat.reduceLT, Nat.le_refl, Nat.zero_le, q2, Bool.false_eq_true, Bool.true_eq_false, if_true, if_false, not_true_eq_false, not_false_eq_true, zle, eq_self]
      rfl
    refine Exists.elim (for_ex (c := 8) (fun k (J : Nat → Nat → Int32) => rf d 240 161 [some (.ref 265), some (.int (Int32.ofNat q)), some (.int l), some (.int (Int32.ofNat k))] [] (SH n, J, L, R, nc, ns, nx)) (fun k J => onlyP (fun a j => (a = 302 ∨ a = 303 ∨ a = 304) ∧ 8 * q ≤ j ∧ j < 8 * q + 8) J1 J ∧ ∀ i, i < k → J 302 (8 * q + i) = I 302 (8 * w + i) ∧ J 303 (8 * q + i) = I 303 (8 * w + i) ∧ J 304 (8 * q + i) = I 304 (8 * w + i)) ?_ J1 ⟨onlyP_refl, fun i hi => by omega⟩) ?_
    · rintro k J hk ⟨o2, H⟩
      have lk : k < 2147483648 := by omega
      have g0 : ((8 : Int32) ≤ Int32.ofNat k) = (8 ≤ k) := nu_lit (c := 8) (by omega) lk
      have g1 : ¬ 8 ≤ k := by omega
      have l1 : 8 * q + k < 2147483648 := by omega
      have l2 : 8 * w + k < 2147483648 := by omega
      have b1 : 8 * q + k < 320 := by omega
      have b2 : 8 * w + k < 320 := by omega
      have e38' : J 265 38 = Int32.ofNat w := by
        rw [o2 265 38 (by omega), o1 265 38 (by omega)]
        exact (mo 265 38 (by omega)).trans e38
      have rd : ∀ a, a = 302 ∨ a = 303 ∨ a = 304 → J a (8 * w + k) = I a (8 * w + k) := by
        intro a ha
        rw [o2 a (8 * w + k) (fun e => by omega), o1 a (8 * w + k) (by omega)]
        exact mo a _ (by omega)
      have r2 := rd 302 (by omega)
      have r3 := rd 303 (by omega)
      have r4 := rd 304 (by omega)
      refine ⟨ip_up (ip_up (ip_up J 302 (8 * q + k) (I 302 (8 * w + k))) 303 (8 * q + k) (I 303 (8 * w + k))) 304 (8 * q + k) (I 304 (8 * w + k)), ⟨onlyP_up (onlyP_up (onlyP_up o2 ⟨by omega, by omega⟩) ⟨by omega, by omega⟩) ⟨by omega, by omega⟩, ?_⟩, ?_⟩
      · intro i hi
        by_cases e : i = k
        · subst e
          rw [up_a (by decide), up_a (by decide), up_eq, up_a (by decide), up_eq, up_eq]
          exact ⟨rfl, rfl, rfl⟩
        · rw [up_a (by decide), up_a (by decide), up_k (by omega), up_a (by decide), up_k (by omega), up_a (by decide), up_k (by omega), up_a (by decide), up_a (by decide)]
          exact H i (by omega)
      · rw [e240_161]
        simp only [e240_0, e240_1, e240_4, e240_5, e240_6, e240_7, e240_8, e240_11, e240_12, e240_13, e240_16, e240_17, e240_18, e240_21, e240_22, e240_23, e240_24, e240_25, e240_28, e240_29, e240_30, e240_31, e240_32, e240_35, e240_36, e240_37, e240_40, e240_41, e240_44, e240_45, e240_46, e240_47, e240_50, e240_51, e240_52, e240_55, e240_56, e240_59, e240_60, e240_61, e240_62, e240_65, e240_66, e240_67, e240_70, e240_71, e240_74, e240_75, e240_76, e240_77, e240_80, e240_81, e240_82, e240_85, e240_86, e240_89, e240_90, e240_91, e240_92, e240_95, e240_96, e240_97, e240_98, e240_99, e240_102, e240_103, e240_104, e240_105, e240_106, e240_109, e240_110, e240_111, e240_112, e240_113, e240_115, e240_116, e240_119, e240_120, e240_123, e240_124, e240_125, e240_126, e240_127, e240_128, e240_129, e240_130, e240_131, e240_134, e240_135, e240_136, e240_137, e240_138, e240_139, e240_140, e240_143, e240_144, e240_145, e240_148, e240_149, e240_150, e240_151, e240_152, e240_153, e240_156, e240_159, e240_160, e240_162, e240_164, e240_167, e240_168, e240_171, e240_173, e240_174, e240_175, e240_176, e240_177, e240_178, e240_181, e240_183, e240_184, e240_187, e240_188, e240_189, e240_190, e240_191, e240_192, e240_193, e240_196, e240_198, e240_199, e240_200, e240_201, e240_202, e240_203, e240_206, e240_208, e240_209, e240_212, e240_213, e240_214, e240_215, e240_216, e240_217, e240_218, e240_221, e240_223, e240_224, e240_225, e240_226, e240_227, e240_228, e240_231, e240_233, e240_234, e240_237, e240_238, e240_239, e240_240, e240_241, e240_242, e240_245, e240_248, rk_n, rk_v, nl_n, nl_i, nl_r, cat_n, ip_cat_int, ip_cat_ref, ip_cat_long, ip_rf_some, Nat.reduceAdd, Nat.reduceLeDiff, Nat.reduceLT, Nat.le_refl, Nat.zero_le, hR, ia_lit, nu_i, nu_tn, lq, lk, g0, g1, l1, l2, b1, b2, mu8, nu_add, up_a, e38', r2, r3, r4, nu_1, Nat.reduceEqDiff, Bool.false_eq_true, Bool.true_eq_false, if_true, if_false, not_true_eq_false, not_false_eq_true, zle, eq_self]
    · rintro J2 ⟨⟨o2, H2⟩, e2⟩
      have q8 : ((8 : Int32) ≤ Int32.ofNat 8) = True := eq_true (by decide)
      have rq : ∀ a, 289 ≤ a → a ≤ 299 → J2 a q = M a q := fun a h1 h2 => (o2 a q (by omega)).trans (o1 a q (by omega))
      refine ⟨J2, ?_, ?_, ?_, ?_, ?_, ?_, ?_, ?_, ?_, ?_, ?_, ?_, ?_, ?_, ?_⟩
      · refine Eq.trans front (Eq.trans e1 (Eq.trans mid (Eq.trans e2 ?_)))
        rw [e240_161]
        simp only [e240_162, e240_164, e240_248, rk_n, rk_v, nl_n, nl_i, nl_r, cat_n, ip_cat_int, ip_cat_ref, ip_cat_long, ip_rf_some, Nat.reduceAdd, Nat.reduceLeDiff, Nat.reduceLT, Nat.le_refl, Nat.zero_le, q8, Bool.false_eq_true, Bool.true_eq_false, if_true, if_false, not_true_eq_false, not_false_eq_true, zle, eq_self]
      · exact onlyP_tr mq (onlyP_tr (onlyP_mono o1 (fun a k e => Or.inr (Or.inl e))) (onlyP_mono o2 (fun a k e => Or.inr (Or.inr e))))
      · rw [rq 289 (by omega) (by omega), ← hM]; simp only [up_a, up_eq, Nat.reduceEqDiff, not_false_eq_true]
      · rw [rq 290 (by omega) (by omega), ← hM]; simp only [up_a, up_eq, Nat.reduceEqDiff, not_false_eq_true]
      · rw [rq 291 (by omega) (by omega), ← hM]; simp only [up_a, up_eq, Nat.reduceEqDiff, not_false_eq_true]
      · rw [rq 292 (by omega) (by omega), ← hM]; simp only [up_a, up_eq, Nat.reduceEqDiff, not_false_eq_true]
      · rw [rq 293 (by omega) (by omega), ← hM]; simp only [up_a, up_eq, Nat.reduceEqDiff, not_false_eq_true]
      · rw [rq 294 (by omega) (by omega), ← hM]; simp only [up_a, up_eq, Nat.reduceEqDiff, not_false_eq_true]
      · rw [rq 295 (by omega) (by omega), ← hM]; simp only [up_a, up_eq, Nat.reduceEqDiff, not_false_eq_true]
      · rw [rq 296 (by omega) (by omega), ← hM]; simp only [up_a, up_eq, Nat.reduceEqDiff, not_false_eq_true]
      · rw [rq 297 (by omega) (by omega), ← hM]; simp only [up_a, up_eq, Nat.reduceEqDiff, not_false_eq_true]
      · rw [rq 298 (by omega) (by omega), ← hM]; simp only [up_a, up_eq, Nat.reduceEqDiff, not_false_eq_true]
      · rw [rq 299 (by omega) (by omega), ← hM]; simp only [up_eq]
      · intro s hs
        rw [o2 300 _ (by omega), o2 301 _ (by omega)]
        exact H1 s hs
      · exact H2
end MP
