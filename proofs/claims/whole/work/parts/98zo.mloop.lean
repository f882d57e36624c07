/-! READ: the model's loop over a claim -/
section ML3
variable {n d a b c k t p T nm top ν dd a' : Nat} {α ω ω1 : Bool} {B : Nat → Int32} {f : Nat → List Nat} {J K J' : Nat → Nat → Int32} {L L' : Nat → Nat → Int64} {R : Nat → Nat → Option Nat} {nc ns : Nat} {nx : Bool} {x y z : Int32} {CS : List CD} {q : CD} {l2 : Option Value}
theorem h_F (F : ¬ J 265 5 = -1) : ∀ D, rf D 206 53 [some (.ref 265), some (.int x), l2] [] (SH n, J, L, R, nc, ns, nx) = some (.inl none, (SH n, J, L, R, nc, ns, nx)) := by
  intro D
  rw [e206_53]
  simp only [e206_0, e206_1, e206_4, e206_7, e206_8, e206_11, e206_12, e206_15, e206_16, e206_19, e206_20, e206_21, e206_22, e206_25, e206_26, e206_26r, e206_27, e206_30, e206_31, e206_32, e206_35, e206_36, e206_37, e206_40, e206_41, e206_42, e206_45, e206_46, e206_47, e206_48, e206_51, e206_52, e206_54, e206_57, e206_58, e206_61, e206_62, e206_65, e206_66, e206_69, e206_72, e206_73, e206_76, e206_77, e206_78, e206_81, e206_82, e206_85, e206_86, e206_87, e206_89, e206_92, e206_95, e206_96, e206_99, e206_100, e206_103, e206_104, e206_105, e206_106, e206_107, e206_110, e206_111, e206_113, e206_116, e206_119, e206_120, e206_121, e206_124, e206_125, e206_126, e206_129, e206_130, e206_133, e206_134, e206_137, e206_138, e206_141, e206_142, e206_143, e206_146, e206_147, e206_148, e206_151, e206_152, e206_155, e206_156, e206_157, e206_160, e206_161, e206_163, e206_166, e206_167, e206_168, e206_171, e206_172, e206_175, e206_176, e206_179, e206_180, e206_181, e206_182, e206_183, e206_184, e206_185, e206_185r, e206_186, e206_189, e206_190, e206_191, e206_194, e206_195, e206_196, e206_199, e206_200, e206_202, e206_205, e206_206, e206_209, e206_210, e206_213, e206_214, e206_215, e206_216, e206_219, e206_220, e206_223, e206_224, e206_227, e206_228, e206_229, e206_232, e206_233, e206_234, e206_235, e206_238, e206_239, e206_242, e206_243, e206_244, e206_247, e206_248, e206_251, e206_252, e206_255, e206_256, e206_256r, e206_257, e206_260, e206_261, e206_262, e206_265, e206_266, e206_266r, e206_267, e206_270, e206_271, e206_272, e206_275, e206_276, e206_279, e206_282, rk_n, rk_v, nl_n, nl_i, nl_r, cat_n, ip_cat_int, ip_cat_ref, ip_cat_long, ip_rf_some, Nat.reduceAdd, Nat.reduceLeDiff, Nat.reduceLT, Nat.le_refl, Nat.zero_le, F, Bool.false_eq_true, Bool.true_eq_false, if_true, if_false, not_true_eq_false, not_false_eq_true, zle, eq_self]
theorem h_p0 (F : J 265 5 = -1) (A : ∀ D, 6 ≤ D → cf D 208 [.ref 265] (SH n, J, L, R, nc, ns, nx) = some (.inl (some (.int 0)), (SH n, J', L, R, nc, ns, nx))) : ∀ D, 7 ≤ D → rf D 206 53 [some (.ref 265), some (.int 1), l2] [] (SH n, J, L, R, nc, ns, nx) = rf D 206 53 [some (.ref 265), some (.int 1), l2] [] (SH n, J', L, R, nc, ns, nx) := by
  intro D hD
  obtain ⟨E, rfl⟩ : ∃ E, D = E + 1 := ⟨D - 1, by omega⟩
  have a := A E (by omega)
  rw [e206_53]
  simp only [e206_0, e206_1, e206_4, e206_7, e206_8, e206_11, e206_12, e206_15, e206_16, e206_19, e206_20, e206_21, e206_22, e206_25, e206_26, e206_26r, e206_27, e206_30, e206_31, e206_32, e206_35, e206_36, e206_37, e206_40, e206_41, e206_42, e206_45, e206_46, e206_47, e206_48, e206_51, e206_52, e206_54, e206_57, e206_58, e206_61, e206_62, e206_65, e206_66, e206_69, e206_72, e206_73, e206_76, e206_77, e206_78, e206_81, e206_82, e206_85, e206_86, e206_87, e206_89, e206_92, e206_95, e206_96, e206_99, e206_100, e206_103, e206_104, e206_105, e206_106, e206_107, e206_110, e206_111, e206_113, e206_116, e206_119, e206_120, e206_121, e206_124, e206_125, e206_126, e206_129, e206_130, e206_133, e206_134, e206_137, e206_138, e206_141, e206_142, e206_143, e206_146, e206_147, e206_148, e206_151, e206_152, e206_155, e206_156, e206_157, e206_160, e206_161, e206_163, e206_166, e206_167, e206_168, e206_171, e206_172, e206_175, e206_176, e206_179, e206_180, e206_181, e206_182, e206_183, e206_184, e206_185, e206_185r, e206_186, e206_189, e206_190, e206_191, e206_194, e206_195, e206_196, e206_199, e206_200, e206_202, e206_205, e206_206, e206_209, e206_210, e206_213, e206_214, e206_215, e206_216, e206_219, e206_220, e206_223, e206_224, e206_227, e206_228, e206_229, e206_232, e206_233, e206_234, e206_235, e206_238, e206_239, e206_242, e206_243, e206_244, e206_247, e206_248, e206_251, e206_252, e206_255, e206_256, e206_256r, e206_257, e206_260, e206_261, e206_262, e206_265, e206_266, e206_266r, e206_267, e206_270, e206_271, e206_272, e206_275, e206_276, e206_279, e206_282, rk_n, rk_v, nl_n, nl_i, nl_r, cat_n, ip_cat_int, ip_cat_ref, ip_cat_long, ip_rf_some, Nat.reduceAdd, Nat.reduceLeDiff, Nat.reduceLT, Nat.le_refl, Nat.zero_le, F, a, (by decide : ¬ (1 : Int32) = 0), Bool.false_eq_true, Bool.true_eq_false, if_true, if_false, not_true_eq_false, not_false_eq_true, zle, eq_self]
theorem h_p1 (F : J 265 5 = -1) (A : ∀ D, 6 ≤ D → cf D 208 [.ref 265] (SH n, J, L, R, nc, ns, nx) = some (.inl (some (.int 1)), (SH n, J', L, R, nc, ns, nx))) : ∀ D, 7 ≤ D → rf D 206 53 [some (.ref 265), some (.int 1), l2] [] (SH n, J, L, R, nc, ns, nx) = rf D 206 53 [some (.ref 265), some (.int 0), l2] [] (SH n, J', L, R, nc, ns, nx) := by
  intro D hD
  obtain ⟨E, rfl⟩ : ∃ E, D = E + 1 := ⟨D - 1, by omega⟩
  have a := A E (by omega)
  rw [e206_53]
  simp only [e206_0, e206_1, e206_4, e206_7, e206_8, e206_11, e206_12, e206_15, e206_16, e206_19, e206_20, e206_21, e206_22, e206_25, e206_26, e206_26r, e206_27, e206_30, e206_31, e206_32, e206_35, e206_36, e206_37, e206_40, e206_41, e206_42, e206_45, e206_46, e206_47, e206_48, e206_51, e206_52, e206_54, e206_57, e206_58, e206_61, e206_62, e206_65, e206_66, e206_69, e206_72, e206_73, e206_76, e206_77, e206_78, e206_81, e206_82, e206_85, e206_86, e206_87, e206_89, e206_92, e206_95, e206_96, e206_99, e206_100, e206_103, e206_104, e206_105, e206_106, e206_107, e206_110, e206_111, e206_113, e206_116, e206_119, e206_120, e206_121, e206_124, e206_125, e206_126, e206_129, e206_130, e206_133, e206_134, e206_137, e206_138, e206_141, e206_142, e206_143, e206_146, e206_147, e206_148, e206_151, e206_152, e206_155, e206_156, e206_157, e206_160, e206_161, e206_163, e206_166, e206_167, e206_168, e206_171, e206_172, e206_175, e206_176, e206_179, e206_180, e206_181, e206_182, e206_183, e206_184, e206_185, e206_185r, e206_186, e206_189, e206_190, e206_191, e206_194, e206_195, e206_196, e206_199, e206_200, e206_202, e206_205, e206_206, e206_209, e206_210, e206_213, e206_214, e206_215, e206_216, e206_219, e206_220, e206_223, e206_224, e206_227, e206_228, e206_229, e206_232, e206_233, e206_234, e206_235, e206_238, e206_239, e206_242, e206_243, e206_244, e206_247, e206_248, e206_251, e206_252, e206_255, e206_256, e206_256r, e206_257, e206_260, e206_261, e206_262, e206_265, e206_266, e206_266r, e206_267, e206_270, e206_271, e206_272, e206_275, e206_276, e206_279, e206_282, rk_n, rk_v, nl_n, nl_i, nl_r, cat_n, ip_cat_int, ip_cat_ref, ip_cat_long, ip_rf_some, Nat.reduceAdd, Nat.reduceLeDiff, Nat.reduceLT, Nat.le_refl, Nat.zero_le, F, a, (by decide : ¬ (1 : Int32) = 0), Bool.false_eq_true, Bool.true_eq_false, if_true, if_false, not_true_eq_false, not_false_eq_true, zle, eq_self]
theorem h_pF {q : Nat} (hq : q ≤ 400) (F : J 265 5 = -1) (P : pF n J L R nc ns nx q) : ∃ J', (∀ D, 9 ≤ D → rf D 206 53 [some (.ref 265), some (.int 1), l2] [] (SH n, J, L, R, nc, ns, nx) = some (.inl none, (SH n, J', L, R, nc, ns, nx))) ∧ J' 265 5 = Int32.ofNat q ∧ onlyP scK J J' := by
  obtain ⟨J', A, h1, h2⟩ := P
  refine ⟨J', fun D hD => ?_, h1, h2⟩
  rw [h_p0 F A D (by omega)]
  exact h_F (by rw [h1]; exact nm1 hq) D
/-- what stands there, asked for at a token -/
theorem h_tk (hR : LYR R) (ht : t ≤ 400) (hB : ∀ i, i < t → ¬ B i = -1) (X : MS B t c a nm CS top ν α ω dd J) (hs : skT B t a = p) : MS B t c p nm CS top ν α ω dd (atM J p) ∧ SM top J (atM J p) ∧ p ≤ t ∧ (∀ D, cf D 193 [.ref 265] (SH n, J, L, R, nc, ns, nx) = some (.inl (some (.int (hv B t p))), (SH n, atM J p, L, R, nc, ns, nx))) ∧
    (∀ τ j, τ < 39 → j < 13 → ip_tb.getD τ [] = kwl.getD j [] → (kdT B t p = j → ∀ D, 3 ≤ D → cf D 202 [.ref 265, .ref (tx τ)] (SH n, atM J p, L, R, nc, ns, nx) = some (.inl (some (.int 1)), (SH n, atM J (enT B t p), L, R, nc, ns, nx))) ∧ (¬ kdT B t p = j → ∀ D, 3 ≤ D → cf D 202 [.ref 265, .ref (tx τ)] (SH n, atM J p, L, R, nc, ns, nx) = some (.inl (some (.int 0)), (SH n, atM J p, L, R, nc, ns, nx)))) := by
  have hp : p ≤ t := hs ▸ (skT_le X.2.1).2
  have ss : skT B t p = p := by have := skT_sk (B := B) X.2.1; rw [hs] at this; exact this
  obtain ⟨Y, SY⟩ := m_at (a' := p) X hp
  refine ⟨Y, SY, hp, fun D => c193 hR ht X.1 X.2.1 hs, fun τ j h1 h2 h3 => ⟨fun e D hD => ?_, fun e D hD => ?_⟩⟩
  · obtain ⟨E, rfl⟩ : ∃ E, D = E + 3 := ⟨D - 3, by omega⟩
    have := c202 (d := E) (n := n) (L := L) (nc := nc) (ns := ns) (nx := nx) (p := p) hR ht hB Y.1 Y.2.1 ss Y.2.2.1 h1 h2 h3 e
    rw [atM_at] at this
    exact this
  · obtain ⟨E, rfl⟩ : ∃ E, D = E + 3 := ⟨D - 3, by omega⟩
    have := c202n (d := E) (n := n) (L := L) (nc := nc) (ns := ns) (nx := nx) (p := p) hR ht hB Y.1 Y.2.1 ss Y.2.2.1 h1 h2 h3 e
    rw [atM_at] at this
    exact this
theorem h_and (hR : LYR R) (ht : t ≤ 400) (hB : ∀ i, i < t → ¬ B i = -1) (X : MS B t c a nm CS top ν α ω dd J) (hs : skT B t a = p) (hk : kdT B t p = 10) : ∃ J', (∀ D, 9 ≤ D → rf D 206 53 [some (.ref 265), some (.int 0), l2] [] (SH n, J, L, R, nc, ns, nx) = rf D 206 53 [some (.ref 265), some (.int 1), some (.int (hv B t p))] [] (SH n, J', L, R, nc, ns, nx)) ∧ MS B t c (enT B t p) nm CS top ν true ω dd J' ∧ SM top J J' := by
  obtain ⟨Y, SY, hp, H, TK⟩ := h_tk (n := n) (L := L) (nc := nc) (ns := ns) (nx := nx) hR ht hB X hs
  have T := (TK 36 10 (by decide) (by decide) rfl).1 hk
  obtain ⟨Z, SZ⟩ := m_at (a' := enT B t p) X (enT_le hp).2.1
  have x7 := Z.2.2.2.2.2.2.1
  have lt : top < 2147483648 := by omega
  have l10 : top < 10 := by omega
  obtain ⟨V, SV⟩ := m_fr (ν' := ν) (dd' := dd) (α' := true) (ω' := ω) (J1 := ip_up (atM J (enT B t p)) 285 top 1) Z (onlyP_up onlyP_refl (Or.inl ⟨by omega, by omega, rfl⟩)) ((up_a (by decide)).trans Z.2.2.2.2.2.2.2.1) ((up_a (by decide)).trans Z.2.2.2.2.2.2.2.2.1) up_eq ((up_a (by decide)).trans Z.2.2.2.2.2.2.2.2.2.2)
  refine ⟨_, fun D hD => ?_, V, SM_t SZ SV⟩
  obtain ⟨E, rfl⟩ : ∃ E, D = E + 1 := ⟨D - 1, by omega⟩
  have t1 := T E (by omega)
  rw [e206_53]
  simp only [e206_0, e206_1, e206_4, e206_7, e206_8, e206_11, e206_12, e206_15, e206_16, e206_19, e206_20, e206_21, e206_22, e206_25, e206_26, e206_26r, e206_27, e206_30, e206_31, e206_32, e206_35, e206_36, e206_37, e206_40, e206_41, e206_42, e206_45, e206_46, e206_47, e206_48, e206_51, e206_52, e206_54, e206_57, e206_58, e206_61, e206_62, e206_65, e206_66, e206_69, e206_72, e206_73, e206_76, e206_77, e206_78, e206_81, e206_82, e206_85, e206_86, e206_87, e206_89, e206_92, e206_95, e206_96, e206_99, e206_100, e206_103, e206_104, e206_105, e206_106, e206_107, e206_110, e206_111, e206_113, e206_116, e206_119, e206_120, e206_121, e206_124, e206_125, e206_126, e206_129, e206_130, e206_133, e206_134, e206_137, e206_138, e206_141, e206_142, e206_143, e206_146, e206_147, e206_148, e206_151, e206_152, e206_155, e206_156, e206_157, e206_160, e206_161, e206_163, e206_166, e206_167, e206_168, e206_171, e206_172, e206_175, e206_176, e206_179, e206_180, e206_181, e206_182, e206_183, e206_184, e206_185, e206_185r, e206_186, e206_189, e206_190, e206_191, e206_194, e206_195, e206_196, e206_199, e206_200, e206_202, e206_205, e206_206, e206_209, e206_210, e206_213, e206_214, e206_215, e206_216, e206_219, e206_220, e206_223, e206_224, e206_227, e206_228, e206_229, e206_232, e206_233, e206_234, e206_235, e206_238, e206_239, e206_242, e206_243, e206_244, e206_247, e206_248, e206_251, e206_252, e206_255, e206_256, e206_256r, e206_257, e206_260, e206_261, e206_262, e206_265, e206_266, e206_266r, e206_267, e206_270, e206_271, e206_272, e206_275, e206_276, e206_279, e206_282, rk_n, rk_v, nl_n, nl_i, nl_r, cat_n, ip_cat_int, ip_cat_ref, ip_cat_long, ip_rf_some, Nat.reduceAdd, Nat.reduceLeDiff, Nat.reduceLT, Nat.le_refl, Nat.zero_le, hR, X.2.2.1, H, t1, x7.1, ia_lit, nu_i, nu_tn, lt, l10, (by decide : ¬ (1 : Int32) = 0), true_or, or_true, Bool.false_eq_true, Bool.true_eq_false, if_true, if_false, not_true_eq_false, not_false_eq_true, zle, eq_self]
theorem h_or (hR : LYR R) (ht : t ≤ 400) (hB : ∀ i, i < t → ¬ B i = -1) (X : MS B t c a nm CS top ν α ω dd J) (hs : skT B t a = p) (hk : kdT B t p = 9) (hl : CS.length + 1 ≤ 419) : ∃ J', (∀ D, 9 ≤ D → rf D 206 53 [some (.ref 265), some (.int 0), l2] [] (SH n, J, L, R, nc, ns, nx) = rf D 206 53 [some (.ref 265), some (.int 1), some (.int (hv B t p))] [] (SH n, J', L, R, nc, ns, nx)) ∧ MS B t c (enT B t p) nm (CS ++ orl ω) top ν α true dd J' ∧ SM top J J' := by
  obtain ⟨Y, SY, hp, H, TK⟩ := h_tk (n := n) (L := L) (nc := nc) (ns := ns) (nx := nx) hR ht hB X hs
  have T1 := (TK 36 10 (by decide) (by decide) rfl).2 (by omega)
  have T2 := (TK 35 9 (by decide) (by decide) rfl).1 hk
  obtain ⟨Z, SZ⟩ := m_at (a' := enT B t p) X (enT_le hp).2.1
  obtain ⟨J3, A3, V, SV⟩ := c212 (n := n) (L := L) (nc := nc) (ns := ns) (nx := nx) hR Z hl true
  refine ⟨J3, fun D hD => ?_, V, SM_t SZ SV⟩
  obtain ⟨E, rfl⟩ : ∃ E, D = E + 1 := ⟨D - 1, by omega⟩
  have t1 := T1 E (by omega)
  have t2 := T2 E (by omega)
  have a3 : cf E 212 [.ref 265, .int 1] (SH n, atM J (enT B t p), L, R, nc, ns, nx) = _ := A3 E (by omega)
  rw [e206_53]
  simp only [e206_0, e206_1, e206_4, e206_7, e206_8, e206_11, e206_12, e206_15, e206_16, e206_19, e206_20, e206_21, e206_22, e206_25, e206_26, e206_26r, e206_27, e206_30, e206_31, e206_32, e206_35, e206_36, e206_37, e206_40, e206_41, e206_42, e206_45, e206_46, e206_47, e206_48, e206_51, e206_52, e206_54, e206_57, e206_58, e206_61, e206_62, e206_65, e206_66, e206_69, e206_72, e206_73, e206_76, e206_77, e206_78, e206_81, e206_82, e206_85, e206_86, e206_87, e206_89, e206_92, e206_95, e206_96, e206_99, e206_100, e206_103, e206_104, e206_105, e206_106, e206_107, e206_110, e206_111, e206_113, e206_116, e206_119, e206_120, e206_121, e206_124, e206_125, e206_126, e206_129, e206_130, e206_133, e206_134, e206_137, e206_138, e206_141, e206_142, e206_143, e206_146, e206_147, e206_148, e206_151, e206_152, e206_155, e206_156, e206_157, e206_160, e206_161, e206_163, e206_166, e206_167, e206_168, e206_171, e206_172, e206_175, e206_176, e206_179, e206_180, e206_181, e206_182, e206_183, e206_184, e206_185, e206_185r, e206_186, e206_189, e206_190, e206_191, e206_194, e206_195, e206_196, e206_199, e206_200, e206_202, e206_205, e206_206, e206_209, e206_210, e206_213, e206_214, e206_215, e206_216, e206_219, e206_220, e206_223, e206_224, e206_227, e206_228, e206_229, e206_232, e206_233, e206_234, e206_235, e206_238, e206_239, e206_242, e206_243, e206_244, e206_247, e206_248, e206_251, e206_252, e206_255, e206_256, e206_256r, e206_257, e206_260, e206_261, e206_262, e206_265, e206_266, e206_266r, e206_267, e206_270, e206_271, e206_272, e206_275, e206_276, e206_279, e206_282, rk_n, rk_v, nl_n, nl_i, nl_r, cat_n, ip_cat_int, ip_cat_ref, ip_cat_long, ip_rf_some, Nat.reduceAdd, Nat.reduceLeDiff, Nat.reduceLT, Nat.le_refl, Nat.zero_le, hR, X.2.2.1, H, t1, t2, a3, (by decide : ¬ (1 : Int32) = 0), true_or, or_true, Bool.false_eq_true, Bool.true_eq_false, if_true, if_false, not_true_eq_false, not_false_eq_true, zle, eq_self]
/-- a comma: the next part -/
theorem h_com (hR : LYR R) (ht : t ≤ 400) (hB : ∀ i, i < t → ¬ B i = -1) (X : MS B t c a nm CS top ν α ω dd J) (hs : skT B t a = p) (hk : kdT B t p = 44) (hl : CS.length + 1 ≤ 419) (h2 : J 281 top = 2) : ∃ J', (∀ D, 9 ≤ D → rf D 206 53 [some (.ref 265), some (.int 0), l2] [] (SH n, J, L, R, nc, ns, nx) = rf D 206 53 [some (.ref 265), some (.int 1), some (.int (hv B t p))] [] (SH n, J', L, R, nc, ns, nx)) ∧ MS B t c (enT B t p) nm (CS ++ orl ω) top ν α false dd J' ∧ onlyP scK J J' ∧ (∀ j a, j < top → 281 ≤ a → a ≤ 286 → J' a j = J a j) ∧ (J' 281 top = J 281 top ∧ J' 282 top = J 282 top ∧ J' 283 top = J 283 top + 1) := by
  obtain ⟨Y, SY, hp, H, TK⟩ := h_tk (n := n) (L := L) (nc := nc) (ns := ns) (nx := nx) hR ht hB X hs
  have T1 := (TK 36 10 (by decide) (by decide) rfl).2 (by omega)
  have T2 := (TK 35 9 (by decide) (by decide) rfl).2 (by omega)
  have hv' : hv B t p = 44 := (kd_sg (s := 44) (by omega)).mp hk
  obtain ⟨J3, A3, V, SV⟩ := c212 (n := n) (L := L) (nc := nc) (ns := ns) (nx := nx) hR Y hl false
  have x7 := Y.2.2.2.2.2.2.1
  have v7 := V.2.2.2.2.2.2.1
  have lt : top < 2147483648 := by omega
  have l10 : top < 10 := by omega
  have k1 : atM J p 281 top = 2 := (up_a (by decide)).trans h2
  obtain ⟨q1, q2⟩ := kd_sn (s := 44) (by omega) hk
  have e4 : Int32.ofNat p + 1 = Int32.ofNat (enT B t p) := by rw [q1]; exact nu_add (s := 1)
  have j4 : ip_up J3 283 top (J3 283 top + 1) 265 4 = Int32.ofNat p := (up_a (by decide)).trans V.1.2.1
  have V2 : MS B t c p nm (CS ++ orl ω) top ν α false dd (ip_up J3 283 top (J3 283 top + 1)) := by
    obtain ⟨x1, x2, x3, x4, x5, x6, x7, x8, x9, x10, x11⟩ := V
    exact ⟨⟨(up_a (by decide)).trans x1.1, (up_a (by decide)).trans x1.2.1, fun i hi => (up_a (by decide)).trans (x1.2.2 i hi)⟩, x2, (up_a (by decide)).trans x3, (up_a (by decide)).trans x4, ⟨(up_a (by decide)).trans x5.1, x5.2⟩, ⟨(up_a (by decide)).trans x6.1, fun i hi => by rw [up_a (by decide), up_a (by decide), up_a (by decide)]; exact x6.2 i hi⟩, ⟨(up_a (by decide)).trans x7.1, x7.2⟩, (up_a (by decide)).trans x8, (up_a (by decide)).trans x9, (up_a (by decide)).trans x10, (up_a (by decide)).trans x11⟩
  obtain ⟨V3, SV3⟩ := m_at (a' := enT B t p) V2 (enT_le hp).2.1
  have g3 : ∀ a k, ¬ (a = 283 ∧ k = top) → ¬ (a = 265 ∧ k = 4) → atM (ip_up J3 283 top (J3 283 top + 1)) (enT B t p) a k = J3 a k := by
    intro a k h1 h2
    unfold atM
    by_cases z : a = 265
    · subst z; rw [up_k (fun e => h2 ⟨rfl, e⟩), up_a (by decide)]
    · rw [up_a z]
      by_cases y : a = 283
      · subst y; rw [up_k (fun e => h1 ⟨rfl, e⟩)]
      · rw [up_a y]
  have s3 := SM_t SY SV
  refine ⟨_, fun D hD => ?_, V3, onlyP_tr s3.1 (onlyP_up (onlyP_up onlyP_refl (by unfold scK; omega)) (by unfold scK; omega)), fun j a h1 h2 h3 => ?_, ?_, ?_, ?_⟩
  · obtain ⟨E, rfl⟩ : ∃ E, D = E + 1 := ⟨D - 1, by omega⟩
    have t1 := T1 E (by omega)
    have t2 := T2 E (by omega)
    have a3 : cf E 212 [.ref 265, .int 0] (SH n, atM J p, L, R, nc, ns, nx) = _ := A3 E (by omega)
    have e5 : ip_up (ip_up J3 283 top (J3 283 top + 1)) 265 4 (Int32.ofNat (enT B t p)) = atM (ip_up J3 283 top (J3 283 top + 1)) (enT B t p) := rfl
    rw [e206_53]
    simp only [e206_0, e206_1, e206_4, e206_7, e206_8, e206_11, e206_12, e206_15, e206_16, e206_19, e206_20, e206_21, e206_22, e206_25, e206_26, e206_26r, e206_27, e206_30, e206_31, e206_32, e206_35, e206_36, e206_37, e206_40, e206_41, e206_42, e206_45, e206_46, e206_47, e206_48, e206_51, e206_52, e206_54, e206_57, e206_58, e206_61, e206_62, e206_65, e206_66, e206_69, e206_72, e206_73, e206_76, e206_77, e206_78, e206_81, e206_82, e206_85, e206_86, e206_87, e206_89, e206_92, e206_95, e206_96, e206_99, e206_100, e206_103, e206_104, e206_105, e206_106, e206_107, e206_110, e206_111, e206_113, e206_116, e206_119, e206_120, e206_121, e206_124, e206_125, e206_126, e206_129, e206_130, e206_133, e206_134, e206_137, e206_138, e206_141, e206_142, e206_143, e206_146, e206_147, e206_148, e206_151, e206_152, e206_155, e206_156, e206_157, e206_160, e206_161, e206_163, e206_166, e206_167, e206_168, e206_171, e206_172, e206_175, e206_176, e206_179, e206_180, e206_181, e206_182, e206_183, e206_184, e206_185, e206_185r, e206_186, e206_189, e206_190, e206_191, e206_194, e206_195, e206_196, e206_199, e206_200, e206_202, e206_205, e206_206, e206_209, e206_210, e206_213, e206_214, e206_215, e206_216, e206_219, e206_220, e206_223, e206_224, e206_227, e206_228, e206_229, e206_232, e206_233, e206_234, e206_235, e206_238, e206_239, e206_242, e206_243, e206_244, e206_247, e206_248, e206_251, e206_252, e206_255, e206_256, e206_256r, e206_257, e206_260, e206_261, e206_262, e206_265, e206_266, e206_266r, e206_267, e206_270, e206_271, e206_272, e206_275, e206_276, e206_279, e206_282, rk_n, rk_v, nl_n, nl_i, nl_r, cat_n, ip_cat_int, ip_cat_ref, ip_cat_long, ip_rf_some, Nat.reduceAdd, Nat.reduceLeDiff, Nat.reduceLT, Nat.le_refl, Nat.zero_le, hR, X.2.2.1, H, hv', t1, t2, a3, x7.1, v7.1, k1, ia_lit, nu_i, nu_tn, lt, l10, j4, e4, e5, (by decide : ¬ (2 : Int32) = 0), true_or, or_true, Bool.false_eq_true, Bool.true_eq_false, if_true, if_false, not_true_eq_false, not_false_eq_true, zle, eq_self]
  · rw [g3 a j (by omega) (by omega)]; exact s3.2.1 j a h1 h2 h3
  · rw [g3 281 top (by omega) (by omega)]; exact s3.2.2 281 (by omega) (by omega)
  · rw [g3 282 top (by omega) (by omega)]; exact s3.2.2 282 (by omega) (by omega)
  · unfold atM
    rw [up_a (by decide), up_eq, s3.2.2 283 (by omega) (by omega)]
/-- the end of it all -/
theorem h_end (hR : LYR R) (ht : t ≤ 400) (hB : ∀ i, i < t → ¬ B i = -1) (X : MS B t c a nm CS top ν α ω dd J) (hs : skT B t a = p) (h9 : ¬ kdT B t p = 9) (h10 : ¬ kdT B t p = 10) (hl : CS.length + 1 ≤ 419) (h2 : J 281 top = 0) : ∃ J', (∀ D, 9 ≤ D → rf D 206 53 [some (.ref 265), some (.int 0), l2] [] (SH n, J, L, R, nc, ns, nx) = some (.inl none, (SH n, J', L, R, nc, ns, nx))) ∧ MS B t c p nm (CS ++ orl ω) top ν α false dd J' ∧ SM top J J' := by
  obtain ⟨Y, SY, hp, H, TK⟩ := h_tk (n := n) (L := L) (nc := nc) (ns := ns) (nx := nx) hR ht hB X hs
  have T1 := (TK 36 10 (by decide) (by decide) rfl).2 h10
  have T2 := (TK 35 9 (by decide) (by decide) rfl).2 h9
  obtain ⟨J3, A3, V, SV⟩ := c212 (n := n) (L := L) (nc := nc) (ns := ns) (nx := nx) hR Y hl false
  have x7 := Y.2.2.2.2.2.2.1
  have lt : top < 2147483648 := by omega
  have l10 : top < 10 := by omega
  have k1 : atM J p 281 top = 0 := (up_a (by decide)).trans h2
  refine ⟨J3, fun D hD => ?_, V, SM_t SY SV⟩
  obtain ⟨E, rfl⟩ : ∃ E, D = E + 1 := ⟨D - 1, by omega⟩
  have t1 := T1 E (by omega)
  have t2 := T2 E (by omega)
  have a3 : cf E 212 [.ref 265, .int 0] (SH n, atM J p, L, R, nc, ns, nx) = _ := A3 E (by omega)
  rw [e206_53]
  simp only [e206_0, e206_1, e206_4, e206_7, e206_8, e206_11, e206_12, e206_15, e206_16, e206_19, e206_20, e206_21, e206_22, e206_25, e206_26, e206_26r, e206_27, e206_30, e206_31, e206_32, e206_35, e206_36, e206_37, e206_40, e206_41, e206_42, e206_45, e206_46, e206_47, e206_48, e206_51, e206_52, e206_54, e206_57, e206_58, e206_61, e206_62, e206_65, e206_66, e206_69, e206_72, e206_73, e206_76, e206_77, e206_78, e206_81, e206_82, e206_85, e206_86, e206_87, e206_89, e206_92, e206_95, e206_96, e206_99, e206_100, e206_103, e206_104, e206_105, e206_106, e206_107, e206_110, e206_111, e206_113, e206_116, e206_119, e206_120, e206_121, e206_124, e206_125, e206_126, e206_129, e206_130, e206_133, e206_134, e206_137, e206_138, e206_141, e206_142, e206_143, e206_146, e206_147, e206_148, e206_151, e206_152, e206_155, e206_156, e206_157, e206_160, e206_161, e206_163, e206_166, e206_167, e206_168, e206_171, e206_172, e206_175, e206_176, e206_179, e206_180, e206_181, e206_182, e206_183, e206_184, e206_185, e206_185r, e206_186, e206_189, e206_190, e206_191, e206_194, e206_195, e206_196, e206_199, e206_200, e206_202, e206_205, e206_206, e206_209, e206_210, e206_213, e206_214, e206_215, e206_216, e206_219, e206_220, e206_223, e206_224, e206_227, e206_228, e206_229, e206_232, e206_233, e206_234, e206_235, e206_238, e206_239, e206_242, e206_243, e206_244, e206_247, e206_248, e206_251, e206_252, e206_255, e206_256, e206_256r, e206_257, e206_260, e206_261, e206_262, e206_265, e206_266, e206_266r, e206_267, e206_270, e206_271, e206_272, e206_275, e206_276, e206_279, e206_282, rk_n, rk_v, nl_n, nl_i, nl_r, cat_n, ip_cat_int, ip_cat_ref, ip_cat_long, ip_rf_some, Nat.reduceAdd, Nat.reduceLeDiff, Nat.reduceLT, Nat.le_refl, Nat.zero_le, hR, X.2.2.1, H, t1, t2, a3, x7.1, k1, ia_lit, nu_i, nu_tn, lt, l10, true_or, or_true, Bool.false_eq_true, Bool.true_eq_false, if_true, if_false, not_true_eq_false, not_false_eq_true, zle, eq_self]
/-- a bracket that should be closed, and isn't -/
theorem h_clx (hR : LYR R) (ht : t ≤ 400) (hB : ∀ i, i < t → ¬ B i = -1) (X : MS B t c a nm CS top ν α ω dd J) (hs : skT B t a = p) (h9 : ¬ kdT B t p = 9) (h10 : ¬ kdT B t p = 10) (h41 : ¬ kdT B t p = 41) (h2 : (J 281 top = 1) ∨ (J 281 top = 2 ∧ ¬ kdT B t p = 44)) : ∃ J', (∀ D, 9 ≤ D → rf D 206 53 [some (.ref 265), some (.int 0), l2] [] (SH n, J, L, R, nc, ns, nx) = some (.inl none, (SH n, J', L, R, nc, ns, nx))) ∧ J' 265 5 = Int32.ofNat p ∧ onlyP scK J J' := by
  obtain ⟨Y, SY, hp, H, TK⟩ := h_tk (n := n) (L := L) (nc := nc) (ns := ns) (nx := nx) hR ht hB X hs
  have ss : skT B t p = p := by have := skT_sk (B := B) X.2.1; rw [hs] at this; exact this
  have T1 := (TK 36 10 (by decide) (by decide) rfl).2 h10
  have T2 := (TK 35 9 (by decide) (by decide) rfl).2 h9
  have Mu := fun d => c213n (d := d) (n := n) (L := L) (nc := nc) (ns := ns) (nx := nx) (s := 41) (p := p) (by omega) hR ht Y.1 Y.2.1 ss Y.2.2.1 h41
  have Mu : ∀ d, cf (d + 1) 213 [.ref 265, .int 41] (SH n, atM J p, L, R, nc, ns, nx) = _ := Mu
  have x7 := Y.2.2.2.2.2.2.1
  have lt : top < 2147483648 := by omega
  have l10 : top < 10 := by omega
  have w5 : wrM (atM J p) p 265 5 = Int32.ofNat p := by unfold wrM; rw [up_eq]
  have w5' : ¬ wrM (atM J p) p 265 5 = -1 := by rw [w5]; exact nm1 (by omega)
  refine ⟨wrM (atM J p) p, fun D hD => ?_, w5, by unfold wrM; exact onlyP_up (onlyP_up SY.1 (by unfold scK; omega)) (by unfold scK; omega)⟩
  obtain ⟨E, rfl⟩ : ∃ E, D = E + 1 + 1 := ⟨D - 2, by omega⟩
  have t1 := T1 (E + 1) (by omega)
  have t2 := T2 (E + 1) (by omega)
  rw [e206_53]
  rcases h2 with h2 | ⟨h2, h44⟩
  · have k1 : atM J p 281 top = 1 := (up_a (by decide)).trans h2
    simp only [e206_0, e206_1, e206_4, e206_7, e206_8, e206_11, e206_12, e206_15, e206_16, e206_19, e206_20, e206_21, e206_22, e206_25, e206_26, e206_26r, e206_27, e206_30, e206_31, e206_32, e206_35, e206_36, e206_37, e206_40, e206_41, e206_42, e206_45, e206_46, e206_47, e206_48, e206_51, e206_52, e206_54, e206_57, e206_58, e206_61, e206_62, e206_65, e206_66, e206_69, e206_72, e206_73, e206_76, e206_77, e206_78, e206_81, e206_82, e206_85, e206_86, e206_87, e206_89, e206_92, e206_95, e206_96, e206_99, e206_100, e206_103, e206_104, e206_105, e206_106, e206_107, e206_110, e206_111, e206_113, e206_116, e206_119, e206_120, e206_121, e206_124, e206_125, e206_126, e206_129, e206_130, e206_133, e206_134, e206_137, e206_138, e206_141, e206_142, e206_143, e206_146, e206_147, e206_148, e206_151, e206_152, e206_155, e206_156, e206_157, e206_160, e206_161, e206_163, e206_166, e206_167, e206_168, e206_171, e206_172, e206_175, e206_176, e206_179, e206_180, e206_181, e206_182, e206_183, e206_184, e206_185, e206_185r, e206_186, e206_189, e206_190, e206_191, e206_194, e206_195, e206_196, e206_199, e206_200, e206_202, e206_205, e206_206, e206_209, e206_210, e206_213, e206_214, e206_215, e206_216, e206_219, e206_220, e206_223, e206_224, e206_227, e206_228, e206_229, e206_232, e206_233, e206_234, e206_235, e206_238, e206_239, e206_242, e206_243, e206_244, e206_247, e206_248, e206_251, e206_252, e206_255, e206_256, e206_256r, e206_257, e206_260, e206_261, e206_262, e206_265, e206_266, e206_266r, e206_267, e206_270, e206_271, e206_272, e206_275, e206_276, e206_279, e206_282, rk_n, rk_v, nl_n, nl_i, nl_r, cat_n, ip_cat_int, ip_cat_ref, ip_cat_long, ip_rf_some, Nat.reduceAdd, Nat.reduceLeDiff, Nat.reduceLT, Nat.le_refl, Nat.zero_le, hR, X.2.2.1, H, t1, t2, x7.1, k1, Mu, w5', ia_lit, nu_i, nu_tn, lt, l10, (by decide : ¬ (1 : Int32) = 0 ∧ ¬ (1 : Int32) = 2), true_or, or_true, Bool.false_eq_true, Bool.true_eq_false, if_true, if_false, not_true_eq_false, not_false_eq_true, zle, eq_self]
  · have k1 : atM J p 281 top = 2 := (up_a (by decide)).trans h2
    have n44 : ¬ hv B t p = 44 := fun e => h44 ((kd_sg (s := 44) (by omega)).mpr e)
    simp only [e206_0, e206_1, e206_4, e206_7, e206_8, e206_11, e206_12, e206_15, e206_16, e206_19, e206_20, e206_21, e206_22, e206_25, e206_26, e206_26r, e206_27, e206_30, e206_31, e206_32, e206_35, e206_36, e206_37, e206_40, e206_41, e206_42, e206_45, e206_46, e206_47, e206_48, e206_51, e206_52, e206_54, e206_57, e206_58, e206_61, e206_62, e206_65, e206_66, e206_69, e206_72, e206_73, e206_76, e206_77, e206_78, e206_81, e206_82, e206_85, e206_86, e206_87, e206_89, e206_92, e206_95, e206_96, e206_99, e206_100, e206_103, e206_104, e206_105, e206_106, e206_107, e206_110, e206_111, e206_113, e206_116, e206_119, e206_120, e206_121, e206_124, e206_125, e206_126, e206_129, e206_130, e206_133, e206_134, e206_137, e206_138, e206_141, e206_142, e206_143, e206_146, e206_147, e206_148, e206_151, e206_152, e206_155, e206_156, e206_157, e206_160, e206_161, e206_163, e206_166, e206_167, e206_168, e206_171, e206_172, e206_175, e206_176, e206_179, e206_180, e206_181, e206_182, e206_183, e206_184, e206_185, e206_185r, e206_186, e206_189, e206_190, e206_191, e206_194, e206_195, e206_196, e206_199, e206_200, e206_202, e206_205, e206_206, e206_209, e206_210, e206_213, e206_214, e206_215, e206_216, e206_219, e206_220, e206_223, e206_224, e206_227, e206_228, e206_229, e206_232, e206_233, e206_234, e206_235, e206_238, e206_239, e206_242, e206_243, e206_244, e206_247, e206_248, e206_251, e206_252, e206_255, e206_256, e206_256r, e206_257, e206_260, e206_261, e206_262, e206_265, e206_266, e206_266r, e206_267, e206_270, e206_271, e206_272, e206_275, e206_276, e206_279, e206_282, rk_n, rk_v, nl_n, nl_i, nl_r, cat_n, ip_cat_int, ip_cat_ref, ip_cat_long, ip_rf_some, Nat.reduceAdd, Nat.reduceLeDiff, Nat.reduceLT, Nat.le_refl, Nat.zero_le, hR, X.2.2.1, H, t1, t2, x7.1, k1, n44, Mu, w5', ia_lit, nu_i, nu_tn, lt, l10, (by decide : ¬ (2 : Int32) = 0), true_or, or_true, Bool.false_eq_true, Bool.true_eq_false, if_true, if_false, not_true_eq_false, not_false_eq_true, zle, eq_self]
/-- a bracket is closed -/
def sml (z : Bool) (j k : Nat) : List CD := if z = true then [(4, j, k)] else []
theorem h_cl {j0 k0 : Nat} {z : Bool} (hR : LYR R) (ht : t ≤ 400) (hB : ∀ i, i < t → ¬ B i = -1) (X : MS B t c a nm CS (top + 1) 0 false ω1 (dd + 1) J) (hs : skT B t a = p) (hk : kdT B t p = 41) (h2 : J 281 (top + 1) = if z = true then 2 else 1) (h3 : z = true → J 282 (top + 1) = Int32.ofNat j0 ∧ J 283 (top + 1) = Int32.ofNat k0) (g1 : J 284 top = Int32.ofNat ν) (g2 : J 285 top = bI α) (g3 : J 286 top = bI ω) (hν : ν ≤ dd) (hdd : dd ≤ 6) (hl : CS.length + ν + 3 ≤ 418) : ∃ J', (∀ D, 9 ≤ D → rf D 206 53 [some (.ref 265), some (.int 0), l2] [] (SH n, J, L, R, nc, ns, nx) = rf D 206 53 [some (.ref 265), some (.int 0), some (.int (hv B t p))] [] (SH n, J', L, R, nc, ns, nx)) ∧ MS B t c (enT B t p) nm (CS ++ orl ω1 ++ sml z j0 k0 ++ (ntl ν ++ anl α)) top 0 false ω (dd - ν) J' ∧ onlyP scK J J' ∧ (∀ j a, j < top → 281 ≤ a → a ≤ 286 → J' a j = J a j) ∧ (∀ a, 281 ≤ a → a ≤ 283 → J' a top = J a top) := by
  obtain ⟨Y, SY, hp, H, TK⟩ := h_tk (n := n) (L := L) (nc := nc) (ns := ns) (nx := nx) hR ht hB X hs
  have ss : skT B t p = p := by have := skT_sk (B := B) X.2.1; rw [hs] at this; exact this
  have T1 := (TK 36 10 (by decide) (by decide) rfl).2 (by omega)
  have T2 := (TK 35 9 (by decide) (by decide) rfl).2 (by omega)
  have Mu := fun d => c213 (d := d) (n := n) (L := L) (nc := nc) (ns := ns) (nx := nx) (s := 41) (p := p) (by omega) hR ht Y.1 Y.2.1 ss Y.2.2.1 hk
  rw [atM_at] at Mu
  have Mu : ∀ d, cf (d + 1) 213 [.ref 265, .int 41] (SH n, atM J p, L, R, nc, ns, nx) = _ := Mu
  obtain ⟨Z, SZ⟩ := m_at (a' := enT B t p) X (enT_le hp).2.1
  obtain ⟨J3, A3, V, SV⟩ := c212 (n := n) (L := L) (nc := nc) (ns := ns) (nx := nx) hR Z (by omega) false
  have x7 := Y.2.2.2.2.2.2.1
  have v7 := V.2.2.2.2.2.2.1
  have lt : top + 1 < 2147483648 := by omega
  have l10 : top + 1 < 10 := by omega
  have S3 := SM_t SZ SV
  have hv' : ¬ hv B t p = 44 := fun e => by have := (kd_sg (s := 44) (by omega)).mpr e; omega
  -- the row of so many
  have PU : ∃ J4, MS B t c (enT B t p) nm (CS ++ orl ω1 ++ sml z j0 k0) (top + 1) 0 false false (dd + 1) J4 ∧ SM (top + 1) J3 J4 ∧ (z = true → ∀ d, cf d 210 [.ref 265, .int 4, .int (Int32.ofNat j0), .int (Int32.ofNat k0)] (SH n, J3, L, R, nc, ns, nx) = some (.inl none, (SH n, J4, L, R, nc, ns, nx))) ∧ (z = false → J4 = J3) := by
    cases z with
    | true =>
      have ol : (orl ω1).length ≤ 1 := by cases ω1 <;> decide
      obtain ⟨J4, A4, V4, S4⟩ := m_put (n := n) (L := L) (nc := nc) (ns := ns) (nx := nx) hR V (by rw [List.length_append]; omega) (4, j0, k0)
      exact ⟨J4, V4, S4, fun _ => A4, fun e => by cases e⟩
    | false => exact ⟨J3, by simpa [sml] using V, SM_r, (fun e => by cases e), fun _ => rfl⟩
  obtain ⟨J4, V4, S4, A4, E4⟩ := PU
  have S34 := SM_t S3 S4
  have w7 := V4.2.2.2.2.2.2.1
  have w8 := V4.2.2.2.2.2.2.2.1
  have e1 : Int32.ofNat (dd + 1) - 1 = Int32.ofNat dd := by
    rw [show Int32.ofNat (dd + 1) = Int32.ofNat dd + 1 from (nu_add (s := 1)).symm, Int32.add_sub_cancel]
  have e2 : Int32.ofNat (top + 1) - 1 = Int32.ofNat top := by
    rw [show Int32.ofNat (top + 1) = Int32.ofNat top + 1 from (nu_add (s := 1)).symm, Int32.add_sub_cancel]
  generalize hJ5 : ip_up (ip_up J4 265 34 (Int32.ofNat dd)) 265 33 (Int32.ofNat top) = J5
  have O5 : onlyP (fun a k => a = 265 ∧ (k = 33 ∨ k = 34)) J4 J5 := by rw [← hJ5]; exact onlyP_up (onlyP_up onlyP_refl ⟨rfl, by omega⟩) ⟨rfl, by omega⟩
  have V5 : MS B t c (enT B t p) nm (CS ++ orl ω1 ++ sml z j0 k0) top ν α ω dd J5 := by
    obtain ⟨x1, x2, x3, x4, x5, x6, x7, x8, x9, x10, x11⟩ := V4
    refine ⟨⟨?_, ?_, fun i hi => ?_⟩, x2, ?_, ?_, ⟨?_, x5.2⟩, ⟨?_, fun i hi => ?_⟩, ⟨?_, by omega⟩, ?_, ?_, ?_, ?_⟩
    · rw [O5 265 3 (by omega)]; exact x1.1
    · rw [O5 265 4 (by omega)]; exact x1.2.1
    · rw [O5 266 i (by omega)]; exact x1.2.2 i hi
    · rw [O5 265 5 (by omega)]; exact x3
    · rw [O5 265 6 (by omega)]; exact x4
    · rw [O5 265 8 (by omega)]; exact x5.1
    · rw [O5 265 9 (by omega)]; exact x6.1
    · rw [O5 271 i (by omega), O5 272 i (by omega), O5 273 i (by omega)]; exact x6.2 i hi
    · rw [← hJ5, up_eq]
    · rw [← hJ5, up_k (by decide), up_eq]
    · rw [O5 284 top (by omega), S34.2.1 top 284 (by omega) (by omega) (by omega)]; exact g1
    · rw [O5 285 top (by omega), S34.2.1 top 285 (by omega) (by omega) (by omega)]; exact g2
    · rw [O5 286 top (by omega), S34.2.1 top 286 (by omega) (by omega) (by omega)]; exact g3
  have ol : (orl ω1).length ≤ 1 := by cases ω1 <;> decide
  have sl : (sml z j0 k0).length ≤ 1 := by cases z <;> simp [sml]
  obtain ⟨J6, A6, V6, S6⟩ := c211 (n := n) (L := L) (nc := nc) (ns := ns) (nx := nx) hR V5 (by rw [List.length_append, List.length_append]; omega) hν (by omega)
  refine ⟨J6, fun D hD => ?_, V6, onlyP_tr S34.1 (onlyP_tr (onlyP_mono O5 (fun a k e => by unfold scK; omega)) S6.1), fun j a h1 h2 h3 => ?_, fun a h1 h2 => ?_⟩
  · obtain ⟨E, rfl⟩ : ∃ E, D = E + 1 + 1 := ⟨D - 2, by omega⟩
    have t1 := T1 (E + 1) (by omega)
    have t2 := T2 (E + 1) (by omega)
    have a3 : cf (E + 1) 212 [.ref 265, .int 0] (SH n, atM J (enT B t p), L, R, nc, ns, nx) = _ := A3 (E + 1) (by omega)
    have a6 := A6 (E + 1) (by omega)
    have z5 := Z.2.2.1
    have w34 : ip_up J4 265 34 (Int32.ofNat dd) 265 33 = Int32.ofNat (top + 1) := (up_k (by decide)).trans w7.1
    rw [e206_53]
    cases z with
    | true =>
      rw [if_pos rfl] at h2
      have k1 : atM J p 281 (top + 1) = 2 := (up_a (by decide)).trans h2
      have k3 : J3 281 (top + 1) = 2 := (S3.2.2 281 (by omega) (by omega)).trans h2
      obtain ⟨r1, r2⟩ := h3 rfl
      have k4 : J3 282 (top + 1) = Int32.ofNat j0 := (S3.2.2 282 (by omega) (by omega)).trans r1
      have k5 : J3 283 (top + 1) = Int32.ofNat k0 := (S3.2.2 283 (by omega) (by omega)).trans r2
      have a4 := A4 rfl
      simp only [e206_0, e206_1, e206_4, e206_7, e206_8, e206_11, e206_12, e206_15, e206_16, e206_19, e206_20, e206_21, e206_22, e206_25, e206_26, e206_26r, e206_27, e206_30, e206_31, e206_32, e206_35, e206_36, e206_37, e206_40, e206_41, e206_42, e206_45, e206_46, e206_47, e206_48, e206_51, e206_52, e206_54, e206_57, e206_58, e206_61, e206_62, e206_65, e206_66, e206_69, e206_72, e206_73, e206_76, e206_77, e206_78, e206_81, e206_82, e206_85, e206_86, e206_87, e206_89, e206_92, e206_95, e206_96, e206_99, e206_100, e206_103, e206_104, e206_105, e206_106, e206_107, e206_110, e206_111, e206_113, e206_116, e206_119, e206_120, e206_121, e206_124, e206_125, e206_126, e206_129, e206_130, e206_133, e206_134, e206_137, e206_138, e206_141, e206_142, e206_143, e206_146, e206_147, e206_148, e206_151, e206_152, e206_155, e206_156, e206_157, e206_160, e206_161, e206_163, e206_166, e206_167, e206_168, e206_171, e206_172, e206_175, e206_176, e206_179, e206_180, e206_181, e206_182, e206_183, e206_184, e206_185, e206_185r, e206_186, e206_189, e206_190, e206_191, e206_194, e206_195, e206_196, e206_199, e206_200, e206_202, e206_205, e206_206, e206_209, e206_210, e206_213, e206_214, e206_215, e206_216, e206_219, e206_220, e206_223, e206_224, e206_227, e206_228, e206_229, e206_232, e206_233, e206_234, e206_235, e206_238, e206_239, e206_242, e206_243, e206_244, e206_247, e206_248, e206_251, e206_252, e206_255, e206_256, e206_256r, e206_257, e206_260, e206_261, e206_262, e206_265, e206_266, e206_266r, e206_267, e206_270, e206_271, e206_272, e206_275, e206_276, e206_279, e206_282, rk_n, rk_v, nl_n, nl_i, nl_r, cat_n, ip_cat_int, ip_cat_ref, ip_cat_long, ip_rf_some, Nat.reduceAdd, Nat.reduceLeDiff, Nat.reduceLT, Nat.le_refl, Nat.zero_le, hR, X.2.2.1, H, t1, t2, x7.1, v7.1, k1, hv', Mu, z5, a3, k3, k4, k5, a4, w8, e1, w34, e2, hJ5, a6, ia_lit, nu_i, nu_tn, lt, l10, (by decide : ¬ (2 : Int32) = 0), true_or, or_true, Bool.false_eq_true, Bool.true_eq_false, if_true, if_false, not_true_eq_false, not_false_eq_true, zle, eq_self]
    | false =>
      rw [if_neg (by decide)] at h2
      have k1 : atM J p 281 (top + 1) = 1 := (up_a (by decide)).trans h2
      have k3 : J3 281 (top + 1) = 1 := (S3.2.2 281 (by omega) (by omega)).trans h2
      have q := E4 rfl
      subst q
      simp only [e206_0, e206_1, e206_4, e206_7, e206_8, e206_11, e206_12, e206_15, e206_16, e206_19, e206_20, e206_21, e206_22, e206_25, e206_26, e206_26r, e206_27, e206_30, e206_31, e206_32, e206_35, e206_36, e206_37, e206_40, e206_41, e206_42, e206_45, e206_46, e206_47, e206_48, e206_51, e206_52, e206_54, e206_57, e206_58, e206_61, e206_62, e206_65, e206_66, e206_69, e206_72, e206_73, e206_76, e206_77, e206_78, e206_81, e206_82, e206_85, e206_86, e206_87, e206_89, e206_92, e206_95, e206_96, e206_99, e206_100, e206_103, e206_104, e206_105, e206_106, e206_107, e206_110, e206_111, e206_113, e206_116, e206_119, e206_120, e206_121, e206_124, e206_125, e206_126, e206_129, e206_130, e206_133, e206_134, e206_137, e206_138, e206_141, e206_142, e206_143, e206_146, e206_147, e206_148, e206_151, e206_152, e206_155, e206_156, e206_157, e206_160, e206_161, e206_163, e206_166, e206_167, e206_168, e206_171, e206_172, e206_175, e206_176, e206_179, e206_180, e206_181, e206_182, e206_183, e206_184, e206_185, e206_185r, e206_186, e206_189, e206_190, e206_191, e206_194, e206_195, e206_196, e206_199, e206_200, e206_202, e206_205, e206_206, e206_209, e206_210, e206_213, e206_214, e206_215, e206_216, e206_219, e206_220, e206_223, e206_224, e206_227, e206_228, e206_229, e206_232, e206_233, e206_234, e206_235, e206_238, e206_239, e206_242, e206_243, e206_244, e206_247, e206_248, e206_251, e206_252, e206_255, e206_256, e206_256r, e206_257, e206_260, e206_261, e206_262, e206_265, e206_266, e206_266r, e206_267, e206_270, e206_271, e206_272, e206_275, e206_276, e206_279, e206_282, rk_n, rk_v, nl_n, nl_i, nl_r, cat_n, ip_cat_int, ip_cat_ref, ip_cat_long, ip_rf_some, Nat.reduceAdd, Nat.reduceLeDiff, Nat.reduceLT, Nat.le_refl, Nat.zero_le, hR, X.2.2.1, H, t1, t2, x7.1, v7.1, k1, Mu, z5, a3, k3, w8, e1, w34, e2, hJ5, a6, ia_lit, nu_i, nu_tn, lt, l10, (by decide : ¬ (1 : Int32) = 0 ∧ ¬ (1 : Int32) = 2), true_or, or_true, Bool.false_eq_true, Bool.true_eq_false, if_true, if_false, not_true_eq_false, not_false_eq_true, zle, eq_self]
  · rw [S6.2.1 j a h1 h2 h3, O5 a j (by omega)]; exact S34.2.1 j a (by omega) h2 h3
  · rw [S6.2.2 a h1 h2, O5 a top (by omega)]; exact S34.2.1 top a (by omega) h1 (by omega)
end ML3
