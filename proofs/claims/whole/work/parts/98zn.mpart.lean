/-! READ: the model begins a part -/
section MP
variable {n d a b c k t p T nm top ν dd a' : Nat} {α ω : Bool} {B : Nat → Int32} {f : Nat → List Nat} {J K J' : Nat → Nat → Int32} {L L' : Nat → Nat → Int64} {R : Nat → Nat → Option Nat} {nc ns : Nat} {nx : Bool} {x y z : Int32} {CS : List CD} {q : CD}
theorem c207r (hR : LYR R) (h33 : J 265 33 = Int32.ofNat top) (ht8 : top < 8) : ∃ J', (∀ d, cf d 207 [.ref 265, .int x, .int y] (SH n, J, L, R, nc, ns, nx) = some (.inl none, (SH n, J', L, R, nc, ns, nx))) ∧ onlyP scK J J' ∧ J' 265 5 = J 265 5 := by
  have lt : top + 1 < 2147483648 := by omega
  have l10 : top + 1 < 10 := by omega
  have e1 : Int32.ofNat top + 1 = Int32.ofNat (top + 1) := nu_add (s := 1)
  refine ⟨ip_up (ip_up (ip_up (ip_up (ip_up (ip_up (ip_up J 265 33 (Int32.ofNat (top + 1))) 281 (top + 1) x) 282 (top + 1) y) 283 (top + 1) 1) 284 (top + 1) 0) 285 (top + 1) 0) 286 (top + 1) 0, fun d => ?_, ?_, ?_⟩
  · simp only [en207, e207_0, e207_1, e207_1r, e207_2, e207_5, e207_6, e207_7, e207_10, e207_11, e207_14, e207_15, e207_18, e207_19, e207_20, e207_21, e207_24, e207_25, e207_28, e207_29, e207_30, e207_31, e207_34, e207_35, e207_38, e207_39, e207_40, e207_41, e207_44, e207_45, e207_48, e207_49, e207_50, e207_51, e207_54, e207_55, e207_58, e207_59, e207_60, e207_61, e207_64, e207_65, e207_68, e207_69, e207_70, rk_n, rk_v, nl_n, nl_i, nl_r, cat_n, ip_cat_int, ip_cat_ref, ip_cat_long, ip_rf_some, Nat.reduceAdd, Nat.reduceLeDiff, Nat.reduceLT, Nat.le_refl, Nat.zero_le, hR, h33, e1, ia_lit, nu_i, nu_tn, lt, l10, up_eq, up_a, Nat.reduceEqDiff, true_or, or_true, Bool.false_eq_true, Bool.true_eq_false, if_true, if_false, not_true_eq_false, not_false_eq_true, zle, eq_self]
  · exact onlyP_up (onlyP_up (onlyP_up (onlyP_up (onlyP_up (onlyP_up (onlyP_up onlyP_refl (by unfold scK; omega)) (by unfold scK; omega)) (by unfold scK; omega)) (by unfold scK; omega)) (by unfold scK; omega)) (by unfold scK; omega)) (by unfold scK; omega)
  · rw [up_a (by decide), up_a (by decide), up_a (by decide), up_a (by decide), up_a (by decide), up_a (by decide), up_k (by decide)]
theorem c209x (h4 : J 265 4 = Int32.ofNat p) (F : J 265 5 = -1) (h34 : J 265 34 = Int32.ofNat 6) : ∀ d, cf (d + 1) 209 [.ref 265] (SH n, J, L, R, nc, ns, nx) = some (.inl none, (SH n, ip_up (ip_up J 265 5 (Int32.ofNat p)) 265 34 7, L, R, nc, ns, nx)) := by
  intro d
  have W := fun d => c197 (d := d) (n := n) (L := L) (R := R) (nc := nc) (ns := ns) (nx := nx) h4 F
  have h34 : J 265 34 = 6 := h34
  simp only [en209, e209_0, e209_1, e209_4, e209_6, e209_9, e209_10, e209_13, e209_14, e209_14r, e209_15, e209_18, e209_19, e209_20, e209_23, rk_n, rk_v, nl_n, nl_i, nl_r, cat_n, ip_cat_int, ip_cat_ref, ip_cat_long, ip_rf_some, Nat.reduceAdd, Nat.reduceLeDiff, Nat.reduceLT, Nat.le_refl, Nat.zero_le, h34, W, up_k, Nat.reduceEqDiff, (by decide : (6 : Int32) + 1 = 7), Bool.false_eq_true, Bool.true_eq_false, if_true, if_false, not_true_eq_false, not_false_eq_true, zle, eq_self]
theorem nm1 (hp : p ≤ 400) : ¬ Int32.ofNat p = -1 := fun q => nu_nn (t := p) (by omega) (by rw [q]; decide)
/-- what part comes upon: a fault -/
def pF (n : Nat) (J : Nat → Nat → Int32) (L : Nat → Nat → Int64) (R : Nat → Nat → Option Nat) (nc ns : Nat) (nx : Bool) (q : Nat) : Prop := ∃ J', (∀ D, 6 ≤ D → cf D 208 [.ref 265] (SH n, J, L, R, nc, ns, nx) = some (.inl (some (.int 0)), (SH n, J', L, R, nc, ns, nx))) ∧ J' 265 5 = Int32.ofNat q ∧ onlyP scK J J'
theorem p_not (hR : LYR R) (ht : t ≤ 400) (hB : ∀ i, i < t → ¬ B i = -1) (X : MS B t c a nm CS top ν α ω dd J) (hs : skT B t a = p) (hk : kdT B t p = 11) (hd : dd < 6) (hν : ν ≤ 100) : ∃ J', (∀ D, 6 ≤ D → cf D 208 [.ref 265] (SH n, J, L, R, nc, ns, nx) = some (.inl (some (.int 0)), (SH n, J', L, R, nc, ns, nx))) ∧ MS B t c (enT B t p) nm CS top (ν + 1) α ω (dd + 1) J' ∧ SM top J J' := by
  obtain ⟨e1, pt, e3⟩ := kd_en (j := 11) (by omega) hk
  have e1 : enT B t p = p + 3 := e1
  have ss : skT B t p = p := by have := skT_sk (B := B) X.2.1; rw [hs] at this; exact this
  obtain ⟨Y, SY⟩ := m_at (a' := p) X (by omega)
  have H := fun d => c193 (d := d) (n := n) (L := L) (nc := nc) (ns := ns) (nx := nx) hR ht X.1 X.2.1 hs
  have M := fun d => ms (d := d) (n := n) (L := L) (nc := nc) (ns := ns) (nx := nx) (τ := 37) (j := 11) hR ht hB Y.1 Y.2.1 ss (by decide) (by decide) rfl
  rw [atM_at, if_pos hk] at M
  obtain ⟨G, Z, SZ⟩ := c209 (n := n) (L := L) (R := R) (nc := nc) (ns := ns) (nx := nx) Y hd
  generalize hJ2 : ip_up (atM J p) 265 34 (Int32.ofNat (dd + 1)) = J2 at *
  obtain ⟨W, SW⟩ := m_at (a' := enT B t p) Z e3
  have x7 := W.2.2.2.2.2.2.1
  have x9 := W.2.2.2.2.2.2.2.2.1
  have lt : top < 2147483648 := by omega
  have l10 : top < 10 := by omega
  have z4 : J2 265 4 = Int32.ofNat p := Z.1.2.1
  have e4 : Int32.ofNat p + 3 = Int32.ofNat (enT B t p) := by rw [e1]; exact nu_add (s := 3)
  have e5 : ip_up J2 265 4 (Int32.ofNat (enT B t p)) = atM J2 (enT B t p) := rfl
  have e6 : Int32.ofNat ν + 1 = Int32.ofNat (ν + 1) := nu_add (s := 1)
  obtain ⟨V, SV⟩ := m_fr (ν' := ν + 1) (dd' := dd + 1) (α' := α) (ω' := ω) (J1 := ip_up (atM J2 (enT B t p)) 284 top (Int32.ofNat (ν + 1))) W (onlyP_up onlyP_refl (Or.inl ⟨by omega, by omega, rfl⟩)) ((up_a (by decide)).trans W.2.2.2.2.2.2.2.1) up_eq ((up_a (by decide)).trans W.2.2.2.2.2.2.2.2.2.1) ((up_a (by decide)).trans W.2.2.2.2.2.2.2.2.2.2)
  refine ⟨_, fun D hD => ?_, V, SM_t SY (SM_t SZ (SM_t SW SV))⟩
  obtain ⟨E, rfl⟩ : ∃ E, D = E + 2 + 1 := ⟨D - 3, by omega⟩
  simp only [en208, e208_0, e208_1, e208_4, e208_5, e208_6, e208_8, e208_11, e208_14, e208_15, e208_18, e208_19, e208_19r, e208_20, e208_23, e208_24, e208_25, e208_28, e208_29, e208_32, e208_33, e208_36, e208_37, e208_38, e208_39, e208_40, e208_41, e208_42, e208_43, e208_44, e208_46, e208_49, e208_50, e208_53, e208_54, e208_54r, e208_55, e208_58, e208_59, e208_60, e208_63, e208_64, e208_65, e208_66, e208_69, e208_70, e208_71, e208_72, e208_73, e208_76, e208_77, e208_78, e208_81, e208_84, e208_87, e208_88, e208_91, e208_92, e208_93, e208_95, e208_98, e208_101, e208_102, e208_105, e208_106, e208_109, e208_110, e208_113, e208_114, e208_117, e208_119, e208_122, e208_123, e208_126, e208_127, e208_130, e208_131, e208_134, e208_135, e208_138, e208_139, e208_139r, e208_140, e208_143, e208_144, e208_145, e208_148, e208_149, e208_150, e208_151, e208_154, e208_155, e208_156, e208_157, e208_160, e208_163, e208_164, e208_167, e208_170, e208_171, e208_172, e208_173, e208_174, e208_177, e208_178, e208_181, e208_183, e208_186, e208_187, e208_190, e208_191, e208_194, e208_195, e208_198, e208_199, e208_200, e208_201, e208_201r, e208_202, e208_205, e208_206, e208_207, e208_210, e208_211, e208_212, e208_213, e208_214, e208_217, e208_218, e208_218r, e208_219, e208_222, e208_223, e208_226, e208_227, e208_230, e208_231, e208_234, e208_235, rk_n, rk_v, nl_n, nl_i, nl_r, cat_n, ip_cat_int, ip_cat_ref, ip_cat_long, ip_rf_some, Nat.reduceAdd, Nat.reduceLeDiff, Nat.reduceLT, Nat.le_refl, Nat.zero_le, hR, H, M, G, z4, e4, e5, x7.1, x9, e6, ia_lit, nu_i, nu_tn, lt, l10, (by decide : ¬ (1 : Int32) = 0), true_or, or_true, Bool.false_eq_true, Bool.true_eq_false, if_true, if_false, not_true_eq_false, not_false_eq_true, zle, eq_self]
theorem p_notx (hR : LYR R) (ht : t ≤ 400) (hB : ∀ i, i < t → ¬ B i = -1) (X : MS B t c a nm CS top ν α ω dd J) (hs : skT B t a = p) (hk : kdT B t p = 11) (hd : dd = 6) : pF n J L R nc ns nx p := by
  obtain ⟨e1, pt, e3⟩ := kd_en (j := 11) (by omega) hk
  have ss : skT B t p = p := by have := skT_sk (B := B) X.2.1; rw [hs] at this; exact this
  obtain ⟨Y, SY⟩ := m_at (a' := p) X (by omega)
  have H := fun d => c193 (d := d) (n := n) (L := L) (nc := nc) (ns := ns) (nx := nx) hR ht X.1 X.2.1 hs
  have M := fun d => ms (d := d) (n := n) (L := L) (nc := nc) (ns := ns) (nx := nx) (τ := 37) (j := 11) hR ht hB Y.1 Y.2.1 ss (by decide) (by decide) rfl
  rw [atM_at, if_pos hk] at M
  have G := c209x (n := n) (L := L) (R := R) (nc := nc) (ns := ns) (nx := nx) Y.1.2.1 Y.2.2.1 (by rw [Y.2.2.2.2.2.2.2.1, hd])
  have x7 := Y.2.2.2.2.2.2.1
  have lt : top < 2147483648 := by omega
  have l10 : top < 10 := by omega
  have y4 : atM J p 265 4 = Int32.ofNat p := up_eq
  refine ⟨ip_up (ip_up (ip_up (ip_up (atM J p) 265 5 (Int32.ofNat p)) 265 34 7) 265 4 (Int32.ofNat p + 3)) 284 top (atM J p 284 top + 1), fun D hD => ?_, ?_, ?_⟩
  · obtain ⟨E, rfl⟩ : ∃ E, D = E + 2 + 1 := ⟨D - 3, by omega⟩
    simp only [en208, e208_0, e208_1, e208_4, e208_5, e208_6, e208_8, e208_11, e208_14, e208_15, e208_18, e208_19, e208_19r, e208_20, e208_23, e208_24, e208_25, e208_28, e208_29, e208_32, e208_33, e208_36, e208_37, e208_38, e208_39, e208_40, e208_41, e208_42, e208_43, e208_44, e208_46, e208_49, e208_50, e208_53, e208_54, e208_54r, e208_55, e208_58, e208_59, e208_60, e208_63, e208_64, e208_65, e208_66, e208_69, e208_70, e208_71, e208_72, e208_73, e208_76, e208_77, e208_78, e208_81, e208_84, e208_87, e208_88, e208_91, e208_92, e208_93, e208_95, e208_98, e208_101, e208_102, e208_105, e208_106, e208_109, e208_110, e208_113, e208_114, e208_117, e208_119, e208_122, e208_123, e208_126, e208_127, e208_130, e208_131, e208_134, e208_135, e208_138, e208_139, e208_139r, e208_140, e208_143, e208_144, e208_145, e208_148, e208_149, e208_150, e208_151, e208_154, e208_155, e208_156, e208_157, e208_160, e208_163, e208_164, e208_167, e208_170, e208_171, e208_172, e208_173, e208_174, e208_177, e208_178, e208_181, e208_183, e208_186, e208_187, e208_190, e208_191, e208_194, e208_195, e208_198, e208_199, e208_200, e208_201, e208_201r, e208_202, e208_205, e208_206, e208_207, e208_210, e208_211, e208_212, e208_213, e208_214, e208_217, e208_218, e208_218r, e208_219, e208_222, e208_223, e208_226, e208_227, e208_230, e208_231, e208_234, e208_235, rk_n, rk_v, nl_n, nl_i, nl_r, cat_n, ip_cat_int, ip_cat_ref, ip_cat_long, ip_rf_some, Nat.reduceAdd, Nat.reduceLeDiff, Nat.reduceLT, Nat.le_refl, Nat.zero_le, hR, H, M, G, y4, x7.1, ia_lit, nu_i, nu_tn, lt, l10, up_k, up_a, Nat.reduceEqDiff, (by decide : ¬ (1 : Int32) = 0), true_or, or_true, Bool.false_eq_true, Bool.true_eq_false, if_true, if_false, not_true_eq_false, not_false_eq_true, zle, eq_self]
  · rw [up_a (by decide), up_k (by decide), up_k (by decide), up_eq]
  · exact onlyP_up (onlyP_up (onlyP_up (onlyP_up SY.1 (by unfold scK; omega)) (by unfold scK; omega)) (by unfold scK; omega)) (by unfold scK; omega)
/-- a bracket -/
theorem p_br (hR : LYR R) (ht : t ≤ 400) (hB : ∀ i, i < t → ¬ B i = -1) (X : MS B t c a nm CS top ν α ω dd J) (hs : skT B t a = p) (hk : kdT B t p = 40) (hd : dd < 6) (ht8 : top < 8) : ∃ J', (∀ D, 6 ≤ D → cf D 208 [.ref 265] (SH n, J, L, R, nc, ns, nx) = some (.inl (some (.int 0)), (SH n, J', L, R, nc, ns, nx))) ∧ MS B t c (enT B t p) nm CS (top + 1) 0 false false (dd + 1) J' ∧ SM top J J' ∧ J' 281 (top + 1) = 1 ∧ (∀ a j, 281 ≤ a → a ≤ 286 → ¬ j = top + 1 → J' a j = J a j) := by
  obtain ⟨e1, pt⟩ := kd_sn (s := 40) (by omega) hk
  have e3 := (enT_le (B := B) (t := t) (p := p) (by omega)).2.1
  have ss : skT B t p = p := by have := skT_sk (B := B) X.2.1; rw [hs] at this; exact this
  obtain ⟨Y, SY⟩ := m_at (a' := p) X (by omega)
  have H := fun d => c193 (d := d) (n := n) (L := L) (nc := nc) (ns := ns) (nx := nx) hR ht X.1 X.2.1 hs
  rw [(kd_sg (s := 40) (by omega)).mp hk] at H
  have H : ∀ d, cf d 193 [.ref 265] (SH n, J, L, R, nc, ns, nx) = some (.inl (some (.int 40)), (SH n, atM J p, L, R, nc, ns, nx)) := H
  have M := fun d => ms (d := d) (n := n) (L := L) (nc := nc) (ns := ns) (nx := nx) (τ := 37) (j := 11) hR ht hB Y.1 Y.2.1 ss (by decide) (by decide) rfl
  rw [atM_at, if_neg (by omega)] at M
  obtain ⟨G, Z, SZ⟩ := c209 (n := n) (L := L) (R := R) (nc := nc) (ns := ns) (nx := nx) Y hd
  generalize hJ2 : ip_up (atM J p) 265 34 (Int32.ofNat (dd + 1)) = J2 at *
  obtain ⟨W, SW⟩ := m_at (a' := enT B t p) Z e3
  have z4 : J2 265 4 = Int32.ofNat p := Z.1.2.1
  have e4 : Int32.ofNat p + 1 = Int32.ofNat (enT B t p) := by rw [e1]; exact nu_add (s := 1)
  have e5 : ip_up J2 265 4 (Int32.ofNat (enT B t p)) = atM J2 (enT B t p) := rfl
  obtain ⟨J3, A3, V, SV, FV, GV⟩ := c207 (n := n) (L := L) (nc := nc) (ns := ns) (nx := nx) hR W ht8 1 0
  refine ⟨J3, fun D hD => ?_, V, SM_t SY (SM_t SZ (SM_t SW SV)), FV.1, fun a j h1 h2 h3 => ?_⟩
  · obtain ⟨E, rfl⟩ : ∃ E, D = E + 2 + 1 := ⟨D - 3, by omega⟩
    simp only [en208, e208_0, e208_1, e208_4, e208_5, e208_6, e208_8, e208_11, e208_14, e208_15, e208_18, e208_19, e208_19r, e208_20, e208_23, e208_24, e208_25, e208_28, e208_29, e208_32, e208_33, e208_36, e208_37, e208_38, e208_39, e208_40, e208_41, e208_42, e208_43, e208_44, e208_46, e208_49, e208_50, e208_53, e208_54, e208_54r, e208_55, e208_58, e208_59, e208_60, e208_63, e208_64, e208_65, e208_66, e208_69, e208_70, e208_71, e208_72, e208_73, e208_76, e208_77, e208_78, e208_81, e208_84, e208_87, e208_88, e208_91, e208_92, e208_93, e208_95, e208_98, e208_101, e208_102, e208_105, e208_106, e208_109, e208_110, e208_113, e208_114, e208_117, e208_119, e208_122, e208_123, e208_126, e208_127, e208_130, e208_131, e208_134, e208_135, e208_138, e208_139, e208_139r, e208_140, e208_143, e208_144, e208_145, e208_148, e208_149, e208_150, e208_151, e208_154, e208_155, e208_156, e208_157, e208_160, e208_163, e208_164, e208_167, e208_170, e208_171, e208_172, e208_173, e208_174, e208_177, e208_178, e208_181, e208_183, e208_186, e208_187, e208_190, e208_191, e208_194, e208_195, e208_198, e208_199, e208_200, e208_201, e208_201r, e208_202, e208_205, e208_206, e208_207, e208_210, e208_211, e208_212, e208_213, e208_214, e208_217, e208_218, e208_218r, e208_219, e208_222, e208_223, e208_226, e208_227, e208_230, e208_231, e208_234, e208_235, rk_n, rk_v, nl_n, nl_i, nl_r, cat_n, ip_cat_int, ip_cat_ref, ip_cat_long, ip_rf_some, Nat.reduceAdd, Nat.reduceLeDiff, Nat.reduceLT, Nat.le_refl, Nat.zero_le, hR, H, M, G, z4, e4, e5, A3, true_or, or_true, Bool.false_eq_true, Bool.true_eq_false, if_true, if_false, not_true_eq_false, not_false_eq_true, zle, eq_self]
  · rw [GV a j h1 h2 h3, ← hJ2]
    unfold atM
    rw [up_a (by omega), up_a (by omega), up_a (by omega)]
theorem p_brx (hR : LYR R) (ht : t ≤ 400) (hB : ∀ i, i < t → ¬ B i = -1) (X : MS B t c a nm CS top ν α ω dd J) (hs : skT B t a = p) (hk : kdT B t p = 40) (hd : dd = 6) (ht8 : top < 8) : pF n J L R nc ns nx p := by
  obtain ⟨e1, pt⟩ := kd_sn (s := 40) (by omega) hk
  have ss : skT B t p = p := by have := skT_sk (B := B) X.2.1; rw [hs] at this; exact this
  obtain ⟨Y, SY⟩ := m_at (a' := p) X (by omega)
  have H := fun d => c193 (d := d) (n := n) (L := L) (nc := nc) (ns := ns) (nx := nx) hR ht X.1 X.2.1 hs
  rw [(kd_sg (s := 40) (by omega)).mp hk] at H
  have H : ∀ d, cf d 193 [.ref 265] (SH n, J, L, R, nc, ns, nx) = some (.inl (some (.int 40)), (SH n, atM J p, L, R, nc, ns, nx)) := H
  have M := fun d => ms (d := d) (n := n) (L := L) (nc := nc) (ns := ns) (nx := nx) (τ := 37) (j := 11) hR ht hB Y.1 Y.2.1 ss (by decide) (by decide) rfl
  rw [atM_at, if_neg (by omega)] at M
  have G := c209x (n := n) (L := L) (R := R) (nc := nc) (ns := ns) (nx := nx) Y.1.2.1 Y.2.2.1 (by rw [Y.2.2.2.2.2.2.2.1, hd])
  have x7 := Y.2.2.2.2.2.2.1
  have y4 : atM J p 265 4 = Int32.ofNat p := up_eq
  generalize hJ2 : ip_up (ip_up (ip_up (atM J p) 265 5 (Int32.ofNat p)) 265 34 7) 265 4 (Int32.ofNat p + 1) = J2
  obtain ⟨J3, A3, O3, F3⟩ := c207r (n := n) (J := J2) (L := L) (nc := nc) (ns := ns) (nx := nx) (x := 1) (y := 0) hR (by rw [← hJ2, up_k (by decide), up_k (by decide), up_k (by decide)]; exact x7.1) ht8
  refine ⟨J3, fun D hD => ?_, ?_, onlyP_tr ?_ O3⟩
  · obtain ⟨E, rfl⟩ : ∃ E, D = E + 2 + 1 := ⟨D - 3, by omega⟩
    simp only [en208, e208_0, e208_1, e208_4, e208_5, e208_6, e208_8, e208_11, e208_14, e208_15, e208_18, e208_19, e208_19r, e208_20, e208_23, e208_24, e208_25, e208_28, e208_29, e208_32, e208_33, e208_36, e208_37, e208_38, e208_39, e208_40, e208_41, e208_42, e208_43, e208_44, e208_46, e208_49, e208_50, e208_53, e208_54, e208_54r, e208_55, e208_58, e208_59, e208_60, e208_63, e208_64, e208_65, e208_66, e208_69, e208_70, e208_71, e208_72, e208_73, e208_76, e208_77, e208_78, e208_81, e208_84, e208_87, e208_88, e208_91, e208_92, e208_93, e208_95, e208_98, e208_101, e208_102, e208_105, e208_106, e208_109, e208_110, e208_113, e208_114, e208_117, e208_119, e208_122, e208_123, e208_126, e208_127, e208_130, e208_131, e208_134, e208_135, e208_138, e208_139, e208_139r, e208_140, e208_143, e208_144, e208_145, e208_148, e208_149, e208_150, e208_151, e208_154, e208_155, e208_156, e208_157, e208_160, e208_163, e208_164, e208_167, e208_170, e208_171, e208_172, e208_173, e208_174, e208_177, e208_178, e208_181, e208_183, e208_186, e208_187, e208_190, e208_191, e208_194, e208_195, e208_198, e208_199, e208_200, e208_201, e208_201r, e208_202, e208_205, e208_206, e208_207, e208_210, e208_211, e208_212, e208_213, e208_214, e208_217, e208_218, e208_218r, e208_219, e208_222, e208_223, e208_226, e208_227, e208_230, e208_231, e208_234, e208_235, rk_n, rk_v, nl_n, nl_i, nl_r, cat_n, ip_cat_int, ip_cat_ref, ip_cat_long, ip_rf_some, Nat.reduceAdd, Nat.reduceLeDiff, Nat.reduceLT, Nat.le_refl, Nat.zero_le, hR, H, M, G, y4, hJ2, A3, up_k, Nat.reduceEqDiff, true_or, or_true, Bool.false_eq_true, Bool.true_eq_false, if_true, if_false, not_true_eq_false, not_false_eq_true, zle, eq_self]
  · rw [F3, ← hJ2, up_k (by decide), up_k (by decide), up_eq]
  · rw [← hJ2]; exact onlyP_up (onlyP_up (onlyP_up SY.1 (by unfold scK; omega)) (by unfold scK; omega)) (by unfold scK; omega)
/-- a number, and what follows -/
theorem p_dg (hR : LYR R) (ht : t ≤ 400) (hB : ∀ i, i < t → ¬ B i = -1) (X : MS B t c a nm CS top ν α ω dd J) (hs : skT B t a = p) (hk : kdT B t p = 14) (ht8 : top < 8) (hd6 : dd ≤ 6) :
    (¬ kdT B t (nxT B t p) = 12 → pF n J L R nc ns nx (nxT B t p)) ∧
    (kdT B t (nxT B t p) = 12 → ¬ (kdT B t (nxT B t (nxT B t p)) = 40 ∧ dd < 6) → pF n J L R nc ns nx (nxT B t (nxT B t p))) ∧
    (kdT B t (nxT B t p) = 12 → kdT B t (nxT B t (nxT B t p)) = 40 → dd < 6 → ∃ J', (∀ D, 6 ≤ D → cf D 208 [.ref 265] (SH n, J, L, R, nc, ns, nx) = some (.inl (some (.int 0)), (SH n, J', L, R, nc, ns, nx))) ∧ MS B t c (enT B t (nxT B t (nxT B t p))) nm CS (top + 1) 0 false false (dd + 1) J' ∧ SM top J J' ∧ (J' 281 (top + 1) = 2 ∧ J' 282 (top + 1) = Int32.ofNat (ndd B p) ∧ J' 283 (top + 1) = 1) ∧ (∀ a j, 281 ≤ a → a ≤ 286 → ¬ j = top + 1 → J' a j = J a j)) := by
  obtain ⟨e1, pt⟩ := kd_14e hk
  obtain ⟨nd1, nd2⟩ := ndd_lt hk
  have e3 := (enT_le (B := B) (t := t) (p := p) (by omega)).2.1
  have d1 := (kd_14.mp hk).1
  have ss : skT B t p = p := by have := skT_sk (B := B) X.2.1; rw [hs] at this; exact this
  obtain ⟨Y, SY⟩ := m_at (a' := p) X (by omega)
  have H := fun d => c193 (d := d) (n := n) (L := L) (nc := nc) (ns := ns) (nx := nx) hR ht X.1 X.2.1 hs
  have M := fun d => ms (d := d) (n := n) (L := L) (nc := nc) (ns := ns) (nx := nx) (p := p) (τ := 37) (j := 11) hR ht hB Y.1 Y.2.1 ss (by decide) (by decide) rfl
  rw [atM_at, if_neg (by omega)] at M
  have n40 : (hv B t p = 40) = False := eq_false (fun e => by have := (kd_sg (s := 40) (by omega)).mpr e; omega)
  have nm1' : (hv B t p = -1) = False := eq_false (fun e => by have := (kd_end hB).mpr e; omega)
  have D1 := fun d => c205 (d := d) (n := n) (L := L) (nc := nc) (ns := ns) (nx := nx) (k := p) hR ht Y.1 (by omega)
  rw [if_pos d1] at D1
  have D2 := fun d => c204 (d := d) (n := n) (L := L) (nc := nc) (ns := ns) (nx := nx) (p := p) hR ht hB Y.1 Y.2.1 ss Y.2.2.1 hk
  rw [atM_at, nd2] at D2
  have y4 : atM J p 265 4 = Int32.ofNat p := up_eq
  obtain ⟨Z, SZ⟩ := m_at (a' := enT B t p) X e3
  have s1 : skT B t (enT B t p) = nxT B t p := rfl
  have P1 := nxT_le (B := B) (t := t) (p := p) (by omega)
  have s1' : skT B t (nxT B t p) = nxT B t p := skT_sk Z.2.1
  obtain ⟨Z1, SZ1⟩ := m_at (a' := nxT B t p) X P1.2.1
  refine ⟨fun h12 => ?_, fun h12 h40 => ?_, fun h12 h40 hd => ?_⟩
  · have T := fun d => c202n (d := d) (n := n) (L := L) (nc := nc) (ns := ns) (nx := nx) (p := nxT B t p) (τ := 38) (j := 12) hR ht hB Z.1 Z.2.1 s1 Z.2.2.1 (by decide) (by decide) rfl h12
    rw [atM_at] at T
    have W := fun d => c197 (d := d) (n := n) (L := L) (R := R) (nc := nc) (ns := ns) (nx := nx) Z1.1.2.1 Z1.2.2.1
    have g5 : (ip_up (atM J (nxT B t p)) 265 5 (Int32.ofNat (nxT B t p)) 265 5 = -1) = False := eq_false (by rw [up_eq]; exact nm1 (by omega))
    generalize hJ2 : ip_up (atM J (nxT B t p)) 265 5 (Int32.ofNat (nxT B t p)) = J2 at *
    have j4 : J2 265 4 = Int32.ofNat (nxT B t p) := by rw [← hJ2, up_k (by decide)]; exact up_eq
    obtain ⟨J3, A3, O3, F3⟩ := c207r (n := n) (J := ip_up J2 265 4 (Int32.ofNat (nxT B t p) + 1)) (L := L) (nc := nc) (ns := ns) (nx := nx) (x := 2) (y := Int32.ofNat (ndd B p)) (top := top) hR (by rw [up_k (by decide), ← hJ2, up_k (by decide)]; exact Z1.2.2.2.2.2.2.1.1) ht8
    refine ⟨J3, fun D hD => ?_, ?_, onlyP_tr ?_ O3⟩
    · obtain ⟨E, rfl⟩ : ∃ E, D = E + 3 + 1 := ⟨D - 4, by omega⟩
      simp only [en208, e208_0, e208_1, e208_4, e208_5, e208_6, e208_8, e208_11, e208_14, e208_15, e208_18, e208_19, e208_19r, e208_20, e208_23, e208_24, e208_25, e208_28, e208_29, e208_32, e208_33, e208_36, e208_37, e208_38, e208_39, e208_40, e208_41, e208_42, e208_43, e208_44, e208_46, e208_49, e208_50, e208_53, e208_54, e208_54r, e208_55, e208_58, e208_59, e208_60, e208_63, e208_64, e208_65, e208_66, e208_69, e208_70, e208_71, e208_72, e208_73, e208_76, e208_77, e208_78, e208_81, e208_84, e208_87, e208_88, e208_91, e208_92, e208_93, e208_95, e208_98, e208_101, e208_102, e208_105, e208_106, e208_109, e208_110, e208_113, e208_114, e208_117, e208_119, e208_122, e208_123, e208_126, e208_127, e208_130, e208_131, e208_134, e208_135, e208_138, e208_139, e208_139r, e208_140, e208_143, e208_144, e208_145, e208_148, e208_149, e208_150, e208_151, e208_154, e208_155, e208_156, e208_157, e208_160, e208_163, e208_164, e208_167, e208_170, e208_171, e208_172, e208_173, e208_174, e208_177, e208_178, e208_181, e208_183, e208_186, e208_187, e208_190, e208_191, e208_194, e208_195, e208_198, e208_199, e208_200, e208_201, e208_201r, e208_202, e208_205, e208_206, e208_207, e208_210, e208_211, e208_212, e208_213, e208_214, e208_217, e208_218, e208_218r, e208_219, e208_222, e208_223, e208_226, e208_227, e208_230, e208_231, e208_234, e208_235, rk_n, rk_v, nl_n, nl_i, nl_r, cat_n, ip_cat_int, ip_cat_ref, ip_cat_long, ip_rf_some, Nat.reduceAdd, Nat.reduceLeDiff, Nat.reduceLT, Nat.le_refl, Nat.zero_le, hR, H, M, n40, nm1', y4, D1, D2, T, W, g5, j4, A3, (by decide : ¬ (1 : Int32) = 0), true_or, or_true, Bool.false_eq_true, Bool.true_eq_false, if_true, if_false, not_true_eq_false, not_false_eq_true, zle, eq_self]
    · rw [F3, up_k (by decide), ← hJ2, up_eq]
    · refine onlyP_up ?_ (by unfold scK; omega)
      rw [← hJ2]; exact onlyP_up SZ1.1 (by unfold scK; omega)
  · obtain ⟨q1, q2, q3⟩ := kd_en (j := 12) (by omega) h12
    have T := fun d => c202 (d := d) (n := n) (L := L) (nc := nc) (ns := ns) (nx := nx) (p := nxT B t p) (τ := 38) (j := 12) hR ht hB Z.1 Z.2.1 s1 Z.2.2.1 (by decide) (by decide) rfl h12
    rw [atM_at] at T
    obtain ⟨V, SV⟩ := m_at (a' := enT B t (nxT B t p)) X q3
    have P2 := nxT_le (B := B) (t := t) (p := nxT B t p) (by omega)
    have s2 : skT B t (enT B t (nxT B t p)) = nxT B t (nxT B t p) := rfl
    have H2 := fun d => c193 (d := d) (n := n) (L := L) (nc := nc) (ns := ns) (nx := nx) hR ht V.1 V.2.1 s2
    rw [atM_at] at H2
    obtain ⟨U, SU⟩ := m_at (a' := nxT B t (nxT B t p)) X P2.2.1
    have v5 := V.2.2.1
    generalize hQ : nxT B t (nxT B t p) = Q at *
    by_cases k40 : kdT B t Q = 40
    · have hd : dd = 6 := by
        have : ¬ dd < 6 := fun e => h40 ⟨k40, e⟩
        omega
      rw [(kd_sg (s := 40) (by omega)).mp k40] at H2
      have H2 : ∀ d, cf d 193 [.ref 265] (SH n, atM J (enT B t (nxT B t p)), L, R, nc, ns, nx) = some (.inl (some (.int 40)), (SH n, atM J Q, L, R, nc, ns, nx)) := H2
      have G := c209x (n := n) (L := L) (R := R) (nc := nc) (ns := ns) (nx := nx) U.1.2.1 U.2.2.1 (by rw [U.2.2.2.2.2.2.2.1, hd])
      have u5 := U.2.2.1
      have u4 : atM J Q 265 4 = Int32.ofNat Q := up_eq
      generalize hJ2 : ip_up (ip_up (atM J Q) 265 5 (Int32.ofNat Q)) 265 34 7 = J2 at *
      have j4 : J2 265 4 = Int32.ofNat Q := by rw [← hJ2, up_k (by decide), up_k (by decide)]; exact u4
      obtain ⟨J3, A3, O3, F3⟩ := c207r (n := n) (J := ip_up J2 265 4 (Int32.ofNat Q + 1)) (L := L) (nc := nc) (ns := ns) (nx := nx) (x := 2) (y := Int32.ofNat (ndd B p)) (top := top) hR (by rw [up_k (by decide), ← hJ2, up_k (by decide), up_k (by decide)]; exact U.2.2.2.2.2.2.1.1) ht8
      refine ⟨J3, fun D hD => ?_, ?_, onlyP_tr ?_ O3⟩
      · obtain ⟨E, rfl⟩ : ∃ E, D = E + 3 + 1 := ⟨D - 4, by omega⟩
        simp only [en208, e208_0, e208_1, e208_4, e208_5, e208_6, e208_8, e208_11, e208_14, e208_15, e208_18, e208_19, e208_19r, e208_20, e208_23, e208_24, e208_25, e208_28, e208_29, e208_32, e208_33, e208_36, e208_37, e208_38, e208_39, e208_40, e208_41, e208_42, e208_43, e208_44, e208_46, e208_49, e208_50, e208_53, e208_54, e208_54r, e208_55, e208_58, e208_59, e208_60, e208_63, e208_64, e208_65, e208_66, e208_69, e208_70, e208_71, e208_72, e208_73, e208_76, e208_77, e208_78, e208_81, e208_84, e208_87, e208_88, e208_91, e208_92, e208_93, e208_95, e208_98, e208_101, e208_102, e208_105, e208_106, e208_109, e208_110, e208_113, e208_114, e208_117, e208_119, e208_122, e208_123, e208_126, e208_127, e208_130, e208_131, e208_134, e208_135, e208_138, e208_139, e208_139r, e208_140, e208_143, e208_144, e208_145, e208_148, e208_149, e208_150, e208_151, e208_154, e208_155, e208_156, e208_157, e208_160, e208_163, e208_164, e208_167, e208_170, e208_171, e208_172, e208_173, e208_174, e208_177, e208_178, e208_181, e208_183, e208_186, e208_187, e208_190, e208_191, e208_194, e208_195, e208_198, e208_199, e208_200, e208_201, e208_201r, e208_202, e208_205, e208_206, e208_207, e208_210, e208_211, e208_212, e208_213, e208_214, e208_217, e208_218, e208_218r, e208_219, e208_222, e208_223, e208_226, e208_227, e208_230, e208_231, e208_234, e208_235, rk_n, rk_v, nl_n, nl_i, nl_r, cat_n, ip_cat_int, ip_cat_ref, ip_cat_long, ip_rf_some, Nat.reduceAdd, Nat.reduceLeDiff, Nat.reduceLT, Nat.le_refl, Nat.zero_le, hR, H, M, n40, nm1', y4, D1, D2, T, v5, H2, u5, G, j4, A3, (by decide : ¬ (1 : Int32) = 0), true_or, or_true, Bool.false_eq_true, Bool.true_eq_false, if_true, if_false, not_true_eq_false, not_false_eq_true, zle, eq_self]
      · rw [F3, up_k (by decide), ← hJ2, up_k (by decide), up_eq]
      · refine onlyP_up ?_ (by unfold scK; omega)
        rw [← hJ2]; exact onlyP_up (onlyP_up SU.1 (by unfold scK; omega)) (by unfold scK; omega)
    · have n41 : (hv B t Q = 40) = False := eq_false (fun e => k40 ((kd_sg (s := 40) (by omega)).mpr e))
      have W := fun d => c197 (d := d) (n := n) (L := L) (R := R) (nc := nc) (ns := ns) (nx := nx) U.1.2.1 U.2.2.1
      have g5 : (ip_up (atM J Q) 265 5 (Int32.ofNat Q) 265 5 = -1) = False := eq_false (by rw [up_eq]; exact nm1 (by omega))
      generalize hJ2 : ip_up (atM J Q) 265 5 (Int32.ofNat Q) = J2 at *
      have j4 : J2 265 4 = Int32.ofNat Q := by rw [← hJ2, up_k (by decide)]; exact up_eq
      obtain ⟨J3, A3, O3, F3⟩ := c207r (n := n) (J := ip_up J2 265 4 (Int32.ofNat Q + 1)) (L := L) (nc := nc) (ns := ns) (nx := nx) (x := 2) (y := Int32.ofNat (ndd B p)) (top := top) hR (by rw [up_k (by decide), ← hJ2, up_k (by decide)]; exact U.2.2.2.2.2.2.1.1) ht8
      refine ⟨J3, fun D hD => ?_, ?_, onlyP_tr ?_ O3⟩
      · obtain ⟨E, rfl⟩ : ∃ E, D = E + 3 + 1 := ⟨D - 4, by omega⟩
        simp only [en208, e208_0, e208_1, e208_4, e208_5, e208_6, e208_8, e208_11, e208_14, e208_15, e208_18, e208_19, e208_19r, e208_20, e208_23, e208_24, e208_25, e208_28, e208_29, e208_32, e208_33, e208_36, e208_37, e208_38, e208_39, e208_40, e208_41, e208_42, e208_43, e208_44, e208_46, e208_49, e208_50, e208_53, e208_54, e208_54r, e208_55, e208_58, e208_59, e208_60, e208_63, e208_64, e208_65, e208_66, e208_69, e208_70, e208_71, e208_72, e208_73, e208_76, e208_77, e208_78, e208_81, e208_84, e208_87, e208_88, e208_91, e208_92, e208_93, e208_95, e208_98, e208_101, e208_102, e208_105, e208_106, e208_109, e208_110, e208_113, e208_114, e208_117, e208_119, e208_122, e208_123, e208_126, e208_127, e208_130, e208_131, e208_134, e208_135, e208_138, e208_139, e208_139r, e208_140, e208_143, e208_144, e208_145, e208_148, e208_149, e208_150, e208_151, e208_154, e208_155, e208_156, e208_157, e208_160, e208_163, e208_164, e208_167, e208_170, e208_171, e208_172, e208_173, e208_174, e208_177, e208_178, e208_181, e208_183, e208_186, e208_187, e208_190, e208_191, e208_194, e208_195, e208_198, e208_199, e208_200, e208_201, e208_201r, e208_202, e208_205, e208_206, e208_207, e208_210, e208_211, e208_212, e208_213, e208_214, e208_217, e208_218, e208_218r, e208_219, e208_222, e208_223, e208_226, e208_227, e208_230, e208_231, e208_234, e208_235, rk_n, rk_v, nl_n, nl_i, nl_r, cat_n, ip_cat_int, ip_cat_ref, ip_cat_long, ip_rf_some, Nat.reduceAdd, Nat.reduceLeDiff, Nat.reduceLT, Nat.le_refl, Nat.zero_le, hR, H, M, n40, nm1', y4, D1, D2, T, v5, H2, n41, W, g5, j4, A3, (by decide : ¬ (1 : Int32) = 0), true_or, or_true, Bool.false_eq_true, Bool.true_eq_false, if_true, if_false, not_true_eq_false, not_false_eq_true, zle, eq_self]
      · rw [F3, up_k (by decide), ← hJ2, up_eq]
      · refine onlyP_up ?_ (by unfold scK; omega)
        rw [← hJ2]; exact onlyP_up SU.1 (by unfold scK; omega)
  · obtain ⟨q1, q2, q3⟩ := kd_en (j := 12) (by omega) h12
    have T := fun d => c202 (d := d) (n := n) (L := L) (nc := nc) (ns := ns) (nx := nx) (p := nxT B t p) (τ := 38) (j := 12) hR ht hB Z.1 Z.2.1 s1 Z.2.2.1 (by decide) (by decide) rfl h12
    rw [atM_at] at T
    obtain ⟨V, SV⟩ := m_at (a' := enT B t (nxT B t p)) X q3
    have P2 := nxT_le (B := B) (t := t) (p := nxT B t p) (by omega)
    have s2 : skT B t (enT B t (nxT B t p)) = nxT B t (nxT B t p) := rfl
    have H2 := fun d => c193 (d := d) (n := n) (L := L) (nc := nc) (ns := ns) (nx := nx) hR ht V.1 V.2.1 s2
    rw [atM_at] at H2
    obtain ⟨U, SU⟩ := m_at (a' := nxT B t (nxT B t p)) X P2.2.1
    have v5 := V.2.2.1
    generalize hQ : nxT B t (nxT B t p) = Q at *
    rw [(kd_sg (s := 40) (by omega)).mp h40] at H2
    have H2 : ∀ d, cf d 193 [.ref 265] (SH n, atM J (enT B t (nxT B t p)), L, R, nc, ns, nx) = some (.inl (some (.int 40)), (SH n, atM J Q, L, R, nc, ns, nx)) := H2
    have u5 := U.2.2.1
    obtain ⟨r1, r2⟩ := kd_sn (s := 40) (by omega) h40
    have r3 := (enT_le (B := B) (t := t) (p := Q) (by omega)).2.1
    obtain ⟨G, Zg, SZg⟩ := c209 (n := n) (L := L) (R := R) (nc := nc) (ns := ns) (nx := nx) U hd
    generalize hJ2 : ip_up (atM J Q) 265 34 (Int32.ofNat (dd + 1)) = J2 at *
    obtain ⟨Wg, SWg⟩ := m_at (a' := enT B t Q) Zg r3
    have z4 : J2 265 4 = Int32.ofNat Q := Zg.1.2.1
    have e4 : Int32.ofNat Q + 1 = Int32.ofNat (enT B t Q) := by rw [r1]; exact nu_add (s := 1)
    have e5 : ip_up J2 265 4 (Int32.ofNat (enT B t Q)) = atM J2 (enT B t Q) := rfl
    obtain ⟨J3, A3, Vg, SVg, FV, GV⟩ := c207 (n := n) (L := L) (nc := nc) (ns := ns) (nx := nx) hR Wg ht8 2 (Int32.ofNat (ndd B p))
    refine ⟨J3, fun D hD => ?_, Vg, SM_t SU (SM_t SZg (SM_t SWg SVg)), FV, fun a j h1 h2 h3 => ?_⟩
    · obtain ⟨E, rfl⟩ : ∃ E, D = E + 3 + 1 := ⟨D - 4, by omega⟩
      simp only [en208, e208_0, e208_1, e208_4, e208_5, e208_6, e208_8, e208_11, e208_14, e208_15, e208_18, e208_19, e208_19r, e208_20, e208_23, e208_24, e208_25, e208_28, e208_29, e208_32, e208_33, e208_36, e208_37, e208_38, e208_39, e208_40, e208_41, e208_42, e208_43, e208_44, e208_46, e208_49, e208_50, e208_53, e208_54, e208_54r, e208_55, e208_58, e208_59, e208_60, e208_63, e208_64, e208_65, e208_66, e208_69, e208_70, e208_71, e208_72, e208_73, e208_76, e208_77, e208_78, e208_81, e208_84, e208_87, e208_88, e208_91, e208_92, e208_93, e208_95, e208_98, e208_101, e208_102, e208_105, e208_106, e208_109, e208_110, e208_113, e208_114, e208_117, e208_119, e208_122, e208_123, e208_126, e208_127, e208_130, e208_131, e208_134, e208_135, e208_138, e208_139, e208_139r, e208_140, e208_143, e208_144, e208_145, e208_148, e208_149, e208_150, e208_151, e208_154, e208_155, e208_156, e208_157, e208_160, e208_163, e208_164, e208_167, e208_170, e208_171, e208_172, e208_173, e208_174, e208_177, e208_178, e208_181, e208_183, e208_186, e208_187, e208_190, e208_191, e208_194, e208_195, e208_198, e208_199, e208_200, e208_201, e208_201r, e208_202, e208_205, e208_206, e208_207, e208_210, e208_211, e208_212, e208_213, e208_214, e208_217, e208_218, e208_218r, e208_219, e208_222, e208_223, e208_226, e208_227, e208_230, e208_231, e208_234, e208_235, rk_n, rk_v, nl_n, nl_i, nl_r, cat_n, ip_cat_int, ip_cat_ref, ip_cat_long, ip_rf_some, Nat.reduceAdd, Nat.reduceLeDiff, Nat.reduceLT, Nat.le_refl, Nat.zero_le, hR, H, M, n40, nm1', y4, D1, D2, T, v5, H2, u5, G, z4, e4, e5, A3, (by decide : ¬ (1 : Int32) = 0), true_or, or_true, Bool.false_eq_true, Bool.true_eq_false, if_true, if_false, not_true_eq_false, not_false_eq_true, zle, eq_self]
    · rw [GV a j h1 h2 h3, ← hJ2]
      unfold atM
      rw [up_a (by omega), up_a (by omega), up_a (by omega)]
/-- a number of two digits -/
theorem p_d2 (hR : LYR R) (ht : t ≤ 400) (hB : ∀ i, i < t → ¬ B i = -1) (X : MS B t c a nm CS top ν α ω dd J) (hs : skT B t a = p) (hk : ¬ kdT B t p = 14) (d1 : isD B t p = true) (ht8 : top < 8) : pF n J L R nc ns nx p := by
  have k16 : kdT B t p = 16 := by rcases kd_dg d1 with e | e; exact absurd e hk; exact e
  have hp : p ≤ t := hs ▸ (skT_le X.2.1).2
  have ss : skT B t p = p := by have := skT_sk (B := B) X.2.1; rw [hs] at this; exact this
  obtain ⟨Y, SY⟩ := m_at (a' := p) X hp
  have H := fun d => c193 (d := d) (n := n) (L := L) (nc := nc) (ns := ns) (nx := nx) hR ht X.1 X.2.1 hs
  have M := fun d => ms (d := d) (n := n) (L := L) (nc := nc) (ns := ns) (nx := nx) (p := p) (τ := 37) (j := 11) hR ht hB Y.1 Y.2.1 ss (by decide) (by decide) rfl
  rw [atM_at, if_neg (by omega)] at M
  have n40 : (hv B t p = 40) = False := eq_false (fun e => by have := (kd_sg (s := 40) (by omega)).mpr e; omega)
  have nm1' : (hv B t p = -1) = False := eq_false (fun e => by have := (kd_end hB).mpr e; omega)
  have D1 := fun d => c205 (d := d) (n := n) (L := L) (nc := nc) (ns := ns) (nx := nx) (k := p) hR ht Y.1 (by omega)
  rw [if_pos d1] at D1
  have D2 := fun d => c204n (d := d) (n := n) (L := L) (nc := nc) (ns := ns) (nx := nx) (p := p) hR ht hB Y.1 Y.2.1 ss Y.2.2.1 hk
  have y4 : atM J p 265 4 = Int32.ofNat p := up_eq
  have w5 : ¬ wrM (atM J p) p 265 5 = -1 := by unfold wrM; rw [up_eq]; exact nm1 (by omega)
  have wO : onlyP scK J (wrM (atM J p) p) := by unfold wrM; exact onlyP_up (onlyP_up SY.1 (by unfold scK; omega)) (by unfold scK; omega)
  have w3 : wrM (atM J p) p 265 33 = Int32.ofNat top := by unfold wrM atM; rw [up_k (by decide), up_k (by decide), up_k (by decide)]; exact X.2.2.2.2.2.2.1.1
  have w55 : wrM (atM J p) p 265 5 = Int32.ofNat p := by unfold wrM; rw [up_eq]
  generalize wrM (atM J p) p = J2 at *
  have T := fun d b => c202f (d := d) (n := n) (L := L) (R := R) (nc := nc) (ns := ns) (nx := nx) (a := b) w5
  have W := fun d => c197f (d := d) (n := n) (L := L) (R := R) (nc := nc) (ns := ns) (nx := nx) w5
  obtain ⟨J3, A3, O3, F3⟩ := c207r (n := n) (J := ip_up J2 265 4 (J2 265 4 + 1)) (L := L) (nc := nc) (ns := ns) (nx := nx) (x := 2) (y := 0) (top := top) hR (by rw [up_k (by decide)]; exact w3) ht8
  refine ⟨J3, fun D hD => ?_, ?_, onlyP_tr (onlyP_up wO (by unfold scK; omega)) O3⟩
  · obtain ⟨E, rfl⟩ : ∃ E, D = E + 3 + 1 := ⟨D - 4, by omega⟩
    simp only [en208, e208_0, e208_1, e208_4, e208_5, e208_6, e208_8, e208_11, e208_14, e208_15, e208_18, e208_19, e208_19r, e208_20, e208_23, e208_24, e208_25, e208_28, e208_29, e208_32, e208_33, e208_36, e208_37, e208_38, e208_39, e208_40, e208_41, e208_42, e208_43, e208_44, e208_46, e208_49, e208_50, e208_53, e208_54, e208_54r, e208_55, e208_58, e208_59, e208_60, e208_63, e208_64, e208_65, e208_66, e208_69, e208_70, e208_71, e208_72, e208_73, e208_76, e208_77, e208_78, e208_81, e208_84, e208_87, e208_88, e208_91, e208_92, e208_93, e208_95, e208_98, e208_101, e208_102, e208_105, e208_106, e208_109, e208_110, e208_113, e208_114, e208_117, e208_119, e208_122, e208_123, e208_126, e208_127, e208_130, e208_131, e208_134, e208_135, e208_138, e208_139, e208_139r, e208_140, e208_143, e208_144, e208_145, e208_148, e208_149, e208_150, e208_151, e208_154, e208_155, e208_156, e208_157, e208_160, e208_163, e208_164, e208_167, e208_170, e208_171, e208_172, e208_173, e208_174, e208_177, e208_178, e208_181, e208_183, e208_186, e208_187, e208_190, e208_191, e208_194, e208_195, e208_198, e208_199, e208_200, e208_201, e208_201r, e208_202, e208_205, e208_206, e208_207, e208_210, e208_211, e208_212, e208_213, e208_214, e208_217, e208_218, e208_218r, e208_219, e208_222, e208_223, e208_226, e208_227, e208_230, e208_231, e208_234, e208_235, rk_n, rk_v, nl_n, nl_i, nl_r, cat_n, ip_cat_int, ip_cat_ref, ip_cat_long, ip_rf_some, Nat.reduceAdd, Nat.reduceLeDiff, Nat.reduceLT, Nat.le_refl, Nat.zero_le, hR, H, M, n40, nm1', y4, D1, D2, T, W, w5, A3, (by decide : ¬ (1 : Int32) = 0), true_or, or_true, Bool.false_eq_true, Bool.true_eq_false, if_true, if_false, not_true_eq_false, not_false_eq_true, zle, eq_self]
  · rw [F3, up_k (by decide)]; exact w55
/-- a name, or nothing -/
theorem p_nm (hR : LYR R) (ht : t ≤ 400) (hB : ∀ i, i < t → ¬ B i = -1) (X : MS B t c a nm CS top ν α ω dd J) (hs : skT B t a = p) (h11 : ¬ kdT B t p = 11) (h40 : ¬ kdT B t p = 40) (d1 : isD B t p = false) (hc8 : c ≤ 8) (F : ∀ k, k < c → okl (f k) ∧ (f k).length ≤ 6 ∧ L 267 k = Int64.ofNat (pck (f k))) (hl : CS.length + ν + 2 ≤ 419) (hd : ν ≤ dd) (h100 : dd ≤ 100) :
    (∀ k, kdT B t p = 13 → ffs (fun k => decide (f k = wl B t p)) c 0 = some k → nm < 40 → ∃ J', (∀ D, 6 ≤ D → cf D 208 [.ref 265] (SH n, J, L, R, nc, ns, nx) = some (.inl (some (.int 1)), (SH n, J', L, R, nc, ns, nx))) ∧ MS B t c (enT B t p) (nm + 1) (CS ++ [(0, k, 0)] ++ (ntl ν ++ anl α)) top 0 false ω (dd - ν) J' ∧ SM top J J') ∧
    (¬ (kdT B t p = 13 ∧ (∃ k, ffs (fun k => decide (f k = wl B t p)) c 0 = some k) ∧ nm < 40) → pF n J L R nc ns nx p) := by
  have hp : p ≤ t := hs ▸ (skT_le X.2.1).2
  have ss : skT B t p = p := by have := skT_sk (B := B) X.2.1; rw [hs] at this; exact this
  obtain ⟨Y, SY⟩ := m_at (a' := p) X hp
  have H := fun d => c193 (d := d) (n := n) (L := L) (nc := nc) (ns := ns) (nx := nx) hR ht X.1 X.2.1 hs
  have M := fun d => ms (d := d) (n := n) (L := L) (nc := nc) (ns := ns) (nx := nx) (p := p) (τ := 37) (j := 11) hR ht hB Y.1 Y.2.1 ss (by decide) (by decide) rfl
  rw [atM_at, if_neg h11] at M
  have n40 : (hv B t p = 40) = False := eq_false (fun e => h40 ((kd_sg (s := 40) (by omega)).mpr e))
  have D1 := fun d => c205 (d := d) (n := n) (L := L) (nc := nc) (ns := ns) (nx := nx) (k := p) hR ht Y.1 (by omega)
  rw [if_neg (by rw [d1]; decide)] at D1
  have N := fun d => c198 (d := d) (n := n) (L := L) (nc := nc) (ns := ns) (nx := nx) (p := p) hR ht hB Y.1 Y.2.1 ss
  rw [atM_at] at N
  have y4 : atM J p 265 4 = Int32.ofNat p := up_eq
  have y5 := Y.2.2.1
  have y8 := Y.2.2.2.2.1
  have W := fun d => c197 (d := d) (n := n) (L := L) (R := R) (nc := nc) (ns := ns) (nx := nx) Y.1.2.1 Y.2.2.1
  have g5 : (ip_up (atM J p) 265 5 (Int32.ofNat p) 265 5 = -1) = False := eq_false (by rw [up_eq]; exact nm1 (by omega))
  have PF : onlyP scK J (ip_up (atM J p) 265 5 (Int32.ofNat p)) := onlyP_up SY.1 (by unfold scK; omega)
  refine ⟨fun k h13 hf hn => ?_, fun hno => ?_⟩
  · have I := fun d => c200 (d := d) (n := n) (L := L) (nc := nc) (ns := ns) (nx := nx) (p := p) (f := f) hR ht hB Y.1 Y.2.1 ss h13 hc8 Y.2.2.2.1 F
    unfold fIx at I
    rw [atM_at, hf] at I
    rw [if_pos h13] at N
    have kc : k < c := by
      rcases ffs_case (fun k => decide (f k = wl B t p)) c 0 with ⟨z, -⟩ | ⟨j, z1, z2, z3, -⟩
      · rw [z] at hf; cases hf
      · rw [z1] at hf; have := Option.some.inj hf; omega
    have nk : (Int32.ofNat k = -1) = False := eq_false (nm1 (by omega))
    have g40 : (Int32.ofNat nm = 40) = False := eq_false (fun e => by have := (nu_inj (s := 40) (by omega) (by omega)).mp e; omega)
    have e1 : Int32.ofNat nm + 1 = Int32.ofNat (nm + 1) := nu_add (s := 1)
    obtain ⟨q1, q2⟩ := kd_ne h13
    have r3 := (enT_le (B := B) (t := t) (p := p) (by omega)).2.1
    have r1 := (enT_le (B := B) (t := t) (p := p) (by omega)).1
    have Y2 : MS B t c p (nm + 1) CS top ν α ω dd (ip_up (atM J p) 265 8 (Int32.ofNat (nm + 1))) := by
      obtain ⟨x1, x2, x3, x4, x5, x6, x7, x8, x9, x10, x11⟩ := Y
      exact ⟨⟨(up_k (by decide)).trans x1.1, (up_k (by decide)).trans x1.2.1, fun i hi => (up_a (by decide)).trans (x1.2.2 i hi)⟩, x2, (up_k (by decide)).trans x3, (up_k (by decide)).trans x4, ⟨up_eq, by omega⟩, ⟨(up_k (by decide)).trans x6.1, fun i hi => by rw [up_a (by decide), up_a (by decide), up_a (by decide)]; exact x6.2 i hi⟩, ⟨(up_k (by decide)).trans x7.1, x7.2⟩, (up_k (by decide)).trans x8, (up_a (by decide)).trans x9, (up_a (by decide)).trans x10, (up_a (by decide)).trans x11⟩
    have S2 : SM top (atM J p) (ip_up (atM J p) 265 8 (Int32.ofNat (nm + 1))) := SM_s (fun a k h1 h2 => up_a (by omega)) (onlyP_up onlyP_refl (by unfold scK; omega))
    generalize hJ2 : ip_up (atM J p) 265 8 (Int32.ofNat (nm + 1)) = J2 at *
    obtain ⟨J3, A3, Y3, S3⟩ := m_put (n := n) (L := L) (nc := nc) (ns := ns) (nx := nx) hR Y2 (by omega) (0, k, 0)
    have a3 : ∀ d, cf d 210 [.ref 265, .int 0, .int (Int32.ofNat k), .int 0] (SH n, J2, L, R, nc, ns, nx) = _ := A3
    have Wz := fun d => c195 (d := d) (n := n) (L := L) (nc := nc) (ns := ns) (nx := nx) (p := p) hR ht hB Y3.1 Y3.2.1 ss
    rw [atM_s Y3.1] at Wz
    have k4 : J3 265 4 = Int32.ofNat p := Y3.1.2.1
    have e4 : Int32.ofNat p + Int32.ofNat (rnn lxL B t p - p) = Int32.ofNat (enT B t p) := by rw [nu_add, q1]; congr 1; omega
    have e5 : ip_up J3 265 4 (Int32.ofNat (enT B t p)) = atM J3 (enT B t p) := rfl
    obtain ⟨Y4, S4⟩ := m_at (a' := enT B t p) Y3 r3
    obtain ⟨J5, A5, Y5, S5⟩ := c211 (n := n) (L := L) (nc := nc) (ns := ns) (nx := nx) hR Y4 (by rw [List.length_append]; dsimp only [List.length]; omega) hd h100
    refine ⟨J5, fun D hD => ?_, Y5, SM_t SY (SM_t S2 (SM_t S3 (SM_t S4 S5)))⟩
    obtain ⟨E, rfl⟩ : ∃ E, D = E + 4 + 1 := ⟨D - 5, by omega⟩
    have a5 := A5 (E + 4) (by omega)
    have nmv : (hv B t p = -1) = False := eq_false (fun e => by have := (kd_end hB).mpr e; omega)
    simp only [en208, e208_0, e208_1, e208_4, e208_5, e208_6, e208_8, e208_11, e208_14, e208_15, e208_18, e208_19, e208_19r, e208_20, e208_23, e208_24, e208_25, e208_28, e208_29, e208_32, e208_33, e208_36, e208_37, e208_38, e208_39, e208_40, e208_41, e208_42, e208_43, e208_44, e208_46, e208_49, e208_50, e208_53, e208_54, e208_54r, e208_55, e208_58, e208_59, e208_60, e208_63, e208_64, e208_65, e208_66, e208_69, e208_70, e208_71, e208_72, e208_73, e208_76, e208_77, e208_78, e208_81, e208_84, e208_87, e208_88, e208_91, e208_92, e208_93, e208_95, e208_98, e208_101, e208_102, e208_105, e208_106, e208_109, e208_110, e208_113, e208_114, e208_117, e208_119, e208_122, e208_123, e208_126, e208_127, e208_130, e208_131, e208_134, e208_135, e208_138, e208_139, e208_139r, e208_140, e208_143, e208_144, e208_145, e208_148, e208_149, e208_150, e208_151, e208_154, e208_155, e208_156, e208_157, e208_160, e208_163, e208_164, e208_167, e208_170, e208_171, e208_172, e208_173, e208_174, e208_177, e208_178, e208_181, e208_183, e208_186, e208_187, e208_190, e208_191, e208_194, e208_195, e208_198, e208_199, e208_200, e208_201, e208_201r, e208_202, e208_205, e208_206, e208_207, e208_210, e208_211, e208_212, e208_213, e208_214, e208_217, e208_218, e208_218r, e208_219, e208_222, e208_223, e208_226, e208_227, e208_230, e208_231, e208_234, e208_235, rk_n, rk_v, nl_n, nl_i, nl_r, cat_n, ip_cat_int, ip_cat_ref, ip_cat_long, ip_rf_some, Nat.reduceAdd, Nat.reduceLeDiff, Nat.reduceLT, Nat.le_refl, Nat.zero_le, hR, H, M, n40, nmv, y4, D1, N, I, nk, y8.1, g40, y5, e1, hJ2, a3, Wz, k4, e4, e5, a5, (by decide : ¬ (1 : Int32) = 0), true_or, or_true, Bool.false_eq_true, Bool.true_eq_false, if_true, if_false, not_true_eq_false, not_false_eq_true, zle, eq_self]
  · refine ⟨_, fun D hD => ?_, up_eq, PF⟩
    obtain ⟨E, rfl⟩ : ∃ E, D = E + 4 + 1 := ⟨D - 5, by omega⟩
    by_cases h13 : kdT B t p = 13
    · have I := fun d => c200 (d := d) (n := n) (L := L) (nc := nc) (ns := ns) (nx := nx) (p := p) (f := f) hR ht hB Y.1 Y.2.1 ss h13 hc8 Y.2.2.2.1 F
      unfold fIx at I
      rw [atM_at] at I
      rw [if_pos h13] at N
      have nmv : (hv B t p = -1) = False := eq_false (fun e => by have := (kd_end hB).mpr e; omega)
      rcases ffs_case (fun k => decide (f k = wl B t p)) c 0 with ⟨z, -⟩ | ⟨j, z1, z2, z3, -⟩
      · rw [z] at I
        simp only [en208, e208_0, e208_1, e208_4, e208_5, e208_6, e208_8, e208_11, e208_14, e208_15, e208_18, e208_19, e208_19r, e208_20, e208_23, e208_24, e208_25, e208_28, e208_29, e208_32, e208_33, e208_36, e208_37, e208_38, e208_39, e208_40, e208_41, e208_42, e208_43, e208_44, e208_46, e208_49, e208_50, e208_53, e208_54, e208_54r, e208_55, e208_58, e208_59, e208_60, e208_63, e208_64, e208_65, e208_66, e208_69, e208_70, e208_71, e208_72, e208_73, e208_76, e208_77, e208_78, e208_81, e208_84, e208_87, e208_88, e208_91, e208_92, e208_93, e208_95, e208_98, e208_101, e208_102, e208_105, e208_106, e208_109, e208_110, e208_113, e208_114, e208_117, e208_119, e208_122, e208_123, e208_126, e208_127, e208_130, e208_131, e208_134, e208_135, e208_138, e208_139, e208_139r, e208_140, e208_143, e208_144, e208_145, e208_148, e208_149, e208_150, e208_151, e208_154, e208_155, e208_156, e208_157, e208_160, e208_163, e208_164, e208_167, e208_170, e208_171, e208_172, e208_173, e208_174, e208_177, e208_178, e208_181, e208_183, e208_186, e208_187, e208_190, e208_191, e208_194, e208_195, e208_198, e208_199, e208_200, e208_201, e208_201r, e208_202, e208_205, e208_206, e208_207, e208_210, e208_211, e208_212, e208_213, e208_214, e208_217, e208_218, e208_218r, e208_219, e208_222, e208_223, e208_226, e208_227, e208_230, e208_231, e208_234, e208_235, rk_n, rk_v, nl_n, nl_i, nl_r, cat_n, ip_cat_int, ip_cat_ref, ip_cat_long, ip_rf_some, Nat.reduceAdd, Nat.reduceLeDiff, Nat.reduceLT, Nat.le_refl, Nat.zero_le, hR, H, M, n40, nmv, y4, D1, N, I, W, g5, (by decide : ¬ (1 : Int32) = 0), true_or, or_true, Bool.false_eq_true, Bool.true_eq_false, if_true, if_false, not_true_eq_false, not_false_eq_true, zle, eq_self]
      · rw [z1] at I
        have hn : nm = 40 := by
          have : ¬ nm < 40 := fun e => hno ⟨h13, ⟨j, z1⟩, e⟩
          have := y8.2
          omega
        have nk : (Int32.ofNat j = -1) = False := eq_false (nm1 (by omega))
        have g40 : (Int32.ofNat nm = 40) = True := eq_true (by rw [hn]; rfl)
        simp only [en208, e208_0, e208_1, e208_4, e208_5, e208_6, e208_8, e208_11, e208_14, e208_15, e208_18, e208_19, e208_19r, e208_20, e208_23, e208_24, e208_25, e208_28, e208_29, e208_32, e208_33, e208_36, e208_37, e208_38, e208_39, e208_40, e208_41, e208_42, e208_43, e208_44, e208_46, e208_49, e208_50, e208_53, e208_54, e208_54r, e208_55, e208_58, e208_59, e208_60, e208_63, e208_64, e208_65, e208_66, e208_69, e208_70, e208_71, e208_72, e208_73, e208_76, e208_77, e208_78, e208_81, e208_84, e208_87, e208_88, e208_91, e208_92, e208_93, e208_95, e208_98, e208_101, e208_102, e208_105, e208_106, e208_109, e208_110, e208_113, e208_114, e208_117, e208_119, e208_122, e208_123, e208_126, e208_127, e208_130, e208_131, e208_134, e208_135, e208_138, e208_139, e208_139r, e208_140, e208_143, e208_144, e208_145, e208_148, e208_149, e208_150, e208_151, e208_154, e208_155, e208_156, e208_157, e208_160, e208_163, e208_164, e208_167, e208_170, e208_171, e208_172, e208_173, e208_174, e208_177, e208_178, e208_181, e208_183, e208_186, e208_187, e208_190, e208_191, e208_194, e208_195, e208_198, e208_199, e208_200, e208_201, e208_201r, e208_202, e208_205, e208_206, e208_207, e208_210, e208_211, e208_212, e208_213, e208_214, e208_217, e208_218, e208_218r, e208_219, e208_222, e208_223, e208_226, e208_227, e208_230, e208_231, e208_234, e208_235, rk_n, rk_v, nl_n, nl_i, nl_r, cat_n, ip_cat_int, ip_cat_ref, ip_cat_long, ip_rf_some, Nat.reduceAdd, Nat.reduceLeDiff, Nat.reduceLT, Nat.le_refl, Nat.zero_le, hR, H, M, n40, nmv, y4, D1, N, I, nk, y8.1, g40, W, g5, (by decide : ¬ (1 : Int32) = 0), true_or, or_true, Bool.false_eq_true, Bool.true_eq_false, if_true, if_false, not_true_eq_false, not_false_eq_true, zle, eq_self]
    · rw [if_neg h13] at N
      by_cases nmv : hv B t p = -1
      · simp only [en208, e208_0, e208_1, e208_4, e208_5, e208_6, e208_8, e208_11, e208_14, e208_15, e208_18, e208_19, e208_19r, e208_20, e208_23, e208_24, e208_25, e208_28, e208_29, e208_32, e208_33, e208_36, e208_37, e208_38, e208_39, e208_40, e208_41, e208_42, e208_43, e208_44, e208_46, e208_49, e208_50, e208_53, e208_54, e208_54r, e208_55, e208_58, e208_59, e208_60, e208_63, e208_64, e208_65, e208_66, e208_69, e208_70, e208_71, e208_72, e208_73, e208_76, e208_77, e208_78, e208_81, e208_84, e208_87, e208_88, e208_91, e208_92, e208_93, e208_95, e208_98, e208_101, e208_102, e208_105, e208_106, e208_109, e208_110, e208_113, e208_114, e208_117, e208_119, e208_122, e208_123, e208_126, e208_127, e208_130, e208_131, e208_134, e208_135, e208_138, e208_139, e208_139r, e208_140, e208_143, e208_144, e208_145, e208_148, e208_149, e208_150, e208_151, e208_154, e208_155, e208_156, e208_157, e208_160, e208_163, e208_164, e208_167, e208_170, e208_171, e208_172, e208_173, e208_174, e208_177, e208_178, e208_181, e208_183, e208_186, e208_187, e208_190, e208_191, e208_194, e208_195, e208_198, e208_199, e208_200, e208_201, e208_201r, e208_202, e208_205, e208_206, e208_207, e208_210, e208_211, e208_212, e208_213, e208_214, e208_217, e208_218, e208_218r, e208_219, e208_222, e208_223, e208_226, e208_227, e208_230, e208_231, e208_234, e208_235, rk_n, rk_v, nl_n, nl_i, nl_r, cat_n, ip_cat_int, ip_cat_ref, ip_cat_long, ip_rf_some, Nat.reduceAdd, Nat.reduceLeDiff, Nat.reduceLT, Nat.le_refl, Nat.zero_le, hR, H, M, nmv, (by decide : ¬ (-1 : Int32) = 40), N, W, g5, true_or, or_true, Bool.false_eq_true, Bool.true_eq_false, if_true, if_false, not_true_eq_false, not_false_eq_true, zle, eq_self]
      · simp only [en208, e208_0, e208_1, e208_4, e208_5, e208_6, e208_8, e208_11, e208_14, e208_15, e208_18, e208_19, e208_19r, e208_20, e208_23, e208_24, e208_25, e208_28, e208_29, e208_32, e208_33, e208_36, e208_37, e208_38, e208_39, e208_40, e208_41, e208_42, e208_43, e208_44, e208_46, e208_49, e208_50, e208_53, e208_54, e208_54r, e208_55, e208_58, e208_59, e208_60, e208_63, e208_64, e208_65, e208_66, e208_69, e208_70, e208_71, e208_72, e208_73, e208_76, e208_77, e208_78, e208_81, e208_84, e208_87, e208_88, e208_91, e208_92, e208_93, e208_95, e208_98, e208_101, e208_102, e208_105, e208_106, e208_109, e208_110, e208_113, e208_114, e208_117, e208_119, e208_122, e208_123, e208_126, e208_127, e208_130, e208_131, e208_134, e208_135, e208_138, e208_139, e208_139r, e208_140, e208_143, e208_144, e208_145, e208_148, e208_149, e208_150, e208_151, e208_154, e208_155, e208_156, e208_157, e208_160, e208_163, e208_164, e208_167, e208_170, e208_171, e208_172, e208_173, e208_174, e208_177, e208_178, e208_181, e208_183, e208_186, e208_187, e208_190, e208_191, e208_194, e208_195, e208_198, e208_199, e208_200, e208_201, e208_201r, e208_202, e208_205, e208_206, e208_207, e208_210, e208_211, e208_212, e208_213, e208_214, e208_217, e208_218, e208_218r, e208_219, e208_222, e208_223, e208_226, e208_227, e208_230, e208_231, e208_234, e208_235, rk_n, rk_v, nl_n, nl_i, nl_r, cat_n, ip_cat_int, ip_cat_ref, ip_cat_long, ip_rf_some, Nat.reduceAdd, Nat.reduceLeDiff, Nat.reduceLT, Nat.le_refl, Nat.zero_le, hR, H, M, n40, nmv, y4, D1, N, W, g5, true_or, or_true, Bool.false_eq_true, Bool.true_eq_false, if_true, if_false, not_true_eq_false, not_false_eq_true, zle, eq_self]
end MP
