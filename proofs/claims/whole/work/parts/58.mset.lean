/-! THE MODEL: sets by loops; pictures of its text and of its node at hand -/
theorem ite_0 {P : Prop} [Decidable P] : ((if P then (1 : Int32) else 0) = 0) = ¬ P := by by_cases h : P <;> simp [h]
theorem ite_1 {P : Prop} [Decidable P] : ((if P then (1 : Int32) else 0) = 1) = P := by by_cases h : P <;> simp [h]
theorem b_nt {b : Bool} : (¬ b = true) = (b = false) := by cases b <;> simp
theorem lt8 {c : Nat} (h : c ≤ 8) : c < 2147483648 := by omega
/-- issues, standards, what they rest on, bars, who wins -/
def MTx (c : Nat) (std rst : Nat → Nat) (br : Nat → Int32) (win : Nat → Bool) (I : Nat → Nat → Int32) : Prop :=
  c ≤ 8 ∧ I 265 17 = Int32.ofNat c ∧ (∀ k, k < c → I 275 k = Int32.ofNat (std k) ∧ std k < 3) ∧ (∀ k, k < c → I 276 k = Int32.ofNat (rst k) ∧ rst k < 256) ∧ (∀ k, k < 6 → I 277 k = br k) ∧ (∀ s, s < 256 → I 287 s = wb win s)
/-- what rests on some, issue by issue on -/
def restOn (rst : Nat → Nat) (m : Nat) : Nat → Nat
  | 0 => 0
  | k + 1 => if rst k &&& (m ||| restOn rst m k) = 0 then restOn rst m k else restOn rst m k ||| 2 ^ k
theorem restOn_lt (rst : Nat → Nat) (m : Nat) : ∀ k, restOn rst m k < 2 ^ k := by
  intro k
  induction k with
  | zero => exact Nat.one_pos
  | succ k ih =>
    rw [restOn]
    split
    · exact Nat.lt_of_lt_of_le ih (Nat.pow_le_pow_right (by omega) (by omega))
    · refine Nat.or_lt_two_pow ?_ ?_
      · exact Nat.lt_of_lt_of_le ih (Nat.pow_le_pow_right (by omega) (by omega))
      · exact Nat.pow_lt_pow_right (by omega) (by omega)
theorem p2le {k : Nat} (h : k ≤ 8) : 2 ^ k ≤ 256 := Nat.pow_le_pow_right (n := 2) (by omega) h
theorem setN_256 (P : Nat → Bool) {c : Nat} (h : c ≤ 8) : setN P c < 256 := Nat.lt_of_lt_of_le (setN_lt P c) (p2le h)
theorem ofn_0 {s : Nat} (h : s < 2147483648) : (Int32.ofNat s = 0) = (s = 0) := nu_eq (k := 0) h (by omega)
section MS
variable {n d a b T c s z o w m p lev k side : Nat} {I J : Nat → Nat → Int32} {L : Nat → Nat → Int64} {R : Nat → Nat → Option Nat} {nc ns : Nat} {nx : Bool} {x y j : Int32} {h : ip_H} {f g std rst V : Nat → Nat} {win : Nat → Bool} {br fl : Nat → Int32}
theorem hasB (hs : s < 256) (hk : k < 8) : cf d 186 [.int (Int32.ofNat s), .int (Int32.ofNat k)] h = some (.inl (some (.int (if s.testBit k = true then 1 else 0))), h) := by
  simp only [c186, bit_1' hs hk]
theorem c218 (hR : LYR R) (M : MTx c std rst br win I) (hm : m < 256) : cf d 218 [.ref 265, .int (Int32.ofNat m)] (SH n, I, L, R, nc, ns, nx) = some (.inl (some (.int (Int32.ofNat (restOn rst m c)))), (SH n, I, L, R, nc, ns, nx)) := by
  obtain ⟨hc8, hc, -, hr, -, -⟩ := M
  have lc := lt8 hc8
  simp only [en218, e218_0, e218_1, e218_2, e218_3, e218_5, e218_6, e218_9, e218_12, e218_13, e218_16, e218_17, e218_18, e218_19, e218_20, e218_21, e218_22, e218_25, e218_26, e218_27, e218_28, e218_29, e218_30, e218_31, e218_34, e218_37, e218_38, rk_n, rk_v, nl_n, nl_i, nl_r, cat_n, ip_cat_int, ip_cat_ref, ip_cat_long, ip_rf_some, Nat.reduceAdd, Nat.reduceLeDiff, Nat.reduceLT, Nat.le_refl, Nat.zero_le]
  refine (for_eq (c := c) (fun k => rf d 218 4 [some (.ref 265), some (.int (Int32.ofNat m)), some (.int (Int32.ofNat (restOn rst m k))), some (.int (Int32.ofNat k))] [] (SH n, I, L, R, nc, ns, nx)) ?_).trans ?_
  · intro k hk
    try dsimp only
    have lk : k < 2147483648 := by omega
    have g1 : ¬ c ≤ k := by omega
    have k8 : k < 8 := by omega
    obtain ⟨f1, f2⟩ := hr k hk
    have l2 : rst k &&& (m ||| restOn rst m k) < 2147483648 := Nat.lt_of_le_of_lt Nat.and_le_left (by omega)
    rw [e218_4, restOn]
    by_cases g3 : rst k &&& (m ||| restOn rst m k) = 0
    · simp only [e218_0, e218_1, e218_2, e218_3, e218_5, e218_6, e218_9, e218_12, e218_13, e218_16, e218_17, e218_18, e218_19, e218_20, e218_21, e218_22, e218_25, e218_26, e218_27, e218_28, e218_29, e218_30, e218_31, e218_34, e218_37, e218_38, rk_n, rk_v, nl_n, nl_i, nl_r, cat_n, ip_cat_int, ip_cat_ref, ip_cat_long, ip_rf_some, Nat.reduceAdd, Nat.reduceLeDiff, Nat.reduceLT, Nat.le_refl, Nat.zero_le, hR, hc, nu_ge, lk, lc, g1, ia_lit, nu_i, nu_tn, k8, f1, of_or, of_and, ofn_0, l2, g3, nu_1, Bool.false_eq_true, Bool.true_eq_false, if_true, if_false, not_true_eq_false, not_false_eq_true, zle, eq_self]
    · simp only [e218_0, e218_1, e218_2, e218_3, e218_5, e218_6, e218_9, e218_12, e218_13, e218_16, e218_17, e218_18, e218_19, e218_20, e218_21, e218_22, e218_25, e218_26, e218_27, e218_28, e218_29, e218_30, e218_31, e218_34, e218_37, e218_38, rk_n, rk_v, nl_n, nl_i, nl_r, cat_n, ip_cat_int, ip_cat_ref, ip_cat_long, ip_rf_some, Nat.reduceAdd, Nat.reduceLeDiff, Nat.reduceLT, Nat.le_refl, Nat.zero_le, hR, hc, nu_ge, lk, lc, g1, ia_lit, nu_i, nu_tn, k8, f1, of_or, of_and, ofn_0, l2, g3, sh1, nu_1, Bool.false_eq_true, Bool.true_eq_false, if_true, if_false, not_true_eq_false, not_false_eq_true, zle, eq_self]
  · rw [e218_4]
    simp only [e218_0, e218_1, e218_2, e218_3, e218_5, e218_6, e218_9, e218_12, e218_13, e218_16, e218_17, e218_18, e218_19, e218_20, e218_21, e218_22, e218_25, e218_26, e218_27, e218_28, e218_29, e218_30, e218_31, e218_34, e218_37, e218_38, rk_n, rk_v, nl_n, nl_i, nl_r, cat_n, ip_cat_int, ip_cat_ref, ip_cat_long, ip_rf_some, Nat.reduceAdd, Nat.reduceLeDiff, Nat.reduceLT, Nat.le_refl, Nat.zero_le, hc, Int32.le_refl, if_true]
/-- pages: as the model adds them -/
def pgM (s : Nat) (f : Nat → Nat) : Nat → Nat
  | 0 => 0
  | k + 1 => pgM s f k + (if s.testBit k = true then 1 + pop (f k) else 0)
theorem c247 (hR : LYR R) (M : MTx c std rst br win I) (hs : s < 256) : cf (d + 1) 247 [.ref 265, .int (Int32.ofNat s)] (SH n, I, L, R, nc, ns, nx) = some (.inl (some (.int (Int32.ofNat (pgM s rst c)))), (SH n, I, L, R, nc, ns, nx)) := by
  obtain ⟨hc8, hc, -, hr, -, -⟩ := M
  have lc := lt8 hc8
  simp only [en247, e247_0, e247_1, e247_2, e247_3, e247_5, e247_6, e247_9, e247_12, e247_13, e247_14, e247_15, e247_18, e247_21, e247_22, e247_23, e247_26, e247_27, e247_28, e247_31, e247_32, e247_35, e247_36, e247_37, e247_38, e247_41, e247_44, e247_45, rk_n, rk_v, nl_n, nl_i, nl_r, cat_n, ip_cat_int, ip_cat_ref, ip_cat_long, ip_rf_some, Nat.reduceAdd, Nat.reduceLeDiff, Nat.reduceLT, Nat.le_refl, Nat.zero_le]
  refine (for_eq (c := c) (fun k => rf (d + 1) 247 4 [some (.ref 265), some (.int (Int32.ofNat s)), some (.int (Int32.ofNat (pgM s rst k))), some (.int (Int32.ofNat k))] [] (SH n, I, L, R, nc, ns, nx)) ?_).trans ?_
  · intro k hk
    try dsimp only
    have lk : k < 2147483648 := by omega
    have g1 : ¬ c ≤ k := by omega
    have k8 : k < 8 := by omega
    obtain ⟨f1, f2⟩ := hr k hk
    have a1 : (1 : Int32) + Int32.ofNat (pop (rst k)) = Int32.ofNat (1 + pop (rst k)) := nu_add (t := 1)
    have a0 : Int32.ofNat (pgM s rst k) + 0 = Int32.ofNat (pgM s rst k + 0) := nu_add (s := 0)
    rw [e247_4, pgM]
    by_cases g3 : s.testBit k = true
    · simp only [e247_0, e247_1, e247_2, e247_3, e247_5, e247_6, e247_9, e247_12, e247_13, e247_14, e247_15, e247_18, e247_21, e247_22, e247_23, e247_26, e247_27, e247_28, e247_31, e247_32, e247_35, e247_36, e247_37, e247_38, e247_41, e247_44, e247_45, rk_n, rk_v, nl_n, nl_i, nl_r, cat_n, ip_cat_int, ip_cat_ref, ip_cat_long, ip_rf_some, Nat.reduceAdd, Nat.reduceLeDiff, Nat.reduceLT, Nat.le_refl, Nat.zero_le, hR, hc, nu_ge, lk, lc, g1, ia_lit, nu_i, nu_tn, k8, hs, hasB, ite_0, g3, f1, c226 f2, a1, nu_add, nu_1, Bool.false_eq_true, Bool.true_eq_false, if_true, if_false, not_true_eq_false, not_false_eq_true, zle, eq_self]
    · simp only [e247_0, e247_1, e247_2, e247_3, e247_5, e247_6, e247_9, e247_12, e247_13, e247_14, e247_15, e247_18, e247_21, e247_22, e247_23, e247_26, e247_27, e247_28, e247_31, e247_32, e247_35, e247_36, e247_37, e247_38, e247_41, e247_44, e247_45, rk_n, rk_v, nl_n, nl_i, nl_r, cat_n, ip_cat_int, ip_cat_ref, ip_cat_long, ip_rf_some, Nat.reduceAdd, Nat.reduceLeDiff, Nat.reduceLT, Nat.le_refl, Nat.zero_le, hR, hc, nu_ge, lk, lc, g1, ia_lit, nu_i, nu_tn, k8, hs, hasB, ite_0, g3, a0, nu_1, Bool.false_eq_true, Bool.true_eq_false, if_true, if_false, not_true_eq_false, not_false_eq_true, zle, eq_self]
  · rw [e247_4]
    simp only [e247_0, e247_1, e247_2, e247_3, e247_5, e247_6, e247_9, e247_12, e247_13, e247_14, e247_15, e247_18, e247_21, e247_22, e247_23, e247_26, e247_27, e247_28, e247_31, e247_32, e247_35, e247_36, e247_37, e247_38, e247_41, e247_44, e247_45, rk_n, rk_v, nl_n, nl_i, nl_r, cat_n, ip_cat_int, ip_cat_ref, ip_cat_long, ip_rf_some, Nat.reduceAdd, Nat.reduceLeDiff, Nat.reduceLT, Nat.le_refl, Nat.zero_le, hc, Int32.le_refl, if_true]
/-! the node at hand: V: 4 for side 0, 6 open, 7 settled, 8 leaks, 10 turned, 12 and 13 briefed, 14 and 15 kept, 16 settled in the node ahead -/
def MNd (w p lev : Nat) (V : Nat → Nat) (fl : Nat → Int32) (I : Nat → Nat → Int32) : Prop :=
  w < 40 ∧ I 265 38 = Int32.ofNat w ∧ (∀ j, V j < 256) ∧ I 293 w = Int32.ofNat (V 6) ∧ I 296 w = Int32.ofNat (V 4) ∧ I 294 w = Int32.ofNat (V 7) ∧ I 295 w = Int32.ofNat (V 8) ∧ I 298 w = Int32.ofNat (V 10) ∧ (∀ s, s < 2 → I 300 (2 * w + s) = Int32.ofNat (V (12 + s)) ∧ I 301 (2 * w + s) = Int32.ofNat (V (14 + s))) ∧ (∀ k, k < 8 → I 302 (8 * w + k) = fl k) ∧ (lev = 2 → p < 40 ∧ I 290 w = Int32.ofNat p ∧ I 294 p = Int32.ofNat (V 16))
def agN (V : Nat → Nat) (k side : Nat) : Bool := !(V 6).testBit k && ((V 4).testBit k == decide (side = 1))
theorem mu8 {w : Nat} : (8 : Int32) * Int32.ofNat w = Int32.ofNat (8 * w) := (Int32.ofNat_mul 8 w).symm
theorem mu2 {w : Nat} : (2 : Int32) * Int32.ofNat w = Int32.ofNat (2 * w) := (Int32.ofNat_mul 2 w).symm
theorem mu3 {l : Nat} (h : 0 < l) : (3 : Int32) * Int32.ofNat l - 3 = Int32.ofNat (3 * l - 3) := by
  have e : (3 : Int32) * Int32.ofNat l = Int32.ofNat (3 * l) := (Int32.ofNat_mul 3 l).symm
  rw [e]
  exact (Int32.ofNat_sub (3 * l) 3 (by omega)).symm
theorem lt2 {s : Nat} (h : s < 2) : s = 0 ∨ s = 1 := by omega
theorem c228 (hR : LYR R) (hw : w < 40) (h6 : I 293 w = Int32.ofNat (V 6)) (h4 : I 296 w = Int32.ofNat (V 4)) (h8 : ∀ j, V j < 256) (hk : k < 8) (hs : side < 2) : cf (d + 1) 228 [.ref 265, .int (Int32.ofNat w), .int (Int32.ofNat k), .int (Int32.ofNat side)] (SH n, I, L, R, nc, ns, nx) = some (.inl (some (.int (if agN V k side = true then 1 else 0))), (SH n, I, L, R, nc, ns, nx)) := by
  have lw : w < 2147483648 := by omega
  have s0 : (Int32.ofNat 0 = 1) = False := eq_false (by decide)
  have s1 : (Int32.ofNat 1 = 1) = True := eq_true (by decide)
  have s2 : (0 : Int32) = 1 ↔ False := by decide
  unfold agN
  rcases lt2 hs with rfl | rfl <;> cases a1 : (V 6).testBit k <;> cases a2 : (V 4).testBit k <;> simp only [en228, e228_0, e228_1, e228_4, e228_5, e228_6, e228_7, e228_10, e228_13, e228_14, e228_17, e228_18, e228_19, e228_20, e228_23, e228_24, e228_25, e228_28, e228_29, e228_32, e228_33, e228_36, e228_37, e228_40, e228_41, rk_n, rk_v, nl_n, nl_i, nl_r, cat_n, ip_cat_int, ip_cat_ref, ip_cat_long, ip_rf_some, Nat.reduceAdd, Nat.reduceLeDiff, Nat.reduceLT, Nat.le_refl, Nat.zero_le, hR, ia_lit, nu_i, nu_tn, lw, hw, h6, h4, hasB (h8 6) hk, hasB (h8 4) hk, a1, a2, s0, s1, s2, Bool.false_eq_true, Bool.true_eq_false, if_true, if_false, not_true_eq_false, not_false_eq_true, zle, eq_self, true_or, or_true] <;> rfl
def heldN (V : Nat → Nat) (lev : Nat) : Nat := if lev = 2 then V 16 else V 7
def raisN (V : Nat → Nat) (lev k side : Nat) : Bool := if lev = 2 then (V (14 + side)).testBit k && (V (12 + side)).testBit k || (V 10).testBit k else (V (14 + side)).testBit k
/-- WHY -/
def whyI (V : Nat → Nat) (fl : Nat → Int32) (lev k side : Nat) : Int32 := if agN V k side = false then 1 else if (heldN V lev).testBit k = true ∧ (V 8).testBit k = false ∧ ¬ fl k = 9 then 2 else if raisN V lev k side = true ∨ ¬ fl k < 8 then 0 else 3
theorem c236 (hR : LYR R) (M : MNd w p lev V fl I) (hl : lev = 1 ∨ lev = 2) (hk : k < 8) (hs : side < 2) : cf (d + 2) 236 [.ref 265, .int (Int32.ofNat k), .int (Int32.ofNat side), .int (Int32.ofNat lev)] (SH n, I, L, R, nc, ns, nx) = some (.inl (some (.int (whyI V fl lev k side))), (SH n, I, L, R, nc, ns, nx)) := by
  obtain ⟨hw, m1, v8, m6, m4, m7, m8, m10, mb, mf, mp⟩ := M
  have lw : w < 2147483648 := by omega
  have ls : 2 * w + side < 2147483648 := by omega
  have bs : 2 * w + side < 80 := by omega
  have lk : 8 * w + k < 2147483648 := by omega
  have bk : 8 * w + k < 320 := by omega
  obtain ⟨mb1, mb2⟩ := mb side hs
  have mf1 := mf k hk
  have q1 : (Int32.ofNat 1 = 2) = False := eq_false (by decide)
  have q2 : (Int32.ofNat 2 = 2) = True := eq_true (by decide)
  have C := c228 (d := d) (n := n) (L := L) (nc := nc) (ns := ns) (nx := nx) hR hw m6 m4 v8 hk hs
  have n98 : ((9 : Int32) < 8) = False := eq_false (by decide)
  unfold whyI
  cases ha : agN V k side with
  | false =>
    rw [ha] at C
    simp only [en236, e236_0, e236_1, e236_2, e236_5, e236_6, e236_7, e236_10, e236_13, e236_14, e236_15, e236_16, e236_19, e236_21, e236_22, e236_25, e236_26, e236_27, e236_28, e236_29, e236_31, e236_32, e236_33, e236_36, e236_37, e236_40, e236_41, e236_44, e236_45, e236_48, e236_49, e236_50, e236_53, e236_54, e236_57, e236_58, e236_61, e236_62, e236_64, e236_66, e236_67, e236_70, e236_73, e236_74, e236_77, e236_78, e236_81, e236_82, e236_83, e236_86, e236_89, e236_91, e236_93, e236_96, e236_97, e236_98, e236_99, e236_102, e236_103, e236_104, e236_107, e236_108, e236_109, e236_110, e236_111, e236_112, e236_115, e236_117, e236_118, e236_119, e236_122, e236_124, e236_127, e236_128, e236_131, e236_132, e236_133, e236_136, e236_137, e236_138, e236_139, e236_140, e236_141, e236_144, e236_147, e236_148, e236_151, e236_152, e236_155, e236_156, e236_157, e236_160, e236_163, e236_164, e236_167, e236_168, e236_170, e236_172, e236_175, e236_177, e236_179, e236_182, e236_183, e236_186, e236_187, rk_n, rk_v, nl_n, nl_i, nl_r, cat_n, ip_cat_int, ip_cat_ref, ip_cat_long, ip_rf_some, Nat.reduceAdd, Nat.reduceLeDiff, Nat.reduceLT, Nat.le_refl, Nat.zero_le, m1, C, Bool.false_eq_true, Bool.true_eq_false, if_true, if_false, not_true_eq_false, not_false_eq_true, zle, eq_self]
  | true =>
    rw [ha] at C
    rcases hl with rfl | rfl
    · simp only [en236, e236_0, e236_1, e236_2, e236_5, e236_6, e236_7, e236_10, e236_13, e236_14, e236_15, e236_16, e236_19, e236_21, e236_22, e236_25, e236_26, e236_27, e236_28, e236_29, e236_31, e236_32, e236_33, e236_36, e236_37, e236_40, e236_41, e236_44, e236_45, e236_48, e236_49, e236_50, e236_53, e236_54, e236_57, e236_58, e236_61, e236_62, e236_64, e236_66, e236_67, e236_70, e236_73, e236_74, e236_77, e236_78, e236_81, e236_82, e236_83, e236_86, e236_89, e236_91, e236_93, e236_96, e236_97, e236_98, e236_99, e236_102, e236_103, e236_104, e236_107, e236_108, e236_109, e236_110, e236_111, e236_112, e236_115, e236_117, e236_118, e236_119, e236_122, e236_124, e236_127, e236_128, e236_131, e236_132, e236_133, e236_136, e236_137, e236_138, e236_139, e236_140, e236_141, e236_144, e236_147, e236_148, e236_151, e236_152, e236_155, e236_156, e236_157, e236_160, e236_163, e236_164, e236_167, e236_168, e236_170, e236_172, e236_175, e236_177, e236_179, e236_182, e236_183, e236_186, e236_187, rk_n, rk_v, nl_n, nl_i, nl_r, cat_n, ip_cat_int, ip_cat_ref, ip_cat_long, ip_rf_some, Nat.reduceAdd, Nat.reduceLeDiff, Nat.reduceLT, Nat.le_refl, Nat.zero_le, hR, ia_lit, nu_i, nu_tn, lw, hw, ls, bs, lk, bk, m1, m7, m8, mb2, mf1, mu8, mu2, nu_add, C, hasB (v8 7) hk, hasB (v8 8) hk, hasB (v8 _) hk, ite_0, q1, heldN, raisN, Bool.false_eq_true, Bool.true_eq_false, if_true, if_false, not_true_eq_false, not_false_eq_true, zle, eq_self, Nat.reduceEqDiff]
      cases (V 7).testBit k <;> cases (V 8).testBit k <;> cases (V (14 + side)).testBit k <;> by_cases g9 : fl k = 9 <;> by_cases g8 : fl k < 8 <;> simp only [g9, g8, n98, Bool.false_eq_true, Bool.true_eq_false, if_true, if_false, not_true_eq_false, not_false_eq_true, zle, eq_self, true_and, false_and, and_false, and_true, or_true, true_or, or_false, false_or]
    · obtain ⟨p4, p1, p2⟩ := mp rfl
      have lp : p < 2147483648 := by omega
      simp only [en236, e236_0, e236_1, e236_2, e236_5, e236_6, e236_7, e236_10, e236_13, e236_14, e236_15, e236_16, e236_19, e236_21, e236_22, e236_25, e236_26, e236_27, e236_28, e236_29, e236_31, e236_32, e236_33, e236_36, e236_37, e236_40, e236_41, e236_44, e236_45, e236_48, e236_49, e236_50, e236_53, e236_54, e236_57, e236_58, e236_61, e236_62, e236_64, e236_66, e236_67, e236_70, e236_73, e236_74, e236_77, e236_78, e236_81, e236_82, e236_83, e236_86, e236_89, e236_91, e236_93, e236_96, e236_97, e236_98, e236_99, e236_102, e236_103, e236_104, e236_107, e236_108, e236_109, e236_110, e236_111, e236_112, e236_115, e236_117, e236_118, e236_119, e236_122, e236_124, e236_127, e236_128, e236_131, e236_132, e236_133, e236_136, e236_137, e236_138, e236_139, e236_140, e236_141, e236_144, e236_147, e236_148, e236_151, e236_152, e236_155, e236_156, e236_157, e236_160, e236_163, e236_164, e236_167, e236_168, e236_170, e236_172, e236_175, e236_177, e236_179, e236_182, e236_183, e236_186, e236_187, rk_n, rk_v, nl_n, nl_i, nl_r, cat_n, ip_cat_int, ip_cat_ref, ip_cat_long, ip_rf_some, Nat.reduceAdd, Nat.reduceLeDiff, Nat.reduceLT, Nat.le_refl, Nat.zero_le, hR, ia_lit, nu_i, nu_tn, lw, hw, ls, bs, lk, bk, lp, p4, p1, p2, m1, m8, m10, mb1, mb2, mf1, mu8, mu2, nu_add, C, hasB (v8 16) hk, hasB (v8 8) hk, hasB (v8 10) hk, hasB (v8 _) hk, ite_0, q2, heldN, raisN, Bool.false_eq_true, Bool.true_eq_false, if_true, if_false, not_true_eq_false, not_false_eq_true, zle, eq_self]
      cases (V 16).testBit k <;> cases (V 8).testBit k <;> cases (V 10).testBit k <;> cases (V (14 + side)).testBit k <;> cases (V (12 + side)).testBit k <;> by_cases g9 : fl k = 9 <;> by_cases g8 : fl k < 8 <;> simp only [g9, g8, n98, Bool.false_eq_true, Bool.true_eq_false, if_true, if_false, not_true_eq_false, not_false_eq_true, zle, eq_self, true_and, false_and, and_false, and_true, or_true, true_or, or_false, false_or, Bool.or_true, Bool.true_or, Bool.or_false, Bool.false_or, Bool.and_true, Bool.true_and, Bool.and_false, Bool.false_and]
end MS
