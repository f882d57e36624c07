/-! WHO WINS FOR SURE: class (winnerBy) and model (sure) -/
section SU
variable {n d a b T c s z o : Nat} {I : Nat → Nat → Int32} {L : Nat → Nat → Int64} {R : Nat → Nat → Option Nat} {nc ns : Nat} {nx : Bool} {x y w j : Int32} {h : ip_H} {f g : Nat → Nat} {win : Nat → Bool}
/-- whether all that agree with z but for o have it -/
def alw (win : Nat → Bool) (z o : Nat) : Bool := (List.range 256).all (fun s => !(s &&& (255 ^^^ o) == z &&& (255 ^^^ o)) || win s)
def sureI (win : Nat → Bool) (z o : Nat) : Int32 := if alw win z o = true then 0 else if alw (fun s => !win s) z o = true then 1 else -1
theorem alw_iff {win : Nat → Bool} : alw win z o = true ↔ ∀ s, s < 256 → s &&& (255 ^^^ o) = z &&& (255 ^^^ o) → win s = true := by
  unfold alw
  rw [List.all_eq_true]
  constructor
  · intro H s h1 h2
    have := H s (List.mem_range.mpr h1)
    simpa [h2] using this
  · intro H s h1
    by_cases g : s &&& (255 ^^^ o) = z &&& (255 ^^^ o)
    · simp [H s (List.mem_range.mp h1) g]
    · simp [g]
/-! the class -/
def hiM (z o k : Nat) : Bool := decide ((64 * k) &&& (255 ^^^ o) = 64 * ((z &&& (255 ^^^ o)) / 64))
def evL (L : Nat → Nat → Int64) (T z o : Nat) : Nat → Int64
  | 0 => -1
  | k + 1 => if hiM z o k = true then evL L T z o k &&& L (T + 6) k else evL L T z o k
def soL (L : Nat → Nat → Int64) (T z o : Nat) : Nat → Int64
  | 0 => 0
  | k + 1 => if hiM z o k = true then soL L T z o k ||| L (T + 6) k else soL L T z o k
def us (x : Int64) (y : Int32) : Int64 := (x.toUInt64 >>> (y.toInt64.toUInt64 &&& Int64.toUInt64 63)).toInt64
def evS (o : Nat) (x : Int64) : Nat → Int64
  | 0 => x
  | k + 1 => if o.testBit k = true then evS o x k &&& us (evS o x k) (Int32.ofNat (2 ^ k)) else evS o x k
def soS (o : Nat) (x : Int64) : Nat → Int64
  | 0 => x
  | k + 1 => if o.testBit k = true then soS o x k ||| us (soS o x k) (Int32.ofNat (2 ^ k)) else soS o x k
theorem i18a : ∀ k, k < 4 → Int32.ofNat k <<< (6 &&& 31) = Int32.ofNat (64 * k) := by decide +kernel
theorem i18b : ∀ y, y < 256 → Int32.ofNat y >>> (6 &&& 31) <<< (6 &&& 31) = Int32.ofNat (64 * (y / 64)) ∧ Int32.ofNat y &&& 63 = Int32.ofNat (y % 64) := by decide +kernel
theorem c18x (hR : LYR R) (hT : isT T) (hz : z < 256) (ho : o < 256) : cf d 18 [.ref T, .int (Int32.ofNat z), .int (Int32.ofNat o)] (SH n, I, L, R, nc, ns, nx) = some (.inl (some (.int (if bL (evS o (evL L T z o 4) 6) ((z &&& (255 ^^^ o)) % 64) = true then 0 else if bL (soS o (soL L T z o 4) 6) ((z &&& (255 ^^^ o)) % 64) = false then 1 else -1))), (SH n, I, L, R, nc, ns, nx)) := by
  have e1 := of_andn z hz o ho
  have y8 : z &&& (255 ^^^ o) < 256 := Nat.lt_of_le_of_lt Nat.and_le_left hz
  obtain ⟨b1, b2⟩ := i18b _ y8
  simp only [en18, e18_0, e18_1, e18_2, e18_3, e18_4, e18_5, e18_6, e18_9, e18_11, e18_12, e18_14, e18_15, e18_19, e18_20, e18_23, e18_25, e18_27, e18_28, e18_29, e18_30, e18_31, e18_32, e18_34, e18_36, e18_37, e18_39, e18_40, e18_42, e18_43, e18_46, e18_48, e18_49, e18_52, e18_54, e18_55, e18_56, e18_58, e18_60, e18_61, e18_64, e18_66, e18_67, e18_68, e18_70, e18_73, e18_76, e18_77, e18_81, e18_83, e18_86, e18_87, e18_88, e18_90, e18_91, e18_92, e18_95, e18_97, e18_99, e18_100, e18_102, e18_103, e18_104, e18_105, e18_107, e18_109, e18_111, e18_112, e18_114, e18_115, e18_116, e18_117, e18_119, e18_122, e18_125, e18_126, e18_128, e18_129, e18_131, e18_133, e18_135, e18_136, e18_137, e18_138, e18_139, e18_140, e18_143, e18_144, e18_145, e18_147, e18_149, e18_150, e18_151, e18_152, e18_153, e18_154, e18_157, e18_158, e18_161, e18_162, rk_n, rk_v, nl_n, nl_i, nl_r, cat_n, ip_cat_int, ip_cat_ref, ip_cat_long, ip_rf_some, Nat.reduceAdd, Nat.reduceLeDiff, Nat.reduceLT, Nat.le_refl, Nat.zero_le, e1]
  refine (for_eq (c := 4) (fun k => rf d 18 17 [some (.ref T), some (.int (Int32.ofNat z)), some (.int (Int32.ofNat o)), some (.int (Int32.ofNat (z &&& (255 ^^^ o)))), some (.long (evL L T z o k)), none, some (.long (soL L T z o k)), none, some (.int (Int32.ofNat k)), if k = 0 then none else some (.int (Int32.ofNat ((64 * (k - 1)) &&& (255 ^^^ o))))] [] (SH n, I, L, R, nc, ns, nx)) ?_).trans ?_
  · intro k hk
    try dsimp only
    have lk : k < 2147483648 := by omega
    have g0 : ((4 : Int32) ≤ Int32.ofNat k) = (4 ≤ k) := nu_lit (c := 4) (by omega) lk
    have g1 : ¬ 4 ≤ k := by omega
    have k6 : 64 * k < 256 := by omega
    have e2 := i18a k hk
    have e3 := of_andn (64 * k) k6 o ho
    have h8 : (64 * k) &&& (255 ^^^ o) < 256 := Nat.lt_of_le_of_lt Nat.and_le_left k6
    have g2 : (Int32.ofNat ((64 * k) &&& (255 ^^^ o)) = Int32.ofNat (64 * ((z &&& (255 ^^^ o)) / 64))) = (hiM z o k = true) := by
      rw [nu_eq (by omega) (by omega)]
      unfold hiM
      rw [decide_eq_true_eq]
    have k1 : ¬ k + 1 = 0 := by omega
    rw [e18_17, evL, soL, if_neg k1, Nat.add_sub_cancel]
    by_cases g3 : hiM z o k = true
    · simp only [e18_0, e18_1, e18_2, e18_3, e18_4, e18_5, e18_6, e18_9, e18_11, e18_12, e18_14, e18_15, e18_19, e18_20, e18_23, e18_25, e18_27, e18_28, e18_29, e18_30, e18_31, e18_32, e18_34, e18_36, e18_37, e18_39, e18_40, e18_42, e18_43, e18_46, e18_48, e18_49, e18_52, e18_54, e18_55, e18_56, e18_58, e18_60, e18_61, e18_64, e18_66, e18_67, e18_68, e18_70, e18_73, e18_76, e18_77, e18_81, e18_83, e18_86, e18_87, e18_88, e18_90, e18_91, e18_92, e18_95, e18_97, e18_99, e18_100, e18_102, e18_103, e18_104, e18_105, e18_107, e18_109, e18_111, e18_112, e18_114, e18_115, e18_116, e18_117, e18_119, e18_122, e18_125, e18_126, e18_128, e18_129, e18_131, e18_133, e18_135, e18_136, e18_137, e18_138, e18_139, e18_140, e18_143, e18_144, e18_145, e18_147, e18_149, e18_150, e18_151, e18_152, e18_153, e18_154, e18_157, e18_158, e18_161, e18_162, rk_n, rk_v, nl_n, nl_i, nl_r, cat_n, ip_cat_int, ip_cat_ref, ip_cat_long, ip_rf_some, Nat.reduceAdd, Nat.reduceLeDiff, Nat.reduceLT, Nat.le_refl, Nat.zero_le, hT, hR, g0, g1, lk, la_T6 hT, nu_i, nu_tn, hk, e2, e3, b1, g2, g3, nu_1, Bool.false_eq_true, Bool.true_eq_false, if_true, if_false, not_true_eq_false, not_false_eq_true, zle, eq_self]
    · simp only [e18_0, e18_1, e18_2, e18_3, e18_4, e18_5, e18_6, e18_9, e18_11, e18_12, e18_14, e18_15, e18_19, e18_20, e18_23, e18_25, e18_27, e18_28, e18_29, e18_30, e18_31, e18_32, e18_34, e18_36, e18_37, e18_39, e18_40, e18_42, e18_43, e18_46, e18_48, e18_49, e18_52, e18_54, e18_55, e18_56, e18_58, e18_60, e18_61, e18_64, e18_66, e18_67, e18_68, e18_70, e18_73, e18_76, e18_77, e18_81, e18_83, e18_86, e18_87, e18_88, e18_90, e18_91, e18_92, e18_95, e18_97, e18_99, e18_100, e18_102, e18_103, e18_104, e18_105, e18_107, e18_109, e18_111, e18_112, e18_114, e18_115, e18_116, e18_117, e18_119, e18_122, e18_125, e18_126, e18_128, e18_129, e18_131, e18_133, e18_135, e18_136, e18_137, e18_138, e18_139, e18_140, e18_143, e18_144, e18_145, e18_147, e18_149, e18_150, e18_151, e18_152, e18_153, e18_154, e18_157, e18_158, e18_161, e18_162, rk_n, rk_v, nl_n, nl_i, nl_r, cat_n, ip_cat_int, ip_cat_ref, ip_cat_long, ip_rf_some, Nat.reduceAdd, Nat.reduceLeDiff, Nat.reduceLT, Nat.le_refl, Nat.zero_le, hT, hR, g0, g1, lk, la_T6 hT, nu_i, nu_tn, hk, e2, e3, b1, g2, g3, nu_1, Bool.false_eq_true, Bool.true_eq_false, if_true, if_false, not_true_eq_false, not_false_eq_true, zle, eq_self]
  · rw [e18_17]
    have q4 : ((4 : Int32) ≤ Int32.ofNat 4) = True := eq_true (by decide)
    have q0 : (4 = 0) = False := eq_false (by decide)
    simp only [e18_0, e18_1, e18_2, e18_3, e18_4, e18_5, e18_6, e18_9, e18_11, e18_12, e18_14, e18_15, e18_19, e18_20, e18_23, e18_25, e18_27, e18_28, e18_29, e18_30, e18_31, e18_32, e18_34, e18_36, e18_37, e18_39, e18_40, e18_42, e18_43, e18_46, e18_48, e18_49, e18_52, e18_54, e18_55, e18_56, e18_58, e18_60, e18_61, e18_64, e18_66, e18_67, e18_68, e18_70, e18_73, e18_76, e18_77, e18_81, e18_83, e18_86, e18_87, e18_88, e18_90, e18_91, e18_92, e18_95, e18_97, e18_99, e18_100, e18_102, e18_103, e18_104, e18_105, e18_107, e18_109, e18_111, e18_112, e18_114, e18_115, e18_116, e18_117, e18_119, e18_122, e18_125, e18_126, e18_128, e18_129, e18_131, e18_133, e18_135, e18_136, e18_137, e18_138, e18_139, e18_140, e18_143, e18_144, e18_145, e18_147, e18_149, e18_150, e18_151, e18_152, e18_153, e18_154, e18_157, e18_158, e18_161, e18_162, rk_n, rk_v, nl_n, nl_i, nl_r, cat_n, ip_cat_int, ip_cat_ref, ip_cat_long, ip_rf_some, Nat.reduceAdd, Nat.reduceLeDiff, Nat.reduceLT, Nat.le_refl, Nat.zero_le, q4, q0, Bool.false_eq_true, Bool.true_eq_false, if_true, if_false, not_true_eq_false, not_false_eq_true, zle, eq_self]
    refine (for_eq (c := 6) (fun k => rf d 18 79 [some (.ref T), some (.int (Int32.ofNat z)), some (.int (Int32.ofNat o)), some (.int (Int32.ofNat (z &&& (255 ^^^ o)))), some (.long (evS o (evL L T z o 4) k)), none, some (.long (soS o (soL L T z o 4) k)), none, some (.int (Int32.ofNat k)), some (.int (Int32.ofNat ((64 * (4 - 1)) &&& (255 ^^^ o))))] [] (SH n, I, L, R, nc, ns, nx)) ?_).trans ?_
    · intro k hk
      try dsimp only
      have lk : k < 2147483648 := by omega
      have g0 : ((6 : Int32) ≤ Int32.ofNat k) = (6 ≤ k) := nu_lit (c := 6) (by omega) lk
      have g1 : ¬ 6 ≤ k := by omega
      have k8 : k < 8 := by omega
      rw [e18_79, evS, soS]
      by_cases g3 : o.testBit k = true
      · simp only [e18_0, e18_1, e18_2, e18_3, e18_4, e18_5, e18_6, e18_9, e18_11, e18_12, e18_14, e18_15, e18_19, e18_20, e18_23, e18_25, e18_27, e18_28, e18_29, e18_30, e18_31, e18_32, e18_34, e18_36, e18_37, e18_39, e18_40, e18_42, e18_43, e18_46, e18_48, e18_49, e18_52, e18_54, e18_55, e18_56, e18_58, e18_60, e18_61, e18_64, e18_66, e18_67, e18_68, e18_70, e18_73, e18_76, e18_77, e18_81, e18_83, e18_86, e18_87, e18_88, e18_90, e18_91, e18_92, e18_95, e18_97, e18_99, e18_100, e18_102, e18_103, e18_104, e18_105, e18_107, e18_109, e18_111, e18_112, e18_114, e18_115, e18_116, e18_117, e18_119, e18_122, e18_125, e18_126, e18_128, e18_129, e18_131, e18_133, e18_135, e18_136, e18_137, e18_138, e18_139, e18_140, e18_143, e18_144, e18_145, e18_147, e18_149, e18_150, e18_151, e18_152, e18_153, e18_154, e18_157, e18_158, e18_161, e18_162, rk_n, rk_v, nl_n, nl_i, nl_r, cat_n, ip_cat_int, ip_cat_ref, ip_cat_long, ip_rf_some, Nat.reduceAdd, Nat.reduceLeDiff, Nat.reduceLT, Nat.le_refl, Nat.zero_le, g0, g1, ho, k8, bit_2, sh1, g3, nu_1, us, Bool.false_eq_true, Bool.true_eq_false, if_true, if_false, not_true_eq_false, not_false_eq_true, zle, eq_self]
      · simp only [e18_0, e18_1, e18_2, e18_3, e18_4, e18_5, e18_6, e18_9, e18_11, e18_12, e18_14, e18_15, e18_19, e18_20, e18_23, e18_25, e18_27, e18_28, e18_29, e18_30, e18_31, e18_32, e18_34, e18_36, e18_37, e18_39, e18_40, e18_42, e18_43, e18_46, e18_48, e18_49, e18_52, e18_54, e18_55, e18_56, e18_58, e18_60, e18_61, e18_64, e18_66, e18_67, e18_68, e18_70, e18_73, e18_76, e18_77, e18_81, e18_83, e18_86, e18_87, e18_88, e18_90, e18_91, e18_92, e18_95, e18_97, e18_99, e18_100, e18_102, e18_103, e18_104, e18_105, e18_107, e18_109, e18_111, e18_112, e18_114, e18_115, e18_116, e18_117, e18_119, e18_122, e18_125, e18_126, e18_128, e18_129, e18_131, e18_133, e18_135, e18_136, e18_137, e18_138, e18_139, e18_140, e18_143, e18_144, e18_145, e18_147, e18_149, e18_150, e18_151, e18_152, e18_153, e18_154, e18_157, e18_158, e18_161, e18_162, rk_n, rk_v, nl_n, nl_i, nl_r, cat_n, ip_cat_int, ip_cat_ref, ip_cat_long, ip_rf_some, Nat.reduceAdd, Nat.reduceLeDiff, Nat.reduceLT, Nat.le_refl, Nat.zero_le, g0, g1, ho, k8, bit_0', g3, Bool.eq_false_iff.mpr g3, Bool.false_eq_true, nu_1, Bool.false_eq_true, Bool.true_eq_false, if_true, if_false, not_true_eq_false, not_false_eq_true, zle, eq_self]
    · rw [e18_79]
      have q6 : ((6 : Int32) ≤ Int32.ofNat 6) = True := eq_true (by decide)
      have l2 : (z &&& (255 ^^^ o)) % 64 < 64 := by omega
      by_cases g1 : bL (evS o (evL L T z o 4) 6) ((z &&& (255 ^^^ o)) % 64) = true
      · simp only [e18_0, e18_1, e18_2, e18_3, e18_4, e18_5, e18_6, e18_9, e18_11, e18_12, e18_14, e18_15, e18_19, e18_20, e18_23, e18_25, e18_27, e18_28, e18_29, e18_30, e18_31, e18_32, e18_34, e18_36, e18_37, e18_39, e18_40, e18_42, e18_43, e18_46, e18_48, e18_49, e18_52, e18_54, e18_55, e18_56, e18_58, e18_60, e18_61, e18_64, e18_66, e18_67, e18_68, e18_70, e18_73, e18_76, e18_77, e18_81, e18_83, e18_86, e18_87, e18_88, e18_90, e18_91, e18_92, e18_95, e18_97, e18_99, e18_100, e18_102, e18_103, e18_104, e18_105, e18_107, e18_109, e18_111, e18_112, e18_114, e18_115, e18_116, e18_117, e18_119, e18_122, e18_125, e18_126, e18_128, e18_129, e18_131, e18_133, e18_135, e18_136, e18_137, e18_138, e18_139, e18_140, e18_143, e18_144, e18_145, e18_147, e18_149, e18_150, e18_151, e18_152, e18_153, e18_154, e18_157, e18_158, e18_161, e18_162, rk_n, rk_v, nl_n, nl_i, nl_r, cat_n, ip_cat_int, ip_cat_ref, ip_cat_long, ip_rf_some, Nat.reduceAdd, Nat.reduceLeDiff, Nat.reduceLT, Nat.le_refl, Nat.zero_le, q6, b2, bL_z, bL_sh _ l2, Nat.add_zero, g1, Bool.false_eq_true, Bool.true_eq_false, if_true, if_false, not_true_eq_false, not_false_eq_true, zle, eq_self]
      · by_cases g2 : bL (soS o (soL L T z o 4) 6) ((z &&& (255 ^^^ o)) % 64) = false
        · simp only [e18_0, e18_1, e18_2, e18_3, e18_4, e18_5, e18_6, e18_9, e18_11, e18_12, e18_14, e18_15, e18_19, e18_20, e18_23, e18_25, e18_27, e18_28, e18_29, e18_30, e18_31, e18_32, e18_34, e18_36, e18_37, e18_39, e18_40, e18_42, e18_43, e18_46, e18_48, e18_49, e18_52, e18_54, e18_55, e18_56, e18_58, e18_60, e18_61, e18_64, e18_66, e18_67, e18_68, e18_70, e18_73, e18_76, e18_77, e18_81, e18_83, e18_86, e18_87, e18_88, e18_90, e18_91, e18_92, e18_95, e18_97, e18_99, e18_100, e18_102, e18_103, e18_104, e18_105, e18_107, e18_109, e18_111, e18_112, e18_114, e18_115, e18_116, e18_117, e18_119, e18_122, e18_125, e18_126, e18_128, e18_129, e18_131, e18_133, e18_135, e18_136, e18_137, e18_138, e18_139, e18_140, e18_143, e18_144, e18_145, e18_147, e18_149, e18_150, e18_151, e18_152, e18_153, e18_154, e18_157, e18_158, e18_161, e18_162, rk_n, rk_v, nl_n, nl_i, nl_r, cat_n, ip_cat_int, ip_cat_ref, ip_cat_long, ip_rf_some, Nat.reduceAdd, Nat.reduceLeDiff, Nat.reduceLT, Nat.le_refl, Nat.zero_le, q6, b2, bL_z, bL_sh _ l2, Nat.add_zero, g1, Bool.eq_false_iff.mpr g1, g2, Bool.false_eq_true, Bool.true_eq_false, if_true, if_false, not_true_eq_false, not_false_eq_true, zle, eq_self]
        · simp only [e18_0, e18_1, e18_2, e18_3, e18_4, e18_5, e18_6, e18_9, e18_11, e18_12, e18_14, e18_15, e18_19, e18_20, e18_23, e18_25, e18_27, e18_28, e18_29, e18_30, e18_31, e18_32, e18_34, e18_36, e18_37, e18_39, e18_40, e18_42, e18_43, e18_46, e18_48, e18_49, e18_52, e18_54, e18_55, e18_56, e18_58, e18_60, e18_61, e18_64, e18_66, e18_67, e18_68, e18_70, e18_73, e18_76, e18_77, e18_81, e18_83, e18_86, e18_87, e18_88, e18_90, e18_91, e18_92, e18_95, e18_97, e18_99, e18_100, e18_102, e18_103, e18_104, e18_105, e18_107, e18_109, e18_111, e18_112, e18_114, e18_115, e18_116, e18_117, e18_119, e18_122, e18_125, e18_126, e18_128, e18_129, e18_131, e18_133, e18_135, e18_136, e18_137, e18_138, e18_139, e18_140, e18_143, e18_144, e18_145, e18_147, e18_149, e18_150, e18_151, e18_152, e18_153, e18_154, e18_157, e18_158, e18_161, e18_162, rk_n, rk_v, nl_n, nl_i, nl_r, cat_n, ip_cat_int, ip_cat_ref, ip_cat_long, ip_rf_some, Nat.reduceAdd, Nat.reduceLeDiff, Nat.reduceLT, Nat.le_refl, Nat.zero_le, q6, b2, bL_z, bL_sh _ l2, Nat.add_zero, g1, Bool.eq_false_iff.mpr g1, g2, Bool.false_eq_true, Bool.true_eq_false, if_true, if_false, not_true_eq_false, not_false_eq_true, zle, eq_self]
end SU
