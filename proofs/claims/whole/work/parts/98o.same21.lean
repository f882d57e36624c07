/-! CALL BY CALL: swing -/
section S21
variable {n d a b T c s t z o w m p lev k side ap b0 b1 N q B C F A i D : Nat} {I J K M I1 I2 : Nat → Nat → Int32} {L L' : Nat → Nat → Int64} {R R' : Nat → Nat → Option Nat} {nc ns : Nat} {nx : Bool} {x y j v u code x1 x2 x3 : Int32} {P : Nat → Nat → Prop} {h' h : ip_H}
/-- the best of those ahead of a number -/
def btr (s : Nat) : Option Nat → Bool
  | none => true
  | some b => decide (pop s < pop b)
def bsN (D : Nat) (hit : Nat → Bool) : Nat → Option Nat
  | 0 => none
  | s + 1 => if (decide (s &&& D = s) && hit s && btr s (bsN D hit s)) = true then some s else bsN D hit s
def bsI : Option Nat → Int32
  | none => -1
  | some b => Int32.ofNat b
theorem bsN_lt {hit : Nat → Bool} : ∀ a b, bsN D hit a = some b → b < a := by
  intro a
  induction a with
  | zero => intro b h; exact absurd h (by simp [bsN])
  | succ a ih =>
    intro b h
    rw [bsN] at h
    split at h
    · injection h with h; omega
    · have := ih b h; omega
theorem sub_D (hc8 : c ≤ 8) (hs : s < 2 ^ c) : s &&& ((2 ^ c - 1) &&& (255 ^^^ o)) = s ↔ s &&& o = 0 := by
  have P8 := p2le hc8
  have e : s &&& ((2 ^ c - 1) &&& (255 ^^^ o)) = s &&& (255 ^^^ o) := by
    refine set_ext fun j => ?_
    rw [Nat.testBit_and, Nat.testBit_and, Nat.testBit_and, Nat.testBit_two_pow_sub_one]
    by_cases hj : j < c
    · rw [decide_eq_true hj, Bool.true_and]
    · rw [Nat.testBit_lt_two_pow (Nat.lt_of_lt_of_le hs (Nat.pow_le_pow_right (by omega) (by omega)))]; rfl
  rw [e]
  constructor
  · intro h
    refine set_ext fun j => ?_
    have D := congrArg (fun t => t.testBit j) h
    simp only [Nat.testBit_and, tbn] at D
    rw [Nat.testBit_and, Nat.zero_testBit]
    revert D
    by_cases h8 : j < 8
    · rw [decide_eq_true h8]
      cases s.testBit j <;> cases o.testBit j <;> decide
    · rw [tb_hi (by omega : s < 256) (by omega)]; simp
  · intro h; exact and_dj8 (by omega) h
theorem S21 : SAMEB 17 263 [.int x1] := by
  intro n I L R nc ns nx T c N w t p X
  have X0 := X
  have hR := X.1
  have hT : isT T := (REL_C X).1
  obtain ⟨tt, rT, v3, hc8, i6T, i17, v7, v8, v9, v10, v11, wn, v13⟩ := X.2.1
  have P8 := p2le hc8
  obtain ⟨⟨n1, n2, n3⟩, ⟨y1, y2⟩, ⟨y3, y4⟩, y5⟩ := X.2.2.1
  have b0 := (nu_inb (t := w) (k := 40) (by omega)).mpr (by omega)
  have e1 := nd_of (k := w) (by omega)
  have iw := isN_nd (k := w) (by omega)
  have lw : w < 2147483648 := by omega
  have w40 : w < 40 := by omega
  obtain ⟨q1, q2, q3, q4, q5, q6, q7, q8, -⟩ := y5 w n3
  obtain ⟨so, lo⟩ := inb_sN q6.2
  obtain ⟨sz, lz⟩ := inb_sN q5.2
  have i6 := q6.1.trans so
  have i4 := q5.1.trans sz
  generalize ho : sN (I 293 w) = o at *
  generalize hzz : sN (I 296 w) = zz at *
  have o8 : o < 256 := by omega
  have zz8 : zz < 256 := by omega
  have CS := fun d z (hz : z < 256) => c18 (d := d) (n := n) (I := I) (L := L) (nc := nc) (ns := ns) (nx := nx) hR hT hz o8
  have CM := fun d z (hz : z < 256) => c234 (d := d) (n := n) (I := ip_up I 265 0 0) (L := L) (nc := nc) (ns := ns) (nx := nx) (win := winL L T) hR (fun s hs => by rw [up_a (by decide)]; exact wn s hs) hz o8
  have x8 : ∀ s, s < 256 → zz ^^^ s < 256 := fun s hs => Nat.xor_lt_two_pow (n := 8) zz8 hs
  obtain ⟨res, hres⟩ : ∃ res, res = sureI (winL L T) zz o := ⟨_, rfl⟩
  have r3 : res = 0 ∨ res = 1 ∨ res = -1 := by
    rw [hres]; unfold sureI
    split
    · exact Or.inl rfl
    · split
      · exact Or.inr (Or.inl rfl)
      · exact Or.inr (Or.inr rfl)
  have CS0 := fun d => CS d zz zz8
  have CM0 := fun d => CM d zz zz8
  rw [← hres] at CS0 CM0
  have a38 : ip_up I 265 0 0 265 38 = Int32.ofNat w := (up_k (by decide)).trans y4
  have a17 : ip_up I 265 0 0 265 17 = Int32.ofNat c := (up_k (by decide)).trans i17
  have a293 : ip_up I 265 0 0 293 w = Int32.ofNat o := (up_a (by decide)).trans so
  have a296 : ip_up I 265 0 0 296 w = Int32.ofNat zz := (up_a (by decide)).trans sz
  have all := sh_all c (by omega)
  have CL := fun d => c187 (d := d) (n := n) (I := ip_up I 265 0 0) (L := L) (R := R) (nc := nc) (ns := ns) (nx := nx)
  rw [a17, all] at CL
  have CA := fun d => c10 (d := d) (n := n) (I := I) (L := L) (R := R) (nc := nc) (ns := ns) (nx := nx) hT
  rw [i6T, all] at CA
  have p1 : 0 < 2 ^ c := Nat.two_pow_pos c
  have aD := of_andn (2 ^ c - 1) (by omega) o o8
  obtain ⟨D, hD⟩ : ∃ D, D = (2 ^ c - 1) &&& (255 ^^^ o) := ⟨_, rfl⟩
  have D2 : D < 2 ^ c := by rw [hD]; exact Nat.lt_of_le_of_lt Nat.and_le_left (by omega)
  have D8 : D < 256 := by omega
  have DS := fun s (hs : s < 2 ^ c) => sub_D (o := o) hc8 hs
  rw [← hD] at aD
  simp only [← hD] at DS
  have AN : ∃ v : Int32, (∀ d, cf (d + 14) 17 [.ref 2, .int x1] (SH n, I, L, R, nc, ns, nx) = some (.inl (some (.int v)), (SH n, I, L, R, nc, ns, nx))) ∧ (∀ d, cf (d + 14) 263 [.ref 265, .int x1] (SH n, I, L, R, nc, ns, nx) = some (.inl (some (.int v)), (SH n, ip_up I 265 0 0, L, R, nc, ns, nx))) := by
    by_cases gm : res = -1
    · refine ⟨-1, fun d => ?_, fun d => ?_⟩
      · simp only [en17, e17_0, e17_1, e17_4, e17_5, e17_8, e17_9, e17_10, e17_11, e17_14, e17_15, e17_18, e17_19, e17_22, e17_25, e17_26, e17_27, e17_28, e17_31, e17_32, e17_33, e17_34, e17_37, e17_40, e17_41, e17_44, e17_45, e17_46, e17_47, e17_49, e17_50, e17_52, e17_53, e17_55, e17_56, e17_60, e17_61, e17_63, e17_66, e17_67, e17_70, e17_71, e17_74, e17_75, e17_78, e17_80, e17_81, e17_82, e17_85, e17_88, e17_89, e17_90, e17_91, e17_94, e17_95, e17_98, e17_99, e17_101, e17_103, e17_106, e17_108, e17_109, e17_112, e17_114, e17_117, e17_119, e17_122, e17_125, e17_127, e17_129, e17_131, e17_133, e17_136, e17_138, e17_141, e17_144, e17_146, e17_147, e17_150, e17_151, e17_154, e17_156, e17_159, e17_161, e17_164, rk_n, rk_v, nl_n, nl_i, nl_r, cat_n, ip_cat_int, ip_cat_ref, ip_cat_long, ip_rf_some, Nat.reduceAdd, Nat.reduceLeDiff, Nat.reduceLT, Nat.le_refl, Nat.zero_le, hR, y3, b0, e1, iw, rT, hT, i4, i6, CS0, gm, Bool.false_eq_true, Bool.true_eq_false, if_true, if_false, not_true_eq_false, not_false_eq_true, zle, eq_self]
      · simp only [en263, e263_0, e263_1, e263_2, e263_5, e263_6, e263_7, e263_10, e263_11, e263_14, e263_15, e263_16, e263_19, e263_20, e263_23, e263_24, e263_27, e263_28, e263_29, e263_30, e263_31, e263_35, e263_36, e263_39, e263_42, e263_43, e263_44, e263_47, e263_49, e263_50, e263_53, e263_54, e263_57, e263_58, e263_59, e263_62, e263_63, e263_64, e263_67, e263_69, e263_72, e263_73, e263_76, e263_79, e263_82, e263_83, e263_84, e263_87, e263_88, e263_91, e263_92, e263_94, e263_95, e263_96, e263_99, e263_100, e263_103, e263_104, e263_107, e263_108, e263_109, e263_110, e263_113, e263_115, e263_116, e263_119, e263_122, e263_123, e263_124, e263_127, e263_128, e263_131, e263_132, e263_135, e263_136, e263_139, rk_n, rk_v, nl_n, nl_i, nl_r, cat_n, ip_cat_int, ip_cat_ref, ip_cat_long, ip_rf_some, Nat.reduceAdd, Nat.reduceLeDiff, Nat.reduceLT, Nat.le_refl, Nat.zero_le, hR, ia_lit, nu_i, nu_tn, lw, w40, a38, a293, a296, CM0, Bool.false_eq_true, Bool.true_eq_false, if_true, if_false, not_true_eq_false, not_false_eq_true, zle, eq_self]
        rw [e263_33]
        by_cases g : Int32.ofNat (2 ^ c - 1) < 1
        · simp only [e263_0, e263_1, e263_2, e263_5, e263_6, e263_7, e263_10, e263_11, e263_14, e263_15, e263_16, e263_19, e263_20, e263_23, e263_24, e263_27, e263_28, e263_29, e263_30, e263_31, e263_35, e263_36, e263_39, e263_42, e263_43, e263_44, e263_47, e263_49, e263_50, e263_53, e263_54, e263_57, e263_58, e263_59, e263_62, e263_63, e263_64, e263_67, e263_69, e263_72, e263_73, e263_76, e263_79, e263_82, e263_83, e263_84, e263_87, e263_88, e263_91, e263_92, e263_94, e263_95, e263_96, e263_99, e263_100, e263_103, e263_104, e263_107, e263_108, e263_109, e263_110, e263_113, e263_115, e263_116, e263_119, e263_122, e263_123, e263_124, e263_127, e263_128, e263_131, e263_132, e263_135, e263_136, e263_139, rk_n, rk_v, nl_n, nl_i, nl_r, cat_n, ip_cat_int, ip_cat_ref, ip_cat_long, ip_rf_some, Nat.reduceAdd, Nat.reduceLeDiff, Nat.reduceLT, Nat.le_refl, Nat.zero_le, CL, g, Bool.false_eq_true, Bool.true_eq_false, if_true, if_false, not_true_eq_false, not_false_eq_true, zle, eq_self]
        · simp only [e263_0, e263_1, e263_2, e263_5, e263_6, e263_7, e263_10, e263_11, e263_14, e263_15, e263_16, e263_19, e263_20, e263_23, e263_24, e263_27, e263_28, e263_29, e263_30, e263_31, e263_35, e263_36, e263_39, e263_42, e263_43, e263_44, e263_47, e263_49, e263_50, e263_53, e263_54, e263_57, e263_58, e263_59, e263_62, e263_63, e263_64, e263_67, e263_69, e263_72, e263_73, e263_76, e263_79, e263_82, e263_83, e263_84, e263_87, e263_88, e263_91, e263_92, e263_94, e263_95, e263_96, e263_99, e263_100, e263_103, e263_104, e263_107, e263_108, e263_109, e263_110, e263_113, e263_115, e263_116, e263_119, e263_122, e263_123, e263_124, e263_127, e263_128, e263_131, e263_132, e263_135, e263_136, e263_139, rk_n, rk_v, nl_n, nl_i, nl_r, cat_n, ip_cat_int, ip_cat_ref, ip_cat_long, ip_rf_some, Nat.reduceAdd, Nat.reduceLeDiff, Nat.reduceLT, Nat.le_refl, Nat.zero_le, CL, g, gm, Bool.false_eq_true, Bool.true_eq_false, if_true, if_false, not_true_eq_false, not_false_eq_true, zle, eq_self]
    · have rn : ¬ res = 1 - res := by rcases r3 with e | e | e; rw [e]; decide; rw [e]; decide; exact absurd e gm
      obtain ⟨hit, hhit⟩ : ∃ hit : Nat → Bool, hit = fun s => decide (sureI (winL L T) (zz ^^^ s) o = 1 - res) := ⟨_, rfl⟩
      have h0 : hit 0 = false := by rw [hhit]; show decide (sureI (winL L T) (zz ^^^ 0) o = 1 - res) = false; rw [Nat.xor_zero, ← hres]; exact decide_eq_false rn
      have hS : ∀ s, hit s = decide (sureI (winL L T) (zz ^^^ s) o = 1 - res) := fun s => by rw [hhit]
      have bn : ∀ a, ¬ (∃ b, bsN D hit a = some b) → bsN D hit a = none := fun a h => by
        cases e : bsN D hit a with
        | none => rfl
        | some b => exact absurd ⟨b, e⟩ h
      have hi : ∀ q, 2 ^ c + q ≤ 256 → bsN D hit (2 ^ c + q) = bsN D hit (2 ^ c) := by
        intro q
        induction q with
        | zero => intro _; rfl
        | succ q ih =>
          intro hq
          rw [← Nat.add_assoc, bsN, ih (by omega), decide_eq_false (fun e => by have := Nat.and_le_right (n := 2 ^ c + q) (m := D); omega)]
          rfl
      have P2 := pow_pop D8
      have P3 := pow_pop_le D8
      have lp : 2 ^ pop D < 2147483648 := by omega
      obtain ⟨v, hv⟩ : ∃ v : Int32, v = (match bsN D hit 256 with | none => -1 | some b => if x1 = 0 then Int32.ofNat (pop b) else Int32.ofNat b) := ⟨_, rfl⟩
      refine ⟨v, fun d => ?_, fun d => ?_⟩
      · simp only [en17, e17_0, e17_1, e17_4, e17_5, e17_8, e17_9, e17_10, e17_11, e17_14, e17_15, e17_18, e17_19, e17_22, e17_25, e17_26, e17_27, e17_28, e17_31, e17_32, e17_33, e17_34, e17_37, e17_40, e17_41, e17_44, e17_45, e17_46, e17_47, e17_49, e17_50, e17_52, e17_53, e17_55, e17_56, e17_60, e17_61, e17_63, e17_66, e17_67, e17_70, e17_71, e17_74, e17_75, e17_78, e17_80, e17_81, e17_82, e17_85, e17_88, e17_89, e17_90, e17_91, e17_94, e17_95, e17_98, e17_99, e17_101, e17_103, e17_106, e17_108, e17_109, e17_112, e17_114, e17_117, e17_119, e17_122, e17_125, e17_127, e17_129, e17_131, e17_133, e17_136, e17_138, e17_141, e17_144, e17_146, e17_147, e17_150, e17_151, e17_154, e17_156, e17_159, e17_161, e17_164, rk_n, rk_v, nl_n, nl_i, nl_r, cat_n, ip_cat_int, ip_cat_ref, ip_cat_long, ip_rf_some, Nat.reduceAdd, Nat.reduceLeDiff, Nat.reduceLT, Nat.le_refl, Nat.zero_le, hR, y3, b0, e1, iw, rT, hT, i4, i6, CS0, gm, CA, aD, Bool.false_eq_true, Bool.true_eq_false, if_true, if_false, not_true_eq_false, not_false_eq_true, zle, eq_self]
        refine Exists.elim (sub_walk D8 (fun k s (y : Option Nat × Option Value) => rf (d + 14) 17 58 [some (.ref 2), some (.int x1), some (.ref (65 + 5 * w)), some (.int res), some (.int (Int32.ofNat D)), some (.int (bsI y.1)), some (.int (Int32.ofNat s)), some (.int (Int32.ofNat k)), y.2] [] (SH n, I, L, R, nc, ns, nx)) (fun s y => y.1 = bsN D hit s) ?_ ?_ (none, none) rfl) ?_
        · intro k s y hk hs hsD hy
          have lk : k < 2147483648 := by omega
          have g1 : ¬ 2 ^ pop D ≤ k := by omega
          have CSk := fun d => CS d _ (x8 s hs)
          have pl : ∀ s, pop s ≤ 8 := fun s => by rw [pop_cnt]; exact cntB_le s 8
          refine ⟨(bsN D hit (s + 1), some (.int (if hit s = true then 1 else 0))), rfl, ?_⟩
          try dsimp only
          rw [e17_58, bsN, decide_eq_true hsD, Bool.true_and, hy]
          by_cases gh : hit s = true
          · have gs : sureI (winL L T) (zz ^^^ s) o = 1 - res := by rw [hS] at gh; exact of_decide_eq_true gh
            cases eb : bsN D hit s with
            | none =>
              simp only [e17_0, e17_1, e17_4, e17_5, e17_8, e17_9, e17_10, e17_11, e17_14, e17_15, e17_18, e17_19, e17_22, e17_25, e17_26, e17_27, e17_28, e17_31, e17_32, e17_33, e17_34, e17_37, e17_40, e17_41, e17_44, e17_45, e17_46, e17_47, e17_49, e17_50, e17_52, e17_53, e17_55, e17_56, e17_60, e17_61, e17_63, e17_66, e17_67, e17_70, e17_71, e17_74, e17_75, e17_78, e17_80, e17_81, e17_82, e17_85, e17_88, e17_89, e17_90, e17_91, e17_94, e17_95, e17_98, e17_99, e17_101, e17_103, e17_106, e17_108, e17_109, e17_112, e17_114, e17_117, e17_119, e17_122, e17_125, e17_127, e17_129, e17_131, e17_133, e17_136, e17_138, e17_141, e17_144, e17_146, e17_147, e17_150, e17_151, e17_154, e17_156, e17_159, e17_161, e17_164, rk_n, rk_v, nl_n, nl_i, nl_r, cat_n, ip_cat_int, ip_cat_ref, ip_cat_long, ip_rf_some, Nat.reduceAdd, Nat.reduceLeDiff, Nat.reduceLT, Nat.le_refl, Nat.zero_le, hR, iw, rT, hT, i4, i6, c19s D8, P2, nu_ge, lk, lp, g1, of_xor, CSk, gs, gh, bsI, btr, c20s D8 hs, nu_1, (by decide : ¬ (1 : Int32) = 0), Bool.and_self, Bool.false_eq_true, Bool.true_eq_false, if_true, if_false, not_true_eq_false, not_false_eq_true, zle, eq_self]
            | some b =>
              have lb := bsN_lt s b eb
              have b8 : b < 256 := by omega
              have nb := nu_m1 (t := b) (by omega)
              have gp : (Int32.ofNat (pop b) ≤ Int32.ofNat (pop s)) = (pop b ≤ pop s) := nu_lit (by have := pl b; omega) (by have := pl s; omega)
              by_cases gq : pop s < pop b
              · have gq' : ¬ pop b ≤ pop s := by omega
                simp only [e17_0, e17_1, e17_4, e17_5, e17_8, e17_9, e17_10, e17_11, e17_14, e17_15, e17_18, e17_19, e17_22, e17_25, e17_26, e17_27, e17_28, e17_31, e17_32, e17_33, e17_34, e17_37, e17_40, e17_41, e17_44, e17_45, e17_46, e17_47, e17_49, e17_50, e17_52, e17_53, e17_55, e17_56, e17_60, e17_61, e17_63, e17_66, e17_67, e17_70, e17_71, e17_74, e17_75, e17_78, e17_80, e17_81, e17_82, e17_85, e17_88, e17_89, e17_90, e17_91, e17_94, e17_95, e17_98, e17_99, e17_101, e17_103, e17_106, e17_108, e17_109, e17_112, e17_114, e17_117, e17_119, e17_122, e17_125, e17_127, e17_129, e17_131, e17_133, e17_136, e17_138, e17_141, e17_144, e17_146, e17_147, e17_150, e17_151, e17_154, e17_156, e17_159, e17_161, e17_164, rk_n, rk_v, nl_n, nl_i, nl_r, cat_n, ip_cat_int, ip_cat_ref, ip_cat_long, ip_rf_some, Nat.reduceAdd, Nat.reduceLeDiff, Nat.reduceLT, Nat.le_refl, Nat.zero_le, hR, iw, rT, hT, i4, i6, c19s D8, c19s hs, c19s b8, P2, nu_ge, lk, lp, g1, of_xor, CSk, gs, gh, bsI, btr, nb, gp, gq, gq', c20s D8 hs, nu_1, (by decide : ¬ (1 : Int32) = 0), decide_true, Bool.and_self, Bool.false_eq_true, Bool.true_eq_false, if_true, if_false, not_true_eq_false, not_false_eq_true, zle, eq_self]
              · have gq' : pop b ≤ pop s := by omega
                simp only [e17_0, e17_1, e17_4, e17_5, e17_8, e17_9, e17_10, e17_11, e17_14, e17_15, e17_18, e17_19, e17_22, e17_25, e17_26, e17_27, e17_28, e17_31, e17_32, e17_33, e17_34, e17_37, e17_40, e17_41, e17_44, e17_45, e17_46, e17_47, e17_49, e17_50, e17_52, e17_53, e17_55, e17_56, e17_60, e17_61, e17_63, e17_66, e17_67, e17_70, e17_71, e17_74, e17_75, e17_78, e17_80, e17_81, e17_82, e17_85, e17_88, e17_89, e17_90, e17_91, e17_94, e17_95, e17_98, e17_99, e17_101, e17_103, e17_106, e17_108, e17_109, e17_112, e17_114, e17_117, e17_119, e17_122, e17_125, e17_127, e17_129, e17_131, e17_133, e17_136, e17_138, e17_141, e17_144, e17_146, e17_147, e17_150, e17_151, e17_154, e17_156, e17_159, e17_161, e17_164, rk_n, rk_v, nl_n, nl_i, nl_r, cat_n, ip_cat_int, ip_cat_ref, ip_cat_long, ip_rf_some, Nat.reduceAdd, Nat.reduceLeDiff, Nat.reduceLT, Nat.le_refl, Nat.zero_le, hR, iw, rT, hT, i4, i6, c19s D8, c19s hs, c19s b8, P2, nu_ge, lk, lp, g1, of_xor, CSk, gs, gh, bsI, btr, nb, gp, gq, gq', c20s D8 hs, nu_1, (by decide : ¬ (1 : Int32) = 0), decide_false, Bool.and_false, Bool.false_eq_true, Bool.false_eq_true, Bool.true_eq_false, if_true, if_false, not_true_eq_false, not_false_eq_true, zle, eq_self]
          · have gh' := Bool.eq_false_iff.mpr gh
            have gs : ¬ sureI (winL L T) (zz ^^^ s) o = 1 - res := by rw [hS] at gh'; exact of_decide_eq_false gh'
            simp only [e17_0, e17_1, e17_4, e17_5, e17_8, e17_9, e17_10, e17_11, e17_14, e17_15, e17_18, e17_19, e17_22, e17_25, e17_26, e17_27, e17_28, e17_31, e17_32, e17_33, e17_34, e17_37, e17_40, e17_41, e17_44, e17_45, e17_46, e17_47, e17_49, e17_50, e17_52, e17_53, e17_55, e17_56, e17_60, e17_61, e17_63, e17_66, e17_67, e17_70, e17_71, e17_74, e17_75, e17_78, e17_80, e17_81, e17_82, e17_85, e17_88, e17_89, e17_90, e17_91, e17_94, e17_95, e17_98, e17_99, e17_101, e17_103, e17_106, e17_108, e17_109, e17_112, e17_114, e17_117, e17_119, e17_122, e17_125, e17_127, e17_129, e17_131, e17_133, e17_136, e17_138, e17_141, e17_144, e17_146, e17_147, e17_150, e17_151, e17_154, e17_156, e17_159, e17_161, e17_164, rk_n, rk_v, nl_n, nl_i, nl_r, cat_n, ip_cat_int, ip_cat_ref, ip_cat_long, ip_rf_some, Nat.reduceAdd, Nat.reduceLeDiff, Nat.reduceLT, Nat.le_refl, Nat.zero_le, hR, iw, rT, hT, i4, i6, c19s D8, P2, nu_ge, lk, lp, g1, of_xor, CSk, gs, gh', c20s D8 hs, nu_1, Bool.false_and, Bool.false_eq_true, Bool.false_eq_true, Bool.true_eq_false, if_true, if_false, not_true_eq_false, not_false_eq_true, zle, eq_self]
        · intro s y hs hsD hy
          rw [hy, bsN, decide_eq_false hsD]
          rfl
        · rintro s ⟨y, hy, e⟩
          refine Eq.trans e ?_
          try dsimp only
          rw [hy, e17_58, hv]
          cases eb : bsN D hit 256 with
          | none => simp only [e17_0, e17_1, e17_4, e17_5, e17_8, e17_9, e17_10, e17_11, e17_14, e17_15, e17_18, e17_19, e17_22, e17_25, e17_26, e17_27, e17_28, e17_31, e17_32, e17_33, e17_34, e17_37, e17_40, e17_41, e17_44, e17_45, e17_46, e17_47, e17_49, e17_50, e17_52, e17_53, e17_55, e17_56, e17_60, e17_61, e17_63, e17_66, e17_67, e17_70, e17_71, e17_74, e17_75, e17_78, e17_80, e17_81, e17_82, e17_85, e17_88, e17_89, e17_90, e17_91, e17_94, e17_95, e17_98, e17_99, e17_101, e17_103, e17_106, e17_108, e17_109, e17_112, e17_114, e17_117, e17_119, e17_122, e17_125, e17_127, e17_129, e17_131, e17_133, e17_136, e17_138, e17_141, e17_144, e17_146, e17_147, e17_150, e17_151, e17_154, e17_156, e17_159, e17_161, e17_164, rk_n, rk_v, nl_n, nl_i, nl_r, cat_n, ip_cat_int, ip_cat_ref, ip_cat_long, ip_rf_some, Nat.reduceAdd, Nat.reduceLeDiff, Nat.reduceLT, Nat.le_refl, Nat.zero_le, c19s D8, P2, Int32.le_refl, bsI, Bool.false_eq_true, Bool.true_eq_false, if_true, if_false, not_true_eq_false, not_false_eq_true, zle, eq_self]
          | some b =>
            have b8 := bsN_lt 256 b eb
            have nb := nu_m1 (t := b) (by omega)
            by_cases g : x1 = 0
            · simp only [e17_0, e17_1, e17_4, e17_5, e17_8, e17_9, e17_10, e17_11, e17_14, e17_15, e17_18, e17_19, e17_22, e17_25, e17_26, e17_27, e17_28, e17_31, e17_32, e17_33, e17_34, e17_37, e17_40, e17_41, e17_44, e17_45, e17_46, e17_47, e17_49, e17_50, e17_52, e17_53, e17_55, e17_56, e17_60, e17_61, e17_63, e17_66, e17_67, e17_70, e17_71, e17_74, e17_75, e17_78, e17_80, e17_81, e17_82, e17_85, e17_88, e17_89, e17_90, e17_91, e17_94, e17_95, e17_98, e17_99, e17_101, e17_103, e17_106, e17_108, e17_109, e17_112, e17_114, e17_117, e17_119, e17_122, e17_125, e17_127, e17_129, e17_131, e17_133, e17_136, e17_138, e17_141, e17_144, e17_146, e17_147, e17_150, e17_151, e17_154, e17_156, e17_159, e17_161, e17_164, rk_n, rk_v, nl_n, nl_i, nl_r, cat_n, ip_cat_int, ip_cat_ref, ip_cat_long, ip_rf_some, Nat.reduceAdd, Nat.reduceLeDiff, Nat.reduceLT, Nat.le_refl, Nat.zero_le, c19s D8, c19s b8, P2, Int32.le_refl, bsI, nb, g, Bool.false_eq_true, Bool.true_eq_false, if_true, if_false, not_true_eq_false, not_false_eq_true, zle, eq_self]
            · simp only [e17_0, e17_1, e17_4, e17_5, e17_8, e17_9, e17_10, e17_11, e17_14, e17_15, e17_18, e17_19, e17_22, e17_25, e17_26, e17_27, e17_28, e17_31, e17_32, e17_33, e17_34, e17_37, e17_40, e17_41, e17_44, e17_45, e17_46, e17_47, e17_49, e17_50, e17_52, e17_53, e17_55, e17_56, e17_60, e17_61, e17_63, e17_66, e17_67, e17_70, e17_71, e17_74, e17_75, e17_78, e17_80, e17_81, e17_82, e17_85, e17_88, e17_89, e17_90, e17_91, e17_94, e17_95, e17_98, e17_99, e17_101, e17_103, e17_106, e17_108, e17_109, e17_112, e17_114, e17_117, e17_119, e17_122, e17_125, e17_127, e17_129, e17_131, e17_133, e17_136, e17_138, e17_141, e17_144, e17_146, e17_147, e17_150, e17_151, e17_154, e17_156, e17_159, e17_161, e17_164, rk_n, rk_v, nl_n, nl_i, nl_r, cat_n, ip_cat_int, ip_cat_ref, ip_cat_long, ip_rf_some, Nat.reduceAdd, Nat.reduceLeDiff, Nat.reduceLT, Nat.le_refl, Nat.zero_le, c19s D8, P2, Int32.le_refl, bsI, nb, g, Bool.false_eq_true, Bool.true_eq_false, if_true, if_false, not_true_eq_false, not_false_eq_true, zle, eq_self]
      · simp only [en263, e263_0, e263_1, e263_2, e263_5, e263_6, e263_7, e263_10, e263_11, e263_14, e263_15, e263_16, e263_19, e263_20, e263_23, e263_24, e263_27, e263_28, e263_29, e263_30, e263_31, e263_35, e263_36, e263_39, e263_42, e263_43, e263_44, e263_47, e263_49, e263_50, e263_53, e263_54, e263_57, e263_58, e263_59, e263_62, e263_63, e263_64, e263_67, e263_69, e263_72, e263_73, e263_76, e263_79, e263_82, e263_83, e263_84, e263_87, e263_88, e263_91, e263_92, e263_94, e263_95, e263_96, e263_99, e263_100, e263_103, e263_104, e263_107, e263_108, e263_109, e263_110, e263_113, e263_115, e263_116, e263_119, e263_122, e263_123, e263_124, e263_127, e263_128, e263_131, e263_132, e263_135, e263_136, e263_139, rk_n, rk_v, nl_n, nl_i, nl_r, cat_n, ip_cat_int, ip_cat_ref, ip_cat_long, ip_rf_some, Nat.reduceAdd, Nat.reduceLeDiff, Nat.reduceLT, Nat.le_refl, Nat.zero_le, hR, ia_lit, nu_i, nu_tn, lw, w40, a38, a293, a296, CM0, Bool.false_eq_true, Bool.true_eq_false, if_true, if_false, not_true_eq_false, not_false_eq_true, zle, eq_self]
        have st0 : bsN D hit (0 + 1) = none := by rw [bsN, h0, Bool.and_false, Bool.false_and]; rfl
        have en0 : bsN D hit (2 ^ c) = bsN D hit 256 := by
          have := hi (256 - 2 ^ c) (by omega)
          rw [show 2 ^ c + (256 - 2 ^ c) = 256 by omega] at this
          exact this.symm
        have pl : ∀ s, pop s ≤ 8 := fun s => by rw [pop_cnt]; exact cntB_le s 8
        have E := for_eq (c := 2 ^ c - 1) (fun k => rf (d + 14) 263 33 [some (.ref 265), some (.int x1), some (.int res), some (.int (bsI (bsN D hit (k + 1)))), some (.int (Int32.ofNat (k + 1)))] [] (SH n, ip_up I 265 0 0, L, R, nc, ns, nx)) (fun k hk => by
          obtain ⟨s, hs⟩ : ∃ s, s = k + 1 := ⟨_, rfl⟩
          try dsimp only
          rw [← hs]
          have s8 : s < 256 := by omega
          have s2 : s < 2 ^ c := by omega
          have g : (Int32.ofNat (2 ^ c - 1) < Int32.ofNat s) = (2 ^ c - 1 < s) := propext (nu_lt (by omega) (by omega))
          have g1 : ¬ 2 ^ c - 1 < s := by omega
          have so8 : s &&& o < 256 := Nat.lt_of_le_of_lt Nat.and_le_left s8
          have z0 : (Int32.ofNat (s &&& o) = 0) = (s &&& o = 0) := propext (nu_inj (s := 0) (by omega) (by omega))
          have CMk := fun d => CM d _ (x8 s s8)
          have PS := fun d h => c226 (d := d) (h := h) s8
          rw [e263_33, bsN]
          by_cases gs : s &&& o = 0
          · rw [decide_eq_true ((DS s s2).mpr gs), Bool.true_and]
            by_cases gh : hit s = true
            · have gr : sureI (winL L T) (zz ^^^ s) o = 1 - res := by rw [hS] at gh; exact of_decide_eq_true gh
              cases eb : bsN D hit s with
              | none => simp only [e263_0, e263_1, e263_2, e263_5, e263_6, e263_7, e263_10, e263_11, e263_14, e263_15, e263_16, e263_19, e263_20, e263_23, e263_24, e263_27, e263_28, e263_29, e263_30, e263_31, e263_35, e263_36, e263_39, e263_42, e263_43, e263_44, e263_47, e263_49, e263_50, e263_53, e263_54, e263_57, e263_58, e263_59, e263_62, e263_63, e263_64, e263_67, e263_69, e263_72, e263_73, e263_76, e263_79, e263_82, e263_83, e263_84, e263_87, e263_88, e263_91, e263_92, e263_94, e263_95, e263_96, e263_99, e263_100, e263_103, e263_104, e263_107, e263_108, e263_109, e263_110, e263_113, e263_115, e263_116, e263_119, e263_122, e263_123, e263_124, e263_127, e263_128, e263_131, e263_132, e263_135, e263_136, e263_139, rk_n, rk_v, nl_n, nl_i, nl_r, cat_n, ip_cat_int, ip_cat_ref, ip_cat_long, ip_rf_some, Nat.reduceAdd, Nat.reduceLeDiff, Nat.reduceLT, Nat.le_refl, Nat.zero_le, hR, ia_lit, nu_i, nu_tn, lw, w40, CL, a38, a293, a296, g, g1, gm, of_and, of_xor, z0, gs, (by decide : (Int32.ofNat 0 = (0 : Int32)) = True), bsI, btr, CMk, gr, gh, nu_1, Bool.and_self, Bool.false_eq_true, Bool.true_eq_false, if_true, if_false, not_true_eq_false, not_false_eq_true, zle, eq_self]
              | some b =>
                have lb := bsN_lt s b eb
                have b8 : b < 256 := by omega
                have PB := fun d h => c226 (d := d) (h := h) b8
                have nb := nu_m1 (t := b) (by omega)
                have gp : (Int32.ofNat (pop s) < Int32.ofNat (pop b)) = (pop s < pop b) := propext (nu_lt (by have := pl s; omega) (by have := pl b; omega))
                by_cases gq : pop s < pop b
                · simp only [e263_0, e263_1, e263_2, e263_5, e263_6, e263_7, e263_10, e263_11, e263_14, e263_15, e263_16, e263_19, e263_20, e263_23, e263_24, e263_27, e263_28, e263_29, e263_30, e263_31, e263_35, e263_36, e263_39, e263_42, e263_43, e263_44, e263_47, e263_49, e263_50, e263_53, e263_54, e263_57, e263_58, e263_59, e263_62, e263_63, e263_64, e263_67, e263_69, e263_72, e263_73, e263_76, e263_79, e263_82, e263_83, e263_84, e263_87, e263_88, e263_91, e263_92, e263_94, e263_95, e263_96, e263_99, e263_100, e263_103, e263_104, e263_107, e263_108, e263_109, e263_110, e263_113, e263_115, e263_116, e263_119, e263_122, e263_123, e263_124, e263_127, e263_128, e263_131, e263_132, e263_135, e263_136, e263_139, rk_n, rk_v, nl_n, nl_i, nl_r, cat_n, ip_cat_int, ip_cat_ref, ip_cat_long, ip_rf_some, Nat.reduceAdd, Nat.reduceLeDiff, Nat.reduceLT, Nat.le_refl, Nat.zero_le, hR, ia_lit, nu_i, nu_tn, lw, w40, CL, a38, a293, a296, g, g1, gm, of_and, of_xor, z0, gs, (by decide : (Int32.ofNat 0 = (0 : Int32)) = True), bsI, btr, nb, PS, PB, gp, gq, CMk, gr, gh, nu_1, decide_true, Bool.and_self, Bool.false_eq_true, Bool.true_eq_false, if_true, if_false, not_true_eq_false, not_false_eq_true, zle, eq_self]
                · simp only [e263_0, e263_1, e263_2, e263_5, e263_6, e263_7, e263_10, e263_11, e263_14, e263_15, e263_16, e263_19, e263_20, e263_23, e263_24, e263_27, e263_28, e263_29, e263_30, e263_31, e263_35, e263_36, e263_39, e263_42, e263_43, e263_44, e263_47, e263_49, e263_50, e263_53, e263_54, e263_57, e263_58, e263_59, e263_62, e263_63, e263_64, e263_67, e263_69, e263_72, e263_73, e263_76, e263_79, e263_82, e263_83, e263_84, e263_87, e263_88, e263_91, e263_92, e263_94, e263_95, e263_96, e263_99, e263_100, e263_103, e263_104, e263_107, e263_108, e263_109, e263_110, e263_113, e263_115, e263_116, e263_119, e263_122, e263_123, e263_124, e263_127, e263_128, e263_131, e263_132, e263_135, e263_136, e263_139, rk_n, rk_v, nl_n, nl_i, nl_r, cat_n, ip_cat_int, ip_cat_ref, ip_cat_long, ip_rf_some, Nat.reduceAdd, Nat.reduceLeDiff, Nat.reduceLT, Nat.le_refl, Nat.zero_le, hR, ia_lit, nu_i, nu_tn, lw, w40, CL, a38, a293, g, g1, gm, of_and, z0, gs, (by decide : (Int32.ofNat 0 = (0 : Int32)) = True), bsI, btr, nb, PS, PB, gp, gq, nu_1, decide_false, Bool.and_false, Bool.false_eq_true, Bool.false_eq_true, Bool.true_eq_false, if_true, if_false, not_true_eq_false, not_false_eq_true, zle, eq_self]
            · have gh' := Bool.eq_false_iff.mpr gh
              have gr : ¬ sureI (winL L T) (zz ^^^ s) o = 1 - res := by rw [hS] at gh'; exact of_decide_eq_false gh'
              cases eb : bsN D hit s with
              | none => simp only [e263_0, e263_1, e263_2, e263_5, e263_6, e263_7, e263_10, e263_11, e263_14, e263_15, e263_16, e263_19, e263_20, e263_23, e263_24, e263_27, e263_28, e263_29, e263_30, e263_31, e263_35, e263_36, e263_39, e263_42, e263_43, e263_44, e263_47, e263_49, e263_50, e263_53, e263_54, e263_57, e263_58, e263_59, e263_62, e263_63, e263_64, e263_67, e263_69, e263_72, e263_73, e263_76, e263_79, e263_82, e263_83, e263_84, e263_87, e263_88, e263_91, e263_92, e263_94, e263_95, e263_96, e263_99, e263_100, e263_103, e263_104, e263_107, e263_108, e263_109, e263_110, e263_113, e263_115, e263_116, e263_119, e263_122, e263_123, e263_124, e263_127, e263_128, e263_131, e263_132, e263_135, e263_136, e263_139, rk_n, rk_v, nl_n, nl_i, nl_r, cat_n, ip_cat_int, ip_cat_ref, ip_cat_long, ip_rf_some, Nat.reduceAdd, Nat.reduceLeDiff, Nat.reduceLT, Nat.le_refl, Nat.zero_le, hR, ia_lit, nu_i, nu_tn, lw, w40, CL, a38, a293, a296, g, g1, gm, of_and, of_xor, z0, gs, (by decide : (Int32.ofNat 0 = (0 : Int32)) = True), bsI, CMk, gr, gh', nu_1, Bool.false_and, Bool.false_eq_true, Bool.false_eq_true, Bool.true_eq_false, if_true, if_false, not_true_eq_false, not_false_eq_true, zle, eq_self]
              | some b =>
                have lb := bsN_lt s b eb
                have b8 : b < 256 := by omega
                have PB := fun d h => c226 (d := d) (h := h) b8
                have nb := nu_m1 (t := b) (by omega)
                have gp : (Int32.ofNat (pop s) < Int32.ofNat (pop b)) = (pop s < pop b) := propext (nu_lt (by have := pl s; omega) (by have := pl b; omega))
                by_cases gq : pop s < pop b
                · simp only [e263_0, e263_1, e263_2, e263_5, e263_6, e263_7, e263_10, e263_11, e263_14, e263_15, e263_16, e263_19, e263_20, e263_23, e263_24, e263_27, e263_28, e263_29, e263_30, e263_31, e263_35, e263_36, e263_39, e263_42, e263_43, e263_44, e263_47, e263_49, e263_50, e263_53, e263_54, e263_57, e263_58, e263_59, e263_62, e263_63, e263_64, e263_67, e263_69, e263_72, e263_73, e263_76, e263_79, e263_82, e263_83, e263_84, e263_87, e263_88, e263_91, e263_92, e263_94, e263_95, e263_96, e263_99, e263_100, e263_103, e263_104, e263_107, e263_108, e263_109, e263_110, e263_113, e263_115, e263_116, e263_119, e263_122, e263_123, e263_124, e263_127, e263_128, e263_131, e263_132, e263_135, e263_136, e263_139, rk_n, rk_v, nl_n, nl_i, nl_r, cat_n, ip_cat_int, ip_cat_ref, ip_cat_long, ip_rf_some, Nat.reduceAdd, Nat.reduceLeDiff, Nat.reduceLT, Nat.le_refl, Nat.zero_le, hR, ia_lit, nu_i, nu_tn, lw, w40, CL, a38, a293, a296, g, g1, gm, of_and, of_xor, z0, gs, (by decide : (Int32.ofNat 0 = (0 : Int32)) = True), bsI, nb, PS, PB, gp, gq, CMk, gr, gh', nu_1, Bool.false_and, Bool.false_eq_true, Bool.false_eq_true, Bool.true_eq_false, if_true, if_false, not_true_eq_false, not_false_eq_true, zle, eq_self]
                · simp only [e263_0, e263_1, e263_2, e263_5, e263_6, e263_7, e263_10, e263_11, e263_14, e263_15, e263_16, e263_19, e263_20, e263_23, e263_24, e263_27, e263_28, e263_29, e263_30, e263_31, e263_35, e263_36, e263_39, e263_42, e263_43, e263_44, e263_47, e263_49, e263_50, e263_53, e263_54, e263_57, e263_58, e263_59, e263_62, e263_63, e263_64, e263_67, e263_69, e263_72, e263_73, e263_76, e263_79, e263_82, e263_83, e263_84, e263_87, e263_88, e263_91, e263_92, e263_94, e263_95, e263_96, e263_99, e263_100, e263_103, e263_104, e263_107, e263_108, e263_109, e263_110, e263_113, e263_115, e263_116, e263_119, e263_122, e263_123, e263_124, e263_127, e263_128, e263_131, e263_132, e263_135, e263_136, e263_139, rk_n, rk_v, nl_n, nl_i, nl_r, cat_n, ip_cat_int, ip_cat_ref, ip_cat_long, ip_rf_some, Nat.reduceAdd, Nat.reduceLeDiff, Nat.reduceLT, Nat.le_refl, Nat.zero_le, hR, ia_lit, nu_i, nu_tn, lw, w40, CL, a38, a293, g, g1, gm, of_and, z0, gs, (by decide : (Int32.ofNat 0 = (0 : Int32)) = True), bsI, nb, PS, PB, gp, gq, gh', nu_1, Bool.false_and, Bool.false_eq_true, Bool.false_eq_true, Bool.true_eq_false, if_true, if_false, not_true_eq_false, not_false_eq_true, zle, eq_self]
          · rw [decide_eq_false (fun e => gs ((DS s s2).mp e))]
            simp only [e263_0, e263_1, e263_2, e263_5, e263_6, e263_7, e263_10, e263_11, e263_14, e263_15, e263_16, e263_19, e263_20, e263_23, e263_24, e263_27, e263_28, e263_29, e263_30, e263_31, e263_35, e263_36, e263_39, e263_42, e263_43, e263_44, e263_47, e263_49, e263_50, e263_53, e263_54, e263_57, e263_58, e263_59, e263_62, e263_63, e263_64, e263_67, e263_69, e263_72, e263_73, e263_76, e263_79, e263_82, e263_83, e263_84, e263_87, e263_88, e263_91, e263_92, e263_94, e263_95, e263_96, e263_99, e263_100, e263_103, e263_104, e263_107, e263_108, e263_109, e263_110, e263_113, e263_115, e263_116, e263_119, e263_122, e263_123, e263_124, e263_127, e263_128, e263_131, e263_132, e263_135, e263_136, e263_139, rk_n, rk_v, nl_n, nl_i, nl_r, cat_n, ip_cat_int, ip_cat_ref, ip_cat_long, ip_rf_some, Nat.reduceAdd, Nat.reduceLeDiff, Nat.reduceLT, Nat.le_refl, Nat.zero_le, hR, ia_lit, nu_i, nu_tn, lw, w40, CL, a38, a293, g, g1, gm, of_and, z0, gs, nu_1, Bool.false_and, Bool.false_eq_true, Bool.false_eq_true, Bool.true_eq_false, if_true, if_false, not_true_eq_false, not_false_eq_true, zle, eq_self])
        try dsimp only at E
        rw [st0, show 2 ^ c - 1 + 1 = 2 ^ c by omega, en0] at E
        refine Eq.trans E ?_
        have g : (Int32.ofNat (2 ^ c - 1) < Int32.ofNat (2 ^ c)) = (2 ^ c - 1 < 2 ^ c) := propext (nu_lt (by omega) (by omega))
        have g1 : 2 ^ c - 1 < 2 ^ c := by omega
        rw [e263_33, hv]
        cases eb : bsN D hit 256 with
        | none => simp only [e263_0, e263_1, e263_2, e263_5, e263_6, e263_7, e263_10, e263_11, e263_14, e263_15, e263_16, e263_19, e263_20, e263_23, e263_24, e263_27, e263_28, e263_29, e263_30, e263_31, e263_35, e263_36, e263_39, e263_42, e263_43, e263_44, e263_47, e263_49, e263_50, e263_53, e263_54, e263_57, e263_58, e263_59, e263_62, e263_63, e263_64, e263_67, e263_69, e263_72, e263_73, e263_76, e263_79, e263_82, e263_83, e263_84, e263_87, e263_88, e263_91, e263_92, e263_94, e263_95, e263_96, e263_99, e263_100, e263_103, e263_104, e263_107, e263_108, e263_109, e263_110, e263_113, e263_115, e263_116, e263_119, e263_122, e263_123, e263_124, e263_127, e263_128, e263_131, e263_132, e263_135, e263_136, e263_139, rk_n, rk_v, nl_n, nl_i, nl_r, cat_n, ip_cat_int, ip_cat_ref, ip_cat_long, ip_rf_some, Nat.reduceAdd, Nat.reduceLeDiff, Nat.reduceLT, Nat.le_refl, Nat.zero_le, CL, g, g1, bsI, Bool.false_eq_true, Bool.true_eq_false, if_true, if_false, not_true_eq_false, not_false_eq_true, zle, eq_self]
        | some b =>
          have b8 := bsN_lt 256 b eb
          have PB := fun d h => c226 (d := d) (h := h) b8
          have nb := nu_m1 (t := b) (by omega)
          by_cases gx : x1 = 0
          · simp only [e263_0, e263_1, e263_2, e263_5, e263_6, e263_7, e263_10, e263_11, e263_14, e263_15, e263_16, e263_19, e263_20, e263_23, e263_24, e263_27, e263_28, e263_29, e263_30, e263_31, e263_35, e263_36, e263_39, e263_42, e263_43, e263_44, e263_47, e263_49, e263_50, e263_53, e263_54, e263_57, e263_58, e263_59, e263_62, e263_63, e263_64, e263_67, e263_69, e263_72, e263_73, e263_76, e263_79, e263_82, e263_83, e263_84, e263_87, e263_88, e263_91, e263_92, e263_94, e263_95, e263_96, e263_99, e263_100, e263_103, e263_104, e263_107, e263_108, e263_109, e263_110, e263_113, e263_115, e263_116, e263_119, e263_122, e263_123, e263_124, e263_127, e263_128, e263_131, e263_132, e263_135, e263_136, e263_139, rk_n, rk_v, nl_n, nl_i, nl_r, cat_n, ip_cat_int, ip_cat_ref, ip_cat_long, ip_rf_some, Nat.reduceAdd, Nat.reduceLeDiff, Nat.reduceLT, Nat.le_refl, Nat.zero_le, CL, g, g1, bsI, nb, PB, gx, Bool.false_eq_true, Bool.true_eq_false, if_true, if_false, not_true_eq_false, not_false_eq_true, zle, eq_self]
          · simp only [e263_0, e263_1, e263_2, e263_5, e263_6, e263_7, e263_10, e263_11, e263_14, e263_15, e263_16, e263_19, e263_20, e263_23, e263_24, e263_27, e263_28, e263_29, e263_30, e263_31, e263_35, e263_36, e263_39, e263_42, e263_43, e263_44, e263_47, e263_49, e263_50, e263_53, e263_54, e263_57, e263_58, e263_59, e263_62, e263_63, e263_64, e263_67, e263_69, e263_72, e263_73, e263_76, e263_79, e263_82, e263_83, e263_84, e263_87, e263_88, e263_91, e263_92, e263_94, e263_95, e263_96, e263_99, e263_100, e263_103, e263_104, e263_107, e263_108, e263_109, e263_110, e263_113, e263_115, e263_116, e263_119, e263_122, e263_123, e263_124, e263_127, e263_128, e263_131, e263_132, e263_135, e263_136, e263_139, rk_n, rk_v, nl_n, nl_i, nl_r, cat_n, ip_cat_int, ip_cat_ref, ip_cat_long, ip_rf_some, Nat.reduceAdd, Nat.reduceLeDiff, Nat.reduceLT, Nat.le_refl, Nat.zero_le, CL, g, g1, bsI, nb, gx, Bool.false_eq_true, Bool.true_eq_false, if_true, if_false, not_true_eq_false, not_false_eq_true, zle, eq_self]
  obtain ⟨v, A1, A2⟩ := AN
  exact ⟨v, I, ip_up I 265 0 0, L, L, R, nc, ns, nx, T, c, N, w, t, p, A1, A2, REL_q X0 (onlyP_mono scM_0 (fun _ _ e => Or.inr e)) (fun _ _ _ => rfl) (fun _ _ _ => rfl), by omega, by omega, fun k => up_a (by decide)⟩
end S21
